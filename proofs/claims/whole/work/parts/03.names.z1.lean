theorem dX3_isNameSign_4 : decode cX3_isNameSign 4 = .ok (.ifCond .ne 9, 3) := by decide +kernel
theorem dX3_isNameSign_7 : decode cX3_isNameSign 7 = .ok (.iload_n 0, 1) := by decide +kernel
theorem dX3_isNameSign_8 : decode cX3_isNameSign 8 = .ok (.bipush 45, 2) := by decide +kernel
theorem dX3_isNameSign_10 : decode cX3_isNameSign 10 = .ok (.if_icmp .ne 7, 3) := by decide +kernel
theorem dX3_isNameSign_13 : decode cX3_isNameSign 13 = .ok (.iconst 1, 1) := by decide +kernel
theorem dX3_isNameSign_14 : decode cX3_isNameSign 14 = .ok (.goto 4, 3) := by decide +kernel
theorem dX3_isNameSign_17 : decode cX3_isNameSign 17 = .ok (.iconst 0, 1) := by decide +kernel
theorem dX3_isNameSign_18 : decode cX3_isNameSign 18 = .ok (.ireturn, 1) := by decide +kernel
theorem dX3_isLetterOrDigit_0 : decode cX3_isLetterOrDigit 0 = .ok (.iload_n 0, 1) := by decide +kernel
theorem dX3_isLetterOrDigit_1 : decode cX3_isLetterOrDigit 1 = .ok (.bipush 97, 2) := by decide +kernel
theorem dX3_isLetterOrDigit_3 : decode cX3_isLetterOrDigit 3 = .ok (.if_icmp .lt 9, 3) := by decide +kernel
theorem dX3_isLetterOrDigit_6 : decode cX3_isLetterOrDigit 6 = .ok (.iload_n 0, 1) := by decide +kernel
theorem dX3_isLetterOrDigit_7 : decode cX3_isLetterOrDigit 7 = .ok (.bipush 122, 2) := by decide +kernel
theorem dX3_isLetterOrDigit_9 : decode cX3_isLetterOrDigit 9 = .ok (.if_icmp .le 27, 3) := by decide +kernel
theorem dX3_isLetterOrDigit_12 : decode cX3_isLetterOrDigit 12 = .ok (.iload_n 0, 1) := by decide +kernel
theorem dX3_isLetterOrDigit_13 : decode cX3_isLetterOrDigit 13 = .ok (.bipush 65, 2) := by decide +kernel
theorem dX3_isLetterOrDigit_15 : decode cX3_isLetterOrDigit 15 = .ok (.if_icmp .lt 9, 3) := by decide +kernel
theorem dX3_isLetterOrDigit_18 : decode cX3_isLetterOrDigit 18 = .ok (.iload_n 0, 1) := by decide +kernel
theorem dX3_isLetterOrDigit_19 : decode cX3_isLetterOrDigit 19 = .ok (.bipush 90, 2) := by decide +kernel
theorem dX3_isLetterOrDigit_21 : decode cX3_isLetterOrDigit 21 = .ok (.if_icmp .le 15, 3) := by decide +kernel
theorem dX3_isLetterOrDigit_24 : decode cX3_isLetterOrDigit 24 = .ok (.iload_n 0, 1) := by decide +kernel
theorem dX3_isLetterOrDigit_25 : decode cX3_isLetterOrDigit 25 = .ok (.bipush 48, 2) := by decide +kernel
theorem dX3_isLetterOrDigit_27 : decode cX3_isLetterOrDigit 27 = .ok (.if_icmp .lt 13, 3) := by decide +kernel
theorem dX3_isLetterOrDigit_30 : decode cX3_isLetterOrDigit 30 = .ok (.iload_n 0, 1) := by decide +kernel
theorem dX3_isLetterOrDigit_31 : decode cX3_isLetterOrDigit 31 = .ok (.bipush 57, 2) := by decide +kernel
theorem dX3_isLetterOrDigit_33 : decode cX3_isLetterOrDigit 33 = .ok (.if_icmp .gt 7, 3) := by decide +kernel
theorem dX3_isLetterOrDigit_36 : decode cX3_isLetterOrDigit 36 = .ok (.iconst 1, 1) := by decide +kernel
theorem dX3_isLetterOrDigit_37 : decode cX3_isLetterOrDigit 37 = .ok (.goto 4, 3) := by decide +kernel
theorem dX3_isLetterOrDigit_40 : decode cX3_isLetterOrDigit 40 = .ok (.iconst 0, 1) := by decide +kernel
theorem dX3_isLetterOrDigit_41 : decode cX3_isLetterOrDigit 41 = .ok (.ireturn, 1) := by decide +kernel
theorem dX3_nameNumber_0 : decode cX3_nameNumber 0 = .ok (.aload_n 0, 1) := by decide +kernel
theorem dX3_nameNumber_1 : decode cX3_nameNumber 1 = .ok (.iload_n 1, 1) := by decide +kernel
theorem dX3_nameNumber_2 : decode cX3_nameNumber 2 = .ok (.iload_n 2, 1) := by decide +kernel
theorem dX3_nameNumber_3 : decode cX3_nameNumber 3 = .ok (.ldc 107, 2) := by decide +kernel
theorem dX3_nameNumber_5 : decode cX3_nameNumber 5 = .ok (.invokevirtual 53, 3) := by decide +kernel
theorem dX3_nameNumber_8 : decode cX3_nameNumber 8 = .ok (.ifCond .eq 5, 3) := by decide +kernel
theorem dX3_nameNumber_11 : decode cX3_nameNumber 11 = .ok (.iconst 0, 1) := by decide +kernel
theorem dX3_nameNumber_12 : decode cX3_nameNumber 12 = .ok (.ireturn, 1) := by decide +kernel
theorem dX3_nameNumber_13 : decode cX3_nameNumber 13 = .ok (.aload_n 0, 1) := by decide +kernel
theorem dX3_nameNumber_14 : decode cX3_nameNumber 14 = .ok (.iload_n 1, 1) := by decide +kernel
theorem dX3_nameNumber_15 : decode cX3_nameNumber 15 = .ok (.iload_n 2, 1) := by decide +kernel
theorem dX3_nameNumber_16 : decode cX3_nameNumber 16 = .ok (.ldc 109, 2) := by decide +kernel
theorem dX3_nameNumber_18 : decode cX3_nameNumber 18 = .ok (.invokevirtual 53, 3) := by decide +kernel
theorem dX3_nameNumber_21 : decode cX3_nameNumber 21 = .ok (.ifCond .eq 5, 3) := by decide +kernel
theorem dX3_nameNumber_24 : decode cX3_nameNumber 24 = .ok (.iconst 1, 1) := by decide +kernel
theorem dX3_nameNumber_25 : decode cX3_nameNumber 25 = .ok (.ireturn, 1) := by decide +kernel
theorem dX3_nameNumber_26 : decode cX3_nameNumber 26 = .ok (.aload_n 0, 1) := by decide +kernel
theorem dX3_nameNumber_27 : decode cX3_nameNumber 27 = .ok (.iload_n 1, 1) := by decide +kernel
theorem dX3_nameNumber_28 : decode cX3_nameNumber 28 = .ok (.iload_n 2, 1) := by decide +kernel
theorem dX3_nameNumber_29 : decode cX3_nameNumber 29 = .ok (.ldc 111, 2) := by decide +kernel
theorem dX3_nameNumber_31 : decode cX3_nameNumber 31 = .ok (.invokevirtual 53, 3) := by decide +kernel
theorem dX3_nameNumber_34 : decode cX3_nameNumber 34 = .ok (.ifCond .eq 5, 3) := by decide +kernel
theorem dX3_nameNumber_37 : decode cX3_nameNumber 37 = .ok (.iconst 2, 1) := by decide +kernel
theorem dX3_nameNumber_38 : decode cX3_nameNumber 38 = .ok (.ireturn, 1) := by decide +kernel
theorem dX3_nameNumber_39 : decode cX3_nameNumber 39 = .ok (.aload_n 0, 1) := by decide +kernel
theorem dX3_nameNumber_40 : decode cX3_nameNumber 40 = .ok (.iload_n 1, 1) := by decide +kernel
theorem dX3_nameNumber_41 : decode cX3_nameNumber 41 = .ok (.iload_n 2, 1) := by decide +kernel
theorem dX3_nameNumber_42 : decode cX3_nameNumber 42 = .ok (.ldc 113, 2) := by decide +kernel
theorem dX3_nameNumber_44 : decode cX3_nameNumber 44 = .ok (.invokevirtual 53, 3) := by decide +kernel
theorem dX3_nameNumber_47 : decode cX3_nameNumber 47 = .ok (.ifCond .eq 5, 3) := by decide +kernel
theorem dX3_nameNumber_50 : decode cX3_nameNumber 50 = .ok (.iconst 3, 1) := by decide +kernel
theorem dX3_nameNumber_51 : decode cX3_nameNumber 51 = .ok (.ireturn, 1) := by decide +kernel
theorem dX3_nameNumber_52 : decode cX3_nameNumber 52 = .ok (.aload_n 0, 1) := by decide +kernel
theorem dX3_nameNumber_53 : decode cX3_nameNumber 53 = .ok (.iload_n 1, 1) := by decide +kernel
theorem dX3_nameNumber_54 : decode cX3_nameNumber 54 = .ok (.iload_n 2, 1) := by decide +kernel
theorem dX3_nameNumber_55 : decode cX3_nameNumber 55 = .ok (.ldc 115, 2) := by decide +kernel
theorem dX3_nameNumber_57 : decode cX3_nameNumber 57 = .ok (.invokevirtual 53, 3) := by decide +kernel
theorem dX3_nameNumber_60 : decode cX3_nameNumber 60 = .ok (.ifCond .eq 7, 3) := by decide +kernel
theorem dX3_nameNumber_63 : decode cX3_nameNumber 63 = .ok (.iconst 4, 1) := by decide +kernel
theorem dX3_nameNumber_64 : decode cX3_nameNumber 64 = .ok (.goto 4, 3) := by decide +kernel
theorem dX3_nameNumber_67 : decode cX3_nameNumber 67 = .ok (.iconst (-1), 1) := by decide +kernel
theorem dX3_nameNumber_68 : decode cX3_nameNumber 68 = .ok (.ireturn, 1) := by decide +kernel
theorem dX3_keepField_0 : decode cX3_keepField 0 = .ok (.iload_n 1, 1) := by decide +kernel
theorem dX3_keepField_1 : decode cX3_keepField 1 = .ok (.ifCond .lt 42, 3) := by decide +kernel
theorem dX3_keepField_4 : decode cX3_keepField 4 = .ok (.iload_n 1, 1) := by decide +kernel
theorem dX3_keepField_5 : decode cX3_keepField 5 = .ok (.iconst 5, 1) := by decide +kernel
theorem dX3_keepField_6 : decode cX3_keepField 6 = .ok (.if_icmp .ge 37, 3) := by decide +kernel
theorem dX3_keepField_9 : decode cX3_keepField 9 = .ok (.aload_n 0, 1) := by decide +kernel
theorem dX3_keepField_10 : decode cX3_keepField 10 = .ok (.getfield 20, 3) := by decide +kernel
theorem dX3_keepField_13 : decode cX3_keepField 13 = .ok (.iload_n 1, 1) := by decide +kernel
theorem dX3_keepField_14 : decode cX3_keepField 14 = .ok (.dup2, 1) := by decide +kernel
theorem dX3_keepField_15 : decode cX3_keepField 15 = .ok (.iaload, 1) := by decide +kernel
theorem dX3_keepField_16 : decode cX3_keepField 16 = .ok (.iconst 1, 1) := by decide +kernel
theorem dX3_keepField_17 : decode cX3_keepField 17 = .ok (.iadd, 1) := by decide +kernel
theorem dX3_keepField_18 : decode cX3_keepField 18 = .ok (.iastore, 1) := by decide +kernel
theorem dX3_keepField_19 : decode cX3_keepField 19 = .ok (.aload_n 0, 1) := by decide +kernel
theorem dX3_keepField_20 : decode cX3_keepField 20 = .ok (.getfield 24, 3) := by decide +kernel
theorem dX3_keepField_23 : decode cX3_keepField 23 = .ok (.iload_n 1, 1) := by decide +kernel
theorem dX3_keepField_24 : decode cX3_keepField 24 = .ok (.aload_n 0, 1) := by decide +kernel
theorem dX3_keepField_25 : decode cX3_keepField 25 = .ok (.iload_n 2, 1) := by decide +kernel
theorem dX3_keepField_26 : decode cX3_keepField 26 = .ok (.iload_n 3, 1) := by decide +kernel
theorem dX3_keepField_27 : decode cX3_keepField 27 = .ok (.invokevirtual 117, 3) := by decide +kernel
theorem dX3_keepField_30 : decode cX3_keepField 30 = .ok (.iastore, 1) := by decide +kernel
theorem dX3_keepField_31 : decode cX3_keepField 31 = .ok (.aload_n 0, 1) := by decide +kernel
theorem dX3_keepField_32 : decode cX3_keepField 32 = .ok (.getfield 27, 3) := by decide +kernel
theorem dX3_keepField_35 : decode cX3_keepField 35 = .ok (.iload_n 1, 1) := by decide +kernel
theorem dX3_keepField_36 : decode cX3_keepField 36 = .ok (.aload_n 0, 1) := by decide +kernel
theorem dX3_keepField_37 : decode cX3_keepField 37 = .ok (.iload_n 2, 1) := by decide +kernel
theorem dX3_keepField_38 : decode cX3_keepField 38 = .ok (.iload_n 3, 1) := by decide +kernel
theorem dX3_keepField_39 : decode cX3_keepField 39 = .ok (.invokevirtual 120, 3) := by decide +kernel
theorem dX3_keepField_42 : decode cX3_keepField 42 = .ok (.iastore, 1) := by decide +kernel
theorem dX3_keepField_43 : decode cX3_keepField 43 = .ok (.return_, 1) := by decide +kernel
theorem dX3_isSame_0 : decode cX3_isSame 0 = .ok (.iload_n 2, 1) := by decide +kernel
theorem dX3_isSame_1 : decode cX3_isSame 1 = .ok (.iload_n 1, 1) := by decide +kernel
theorem dX3_isSame_2 : decode cX3_isSame 2 = .ok (.isub, 1) := by decide +kernel
theorem dX3_isSame_3 : decode cX3_isSame 3 = .ok (.aload_n 3, 1) := by decide +kernel
theorem dX3_isSame_4 : decode cX3_isSame 4 = .ok (.invokevirtual 84, 3) := by decide +kernel
theorem dX3_isSame_7 : decode cX3_isSame 7 = .ok (.if_icmp .eq 5, 3) := by decide +kernel
theorem dX3_isSame_10 : decode cX3_isSame 10 = .ok (.iconst 0, 1) := by decide +kernel
theorem dX3_isSame_11 : decode cX3_isSame 11 = .ok (.ireturn, 1) := by decide +kernel
theorem dX3_isSame_12 : decode cX3_isSame 12 = .ok (.iconst 0, 1) := by decide +kernel
theorem dX3_isSame_13 : decode cX3_isSame 13 = .ok (.istore 4, 2) := by decide +kernel
theorem dX3_isSame_15 : decode cX3_isSame 15 = .ok (.iload 4, 2) := by decide +kernel
theorem dX3_isSame_17 : decode cX3_isSame 17 = .ok (.aload_n 3, 1) := by decide +kernel
theorem dX3_isSame_18 : decode cX3_isSame 18 = .ok (.invokevirtual 84, 3) := by decide +kernel
theorem dX3_isSame_21 : decode cX3_isSame 21 = .ok (.if_icmp .ge 34, 3) := by decide +kernel
theorem dX3_isSame_24 : decode cX3_isSame 24 = .ok (.aload_n 0, 1) := by decide +kernel
theorem dX3_isSame_25 : decode cX3_isSame 25 = .ok (.getfield 14, 3) := by decide +kernel
theorem dX3_isSame_28 : decode cX3_isSame 28 = .ok (.iload_n 1, 1) := by decide +kernel
theorem dX3_isSame_29 : decode cX3_isSame 29 = .ok (.iload 4, 2) := by decide +kernel
theorem dX3_isSame_31 : decode cX3_isSame 31 = .ok (.iadd, 1) := by decide +kernel
theorem dX3_isSame_32 : decode cX3_isSame 32 = .ok (.invokevirtual 61, 3) := by decide +kernel
theorem dX3_isSame_35 : decode cX3_isSame 35 = .ok (.invokestatic 123, 3) := by decide +kernel
theorem dX3_isSame_38 : decode cX3_isSame 38 = .ok (.aload_n 3, 1) := by decide +kernel
theorem dX3_isSame_39 : decode cX3_isSame 39 = .ok (.iload 4, 2) := by decide +kernel
theorem dX3_isSame_41 : decode cX3_isSame 41 = .ok (.invokevirtual 89, 3) := by decide +kernel
theorem dX3_isSame_44 : decode cX3_isSame 44 = .ok (.if_icmp .eq 5, 3) := by decide +kernel
theorem dX3_isSame_47 : decode cX3_isSame 47 = .ok (.iconst 0, 1) := by decide +kernel
theorem dX3_isSame_48 : decode cX3_isSame 48 = .ok (.ireturn, 1) := by decide +kernel
theorem dX3_isSame_49 : decode cX3_isSame 49 = .ok (.iinc 4 1, 3) := by decide +kernel
theorem dX3_isSame_52 : decode cX3_isSame 52 = .ok (.goto (-37), 3) := by decide +kernel
theorem dX3_isSame_55 : decode cX3_isSame 55 = .ok (.iconst 1, 1) := by decide +kernel
theorem dX3_isSame_56 : decode cX3_isSame 56 = .ok (.ireturn, 1) := by decide +kernel
theorem dX3_asSmall_0 : decode cX3_asSmall 0 = .ok (.iload_n 0, 1) := by decide +kernel
theorem dX3_asSmall_1 : decode cX3_asSmall 1 = .ok (.bipush 65, 2) := by decide +kernel
theorem dX3_asSmall_3 : decode cX3_asSmall 3 = .ok (.if_icmp .lt 16, 3) := by decide +kernel
theorem dX3_asSmall_6 : decode cX3_asSmall 6 = .ok (.iload_n 0, 1) := by decide +kernel
theorem dX3_asSmall_7 : decode cX3_asSmall 7 = .ok (.bipush 90, 2) := by decide +kernel
theorem dX3_asSmall_9 : decode cX3_asSmall 9 = .ok (.if_icmp .gt 10, 3) := by decide +kernel
theorem dX3_asSmall_12 : decode cX3_asSmall 12 = .ok (.iload_n 0, 1) := by decide +kernel
theorem dX3_asSmall_13 : decode cX3_asSmall 13 = .ok (.bipush 32, 2) := by decide +kernel
theorem dX3_asSmall_15 : decode cX3_asSmall 15 = .ok (.iadd, 1) := by decide +kernel
theorem dX3_asSmall_16 : decode cX3_asSmall 16 = .ok (.goto 4, 3) := by decide +kernel
theorem dX3_asSmall_19 : decode cX3_asSmall 19 = .ok (.iload_n 0, 1) := by decide +kernel
theorem dX3_asSmall_20 : decode cX3_asSmall 20 = .ok (.ireturn, 1) := by decide +kernel
theorem dX3_skipBlanks_0 : decode cX3_skipBlanks 0 = .ok (.iload_n 1, 1) := by decide +kernel
theorem dX3_skipBlanks_1 : decode cX3_skipBlanks 1 = .ok (.istore_n 3, 1) := by decide +kernel
theorem dX3_skipBlanks_2 : decode cX3_skipBlanks 2 = .ok (.iload_n 3, 1) := by decide +kernel
theorem dX3_skipBlanks_3 : decode cX3_skipBlanks 3 = .ok (.iload_n 2, 1) := by decide +kernel
theorem dX3_skipBlanks_4 : decode cX3_skipBlanks 4 = .ok (.if_icmp .ge 23, 3) := by decide +kernel
theorem dX3_skipBlanks_7 : decode cX3_skipBlanks 7 = .ok (.aload_n 0, 1) := by decide +kernel
theorem dX3_skipBlanks_8 : decode cX3_skipBlanks 8 = .ok (.getfield 14, 3) := by decide +kernel
theorem dX3_skipBlanks_11 : decode cX3_skipBlanks 11 = .ok (.iload_n 3, 1) := by decide +kernel
theorem dX3_skipBlanks_12 : decode cX3_skipBlanks 12 = .ok (.invokevirtual 61, 3) := by decide +kernel
theorem dX3_skipBlanks_15 : decode cX3_skipBlanks 15 = .ok (.invokestatic 126, 3) := by decide +kernel
theorem dX3_skipBlanks_18 : decode cX3_skipBlanks 18 = .ok (.ifCond .eq 9, 3) := by decide +kernel
theorem dX3_skipBlanks_21 : decode cX3_skipBlanks 21 = .ok (.iinc 3 1, 3) := by decide +kernel
theorem dX3_skipBlanks_24 : decode cX3_skipBlanks 24 = .ok (.goto (-22), 3) := by decide +kernel
theorem dX3_skipBlanks_27 : decode cX3_skipBlanks 27 = .ok (.iload_n 3, 1) := by decide +kernel
theorem dX3_skipBlanks_28 : decode cX3_skipBlanks 28 = .ok (.ireturn, 1) := by decide +kernel
theorem dX3_skipBlanksBack_0 : decode cX3_skipBlanksBack 0 = .ok (.iload_n 2, 1) := by decide +kernel
theorem dX3_skipBlanksBack_1 : decode cX3_skipBlanksBack 1 = .ok (.istore_n 3, 1) := by decide +kernel
theorem dX3_skipBlanksBack_2 : decode cX3_skipBlanksBack 2 = .ok (.iload_n 3, 1) := by decide +kernel
theorem dX3_skipBlanksBack_3 : decode cX3_skipBlanksBack 3 = .ok (.iload_n 1, 1) := by decide +kernel
theorem dX3_skipBlanksBack_4 : decode cX3_skipBlanksBack 4 = .ok (.if_icmp .le 25, 3) := by decide +kernel
theorem dX3_skipBlanksBack_7 : decode cX3_skipBlanksBack 7 = .ok (.aload_n 0, 1) := by decide +kernel
theorem dX3_skipBlanksBack_8 : decode cX3_skipBlanksBack 8 = .ok (.getfield 14, 3) := by decide +kernel
theorem dX3_skipBlanksBack_11 : decode cX3_skipBlanksBack 11 = .ok (.iload_n 3, 1) := by decide +kernel
theorem dX3_skipBlanksBack_12 : decode cX3_skipBlanksBack 12 = .ok (.iconst 1, 1) := by decide +kernel
theorem dX3_skipBlanksBack_13 : decode cX3_skipBlanksBack 13 = .ok (.isub, 1) := by decide +kernel
theorem dX3_skipBlanksBack_14 : decode cX3_skipBlanksBack 14 = .ok (.invokevirtual 61, 3) := by decide +kernel
theorem dX3_skipBlanksBack_17 : decode cX3_skipBlanksBack 17 = .ok (.invokestatic 126, 3) := by decide +kernel
theorem dX3_skipBlanksBack_20 : decode cX3_skipBlanksBack 20 = .ok (.ifCond .eq 9, 3) := by decide +kernel
theorem dX3_skipBlanksBack_23 : decode cX3_skipBlanksBack 23 = .ok (.iinc 3 (-1), 3) := by decide +kernel
theorem dX3_skipBlanksBack_26 : decode cX3_skipBlanksBack 26 = .ok (.goto (-24), 3) := by decide +kernel
theorem dX3_skipBlanksBack_29 : decode cX3_skipBlanksBack 29 = .ok (.iload_n 3, 1) := by decide +kernel
theorem dX3_skipBlanksBack_30 : decode cX3_skipBlanksBack 30 = .ok (.ireturn, 1) := by decide +kernel
theorem dX3_isBlank_0 : decode cX3_isBlank 0 = .ok (.iload_n 0, 1) := by decide +kernel
theorem dX3_isBlank_1 : decode cX3_isBlank 1 = .ok (.bipush 32, 2) := by decide +kernel
theorem dX3_isBlank_3 : decode cX3_isBlank 3 = .ok (.if_icmp .eq 9, 3) := by decide +kernel
theorem dX3_isBlank_6 : decode cX3_isBlank 6 = .ok (.iload_n 0, 1) := by decide +kernel
theorem dX3_isBlank_7 : decode cX3_isBlank 7 = .ok (.bipush 9, 2) := by decide +kernel
theorem dX3_isBlank_9 : decode cX3_isBlank 9 = .ok (.if_icmp .ne 7, 3) := by decide +kernel
theorem dX3_isBlank_12 : decode cX3_isBlank 12 = .ok (.iconst 1, 1) := by decide +kernel
theorem dX3_isBlank_13 : decode cX3_isBlank 13 = .ok (.goto 4, 3) := by decide +kernel
theorem dX3_isBlank_16 : decode cX3_isBlank 16 = .ok (.iconst 0, 1) := by decide +kernel
theorem dX3_isBlank_17 : decode cX3_isBlank 17 = .ok (.ireturn, 1) := by decide +kernel
theorem dX3_hasDueFields_0 : decode cX3_hasDueFields 0 = .ok (.iconst 0, 1) := by decide +kernel
theorem dX3_hasDueFields_1 : decode cX3_hasDueFields 1 = .ok (.istore_n 1, 1) := by decide +kernel
theorem dX3_hasDueFields_2 : decode cX3_hasDueFields 2 = .ok (.iload_n 1, 1) := by decide +kernel
theorem dX3_hasDueFields_3 : decode cX3_hasDueFields 3 = .ok (.iconst 5, 1) := by decide +kernel
theorem dX3_hasDueFields_4 : decode cX3_hasDueFields 4 = .ok (.if_icmp .ge 21, 3) := by decide +kernel
theorem dX3_hasDueFields_7 : decode cX3_hasDueFields 7 = .ok (.aload_n 0, 1) := by decide +kernel
theorem dX3_hasDueFields_8 : decode cX3_hasDueFields 8 = .ok (.getfield 20, 3) := by decide +kernel
theorem dX3_hasDueFields_11 : decode cX3_hasDueFields 11 = .ok (.iload_n 1, 1) := by decide +kernel
theorem dX3_hasDueFields_12 : decode cX3_hasDueFields 12 = .ok (.iaload, 1) := by decide +kernel
theorem dX3_hasDueFields_13 : decode cX3_hasDueFields 13 = .ok (.iconst 1, 1) := by decide +kernel
theorem dX3_hasDueFields_14 : decode cX3_hasDueFields 14 = .ok (.if_icmp .eq 5, 3) := by decide +kernel
theorem dX3_hasDueFields_17 : decode cX3_hasDueFields 17 = .ok (.iconst 0, 1) := by decide +kernel
theorem dX3_hasDueFields_18 : decode cX3_hasDueFields 18 = .ok (.ireturn, 1) := by decide +kernel
theorem dX3_hasDueFields_19 : decode cX3_hasDueFields 19 = .ok (.iinc 1 1, 3) := by decide +kernel
theorem dX3_hasDueFields_22 : decode cX3_hasDueFields 22 = .ok (.goto (-20), 3) := by decide +kernel
theorem dX3_hasDueFields_25 : decode cX3_hasDueFields 25 = .ok (.aload_n 0, 1) := by decide +kernel
theorem dX3_hasDueFields_26 : decode cX3_hasDueFields 26 = .ok (.getfield 24, 3) := by decide +kernel
theorem dX3_hasDueFields_29 : decode cX3_hasDueFields 29 = .ok (.iconst 0, 1) := by decide +kernel
theorem dX3_hasDueFields_30 : decode cX3_hasDueFields 30 = .ok (.iaload, 1) := by decide +kernel
theorem dX3_hasDueFields_31 : decode cX3_hasDueFields 31 = .ok (.aload_n 0, 1) := by decide +kernel
theorem dX3_hasDueFields_32 : decode cX3_hasDueFields 32 = .ok (.getfield 27, 3) := by decide +kernel
theorem dX3_hasDueFields_35 : decode cX3_hasDueFields 35 = .ok (.iconst 0, 1) := by decide +kernel
theorem dX3_hasDueFields_36 : decode cX3_hasDueFields 36 = .ok (.iaload, 1) := by decide +kernel
theorem dX3_hasDueFields_37 : decode cX3_hasDueFields 37 = .ok (.if_icmp .ge 46, 3) := by decide +kernel
theorem dX3_hasDueFields_40 : decode cX3_hasDueFields 40 = .ok (.aload_n 0, 1) := by decide +kernel
theorem dX3_hasDueFields_41 : decode cX3_hasDueFields 41 = .ok (.iconst 1, 1) := by decide +kernel
theorem dX3_hasDueFields_42 : decode cX3_hasDueFields 42 = .ok (.ldc 129, 2) := by decide +kernel
theorem dX3_hasDueFields_44 : decode cX3_hasDueFields 44 = .ok (.invokevirtual 131, 3) := by decide +kernel
theorem dX3_hasDueFields_47 : decode cX3_hasDueFields 47 = .ok (.ifCond .eq 36, 3) := by decide +kernel
theorem dX3_hasDueFields_50 : decode cX3_hasDueFields 50 = .ok (.aload_n 0, 1) := by decide +kernel
theorem dX3_hasDueFields_51 : decode cX3_hasDueFields 51 = .ok (.iconst 2, 1) := by decide +kernel
theorem dX3_hasDueFields_52 : decode cX3_hasDueFields 52 = .ok (.ldc 109, 2) := by decide +kernel
theorem dX3_hasDueFields_54 : decode cX3_hasDueFields 54 = .ok (.invokevirtual 131, 3) := by decide +kernel
theorem dX3_hasDueFields_57 : decode cX3_hasDueFields 57 = .ok (.ifCond .eq 26, 3) := by decide +kernel
theorem dX3_hasDueFields_60 : decode cX3_hasDueFields 60 = .ok (.aload_n 0, 1) := by decide +kernel
theorem dX3_hasDueFields_61 : decode cX3_hasDueFields 61 = .ok (.aload_n 0, 1) := by decide +kernel
theorem dX3_hasDueFields_62 : decode cX3_hasDueFields 62 = .ok (.getfield 24, 3) := by decide +kernel
theorem dX3_hasDueFields_65 : decode cX3_hasDueFields 65 = .ok (.iconst 3, 1) := by decide +kernel
theorem dX3_hasDueFields_66 : decode cX3_hasDueFields 66 = .ok (.iaload, 1) := by decide +kernel
theorem dX3_hasDueFields_67 : decode cX3_hasDueFields 67 = .ok (.aload_n 0, 1) := by decide +kernel
theorem dX3_hasDueFields_68 : decode cX3_hasDueFields 68 = .ok (.getfield 27, 3) := by decide +kernel
theorem dX3_hasDueFields_71 : decode cX3_hasDueFields 71 = .ok (.iconst 3, 1) := by decide +kernel
theorem dX3_hasDueFields_72 : decode cX3_hasDueFields 72 = .ok (.iaload, 1) := by decide +kernel
theorem dX3_hasDueFields_73 : decode cX3_hasDueFields 73 = .ok (.invokevirtual 134, 3) := by decide +kernel
theorem dX3_hasDueFields_76 : decode cX3_hasDueFields 76 = .ok (.ifCond .eq 7, 3) := by decide +kernel
theorem dX3_hasDueFields_79 : decode cX3_hasDueFields 79 = .ok (.iconst 1, 1) := by decide +kernel
theorem dX3_hasDueFields_80 : decode cX3_hasDueFields 80 = .ok (.goto 4, 3) := by decide +kernel
theorem dX3_hasDueFields_83 : decode cX3_hasDueFields 83 = .ok (.iconst 0, 1) := by decide +kernel
theorem dX3_hasDueFields_84 : decode cX3_hasDueFields 84 = .ok (.ireturn, 1) := by decide +kernel
theorem dX3_hasWord_0 : decode cX3_hasWord 0 = .ok (.aload_n 0, 1) := by decide +kernel
theorem dX3_hasWord_1 : decode cX3_hasWord 1 = .ok (.getfield 27, 3) := by decide +kernel
theorem dX3_hasWord_4 : decode cX3_hasWord 4 = .ok (.iload_n 1, 1) := by decide +kernel
theorem dX3_hasWord_5 : decode cX3_hasWord 5 = .ok (.iaload, 1) := by decide +kernel
theorem dX3_hasWord_6 : decode cX3_hasWord 6 = .ok (.istore_n 3, 1) := by decide +kernel
theorem dX3_hasWord_7 : decode cX3_hasWord 7 = .ok (.aload_n 0, 1) := by decide +kernel
theorem dX3_hasWord_8 : decode cX3_hasWord 8 = .ok (.getfield 24, 3) := by decide +kernel
theorem dX3_hasWord_11 : decode cX3_hasWord 11 = .ok (.iload_n 1, 1) := by decide +kernel
theorem dX3_hasWord_12 : decode cX3_hasWord 12 = .ok (.iaload, 1) := by decide +kernel
theorem dX3_hasWord_13 : decode cX3_hasWord 13 = .ok (.istore 4, 2) := by decide +kernel
theorem dX3_hasWord_15 : decode cX3_hasWord 15 = .ok (.iload 4, 2) := by decide +kernel
theorem dX3_hasWord_17 : decode cX3_hasWord 17 = .ok (.istore 5, 2) := by decide +kernel
theorem dX3_hasWord_19 : decode cX3_hasWord 19 = .ok (.iload 5, 2) := by decide +kernel
theorem dX3_hasWord_21 : decode cX3_hasWord 21 = .ok (.iload_n 3, 1) := by decide +kernel
theorem dX3_hasWord_22 : decode cX3_hasWord 22 = .ok (.if_icmp .gt 61, 3) := by decide +kernel
theorem dX3_hasWord_25 : decode cX3_hasWord 25 = .ok (.iload 5, 2) := by decide +kernel
theorem dX3_hasWord_27 : decode cX3_hasWord 27 = .ok (.iload_n 3, 1) := by decide +kernel
theorem dX3_hasWord_28 : decode cX3_hasWord 28 = .ok (.if_icmp .eq 17, 3) := by decide +kernel
theorem dX3_hasWord_31 : decode cX3_hasWord 31 = .ok (.aload_n 0, 1) := by decide +kernel
theorem dX3_hasWord_32 : decode cX3_hasWord 32 = .ok (.getfield 14, 3) := by decide +kernel
theorem dX3_hasWord_35 : decode cX3_hasWord 35 = .ok (.iload 5, 2) := by decide +kernel
theorem dX3_hasWord_37 : decode cX3_hasWord 37 = .ok (.invokevirtual 61, 3) := by decide +kernel
theorem dX3_hasWord_40 : decode cX3_hasWord 40 = .ok (.bipush 44, 2) := by decide +kernel
theorem dX3_hasWord_42 : decode cX3_hasWord 42 = .ok (.if_icmp .ne 35, 3) := by decide +kernel
theorem dX3_hasWord_45 : decode cX3_hasWord 45 = .ok (.aload_n 0, 1) := by decide +kernel
theorem dX3_hasWord_46 : decode cX3_hasWord 46 = .ok (.aload_n 0, 1) := by decide +kernel
theorem dX3_hasWord_47 : decode cX3_hasWord 47 = .ok (.iload 4, 2) := by decide +kernel
theorem dX3_hasWord_49 : decode cX3_hasWord 49 = .ok (.iload 5, 2) := by decide +kernel
theorem dX3_hasWord_51 : decode cX3_hasWord 51 = .ok (.invokevirtual 117, 3) := by decide +kernel
theorem dX3_hasWord_54 : decode cX3_hasWord 54 = .ok (.aload_n 0, 1) := by decide +kernel
theorem dX3_hasWord_55 : decode cX3_hasWord 55 = .ok (.iload 4, 2) := by decide +kernel
theorem dX3_hasWord_57 : decode cX3_hasWord 57 = .ok (.iload 5, 2) := by decide +kernel
theorem dX3_hasWord_59 : decode cX3_hasWord 59 = .ok (.invokevirtual 120, 3) := by decide +kernel
theorem dX3_hasWord_62 : decode cX3_hasWord 62 = .ok (.aload_n 2, 1) := by decide +kernel
theorem dX3_hasWord_63 : decode cX3_hasWord 63 = .ok (.invokevirtual 53, 3) := by decide +kernel
theorem dX3_hasWord_66 : decode cX3_hasWord 66 = .ok (.ifCond .eq 5, 3) := by decide +kernel
theorem dX3_hasWord_69 : decode cX3_hasWord 69 = .ok (.iconst 1, 1) := by decide +kernel
theorem dX3_hasWord_70 : decode cX3_hasWord 70 = .ok (.ireturn, 1) := by decide +kernel
theorem dX3_hasWord_71 : decode cX3_hasWord 71 = .ok (.iload 5, 2) := by decide +kernel
theorem dX3_hasWord_73 : decode cX3_hasWord 73 = .ok (.iconst 1, 1) := by decide +kernel
theorem dX3_hasWord_74 : decode cX3_hasWord 74 = .ok (.iadd, 1) := by decide +kernel
theorem dX3_hasWord_75 : decode cX3_hasWord 75 = .ok (.istore 4, 2) := by decide +kernel
theorem dX3_hasWord_77 : decode cX3_hasWord 77 = .ok (.iinc 5 1, 3) := by decide +kernel
theorem dX3_hasWord_80 : decode cX3_hasWord 80 = .ok (.goto (-61), 3) := by decide +kernel
theorem dX3_hasWord_83 : decode cX3_hasWord 83 = .ok (.iconst 0, 1) := by decide +kernel
theorem dX3_hasWord_84 : decode cX3_hasWord 84 = .ok (.ireturn, 1) := by decide +kernel
theorem dX3_isKey_0 : decode cX3_isKey 0 = .ok (.iload_n 2, 1) := by decide +kernel
theorem dX3_isKey_1 : decode cX3_isKey 1 = .ok (.iload_n 1, 1) := by decide +kernel
theorem dX3_isKey_2 : decode cX3_isKey 2 = .ok (.isub, 1) := by decide +kernel
theorem dX3_isKey_3 : decode cX3_isKey 3 = .ok (.bipush 24, 2) := by decide +kernel
theorem dX3_isKey_5 : decode cX3_isKey 5 = .ok (.if_icmp .ne 16, 3) := by decide +kernel
theorem dX3_isKey_8 : decode cX3_isKey 8 = .ok (.aload_n 0, 1) := by decide +kernel
theorem dX3_isKey_9 : decode cX3_isKey 9 = .ok (.iload_n 1, 1) := by decide +kernel
theorem dX3_isKey_10 : decode cX3_isKey 10 = .ok (.bipush 22, 2) := by decide +kernel
theorem dX3_isKey_12 : decode cX3_isKey 12 = .ok (.iadd, 1) := by decide +kernel
theorem dX3_isKey_13 : decode cX3_isKey 13 = .ok (.ldc 137, 2) := by decide +kernel
theorem dX3_isKey_15 : decode cX3_isKey 15 = .ok (.invokevirtual 74, 3) := by decide +kernel
theorem dX3_isKey_18 : decode cX3_isKey 18 = .ok (.ifCond .ne 5, 3) := by decide +kernel
theorem dX3_isKey_21 : decode cX3_isKey 21 = .ok (.iconst 0, 1) := by decide +kernel
theorem dX3_isKey_22 : decode cX3_isKey 22 = .ok (.ireturn, 1) := by decide +kernel
theorem dX3_isKey_23 : decode cX3_isKey 23 = .ok (.iload_n 1, 1) := by decide +kernel
theorem dX3_isKey_24 : decode cX3_isKey 24 = .ok (.istore_n 3, 1) := by decide +kernel
theorem dX3_isKey_25 : decode cX3_isKey 25 = .ok (.iload_n 3, 1) := by decide +kernel
theorem dX3_isKey_26 : decode cX3_isKey 26 = .ok (.iload_n 1, 1) := by decide +kernel
theorem dX3_isKey_27 : decode cX3_isKey 27 = .ok (.bipush 22, 2) := by decide +kernel
theorem dX3_isKey_29 : decode cX3_isKey 29 = .ok (.iadd, 1) := by decide +kernel
theorem dX3_isKey_30 : decode cX3_isKey 30 = .ok (.if_icmp .ge 43, 3) := by decide +kernel
theorem dX3_isKey_33 : decode cX3_isKey 33 = .ok (.aload_n 0, 1) := by decide +kernel
theorem dX3_isKey_34 : decode cX3_isKey 34 = .ok (.getfield 14, 3) := by decide +kernel
theorem dX3_isKey_37 : decode cX3_isKey 37 = .ok (.iload_n 3, 1) := by decide +kernel
theorem dX3_isKey_38 : decode cX3_isKey 38 = .ok (.invokevirtual 61, 3) := by decide +kernel
theorem dX3_isKey_41 : decode cX3_isKey 41 = .ok (.istore 4, 2) := by decide +kernel
theorem dX3_isKey_43 : decode cX3_isKey 43 = .ok (.iload 4, 2) := by decide +kernel
theorem dX3_isKey_45 : decode cX3_isKey 45 = .ok (.invokestatic 104, 3) := by decide +kernel
theorem dX3_isKey_48 : decode cX3_isKey 48 = .ok (.ifCond .ne 19, 3) := by decide +kernel
theorem dX3_isKey_51 : decode cX3_isKey 51 = .ok (.iload 4, 2) := by decide +kernel
theorem dX3_isKey_53 : decode cX3_isKey 53 = .ok (.bipush 43, 2) := by decide +kernel
theorem dX3_isKey_55 : decode cX3_isKey 55 = .ok (.if_icmp .eq 12, 3) := by decide +kernel
theorem dX3_isKey_58 : decode cX3_isKey 58 = .ok (.iload 4, 2) := by decide +kernel
theorem dX3_isKey_60 : decode cX3_isKey 60 = .ok (.bipush 47, 2) := by decide +kernel
theorem dX3_isKey_62 : decode cX3_isKey 62 = .ok (.if_icmp .eq 5, 3) := by decide +kernel
theorem dX3_isKey_65 : decode cX3_isKey 65 = .ok (.iconst 0, 1) := by decide +kernel
theorem dX3_isKey_66 : decode cX3_isKey 66 = .ok (.ireturn, 1) := by decide +kernel
theorem dX3_isKey_67 : decode cX3_isKey 67 = .ok (.iinc 3 1, 3) := by decide +kernel
theorem dX3_isKey_70 : decode cX3_isKey 70 = .ok (.goto (-45), 3) := by decide +kernel
theorem dX3_isKey_73 : decode cX3_isKey 73 = .ok (.aload_n 0, 1) := by decide +kernel
theorem dX3_isKey_74 : decode cX3_isKey 74 = .ok (.getfield 14, 3) := by decide +kernel
theorem dX3_isKey_77 : decode cX3_isKey 77 = .ok (.iload_n 1, 1) := by decide +kernel
theorem dX3_isKey_78 : decode cX3_isKey 78 = .ok (.bipush 22, 2) := by decide +kernel
theorem dX3_isKey_80 : decode cX3_isKey 80 = .ok (.iadd, 1) := by decide +kernel
theorem dX3_isKey_81 : decode cX3_isKey 81 = .ok (.iconst 1, 1) := by decide +kernel
theorem dX3_isKey_82 : decode cX3_isKey 82 = .ok (.isub, 1) := by decide +kernel
theorem dX3_isKey_83 : decode cX3_isKey 83 = .ok (.invokevirtual 61, 3) := by decide +kernel
theorem dX3_isKey_86 : decode cX3_isKey 86 = .ok (.istore_n 3, 1) := by decide +kernel
theorem dX3_isKey_87 : decode cX3_isKey 87 = .ok (.iload_n 3, 1) := by decide +kernel
theorem dX3_isKey_88 : decode cX3_isKey 88 = .ok (.bipush 65, 2) := by decide +kernel
theorem dX3_isKey_90 : decode cX3_isKey 90 = .ok (.if_icmp .eq 21, 3) := by decide +kernel
theorem dX3_isKey_93 : decode cX3_isKey 93 = .ok (.iload_n 3, 1) := by decide +kernel
theorem dX3_isKey_94 : decode cX3_isKey 94 = .ok (.bipush 81, 2) := by decide +kernel
theorem dX3_isKey_96 : decode cX3_isKey 96 = .ok (.if_icmp .eq 15, 3) := by decide +kernel
theorem dX3_isKey_99 : decode cX3_isKey 99 = .ok (.iload_n 3, 1) := by decide +kernel
theorem dX3_isKey_100 : decode cX3_isKey 100 = .ok (.bipush 103, 2) := by decide +kernel
theorem dX3_isKey_102 : decode cX3_isKey 102 = .ok (.if_icmp .eq 9, 3) := by decide +kernel
theorem dX3_isKey_105 : decode cX3_isKey 105 = .ok (.iload_n 3, 1) := by decide +kernel
theorem dX3_isKey_106 : decode cX3_isKey 106 = .ok (.bipush 119, 2) := by decide +kernel
theorem dX3_isKey_108 : decode cX3_isKey 108 = .ok (.if_icmp .ne 7, 3) := by decide +kernel
theorem dX3_isKey_111 : decode cX3_isKey 111 = .ok (.iconst 1, 1) := by decide +kernel
theorem dX3_isKey_112 : decode cX3_isKey 112 = .ok (.goto 4, 3) := by decide +kernel
theorem dX3_isKey_115 : decode cX3_isKey 115 = .ok (.iconst 0, 1) := by decide +kernel
theorem dX3_isKey_116 : decode cX3_isKey 116 = .ok (.ireturn, 1) := by decide +kernel
theorem dX4_init_0 : decode cX4_init 0 = .ok (.aload_n 0, 1) := by decide +kernel
theorem dX4_init_1 : decode cX4_init 1 = .ok (.invokespecial 1, 3) := by decide +kernel
theorem dX4_init_4 : decode cX4_init 4 = .ok (.return_, 1) := by decide +kernel
theorem dX4_restart_0 : decode cX4_restart 0 = .ok (.aload_n 0, 1) := by decide +kernel
theorem dX4_restart_1 : decode cX4_restart 1 = .ok (.iconst 0, 1) := by decide +kernel
theorem dX4_restart_2 : decode cX4_restart 2 = .ok (.putfield 7, 3) := by decide +kernel
theorem dX4_restart_5 : decode cX4_restart 5 = .ok (.return_, 1) := by decide +kernel
theorem dX4_isWhole_0 : decode cX4_isWhole 0 = .ok (.aload_n 0, 1) := by decide +kernel
theorem dX4_isWhole_1 : decode cX4_isWhole 1 = .ok (.getfield 7, 3) := by decide +kernel
theorem dX4_isWhole_4 : decode cX4_isWhole 4 = .ok (.ifCond .ne 7, 3) := by decide +kernel
theorem dX4_isWhole_7 : decode cX4_isWhole 7 = .ok (.iconst 1, 1) := by decide +kernel
theorem dX4_isWhole_8 : decode cX4_isWhole 8 = .ok (.goto 4, 3) := by decide +kernel
theorem dX4_isWhole_11 : decode cX4_isWhole 11 = .ok (.iconst 0, 1) := by decide +kernel
theorem dX4_isWhole_12 : decode cX4_isWhole 12 = .ok (.ireturn, 1) := by decide +kernel
theorem dX4_accepts_0 : decode cX4_accepts 0 = .ok (.aload_n 0, 1) := by decide +kernel
theorem dX4_accepts_1 : decode cX4_accepts 1 = .ok (.getfield 7, 3) := by decide +kernel
theorem dX4_accepts_4 : decode cX4_accepts 4 = .ok (.ifCond .ne 9, 3) := by decide +kernel
theorem dX4_accepts_7 : decode cX4_accepts 7 = .ok (.aload_n 0, 1) := by decide +kernel
theorem dX4_accepts_8 : decode cX4_accepts 8 = .ok (.iload_n 1, 1) := by decide +kernel
theorem dX4_accepts_9 : decode cX4_accepts 9 = .ok (.invokevirtual 13, 3) := by decide +kernel
theorem dX4_accepts_12 : decode cX4_accepts 12 = .ok (.ireturn, 1) := by decide +kernel
theorem dX4_accepts_13 : decode cX4_accepts 13 = .ok (.iload_n 1, 1) := by decide +kernel
theorem dX4_accepts_14 : decode cX4_accepts 14 = .ok (.aload_n 0, 1) := by decide +kernel
theorem dX4_accepts_15 : decode cX4_accepts 15 = .ok (.getfield 17, 3) := by decide +kernel
theorem dX4_accepts_18 : decode cX4_accepts 18 = .ok (.if_icmp .lt 11, 3) := by decide +kernel
theorem dX4_accepts_21 : decode cX4_accepts 21 = .ok (.iload_n 1, 1) := by decide +kernel
theorem dX4_accepts_22 : decode cX4_accepts 22 = .ok (.aload_n 0, 1) := by decide +kernel
theorem dX4_accepts_23 : decode cX4_accepts 23 = .ok (.getfield 20, 3) := by decide +kernel
theorem dX4_accepts_26 : decode cX4_accepts 26 = .ok (.if_icmp .le 5, 3) := by decide +kernel
theorem dX4_accepts_29 : decode cX4_accepts 29 = .ok (.iconst 0, 1) := by decide +kernel
theorem dX4_accepts_30 : decode cX4_accepts 30 = .ok (.ireturn, 1) := by decide +kernel
theorem dX4_accepts_31 : decode cX4_accepts 31 = .ok (.aload_n 0, 1) := by decide +kernel
theorem dX4_accepts_32 : decode cX4_accepts 32 = .ok (.dup, 1) := by decide +kernel
theorem dX4_accepts_33 : decode cX4_accepts 33 = .ok (.getfield 7, 3) := by decide +kernel
theorem dX4_accepts_36 : decode cX4_accepts 36 = .ok (.iconst 1, 1) := by decide +kernel
theorem dX4_accepts_37 : decode cX4_accepts 37 = .ok (.isub, 1) := by decide +kernel
theorem dX4_accepts_38 : decode cX4_accepts 38 = .ok (.putfield 7, 3) := by decide +kernel
theorem dX4_accepts_41 : decode cX4_accepts 41 = .ok (.aload_n 0, 1) := by decide +kernel
theorem dX4_accepts_42 : decode cX4_accepts 42 = .ok (.sipush 128, 3) := by decide +kernel
theorem dX4_accepts_45 : decode cX4_accepts 45 = .ok (.putfield 17, 3) := by decide +kernel
theorem dX4_accepts_48 : decode cX4_accepts 48 = .ok (.aload_n 0, 1) := by decide +kernel
theorem dX4_accepts_49 : decode cX4_accepts 49 = .ok (.sipush 191, 3) := by decide +kernel
theorem dX4_accepts_52 : decode cX4_accepts 52 = .ok (.putfield 20, 3) := by decide +kernel
theorem dX4_accepts_55 : decode cX4_accepts 55 = .ok (.iconst 1, 1) := by decide +kernel
theorem dX4_accepts_56 : decode cX4_accepts 56 = .ok (.ireturn, 1) := by decide +kernel
theorem dX4_isText_0 : decode cX4_isText 0 = .ok (.aload_n 0, 1) := by decide +kernel
theorem dX4_isText_1 : decode cX4_isText 1 = .ok (.invokevirtual 23, 3) := by decide +kernel
theorem dX4_isText_4 : decode cX4_isText 4 = .ok (.iload_n 2, 1) := by decide +kernel
theorem dX4_isText_5 : decode cX4_isText 5 = .ok (.istore_n 3, 1) := by decide +kernel
theorem dX4_isText_6 : decode cX4_isText 6 = .ok (.iload_n 3, 1) := by decide +kernel
theorem dX4_isText_7 : decode cX4_isText 7 = .ok (.aload_n 1, 1) := by decide +kernel
theorem dX4_isText_8 : decode cX4_isText 8 = .ok (.invokevirtual 26, 3) := by decide +kernel
theorem dX4_isText_11 : decode cX4_isText 11 = .ok (.if_icmp .ge 23, 3) := by decide +kernel
theorem dX4_isText_14 : decode cX4_isText 14 = .ok (.aload_n 0, 1) := by decide +kernel
theorem dX4_isText_15 : decode cX4_isText 15 = .ok (.aload_n 1, 1) := by decide +kernel
theorem dX4_isText_16 : decode cX4_isText 16 = .ok (.iload_n 3, 1) := by decide +kernel
theorem dX4_isText_17 : decode cX4_isText 17 = .ok (.invokevirtual 32, 3) := by decide +kernel
theorem dX4_isText_20 : decode cX4_isText 20 = .ok (.invokevirtual 36, 3) := by decide +kernel
theorem dX4_isText_23 : decode cX4_isText 23 = .ok (.ifCond .ne 5, 3) := by decide +kernel
theorem dX4_isText_26 : decode cX4_isText 26 = .ok (.iconst 0, 1) := by decide +kernel
theorem dX4_isText_27 : decode cX4_isText 27 = .ok (.ireturn, 1) := by decide +kernel
theorem dX4_isText_28 : decode cX4_isText 28 = .ok (.iinc 3 1, 3) := by decide +kernel
theorem dX4_isText_31 : decode cX4_isText 31 = .ok (.goto (-25), 3) := by decide +kernel
theorem dX4_isText_34 : decode cX4_isText 34 = .ok (.aload_n 0, 1) := by decide +kernel
theorem dX4_isText_35 : decode cX4_isText 35 = .ok (.invokevirtual 39, 3) := by decide +kernel
theorem dX4_isText_38 : decode cX4_isText 38 = .ok (.ireturn, 1) := by decide +kernel
theorem dX4_begins_0 : decode cX4_begins 0 = .ok (.iload_n 1, 1) := by decide +kernel
theorem dX4_begins_1 : decode cX4_begins 1 = .ok (.bipush 127, 2) := by decide +kernel
theorem dX4_begins_3 : decode cX4_begins 3 = .ok (.if_icmp .le 10, 3) := by decide +kernel
theorem dX4_begins_6 : decode cX4_begins 6 = .ok (.iload_n 1, 1) := by decide +kernel
theorem dX4_begins_7 : decode cX4_begins 7 = .ok (.sipush 194, 3) := by decide +kernel
theorem dX4_begins_10 : decode cX4_begins 10 = .ok (.if_icmp .lt 10, 3) := by decide +kernel
theorem dX4_begins_13 : decode cX4_begins 13 = .ok (.iload_n 1, 1) := by decide +kernel
theorem dX4_begins_14 : decode cX4_begins 14 = .ok (.sipush 244, 3) := by decide +kernel
theorem dX4_begins_17 : decode cX4_begins 17 = .ok (.if_icmp .le 5, 3) := by decide +kernel
theorem dX4_begins_20 : decode cX4_begins 20 = .ok (.iconst 0, 1) := by decide +kernel
theorem dX4_begins_21 : decode cX4_begins 21 = .ok (.ireturn, 1) := by decide +kernel
theorem dX4_begins_22 : decode cX4_begins 22 = .ok (.aload_n 0, 1) := by decide +kernel
theorem dX4_begins_23 : decode cX4_begins 23 = .ok (.iload_n 1, 1) := by decide +kernel
theorem dX4_begins_24 : decode cX4_begins 24 = .ok (.sipush 128, 3) := by decide +kernel
theorem dX4_begins_27 : decode cX4_begins 27 = .ok (.if_icmp .ge 7, 3) := by decide +kernel
theorem dX4_begins_30 : decode cX4_begins 30 = .ok (.iconst 0, 1) := by decide +kernel
theorem dX4_begins_31 : decode cX4_begins 31 = .ok (.goto 26, 3) := by decide +kernel
theorem dX4_begins_34 : decode cX4_begins 34 = .ok (.iload_n 1, 1) := by decide +kernel
theorem dX4_begins_35 : decode cX4_begins 35 = .ok (.sipush 224, 3) := by decide +kernel
theorem dX4_begins_38 : decode cX4_begins 38 = .ok (.if_icmp .ge 7, 3) := by decide +kernel
theorem dX4_begins_41 : decode cX4_begins 41 = .ok (.iconst 1, 1) := by decide +kernel
theorem dX4_begins_42 : decode cX4_begins 42 = .ok (.goto 15, 3) := by decide +kernel
theorem dX4_begins_45 : decode cX4_begins 45 = .ok (.iload_n 1, 1) := by decide +kernel
theorem dX4_begins_46 : decode cX4_begins 46 = .ok (.sipush 240, 3) := by decide +kernel
theorem dX4_begins_49 : decode cX4_begins 49 = .ok (.if_icmp .ge 7, 3) := by decide +kernel
theorem dX4_begins_52 : decode cX4_begins 52 = .ok (.iconst 2, 1) := by decide +kernel
theorem dX4_begins_53 : decode cX4_begins 53 = .ok (.goto 4, 3) := by decide +kernel
theorem dX4_begins_56 : decode cX4_begins 56 = .ok (.iconst 3, 1) := by decide +kernel
theorem dX4_begins_57 : decode cX4_begins 57 = .ok (.putfield 7, 3) := by decide +kernel
theorem dX4_begins_60 : decode cX4_begins 60 = .ok (.aload_n 0, 1) := by decide +kernel
theorem dX4_begins_61 : decode cX4_begins 61 = .ok (.iload_n 1, 1) := by decide +kernel
theorem dX4_begins_62 : decode cX4_begins 62 = .ok (.sipush 224, 3) := by decide +kernel
theorem dX4_begins_65 : decode cX4_begins 65 = .ok (.if_icmp .ne 9, 3) := by decide +kernel
theorem dX4_begins_68 : decode cX4_begins 68 = .ok (.sipush 160, 3) := by decide +kernel
theorem dX4_begins_71 : decode cX4_begins 71 = .ok (.goto 19, 3) := by decide +kernel
theorem dX4_begins_74 : decode cX4_begins 74 = .ok (.iload_n 1, 1) := by decide +kernel
theorem dX4_begins_75 : decode cX4_begins 75 = .ok (.sipush 240, 3) := by decide +kernel
theorem dX4_begins_78 : decode cX4_begins 78 = .ok (.if_icmp .ne 9, 3) := by decide +kernel
theorem dX4_begins_81 : decode cX4_begins 81 = .ok (.sipush 144, 3) := by decide +kernel
theorem dX4_begins_84 : decode cX4_begins 84 = .ok (.goto 6, 3) := by decide +kernel
theorem dX4_begins_87 : decode cX4_begins 87 = .ok (.sipush 128, 3) := by decide +kernel
theorem dX4_begins_90 : decode cX4_begins 90 = .ok (.putfield 17, 3) := by decide +kernel
theorem dX4_begins_93 : decode cX4_begins 93 = .ok (.aload_n 0, 1) := by decide +kernel
theorem dX4_begins_94 : decode cX4_begins 94 = .ok (.iload_n 1, 1) := by decide +kernel
theorem dX4_begins_95 : decode cX4_begins 95 = .ok (.sipush 237, 3) := by decide +kernel
theorem dX4_begins_98 : decode cX4_begins 98 = .ok (.if_icmp .ne 9, 3) := by decide +kernel
theorem dX4_begins_101 : decode cX4_begins 101 = .ok (.sipush 159, 3) := by decide +kernel
theorem dX4_begins_104 : decode cX4_begins 104 = .ok (.goto 19, 3) := by decide +kernel
theorem dX4_begins_107 : decode cX4_begins 107 = .ok (.iload_n 1, 1) := by decide +kernel
theorem dX4_begins_108 : decode cX4_begins 108 = .ok (.sipush 244, 3) := by decide +kernel
theorem dX4_begins_111 : decode cX4_begins 111 = .ok (.if_icmp .ne 9, 3) := by decide +kernel
theorem dX4_begins_114 : decode cX4_begins 114 = .ok (.sipush 143, 3) := by decide +kernel
theorem dX4_begins_117 : decode cX4_begins 117 = .ok (.goto 6, 3) := by decide +kernel
theorem dX4_begins_120 : decode cX4_begins 120 = .ok (.sipush 191, 3) := by decide +kernel
theorem dX4_begins_123 : decode cX4_begins 123 = .ok (.putfield 20, 3) := by decide +kernel
theorem dX4_begins_126 : decode cX4_begins 126 = .ok (.iconst 1, 1) := by decide +kernel
theorem dX4_begins_127 : decode cX4_begins 127 = .ok (.ireturn, 1) := by decide +kernel
theorem dX5_init_0 : decode cX5_init 0 = .ok (.aload_n 0, 1) := by decide +kernel
theorem dX5_init_1 : decode cX5_init 1 = .ok (.invokespecial 3, 3) := by decide +kernel
theorem dX5_init_4 : decode cX5_init 4 = .ok (.aload_n 0, 1) := by decide +kernel
theorem dX5_init_5 : decode cX5_init 5 = .ok (.sipush 1200, 3) := by decide +kernel
theorem dX5_init_8 : decode cX5_init 8 = .ok (.newarray .int, 2) := by decide +kernel
theorem dX5_init_10 : decode cX5_init 10 = .ok (.putfield 9, 3) := by decide +kernel
theorem dX5_init_13 : decode cX5_init 13 = .ok (.aload_n 0, 1) := by decide +kernel
theorem dX5_init_14 : decode cX5_init 14 = .ok (.iconst 4, 1) := by decide +kernel
theorem dX5_init_15 : decode cX5_init 15 = .ok (.newarray .int, 2) := by decide +kernel
theorem dX5_init_17 : decode cX5_init 17 = .ok (.putfield 15, 3) := by decide +kernel
theorem dX5_init_20 : decode cX5_init 20 = .ok (.aload_n 0, 1) := by decide +kernel
theorem dX5_init_21 : decode cX5_init 21 = .ok (.iconst 4, 1) := by decide +kernel
theorem dX5_init_22 : decode cX5_init 22 = .ok (.newarray .int, 2) := by decide +kernel
theorem dX5_init_24 : decode cX5_init 24 = .ok (.putfield 18, 3) := by decide +kernel
theorem dX5_init_27 : decode cX5_init 27 = .ok (.return_, 1) := by decide +kernel
theorem dX5_size_0 : decode cX5_size 0 = .ok (.aload_n 0, 1) := by decide +kernel
theorem dX5_size_1 : decode cX5_size 1 = .ok (.getfield 21, 3) := by decide +kernel
theorem dX5_size_4 : decode cX5_size 4 = .ok (.ireturn, 1) := by decide +kernel
theorem dX5_has_0 : decode cX5_has 0 = .ok (.iload_n 1, 1) := by decide +kernel
theorem dX5_has_1 : decode cX5_has 1 = .ok (.ifCond .lt 15, 3) := by decide +kernel
theorem dX5_has_4 : decode cX5_has 4 = .ok (.iload_n 1, 1) := by decide +kernel
theorem dX5_has_5 : decode cX5_has 5 = .ok (.aload_n 0, 1) := by decide +kernel
theorem dX5_has_6 : decode cX5_has 6 = .ok (.getfield 21, 3) := by decide +kernel
theorem dX5_has_9 : decode cX5_has 9 = .ok (.if_icmp .ge 7, 3) := by decide +kernel
theorem dX5_has_12 : decode cX5_has 12 = .ok (.iconst 1, 1) := by decide +kernel
theorem dX5_has_13 : decode cX5_has 13 = .ok (.goto 4, 3) := by decide +kernel
theorem dX5_has_16 : decode cX5_has 16 = .ok (.iconst 0, 1) := by decide +kernel
theorem dX5_has_17 : decode cX5_has 17 = .ok (.ireturn, 1) := by decide +kernel
theorem dX5_kindOf_0 : decode cX5_kindOf 0 = .ok (.aload_n 0, 1) := by decide +kernel
theorem dX5_kindOf_1 : decode cX5_kindOf 1 = .ok (.getfield 15, 3) := by decide +kernel
theorem dX5_kindOf_4 : decode cX5_kindOf 4 = .ok (.aload_n 0, 1) := by decide +kernel
theorem dX5_kindOf_5 : decode cX5_kindOf 5 = .ok (.iload_n 1, 1) := by decide +kernel
theorem dX5_kindOf_6 : decode cX5_kindOf 6 = .ok (.invokevirtual 25, 3) := by decide +kernel
theorem dX5_kindOf_9 : decode cX5_kindOf 9 = .ok (.iaload, 1) := by decide +kernel
theorem dX5_kindOf_10 : decode cX5_kindOf 10 = .ok (.ireturn, 1) := by decide +kernel
theorem dX5_lengthOf_0 : decode cX5_lengthOf 0 = .ok (.aload_n 0, 1) := by decide +kernel
theorem dX5_lengthOf_1 : decode cX5_lengthOf 1 = .ok (.getfield 18, 3) := by decide +kernel
theorem dX5_lengthOf_4 : decode cX5_lengthOf 4 = .ok (.aload_n 0, 1) := by decide +kernel
theorem dX5_lengthOf_5 : decode cX5_lengthOf 5 = .ok (.iload_n 1, 1) := by decide +kernel
theorem dX5_lengthOf_6 : decode cX5_lengthOf 6 = .ok (.invokevirtual 25, 3) := by decide +kernel
theorem dX5_lengthOf_9 : decode cX5_lengthOf 9 = .ok (.iaload, 1) := by decide +kernel
theorem dX5_lengthOf_10 : decode cX5_lengthOf 10 = .ok (.ireturn, 1) := by decide +kernel
theorem dX5_contentAt_0 : decode cX5_contentAt 0 = .ok (.iload_n 2, 1) := by decide +kernel
theorem dX5_contentAt_1 : decode cX5_contentAt 1 = .ok (.ifCond .lt 10, 3) := by decide +kernel
theorem dX5_contentAt_4 : decode cX5_contentAt 4 = .ok (.iload_n 2, 1) := by decide +kernel
theorem dX5_contentAt_5 : decode cX5_contentAt 5 = .ok (.sipush 300, 3) := by decide +kernel
theorem dX5_contentAt_8 : decode cX5_contentAt 8 = .ok (.if_icmp .lt 7, 3) := by decide +kernel
theorem dX5_contentAt_11 : decode cX5_contentAt 11 = .ok (.iconst 0, 1) := by decide +kernel
theorem dX5_contentAt_12 : decode cX5_contentAt 12 = .ok (.goto 19, 3) := by decide +kernel
theorem dX5_contentAt_15 : decode cX5_contentAt 15 = .ok (.aload_n 0, 1) := by decide +kernel
theorem dX5_contentAt_16 : decode cX5_contentAt 16 = .ok (.getfield 9, 3) := by decide +kernel
theorem dX5_contentAt_19 : decode cX5_contentAt 19 = .ok (.aload_n 0, 1) := by decide +kernel
theorem dX5_contentAt_20 : decode cX5_contentAt 20 = .ok (.iload_n 1, 1) := by decide +kernel
theorem dX5_contentAt_21 : decode cX5_contentAt 21 = .ok (.invokevirtual 25, 3) := by decide +kernel
theorem dX5_contentAt_24 : decode cX5_contentAt 24 = .ok (.sipush 300, 3) := by decide +kernel
theorem dX5_contentAt_27 : decode cX5_contentAt 27 = .ok (.imul, 1) := by decide +kernel
theorem dX5_contentAt_28 : decode cX5_contentAt 28 = .ok (.iload_n 2, 1) := by decide +kernel
theorem dX5_contentAt_29 : decode cX5_contentAt 29 = .ok (.iadd, 1) := by decide +kernel
theorem dX5_contentAt_30 : decode cX5_contentAt 30 = .ok (.iaload, 1) := by decide +kernel
theorem dX5_contentAt_31 : decode cX5_contentAt 31 = .ok (.ireturn, 1) := by decide +kernel
theorem dX5_put_0 : decode cX5_put 0 = .ok (.aload_n 0, 1) := by decide +kernel
theorem dX5_put_1 : decode cX5_put 1 = .ok (.getfield 21, 3) := by decide +kernel
theorem dX5_put_4 : decode cX5_put 4 = .ok (.iconst 4, 1) := by decide +kernel
theorem dX5_put_5 : decode cX5_put 5 = .ok (.if_icmp .ge 52, 3) := by decide +kernel
theorem dX5_put_8 : decode cX5_put 8 = .ok (.aload_n 0, 1) := by decide +kernel
theorem dX5_put_9 : decode cX5_put 9 = .ok (.aload_n 0, 1) := by decide +kernel
theorem dX5_put_10 : decode cX5_put 10 = .ok (.getfield 21, 3) := by decide +kernel
theorem dX5_put_13 : decode cX5_put 13 = .ok (.invokevirtual 25, 3) := by decide +kernel
theorem dX5_put_16 : decode cX5_put 16 = .ok (.istore_n 3, 1) := by decide +kernel
theorem dX5_put_17 : decode cX5_put 17 = .ok (.aload_n 0, 1) := by decide +kernel
theorem dX5_put_18 : decode cX5_put 18 = .ok (.getfield 15, 3) := by decide +kernel
theorem dX5_put_21 : decode cX5_put 21 = .ok (.iload_n 3, 1) := by decide +kernel
theorem dX5_put_22 : decode cX5_put 22 = .ok (.iload_n 1, 1) := by decide +kernel
theorem dX5_put_23 : decode cX5_put 23 = .ok (.iastore, 1) := by decide +kernel
theorem dX5_put_24 : decode cX5_put 24 = .ok (.aload_n 0, 1) := by decide +kernel
theorem dX5_put_25 : decode cX5_put 25 = .ok (.getfield 18, 3) := by decide +kernel
theorem dX5_put_28 : decode cX5_put 28 = .ok (.iload_n 3, 1) := by decide +kernel
theorem dX5_put_29 : decode cX5_put 29 = .ok (.aload_n 2, 1) := by decide +kernel
theorem dX5_put_30 : decode cX5_put 30 = .ok (.invokevirtual 29, 3) := by decide +kernel
theorem dX5_put_33 : decode cX5_put 33 = .ok (.iastore, 1) := by decide +kernel
theorem dX5_put_34 : decode cX5_put 34 = .ok (.aload_n 2, 1) := by decide +kernel
theorem dX5_put_35 : decode cX5_put 35 = .ok (.aload_n 0, 1) := by decide +kernel
theorem dX5_put_36 : decode cX5_put 36 = .ok (.getfield 9, 3) := by decide +kernel
theorem dX5_put_39 : decode cX5_put 39 = .ok (.iload_n 3, 1) := by decide +kernel
theorem dX5_put_40 : decode cX5_put 40 = .ok (.sipush 300, 3) := by decide +kernel
theorem dX5_put_43 : decode cX5_put 43 = .ok (.imul, 1) := by decide +kernel
theorem dX5_put_44 : decode cX5_put 44 = .ok (.invokevirtual 35, 3) := by decide +kernel
theorem dX5_put_47 : decode cX5_put 47 = .ok (.aload_n 0, 1) := by decide +kernel
theorem dX5_put_48 : decode cX5_put 48 = .ok (.dup, 1) := by decide +kernel
theorem dX5_put_49 : decode cX5_put 49 = .ok (.getfield 21, 3) := by decide +kernel
theorem dX5_put_52 : decode cX5_put 52 = .ok (.iconst 1, 1) := by decide +kernel
theorem dX5_put_53 : decode cX5_put 53 = .ok (.iadd, 1) := by decide +kernel
theorem dX5_put_54 : decode cX5_put 54 = .ok (.putfield 21, 3) := by decide +kernel
theorem dX5_put_57 : decode cX5_put 57 = .ok (.return_, 1) := by decide +kernel
theorem dX5_removeOldest_0 : decode cX5_removeOldest 0 = .ok (.aload_n 0, 1) := by decide +kernel
theorem dX5_removeOldest_1 : decode cX5_removeOldest 1 = .ok (.getfield 21, 3) := by decide +kernel
theorem dX5_removeOldest_4 : decode cX5_removeOldest 4 = .ok (.ifCond .le 22, 3) := by decide +kernel
theorem dX5_removeOldest_7 : decode cX5_removeOldest 7 = .ok (.aload_n 0, 1) := by decide +kernel
theorem dX5_removeOldest_8 : decode cX5_removeOldest 8 = .ok (.aload_n 0, 1) := by decide +kernel
theorem dX5_removeOldest_9 : decode cX5_removeOldest 9 = .ok (.iconst 1, 1) := by decide +kernel
theorem dX5_removeOldest_10 : decode cX5_removeOldest 10 = .ok (.invokevirtual 25, 3) := by decide +kernel
theorem dX5_removeOldest_13 : decode cX5_removeOldest 13 = .ok (.putfield 39, 3) := by decide +kernel
theorem dX5_removeOldest_16 : decode cX5_removeOldest 16 = .ok (.aload_n 0, 1) := by decide +kernel
theorem dX5_removeOldest_17 : decode cX5_removeOldest 17 = .ok (.dup, 1) := by decide +kernel
theorem dX5_removeOldest_18 : decode cX5_removeOldest 18 = .ok (.getfield 21, 3) := by decide +kernel
theorem dX5_removeOldest_21 : decode cX5_removeOldest 21 = .ok (.iconst 1, 1) := by decide +kernel
theorem dX5_removeOldest_22 : decode cX5_removeOldest 22 = .ok (.isub, 1) := by decide +kernel
theorem dX5_removeOldest_23 : decode cX5_removeOldest 23 = .ok (.putfield 21, 3) := by decide +kernel
theorem dX5_removeOldest_26 : decode cX5_removeOldest 26 = .ok (.return_, 1) := by decide +kernel
theorem dX5_placeOf_0 : decode cX5_placeOf 0 = .ok (.aload_n 0, 1) := by decide +kernel
theorem dX5_placeOf_1 : decode cX5_placeOf 1 = .ok (.getfield 39, 3) := by decide +kernel
theorem dX5_placeOf_4 : decode cX5_placeOf 4 = .ok (.iload_n 1, 1) := by decide +kernel
theorem dX5_placeOf_5 : decode cX5_placeOf 5 = .ok (.iadd, 1) := by decide +kernel
theorem dX5_placeOf_6 : decode cX5_placeOf 6 = .ok (.iconst 4, 1) := by decide +kernel
theorem dX5_placeOf_7 : decode cX5_placeOf 7 = .ok (.invokestatic 42, 3) := by decide +kernel
theorem dX5_placeOf_10 : decode cX5_placeOf 10 = .ok (.ireturn, 1) := by decide +kernel
theorem dX6_init_0 : decode cX6_init 0 = .ok (.aload_n 0, 1) := by decide +kernel
theorem dX6_init_1 : decode cX6_init 1 = .ok (.invokespecial 3, 3) := by decide +kernel
theorem dX6_init_4 : decode cX6_init 4 = .ok (.aload_n 0, 1) := by decide +kernel
theorem dX6_init_5 : decode cX6_init 5 = .ok (.new 9, 3) := by decide +kernel
theorem dX6_init_8 : decode cX6_init 8 = .ok (.dup, 1) := by decide +kernel
theorem dX6_init_9 : decode cX6_init 9 = .ok (.invokespecial 11, 3) := by decide +kernel
theorem dX6_init_12 : decode cX6_init 12 = .ok (.putfield 12, 3) := by decide +kernel
theorem dX6_init_15 : decode cX6_init 15 = .ok (.aload_n 0, 1) := by decide +kernel
theorem dX6_init_16 : decode cX6_init 16 = .ok (.new 16, 3) := by decide +kernel
theorem dX6_init_19 : decode cX6_init 19 = .ok (.dup, 1) := by decide +kernel
theorem dX6_init_20 : decode cX6_init 20 = .ok (.invokespecial 18, 3) := by decide +kernel
theorem dX6_init_23 : decode cX6_init 23 = .ok (.putfield 19, 3) := by decide +kernel
theorem dX6_init_26 : decode cX6_init 26 = .ok (.aload_n 0, 1) := by decide +kernel
theorem dX6_init_27 : decode cX6_init 27 = .ok (.new 23, 3) := by decide +kernel
theorem dX6_init_30 : decode cX6_init 30 = .ok (.dup, 1) := by decide +kernel
theorem dX6_init_31 : decode cX6_init 31 = .ok (.invokespecial 25, 3) := by decide +kernel
theorem dX6_init_34 : decode cX6_init 34 = .ok (.putfield 26, 3) := by decide +kernel
theorem dX6_init_37 : decode cX6_init 37 = .ok (.aload_n 0, 1) := by decide +kernel
theorem dX6_init_38 : decode cX6_init 38 = .ok (.new 30, 3) := by decide +kernel
theorem dX6_init_41 : decode cX6_init 41 = .ok (.dup, 1) := by decide +kernel
theorem dX6_init_42 : decode cX6_init 42 = .ok (.sipush 574, 3) := by decide +kernel
theorem dX6_init_45 : decode cX6_init 45 = .ok (.invokespecial 32, 3) := by decide +kernel
theorem dX6_init_48 : decode cX6_init 48 = .ok (.putfield 35, 3) := by decide +kernel
theorem dX6_init_51 : decode cX6_init 51 = .ok (.aload_n 0, 1) := by decide +kernel
theorem dX6_init_52 : decode cX6_init 52 = .ok (.new 30, 3) := by decide +kernel
theorem dX6_init_55 : decode cX6_init 55 = .ok (.dup, 1) := by decide +kernel
theorem dX6_init_56 : decode cX6_init 56 = .ok (.bipush 100, 2) := by decide +kernel
theorem dX6_init_58 : decode cX6_init 58 = .ok (.invokespecial 32, 3) := by decide +kernel
theorem dX6_init_61 : decode cX6_init 61 = .ok (.putfield 39, 3) := by decide +kernel
theorem dX6_init_64 : decode cX6_init 64 = .ok (.aload_n 0, 1) := by decide +kernel
theorem dX6_init_65 : decode cX6_init 65 = .ok (.new 42, 3) := by decide +kernel
theorem dX6_init_68 : decode cX6_init 68 = .ok (.dup, 1) := by decide +kernel
theorem dX6_init_69 : decode cX6_init 69 = .ok (.invokespecial 44, 3) := by decide +kernel
theorem dX6_init_72 : decode cX6_init 72 = .ok (.putfield 45, 3) := by decide +kernel
theorem dX6_init_75 : decode cX6_init 75 = .ok (.aload_n 0, 1) := by decide +kernel
theorem dX6_init_76 : decode cX6_init 76 = .ok (.iconst 0, 1) := by decide +kernel
theorem dX6_init_77 : decode cX6_init 77 = .ok (.putfield 49, 3) := by decide +kernel
theorem dX6_init_80 : decode cX6_init 80 = .ok (.return_, 1) := by decide +kernel
theorem dX6_feed_0 : decode cX6_feed 0 = .ok (.iload_n 3, 1) := by decide +kernel
theorem dX6_feed_1 : decode cX6_feed 1 = .ok (.invokestatic 53, 3) := by decide +kernel
theorem dX6_feed_4 : decode cX6_feed 4 = .ok (.ifCond .ne 11, 3) := by decide +kernel
theorem dX6_feed_7 : decode cX6_feed 7 = .ok (.new 57, 3) := by decide +kernel
theorem dX6_feed_10 : decode cX6_feed 10 = .ok (.dup, 1) := by decide +kernel
theorem dX6_feed_11 : decode cX6_feed 11 = .ok (.invokespecial 59, 3) := by decide +kernel
theorem dX6_feed_14 : decode cX6_feed 14 = .ok (.athrow, 1) := by decide +kernel
theorem dX6_feed_15 : decode cX6_feed 15 = .ok (.aload_n 0, 1) := by decide +kernel
theorem dX6_feed_16 : decode cX6_feed 16 = .ok (.getfield 49, 3) := by decide +kernel
theorem dX6_feed_19 : decode cX6_feed 19 = .ok (.iconst 3, 1) := by decide +kernel
theorem dX6_feed_20 : decode cX6_feed 20 = .ok (.if_icmp .ne 11, 3) := by decide +kernel
theorem dX6_feed_23 : decode cX6_feed 23 = .ok (.new 60, 3) := by decide +kernel
theorem dX6_feed_26 : decode cX6_feed 26 = .ok (.dup, 1) := by decide +kernel
theorem dX6_feed_27 : decode cX6_feed 27 = .ok (.invokespecial 62, 3) := by decide +kernel
theorem dX6_feed_30 : decode cX6_feed 30 = .ok (.athrow, 1) := by decide +kernel
theorem dX6_feed_31 : decode cX6_feed 31 = .ok (.aload_n 0, 1) := by decide +kernel
theorem dX6_feed_32 : decode cX6_feed 32 = .ok (.getfield 63, 3) := by decide +kernel
theorem dX6_feed_35 : decode cX6_feed 35 = .ok (.istore 4, 2) := by decide +kernel
theorem dX6_feed_37 : decode cX6_feed 37 = .ok (.iconst 0, 1) := by decide +kernel
theorem dX6_feed_38 : decode cX6_feed 38 = .ok (.istore 5, 2) := by decide +kernel
theorem dX6_feed_40 : decode cX6_feed 40 = .ok (.iload 5, 2) := by decide +kernel
theorem dX6_feed_42 : decode cX6_feed 42 = .ok (.iload_n 3, 1) := by decide +kernel
theorem dX6_feed_43 : decode cX6_feed 43 = .ok (.if_icmp .ge 47, 3) := by decide +kernel
theorem dX6_feed_46 : decode cX6_feed 46 = .ok (.lload_n 1, 1) := by decide +kernel
theorem dX6_feed_47 : decode cX6_feed 47 = .ok (.iload 5, 2) := by decide +kernel
theorem dX6_feed_49 : decode cX6_feed 49 = .ok (.invokestatic 66, 3) := by decide +kernel
theorem dX6_feed_52 : decode cX6_feed 52 = .ok (.istore 6, 2) := by decide +kernel
theorem dX6_feed_54 : decode cX6_feed 54 = .ok (.aload_n 0, 1) := by decide +kernel
theorem dX6_feed_55 : decode cX6_feed 55 = .ok (.getfield 49, 3) := by decide +kernel
theorem dX6_feed_58 : decode cX6_feed 58 = .ok (.ifCond .ne 12, 3) := by decide +kernel
theorem dX6_feed_61 : decode cX6_feed 61 = .ok (.aload_n 0, 1) := by decide +kernel
theorem dX6_feed_62 : decode cX6_feed 62 = .ok (.iload 6, 2) := by decide +kernel
theorem dX6_feed_64 : decode cX6_feed 64 = .ok (.invokevirtual 70, 3) := by decide +kernel
theorem dX6_feed_67 : decode cX6_feed 67 = .ok (.goto 17, 3) := by decide +kernel
theorem dX6_feed_70 : decode cX6_feed 70 = .ok (.aload_n 0, 1) := by decide +kernel
theorem dX6_feed_71 : decode cX6_feed 71 = .ok (.getfield 49, 3) := by decide +kernel
theorem dX6_feed_74 : decode cX6_feed 74 = .ok (.iconst 3, 1) := by decide +kernel
theorem dX6_feed_75 : decode cX6_feed 75 = .ok (.if_icmp .eq 9, 3) := by decide +kernel
theorem dX6_feed_78 : decode cX6_feed 78 = .ok (.aload_n 0, 1) := by decide +kernel
theorem dX6_feed_79 : decode cX6_feed 79 = .ok (.iload 6, 2) := by decide +kernel
theorem dX6_feed_81 : decode cX6_feed 81 = .ok (.invokevirtual 73, 3) := by decide +kernel
theorem dX6_feed_84 : decode cX6_feed 84 = .ok (.iinc 5 1, 3) := by decide +kernel
theorem dX6_feed_87 : decode cX6_feed 87 = .ok (.goto (-47), 3) := by decide +kernel
theorem dX6_feed_90 : decode cX6_feed 90 = .ok (.aload_n 0, 1) := by decide +kernel
theorem dX6_feed_91 : decode cX6_feed 91 = .ok (.getfield 63, 3) := by decide +kernel
theorem dX6_feed_94 : decode cX6_feed 94 = .ok (.iload 4, 2) := by decide +kernel
theorem dX6_feed_96 : decode cX6_feed 96 = .ok (.isub, 1) := by decide +kernel
theorem dX6_feed_97 : decode cX6_feed 97 = .ok (.ireturn, 1) := by decide +kernel
theorem dX6_state_0 : decode cX6_state 0 = .ok (.aload_n 0, 1) := by decide +kernel
theorem dX6_state_1 : decode cX6_state 1 = .ok (.getfield 49, 3) := by decide +kernel
theorem dX6_state_4 : decode cX6_state 4 = .ok (.ireturn, 1) := by decide +kernel
theorem dX6_endCode_0 : decode cX6_endCode 0 = .ok (.aload_n 0, 1) := by decide +kernel
theorem dX6_endCode_1 : decode cX6_endCode 1 = .ok (.getfield 76, 3) := by decide +kernel
theorem dX6_endCode_4 : decode cX6_endCode 4 = .ok (.ireturn, 1) := by decide +kernel
theorem dX6_outLength_0 : decode cX6_outLength 0 = .ok (.aload_n 0, 1) := by decide +kernel
theorem dX6_outLength_1 : decode cX6_outLength 1 = .ok (.getfield 35, 3) := by decide +kernel
theorem dX6_outLength_4 : decode cX6_outLength 4 = .ok (.invokevirtual 79, 3) := by decide +kernel
theorem dX6_outLength_7 : decode cX6_outLength 7 = .ok (.ireturn, 1) := by decide +kernel
theorem dX6_outAt_0 : decode cX6_outAt 0 = .ok (.aload_n 0, 1) := by decide +kernel
theorem dX6_outAt_1 : decode cX6_outAt 1 = .ok (.getfield 35, 3) := by decide +kernel
theorem dX6_outAt_4 : decode cX6_outAt 4 = .ok (.iload_n 1, 1) := by decide +kernel
theorem dX6_outAt_5 : decode cX6_outAt 5 = .ok (.invokevirtual 83, 3) := by decide +kernel
theorem dX6_outAt_8 : decode cX6_outAt 8 = .ok (.ifCond .ne 11, 3) := by decide +kernel
theorem dX6_outAt_11 : decode cX6_outAt 11 = .ok (.new 86, 3) := by decide +kernel
theorem dX6_outAt_14 : decode cX6_outAt 14 = .ok (.dup, 1) := by decide +kernel
theorem dX6_outAt_15 : decode cX6_outAt 15 = .ok (.invokespecial 88, 3) := by decide +kernel
theorem dX6_outAt_18 : decode cX6_outAt 18 = .ok (.athrow, 1) := by decide +kernel
theorem dX6_outAt_19 : decode cX6_outAt 19 = .ok (.aload_n 0, 1) := by decide +kernel
theorem dX6_outAt_20 : decode cX6_outAt 20 = .ok (.getfield 35, 3) := by decide +kernel
theorem dX6_outAt_23 : decode cX6_outAt 23 = .ok (.iload_n 1, 1) := by decide +kernel
theorem dX6_outAt_24 : decode cX6_outAt 24 = .ok (.invokevirtual 89, 3) := by decide +kernel
theorem dX6_outAt_27 : decode cX6_outAt 27 = .ok (.ireturn, 1) := by decide +kernel
theorem dX6_drop_0 : decode cX6_drop 0 = .ok (.aload_n 0, 1) := by decide +kernel
theorem dX6_drop_1 : decode cX6_drop 1 = .ok (.getfield 35, 3) := by decide +kernel
theorem dX6_drop_4 : decode cX6_drop 4 = .ok (.iload_n 1, 1) := by decide +kernel
theorem dX6_drop_5 : decode cX6_drop 5 = .ok (.invokevirtual 93, 3) := by decide +kernel
theorem dX6_drop_8 : decode cX6_drop 8 = .ok (.ireturn, 1) := by decide +kernel
theorem dX6_messages_0 : decode cX6_messages 0 = .ok (.aload_n 0, 1) := by decide +kernel
theorem dX6_messages_1 : decode cX6_messages 1 = .ok (.getfield 26, 3) := by decide +kernel
theorem dX6_messages_4 : decode cX6_messages 4 = .ok (.invokevirtual 96, 3) := by decide +kernel
theorem dX6_messages_7 : decode cX6_messages 7 = .ok (.ireturn, 1) := by decide +kernel
theorem dX6_delivered_0 : decode cX6_delivered 0 = .ok (.aload_n 0, 1) := by decide +kernel
theorem dX6_delivered_1 : decode cX6_delivered 1 = .ok (.getfield 63, 3) := by decide +kernel
theorem dX6_delivered_4 : decode cX6_delivered 4 = .ok (.ireturn, 1) := by decide +kernel
theorem dX6_kind_0 : decode cX6_kind 0 = .ok (.aload_n 0, 1) := by decide +kernel
theorem dX6_kind_1 : decode cX6_kind 1 = .ok (.getfield 26, 3) := by decide +kernel
theorem dX6_kind_4 : decode cX6_kind 4 = .ok (.iload_n 1, 1) := by decide +kernel
theorem dX6_kind_5 : decode cX6_kind 5 = .ok (.invokevirtual 97, 3) := by decide +kernel
theorem dX6_kind_8 : decode cX6_kind 8 = .ok (.ifCond .ne 11, 3) := by decide +kernel
theorem dX6_kind_11 : decode cX6_kind 11 = .ok (.new 98, 3) := by decide +kernel
theorem dX6_kind_14 : decode cX6_kind 14 = .ok (.dup, 1) := by decide +kernel
theorem dX6_kind_15 : decode cX6_kind 15 = .ok (.invokespecial 100, 3) := by decide +kernel
theorem dX6_kind_18 : decode cX6_kind 18 = .ok (.athrow, 1) := by decide +kernel
theorem dX6_kind_19 : decode cX6_kind 19 = .ok (.aload_n 0, 1) := by decide +kernel
theorem dX6_kind_20 : decode cX6_kind 20 = .ok (.getfield 26, 3) := by decide +kernel
theorem dX6_kind_23 : decode cX6_kind 23 = .ok (.iload_n 1, 1) := by decide +kernel
theorem dX6_kind_24 : decode cX6_kind 24 = .ok (.invokevirtual 101, 3) := by decide +kernel
theorem dX6_kind_27 : decode cX6_kind 27 = .ok (.ireturn, 1) := by decide +kernel
theorem dX6_length_0 : decode cX6_length 0 = .ok (.aload_n 0, 1) := by decide +kernel
theorem dX6_length_1 : decode cX6_length 1 = .ok (.getfield 26, 3) := by decide +kernel
theorem dX6_length_4 : decode cX6_length 4 = .ok (.iload_n 1, 1) := by decide +kernel
theorem dX6_length_5 : decode cX6_length 5 = .ok (.invokevirtual 97, 3) := by decide +kernel
theorem dX6_length_8 : decode cX6_length 8 = .ok (.ifCond .ne 11, 3) := by decide +kernel
theorem dX6_length_11 : decode cX6_length 11 = .ok (.new 98, 3) := by decide +kernel
theorem dX6_length_14 : decode cX6_length 14 = .ok (.dup, 1) := by decide +kernel
theorem dX6_length_15 : decode cX6_length 15 = .ok (.invokespecial 100, 3) := by decide +kernel
theorem dX6_length_18 : decode cX6_length 18 = .ok (.athrow, 1) := by decide +kernel
theorem dX6_length_19 : decode cX6_length 19 = .ok (.aload_n 0, 1) := by decide +kernel
theorem dX6_length_20 : decode cX6_length 20 = .ok (.getfield 26, 3) := by decide +kernel
theorem dX6_length_23 : decode cX6_length 23 = .ok (.iload_n 1, 1) := by decide +kernel
theorem dX6_length_24 : decode cX6_length 24 = .ok (.invokevirtual 104, 3) := by decide +kernel
theorem dX6_length_27 : decode cX6_length 27 = .ok (.ireturn, 1) := by decide +kernel
theorem dX6_byteAt_0 : decode cX6_byteAt 0 = .ok (.aload_n 0, 1) := by decide +kernel
theorem dX6_byteAt_1 : decode cX6_byteAt 1 = .ok (.getfield 26, 3) := by decide +kernel
theorem dX6_byteAt_4 : decode cX6_byteAt 4 = .ok (.iload_n 1, 1) := by decide +kernel
theorem dX6_byteAt_5 : decode cX6_byteAt 5 = .ok (.invokevirtual 97, 3) := by decide +kernel
theorem dX6_byteAt_8 : decode cX6_byteAt 8 = .ok (.ifCond .ne 11, 3) := by decide +kernel
theorem dX6_byteAt_11 : decode cX6_byteAt 11 = .ok (.new 98, 3) := by decide +kernel
theorem dX6_byteAt_14 : decode cX6_byteAt 14 = .ok (.dup, 1) := by decide +kernel
theorem dX6_byteAt_15 : decode cX6_byteAt 15 = .ok (.invokespecial 100, 3) := by decide +kernel
theorem dX6_byteAt_18 : decode cX6_byteAt 18 = .ok (.athrow, 1) := by decide +kernel
theorem dX6_byteAt_19 : decode cX6_byteAt 19 = .ok (.iload_n 2, 1) := by decide +kernel
theorem dX6_byteAt_20 : decode cX6_byteAt 20 = .ok (.ifCond .lt 15, 3) := by decide +kernel
theorem dX6_byteAt_23 : decode cX6_byteAt 23 = .ok (.iload_n 2, 1) := by decide +kernel
theorem dX6_byteAt_24 : decode cX6_byteAt 24 = .ok (.aload_n 0, 1) := by decide +kernel
theorem dX6_byteAt_25 : decode cX6_byteAt 25 = .ok (.getfield 26, 3) := by decide +kernel
theorem dX6_byteAt_28 : decode cX6_byteAt 28 = .ok (.iload_n 1, 1) := by decide +kernel
theorem dX6_byteAt_29 : decode cX6_byteAt 29 = .ok (.invokevirtual 104, 3) := by decide +kernel
theorem dX6_byteAt_32 : decode cX6_byteAt 32 = .ok (.if_icmp .lt 11, 3) := by decide +kernel
theorem dX6_byteAt_35 : decode cX6_byteAt 35 = .ok (.new 86, 3) := by decide +kernel
theorem dX6_byteAt_38 : decode cX6_byteAt 38 = .ok (.dup, 1) := by decide +kernel
theorem dX6_byteAt_39 : decode cX6_byteAt 39 = .ok (.invokespecial 88, 3) := by decide +kernel
theorem dX6_byteAt_42 : decode cX6_byteAt 42 = .ok (.athrow, 1) := by decide +kernel
theorem dX6_byteAt_43 : decode cX6_byteAt 43 = .ok (.aload_n 0, 1) := by decide +kernel
theorem dX6_byteAt_44 : decode cX6_byteAt 44 = .ok (.getfield 26, 3) := by decide +kernel
theorem dX6_byteAt_47 : decode cX6_byteAt 47 = .ok (.iload_n 1, 1) := by decide +kernel
theorem dX6_byteAt_48 : decode cX6_byteAt 48 = .ok (.iload_n 2, 1) := by decide +kernel
theorem dX6_byteAt_49 : decode cX6_byteAt 49 = .ok (.invokevirtual 107, 3) := by decide +kernel
theorem dX6_byteAt_52 : decode cX6_byteAt 52 = .ok (.ireturn, 1) := by decide +kernel
theorem dX6_take_0 : decode cX6_take 0 = .ok (.aload_n 0, 1) := by decide +kernel
theorem dX6_take_1 : decode cX6_take 1 = .ok (.getfield 26, 3) := by decide +kernel
theorem dX6_take_4 : decode cX6_take 4 = .ok (.iconst 0, 1) := by decide +kernel
theorem dX6_take_5 : decode cX6_take 5 = .ok (.invokevirtual 97, 3) := by decide +kernel
theorem dX6_take_8 : decode cX6_take 8 = .ok (.ifCond .ne 11, 3) := by decide +kernel
theorem dX6_take_11 : decode cX6_take 11 = .ok (.new 98, 3) := by decide +kernel
theorem dX6_take_14 : decode cX6_take 14 = .ok (.dup, 1) := by decide +kernel
theorem dX6_take_15 : decode cX6_take 15 = .ok (.invokespecial 100, 3) := by decide +kernel
theorem dX6_take_18 : decode cX6_take 18 = .ok (.athrow, 1) := by decide +kernel
theorem dX6_take_19 : decode cX6_take 19 = .ok (.aload_n 0, 1) := by decide +kernel
theorem dX6_take_20 : decode cX6_take 20 = .ok (.getfield 26, 3) := by decide +kernel
theorem dX6_take_23 : decode cX6_take 23 = .ok (.iconst 0, 1) := by decide +kernel
theorem dX6_take_24 : decode cX6_take 24 = .ok (.invokevirtual 104, 3) := by decide +kernel
theorem dX6_take_27 : decode cX6_take 27 = .ok (.istore_n 1, 1) := by decide +kernel
theorem dX6_take_28 : decode cX6_take 28 = .ok (.aload_n 0, 1) := by decide +kernel
theorem dX6_take_29 : decode cX6_take 29 = .ok (.getfield 26, 3) := by decide +kernel
theorem dX6_take_32 : decode cX6_take 32 = .ok (.invokevirtual 111, 3) := by decide +kernel
theorem dX6_take_35 : decode cX6_take 35 = .ok (.iload_n 1, 1) := by decide +kernel
theorem dX6_take_36 : decode cX6_take 36 = .ok (.ireturn, 1) := by decide +kernel
theorem dX6_pongs_0 : decode cX6_pongs 0 = .ok (.aload_n 0, 1) := by decide +kernel
theorem dX6_pongs_1 : decode cX6_pongs 1 = .ok (.getfield 114, 3) := by decide +kernel
theorem dX6_pongs_4 : decode cX6_pongs 4 = .ok (.ireturn, 1) := by decide +kernel
theorem dX6_write_0 : decode cX6_write 0 = .ok (.iload_n 3, 1) := by decide +kernel
theorem dX6_write_1 : decode cX6_write 1 = .ok (.invokestatic 53, 3) := by decide +kernel
theorem dX6_write_4 : decode cX6_write 4 = .ok (.ifCond .eq 17, 3) := by decide +kernel
theorem dX6_write_7 : decode cX6_write 7 = .ok (.aload_n 0, 1) := by decide +kernel
theorem dX6_write_8 : decode cX6_write 8 = .ok (.getfield 39, 3) := by decide +kernel
theorem dX6_write_11 : decode cX6_write 11 = .ok (.invokevirtual 79, 3) := by decide +kernel
theorem dX6_write_14 : decode cX6_write 14 = .ok (.iload_n 3, 1) := by decide +kernel
theorem dX6_write_15 : decode cX6_write 15 = .ok (.iadd, 1) := by decide +kernel
theorem dX6_write_16 : decode cX6_write 16 = .ok (.bipush 100, 2) := by decide +kernel
theorem dX6_write_18 : decode cX6_write 18 = .ok (.if_icmp .le 5, 3) := by decide +kernel
theorem dX6_write_21 : decode cX6_write 21 = .ok (.iconst 0, 1) := by decide +kernel
theorem dX6_write_22 : decode cX6_write 22 = .ok (.ireturn, 1) := by decide +kernel
theorem dX6_write_23 : decode cX6_write 23 = .ok (.iconst 0, 1) := by decide +kernel
theorem dX6_write_24 : decode cX6_write 24 = .ok (.istore 4, 2) := by decide +kernel
theorem dX6_write_26 : decode cX6_write 26 = .ok (.iload 4, 2) := by decide +kernel
theorem dX6_write_28 : decode cX6_write 28 = .ok (.iload_n 3, 1) := by decide +kernel
theorem dX6_write_29 : decode cX6_write 29 = .ok (.if_icmp .ge 22, 3) := by decide +kernel
theorem dX6_write_32 : decode cX6_write 32 = .ok (.aload_n 0, 1) := by decide +kernel
theorem dX6_write_33 : decode cX6_write 33 = .ok (.getfield 39, 3) := by decide +kernel
theorem dX6_write_36 : decode cX6_write 36 = .ok (.lload_n 1, 1) := by decide +kernel
theorem dX6_write_37 : decode cX6_write 37 = .ok (.iload 4, 2) := by decide +kernel
theorem dX6_write_39 : decode cX6_write 39 = .ok (.invokestatic 66, 3) := by decide +kernel
theorem dX6_write_42 : decode cX6_write 42 = .ok (.invokevirtual 117, 3) := by decide +kernel
theorem dX6_write_45 : decode cX6_write 45 = .ok (.iinc 4 1, 3) := by decide +kernel
theorem dX6_write_48 : decode cX6_write 48 = .ok (.goto (-22), 3) := by decide +kernel
theorem dX6_write_51 : decode cX6_write 51 = .ok (.iconst 1, 1) := by decide +kernel
theorem dX6_write_52 : decode cX6_write 52 = .ok (.ireturn, 1) := by decide +kernel
theorem dX6_clear_0 : decode cX6_clear 0 = .ok (.aload_n 0, 1) := by decide +kernel
theorem dX6_clear_1 : decode cX6_clear 1 = .ok (.getfield 39, 3) := by decide +kernel
theorem dX6_clear_4 : decode cX6_clear 4 = .ok (.invokevirtual 120, 3) := by decide +kernel
theorem dX6_clear_7 : decode cX6_clear 7 = .ok (.return_, 1) := by decide +kernel
theorem dX6_send_0 : decode cX6_send 0 = .ok (.iload_n 1, 1) := by decide +kernel
theorem dX6_send_1 : decode cX6_send 1 = .ok (.iconst 1, 1) := by decide +kernel
theorem dX6_send_2 : decode cX6_send 2 = .ok (.if_icmp .eq 8, 3) := by decide +kernel
theorem dX6_send_5 : decode cX6_send 5 = .ok (.iload_n 1, 1) := by decide +kernel
theorem dX6_send_6 : decode cX6_send 6 = .ok (.iconst 2, 1) := by decide +kernel
theorem dX6_send_7 : decode cX6_send 7 = .ok (.if_icmp .ne 13, 3) := by decide +kernel
theorem dX6_send_10 : decode cX6_send 10 = .ok (.iload_n 2, 1) := by decide +kernel
theorem dX6_send_11 : decode cX6_send 11 = .ok (.ifCond .lt 9, 3) := by decide +kernel
theorem dX6_send_14 : decode cX6_send 14 = .ok (.iload_n 2, 1) := by decide +kernel
theorem dX6_send_15 : decode cX6_send 15 = .ok (.bipush 100, 2) := by decide +kernel
theorem dX6_send_17 : decode cX6_send 17 = .ok (.if_icmp .le 11, 3) := by decide +kernel
theorem dX6_send_20 : decode cX6_send 20 = .ok (.new 57, 3) := by decide +kernel
theorem dX6_send_23 : decode cX6_send 23 = .ok (.dup, 1) := by decide +kernel
theorem dX6_send_24 : decode cX6_send 24 = .ok (.invokespecial 59, 3) := by decide +kernel
theorem dX6_send_27 : decode cX6_send 27 = .ok (.athrow, 1) := by decide +kernel
theorem dX6_send_28 : decode cX6_send 28 = .ok (.iload_n 1, 1) := by decide +kernel
theorem dX6_send_29 : decode cX6_send 29 = .ok (.iconst 1, 1) := by decide +kernel
theorem dX6_send_30 : decode cX6_send 30 = .ok (.if_icmp .ne 26, 3) := by decide +kernel
theorem dX6_send_33 : decode cX6_send 33 = .ok (.aload_n 0, 1) := by decide +kernel
theorem dX6_send_34 : decode cX6_send 34 = .ok (.getfield 45, 3) := by decide +kernel
theorem dX6_send_37 : decode cX6_send 37 = .ok (.aload_n 0, 1) := by decide +kernel
theorem dX6_send_38 : decode cX6_send 38 = .ok (.getfield 39, 3) := by decide +kernel
theorem dX6_send_41 : decode cX6_send 41 = .ok (.iconst 0, 1) := by decide +kernel
theorem dX6_send_42 : decode cX6_send 42 = .ok (.invokevirtual 123, 3) := by decide +kernel
theorem dX6_send_45 : decode cX6_send 45 = .ok (.ifCond .ne 11, 3) := by decide +kernel
theorem dX6_send_48 : decode cX6_send 48 = .ok (.new 57, 3) := by decide +kernel
theorem dX6_send_51 : decode cX6_send 51 = .ok (.dup, 1) := by decide +kernel
theorem dX6_send_52 : decode cX6_send 52 = .ok (.invokespecial 59, 3) := by decide +kernel
theorem dX6_send_55 : decode cX6_send 55 = .ok (.athrow, 1) := by decide +kernel
theorem dX6_send_56 : decode cX6_send 56 = .ok (.iload_n 2, 1) := by decide +kernel
theorem dX6_send_57 : decode cX6_send 57 = .ok (.ifCond .ne 8, 3) := by decide +kernel
theorem dX6_send_60 : decode cX6_send 60 = .ok (.bipush 100, 2) := by decide +kernel
theorem dX6_send_62 : decode cX6_send 62 = .ok (.goto 4, 3) := by decide +kernel
theorem dX6_send_65 : decode cX6_send 65 = .ok (.iload_n 2, 1) := by decide +kernel
theorem dX6_send_66 : decode cX6_send 66 = .ok (.istore_n 3, 1) := by decide +kernel
theorem dX6_send_67 : decode cX6_send 67 = .ok (.aload_n 0, 1) := by decide +kernel
theorem dX6_send_68 : decode cX6_send 68 = .ok (.getfield 39, 3) := by decide +kernel
theorem dX6_send_71 : decode cX6_send 71 = .ok (.invokevirtual 79, 3) := by decide +kernel
theorem dX6_send_74 : decode cX6_send 74 = .ok (.ifCond .ne 7, 3) := by decide +kernel
theorem dX6_send_77 : decode cX6_send 77 = .ok (.iconst 1, 1) := by decide +kernel
theorem dX6_send_78 : decode cX6_send 78 = .ok (.goto 16, 3) := by decide +kernel
theorem dX6_send_81 : decode cX6_send 81 = .ok (.aload_n 0, 1) := by decide +kernel
theorem dX6_send_82 : decode cX6_send 82 = .ok (.getfield 39, 3) := by decide +kernel
theorem dX6_send_85 : decode cX6_send 85 = .ok (.invokevirtual 79, 3) := by decide +kernel
theorem dX6_send_88 : decode cX6_send 88 = .ok (.iload_n 3, 1) := by decide +kernel
theorem dX6_send_89 : decode cX6_send 89 = .ok (.iadd, 1) := by decide +kernel
theorem dX6_send_90 : decode cX6_send 90 = .ok (.iconst 1, 1) := by decide +kernel
theorem dX6_send_91 : decode cX6_send 91 = .ok (.isub, 1) := by decide +kernel
theorem dX6_send_92 : decode cX6_send 92 = .ok (.iload_n 3, 1) := by decide +kernel
theorem dX6_send_93 : decode cX6_send 93 = .ok (.idiv, 1) := by decide +kernel
theorem dX6_send_94 : decode cX6_send 94 = .ok (.istore 4, 2) := by decide +kernel
theorem dX6_send_96 : decode cX6_send 96 = .ok (.aload_n 0, 1) := by decide +kernel
theorem dX6_send_97 : decode cX6_send 97 = .ok (.iload 4, 2) := by decide +kernel
theorem dX6_send_99 : decode cX6_send 99 = .ok (.iconst 2, 1) := by decide +kernel
theorem dX6_send_100 : decode cX6_send 100 = .ok (.imul, 1) := by decide +kernel
theorem dX6_send_101 : decode cX6_send 101 = .ok (.aload_n 0, 1) := by decide +kernel
theorem dX6_send_102 : decode cX6_send 102 = .ok (.getfield 39, 3) := by decide +kernel
theorem dX6_send_105 : decode cX6_send 105 = .ok (.invokevirtual 79, 3) := by decide +kernel
theorem dX6_send_108 : decode cX6_send 108 = .ok (.iadd, 1) := by decide +kernel
theorem dX6_send_109 : decode cX6_send 109 = .ok (.invokevirtual 127, 3) := by decide +kernel
theorem dX6_send_112 : decode cX6_send 112 = .ok (.ifCond .ne 11, 3) := by decide +kernel
theorem dX6_send_115 : decode cX6_send 115 = .ok (.new 60, 3) := by decide +kernel
theorem dX6_send_118 : decode cX6_send 118 = .ok (.dup, 1) := by decide +kernel
theorem dX6_send_119 : decode cX6_send 119 = .ok (.invokespecial 62, 3) := by decide +kernel
theorem dX6_send_122 : decode cX6_send 122 = .ok (.athrow, 1) := by decide +kernel
theorem dX6_send_123 : decode cX6_send 123 = .ok (.aload_n 0, 1) := by decide +kernel
theorem dX6_send_124 : decode cX6_send 124 = .ok (.iload_n 1, 1) := by decide +kernel
theorem dX6_send_125 : decode cX6_send 125 = .ok (.iload_n 3, 1) := by decide +kernel
theorem dX6_send_126 : decode cX6_send 126 = .ok (.iload 4, 2) := by decide +kernel
theorem dX6_send_128 : decode cX6_send 128 = .ok (.invokevirtual 130, 3) := by decide +kernel
theorem dX6_send_131 : decode cX6_send 131 = .ok (.iload 4, 2) := by decide +kernel
theorem dX6_send_133 : decode cX6_send 133 = .ok (.ireturn, 1) := by decide +kernel
theorem dX6_ping_0 : decode cX6_ping 0 = .ok (.aload_n 0, 1) := by decide +kernel
theorem dX6_ping_1 : decode cX6_ping 1 = .ok (.iconst 2, 1) := by decide +kernel
theorem dX6_ping_2 : decode cX6_ping 2 = .ok (.aload_n 0, 1) := by decide +kernel
theorem dX6_ping_3 : decode cX6_ping 3 = .ok (.getfield 39, 3) := by decide +kernel
theorem dX6_ping_6 : decode cX6_ping 6 = .ok (.invokevirtual 79, 3) := by decide +kernel
theorem dX6_ping_9 : decode cX6_ping 9 = .ok (.iadd, 1) := by decide +kernel
theorem dX6_ping_10 : decode cX6_ping 10 = .ok (.invokevirtual 127, 3) := by decide +kernel
theorem dX6_ping_13 : decode cX6_ping 13 = .ok (.ifCond .ne 11, 3) := by decide +kernel
theorem dX6_ping_16 : decode cX6_ping 16 = .ok (.new 60, 3) := by decide +kernel
theorem dX6_ping_19 : decode cX6_ping 19 = .ok (.dup, 1) := by decide +kernel
theorem dX6_ping_20 : decode cX6_ping 20 = .ok (.invokespecial 62, 3) := by decide +kernel
theorem dX6_ping_23 : decode cX6_ping 23 = .ok (.athrow, 1) := by decide +kernel
theorem dX6_ping_24 : decode cX6_ping 24 = .ok (.aload_n 0, 1) := by decide +kernel
theorem dX6_ping_25 : decode cX6_ping 25 = .ok (.sipush 137, 3) := by decide +kernel
theorem dX6_ping_28 : decode cX6_ping 28 = .ok (.aload_n 0, 1) := by decide +kernel
theorem dX6_ping_29 : decode cX6_ping 29 = .ok (.getfield 39, 3) := by decide +kernel
theorem dX6_ping_32 : decode cX6_ping 32 = .ok (.iconst 0, 1) := by decide +kernel
theorem dX6_ping_33 : decode cX6_ping 33 = .ok (.aload_n 0, 1) := by decide +kernel
theorem dX6_ping_34 : decode cX6_ping 34 = .ok (.getfield 39, 3) := by decide +kernel
theorem dX6_ping_37 : decode cX6_ping 37 = .ok (.invokevirtual 79, 3) := by decide +kernel
theorem dX6_ping_40 : decode cX6_ping 40 = .ok (.invokevirtual 134, 3) := by decide +kernel
theorem dX6_ping_43 : decode cX6_ping 43 = .ok (.return_, 1) := by decide +kernel
theorem dX6_close_0 : decode cX6_close 0 = .ok (.iload_n 1, 1) := by decide +kernel
theorem dX6_close_1 : decode cX6_close 1 = .ok (.invokestatic 138, 3) := by decide +kernel
theorem dX6_close_4 : decode cX6_close 4 = .ok (.ifCond .eq 18, 3) := by decide +kernel
theorem dX6_close_7 : decode cX6_close 7 = .ok (.aload_n 0, 1) := by decide +kernel
theorem dX6_close_8 : decode cX6_close 8 = .ok (.getfield 45, 3) := by decide +kernel
theorem dX6_close_11 : decode cX6_close 11 = .ok (.aload_n 0, 1) := by decide +kernel
theorem dX6_close_12 : decode cX6_close 12 = .ok (.getfield 39, 3) := by decide +kernel
theorem dX6_close_15 : decode cX6_close 15 = .ok (.iconst 0, 1) := by decide +kernel
theorem dX6_close_16 : decode cX6_close 16 = .ok (.invokevirtual 123, 3) := by decide +kernel
theorem dX6_close_19 : decode cX6_close 19 = .ok (.ifCond .ne 11, 3) := by decide +kernel
theorem dX6_close_22 : decode cX6_close 22 = .ok (.new 57, 3) := by decide +kernel
theorem dX6_close_25 : decode cX6_close 25 = .ok (.dup, 1) := by decide +kernel
theorem dX6_close_26 : decode cX6_close 26 = .ok (.invokespecial 59, 3) := by decide +kernel
theorem dX6_close_29 : decode cX6_close 29 = .ok (.athrow, 1) := by decide +kernel
theorem dX6_close_30 : decode cX6_close 30 = .ok (.aload_n 0, 1) := by decide +kernel
theorem dX6_close_31 : decode cX6_close 31 = .ok (.getfield 49, 3) := by decide +kernel
theorem dX6_close_34 : decode cX6_close 34 = .ok (.iconst 1, 1) := by decide +kernel
theorem dX6_close_35 : decode cX6_close 35 = .ok (.if_icmp .eq 11, 3) := by decide +kernel
theorem dX6_close_38 : decode cX6_close 38 = .ok (.new 60, 3) := by decide +kernel
theorem dX6_close_41 : decode cX6_close 41 = .ok (.dup, 1) := by decide +kernel
theorem dX6_close_42 : decode cX6_close 42 = .ok (.invokespecial 62, 3) := by decide +kernel
theorem dX6_close_45 : decode cX6_close 45 = .ok (.athrow, 1) := by decide +kernel
theorem dX6_close_46 : decode cX6_close 46 = .ok (.aload_n 0, 1) := by decide +kernel
theorem dX6_close_47 : decode cX6_close 47 = .ok (.sipush 136, 3) := by decide +kernel
theorem dX6_close_50 : decode cX6_close 50 = .ok (.iconst 2, 1) := by decide +kernel
theorem dX6_close_51 : decode cX6_close 51 = .ok (.aload_n 0, 1) := by decide +kernel
theorem dX6_close_52 : decode cX6_close 52 = .ok (.getfield 39, 3) := by decide +kernel
theorem dX6_close_55 : decode cX6_close 55 = .ok (.invokevirtual 79, 3) := by decide +kernel
theorem dX6_close_58 : decode cX6_close 58 = .ok (.iadd, 1) := by decide +kernel
theorem dX6_close_59 : decode cX6_close 59 = .ok (.invokevirtual 141, 3) := by decide +kernel
theorem dX6_close_62 : decode cX6_close 62 = .ok (.aload_n 0, 1) := by decide +kernel
theorem dX6_close_63 : decode cX6_close 63 = .ok (.iload_n 1, 1) := by decide +kernel
theorem dX6_close_64 : decode cX6_close 64 = .ok (.invokevirtual 145, 3) := by decide +kernel
theorem dX6_close_67 : decode cX6_close 67 = .ok (.aload_n 0, 1) := by decide +kernel
theorem dX6_close_68 : decode cX6_close 68 = .ok (.getfield 35, 3) := by decide +kernel
theorem dX6_close_71 : decode cX6_close 71 = .ok (.aload_n 0, 1) := by decide +kernel
theorem dX6_close_72 : decode cX6_close 72 = .ok (.getfield 39, 3) := by decide +kernel
theorem dX6_close_75 : decode cX6_close 75 = .ok (.iconst 0, 1) := by decide +kernel
theorem dX6_close_76 : decode cX6_close 76 = .ok (.aload_n 0, 1) := by decide +kernel
theorem dX6_close_77 : decode cX6_close 77 = .ok (.getfield 39, 3) := by decide +kernel
theorem dX6_close_80 : decode cX6_close 80 = .ok (.invokevirtual 79, 3) := by decide +kernel
theorem dX6_close_83 : decode cX6_close 83 = .ok (.invokevirtual 148, 3) := by decide +kernel
theorem dX6_close_86 : decode cX6_close 86 = .ok (.aload_n 0, 1) := by decide +kernel
theorem dX6_close_87 : decode cX6_close 87 = .ok (.iconst 2, 1) := by decide +kernel
theorem dX6_close_88 : decode cX6_close 88 = .ok (.putfield 49, 3) := by decide +kernel
theorem dX6_close_91 : decode cX6_close 91 = .ok (.return_, 1) := by decide +kernel
theorem dX6_isByteCount_0 : decode cX6_isByteCount 0 = .ok (.iload_n 0, 1) := by decide +kernel
theorem dX6_isByteCount_1 : decode cX6_isByteCount 1 = .ok (.iconst 1, 1) := by decide +kernel
theorem dX6_isByteCount_2 : decode cX6_isByteCount 2 = .ok (.if_icmp .lt 13, 3) := by decide +kernel
theorem dX6_isByteCount_5 : decode cX6_isByteCount 5 = .ok (.iload_n 0, 1) := by decide +kernel
theorem dX6_isByteCount_6 : decode cX6_isByteCount 6 = .ok (.bipush 8, 2) := by decide +kernel
theorem dX6_isByteCount_8 : decode cX6_isByteCount 8 = .ok (.if_icmp .gt 7, 3) := by decide +kernel
theorem dX6_isByteCount_11 : decode cX6_isByteCount 11 = .ok (.iconst 1, 1) := by decide +kernel
theorem dX6_isByteCount_12 : decode cX6_isByteCount 12 = .ok (.goto 4, 3) := by decide +kernel
theorem dX6_isByteCount_15 : decode cX6_isByteCount 15 = .ok (.iconst 0, 1) := by decide +kernel
theorem dX6_isByteCount_16 : decode cX6_isByteCount 16 = .ok (.ireturn, 1) := by decide +kernel
theorem dX6_byteOf_0 : decode cX6_byteOf 0 = .ok (.lload_n 0, 1) := by decide +kernel
theorem dX6_byteOf_1 : decode cX6_byteOf 1 = .ok (.bipush 8, 2) := by decide +kernel
theorem dX6_byteOf_3 : decode cX6_byteOf 3 = .ok (.iload_n 2, 1) := by decide +kernel
theorem dX6_byteOf_4 : decode cX6_byteOf 4 = .ok (.imul, 1) := by decide +kernel
theorem dX6_byteOf_5 : decode cX6_byteOf 5 = .ok (.lushr, 1) := by decide +kernel
theorem dX6_byteOf_6 : decode cX6_byteOf 6 = .ok (.l2i, 1) := by decide +kernel
theorem dX6_byteOf_7 : decode cX6_byteOf 7 = .ok (.sipush 255, 3) := by decide +kernel
theorem dX6_byteOf_10 : decode cX6_byteOf 10 = .ok (.iand, 1) := by decide +kernel
theorem dX6_byteOf_11 : decode cX6_byteOf 11 = .ok (.ireturn, 1) := by decide +kernel
theorem dX6_mayStandInClose_0 : decode cX6_mayStandInClose 0 = .ok (.iload_n 0, 1) := by decide +kernel
theorem dX6_mayStandInClose_1 : decode cX6_mayStandInClose 1 = .ok (.sipush 1000, 3) := by decide +kernel
theorem dX6_mayStandInClose_4 : decode cX6_mayStandInClose 4 = .ok (.if_icmp .lt 10, 3) := by decide +kernel
theorem dX6_mayStandInClose_7 : decode cX6_mayStandInClose 7 = .ok (.iload_n 0, 1) := by decide +kernel
theorem dX6_mayStandInClose_8 : decode cX6_mayStandInClose 8 = .ok (.sipush 1003, 3) := by decide +kernel
theorem dX6_mayStandInClose_11 : decode cX6_mayStandInClose 11 = .ok (.if_icmp .le 31, 3) := by decide +kernel
theorem dX6_mayStandInClose_14 : decode cX6_mayStandInClose 14 = .ok (.iload_n 0, 1) := by decide +kernel
theorem dX6_mayStandInClose_15 : decode cX6_mayStandInClose 15 = .ok (.sipush 1007, 3) := by decide +kernel
theorem dX6_mayStandInClose_18 : decode cX6_mayStandInClose 18 = .ok (.if_icmp .lt 10, 3) := by decide +kernel
theorem dX6_mayStandInClose_21 : decode cX6_mayStandInClose 21 = .ok (.iload_n 0, 1) := by decide +kernel
theorem dX6_mayStandInClose_22 : decode cX6_mayStandInClose 22 = .ok (.sipush 1011, 3) := by decide +kernel
theorem dX6_mayStandInClose_25 : decode cX6_mayStandInClose 25 = .ok (.if_icmp .le 17, 3) := by decide +kernel
theorem dX6_mayStandInClose_28 : decode cX6_mayStandInClose 28 = .ok (.iload_n 0, 1) := by decide +kernel
theorem dX6_mayStandInClose_29 : decode cX6_mayStandInClose 29 = .ok (.sipush 3000, 3) := by decide +kernel
theorem dX6_mayStandInClose_32 : decode cX6_mayStandInClose 32 = .ok (.if_icmp .lt 14, 3) := by decide +kernel
theorem dX6_mayStandInClose_35 : decode cX6_mayStandInClose 35 = .ok (.iload_n 0, 1) := by decide +kernel
theorem dX6_mayStandInClose_36 : decode cX6_mayStandInClose 36 = .ok (.sipush 4999, 3) := by decide +kernel
theorem dX6_mayStandInClose_39 : decode cX6_mayStandInClose 39 = .ok (.if_icmp .gt 7, 3) := by decide +kernel
theorem dX6_mayStandInClose_42 : decode cX6_mayStandInClose 42 = .ok (.iconst 1, 1) := by decide +kernel
theorem dX6_mayStandInClose_43 : decode cX6_mayStandInClose 43 = .ok (.goto 4, 3) := by decide +kernel
theorem dX6_mayStandInClose_46 : decode cX6_mayStandInClose 46 = .ok (.iconst 0, 1) := by decide +kernel
theorem dX6_mayStandInClose_47 : decode cX6_mayStandInClose 47 = .ok (.ireturn, 1) := by decide +kernel
theorem dX6_hearRequest_0 : decode cX6_hearRequest 0 = .ok (.aload_n 0, 1) := by decide +kernel
theorem dX6_hearRequest_1 : decode cX6_hearRequest 1 = .ok (.getfield 12, 3) := by decide +kernel
theorem dX6_hearRequest_4 : decode cX6_hearRequest 4 = .ok (.iload_n 1, 1) := by decide +kernel
theorem dX6_hearRequest_5 : decode cX6_hearRequest 5 = .ok (.invokevirtual 152, 3) := by decide +kernel
theorem dX6_hearRequest_8 : decode cX6_hearRequest 8 = .ok (.aload_n 0, 1) := by decide +kernel
theorem dX6_hearRequest_9 : decode cX6_hearRequest 9 = .ok (.getfield 12, 3) := by decide +kernel
theorem dX6_hearRequest_12 : decode cX6_hearRequest 12 = .ok (.invokevirtual 155, 3) := by decide +kernel
theorem dX6_hearRequest_15 : decode cX6_hearRequest 15 = .ok (.ifCond .eq 17, 3) := by decide +kernel
theorem dX6_hearRequest_18 : decode cX6_hearRequest 18 = .ok (.aload_n 0, 1) := by decide +kernel
theorem dX6_hearRequest_19 : decode cX6_hearRequest 19 = .ok (.aload_n 0, 1) := by decide +kernel
theorem dX6_hearRequest_20 : decode cX6_hearRequest 20 = .ok (.getfield 12, 3) := by decide +kernel
theorem dX6_hearRequest_23 : decode cX6_hearRequest 23 = .ok (.invokevirtual 159, 3) := by decide +kernel
theorem dX6_hearRequest_26 : decode cX6_hearRequest 26 = .ok (.invokevirtual 162, 3) := by decide +kernel
theorem dX6_hearRequest_29 : decode cX6_hearRequest 29 = .ok (.goto 18, 3) := by decide +kernel
theorem dX6_hearRequest_32 : decode cX6_hearRequest 32 = .ok (.aload_n 0, 1) := by decide +kernel
theorem dX6_hearRequest_33 : decode cX6_hearRequest 33 = .ok (.getfield 12, 3) := by decide +kernel
theorem dX6_hearRequest_36 : decode cX6_hearRequest 36 = .ok (.invokevirtual 165, 3) := by decide +kernel
theorem dX6_hearRequest_39 : decode cX6_hearRequest 39 = .ok (.ifCond .eq 8, 3) := by decide +kernel
theorem dX6_hearRequest_42 : decode cX6_hearRequest 42 = .ok (.aload_n 0, 1) := by decide +kernel
theorem dX6_hearRequest_43 : decode cX6_hearRequest 43 = .ok (.iconst 0, 1) := by decide +kernel
theorem dX6_hearRequest_44 : decode cX6_hearRequest 44 = .ok (.invokevirtual 162, 3) := by decide +kernel
theorem dX6_hearRequest_47 : decode cX6_hearRequest 47 = .ok (.return_, 1) := by decide +kernel
theorem dX6_answerRequest_0 : decode cX6_answerRequest 0 = .ok (.iload_n 1, 1) := by decide +kernel
theorem dX6_answerRequest_1 : decode cX6_answerRequest 1 = .ok (.iconst 2, 1) := by decide +kernel
theorem dX6_answerRequest_2 : decode cX6_answerRequest 2 = .ok (.if_icmp .ne 49, 3) := by decide +kernel
theorem dX6_answerRequest_5 : decode cX6_answerRequest 5 = .ok (.aload_n 0, 1) := by decide +kernel
theorem dX6_answerRequest_6 : decode cX6_answerRequest 6 = .ok (.getfield 35, 3) := by decide +kernel
theorem dX6_answerRequest_9 : decode cX6_answerRequest 9 = .ok (.ldc 168, 2) := by decide +kernel
theorem dX6_answerRequest_11 : decode cX6_answerRequest 11 = .ok (.invokevirtual 170, 3) := by decide +kernel
theorem dX6_answerRequest_14 : decode cX6_answerRequest 14 = .ok (.new 174, 3) := by decide +kernel
theorem dX6_answerRequest_17 : decode cX6_answerRequest 17 = .ok (.dup, 1) := by decide +kernel
theorem dX6_answerRequest_18 : decode cX6_answerRequest 18 = .ok (.invokespecial 176, 3) := by decide +kernel
theorem dX6_answerRequest_21 : decode cX6_answerRequest 21 = .ok (.astore_n 2, 1) := by decide +kernel
theorem dX6_answerRequest_22 : decode cX6_answerRequest 22 = .ok (.aload_n 2, 1) := by decide +kernel
theorem dX6_answerRequest_23 : decode cX6_answerRequest 23 = .ok (.aload_n 0, 1) := by decide +kernel
theorem dX6_answerRequest_24 : decode cX6_answerRequest 24 = .ok (.getfield 35, 3) := by decide +kernel
theorem dX6_answerRequest_27 : decode cX6_answerRequest 27 = .ok (.aload_n 0, 1) := by decide +kernel
theorem dX6_answerRequest_28 : decode cX6_answerRequest 28 = .ok (.getfield 12, 3) := by decide +kernel
theorem dX6_answerRequest_31 : decode cX6_answerRequest 31 = .ok (.invokevirtual 177, 3) := by decide +kernel
theorem dX6_answerRequest_34 : decode cX6_answerRequest 34 = .ok (.aload_n 0, 1) := by decide +kernel
theorem dX6_answerRequest_35 : decode cX6_answerRequest 35 = .ok (.getfield 35, 3) := by decide +kernel
theorem dX6_answerRequest_38 : decode cX6_answerRequest 38 = .ok (.ldc 181, 2) := by decide +kernel
theorem dX6_answerRequest_40 : decode cX6_answerRequest 40 = .ok (.invokevirtual 170, 3) := by decide +kernel
theorem dX6_answerRequest_43 : decode cX6_answerRequest 43 = .ok (.aload_n 0, 1) := by decide +kernel
theorem dX6_answerRequest_44 : decode cX6_answerRequest 44 = .ok (.iconst 1, 1) := by decide +kernel
theorem dX6_answerRequest_45 : decode cX6_answerRequest 45 = .ok (.putfield 49, 3) := by decide +kernel
theorem dX6_answerRequest_48 : decode cX6_answerRequest 48 = .ok (.goto 27, 3) := by decide +kernel
theorem dX6_answerRequest_51 : decode cX6_answerRequest 51 = .ok (.aload_n 0, 1) := by decide +kernel
theorem dX6_answerRequest_52 : decode cX6_answerRequest 52 = .ok (.getfield 35, 3) := by decide +kernel
theorem dX6_answerRequest_55 : decode cX6_answerRequest 55 = .ok (.iload_n 1, 1) := by decide +kernel
theorem dX6_answerRequest_56 : decode cX6_answerRequest 56 = .ok (.iconst 1, 1) := by decide +kernel
theorem dX6_answerRequest_57 : decode cX6_answerRequest 57 = .ok (.if_icmp .ne 8, 3) := by decide +kernel
theorem dX6_answerRequest_60 : decode cX6_answerRequest 60 = .ok (.ldc 183, 2) := by decide +kernel
theorem dX6_answerRequest_62 : decode cX6_answerRequest 62 = .ok (.goto 5, 3) := by decide +kernel
theorem dX6_answerRequest_65 : decode cX6_answerRequest 65 = .ok (.ldc 185, 2) := by decide +kernel
theorem dX6_answerRequest_67 : decode cX6_answerRequest 67 = .ok (.invokevirtual 170, 3) := by decide +kernel
theorem dX6_answerRequest_70 : decode cX6_answerRequest 70 = .ok (.aload_n 0, 1) := by decide +kernel
theorem dX6_answerRequest_71 : decode cX6_answerRequest 71 = .ok (.iconst 3, 1) := by decide +kernel
theorem dX6_answerRequest_72 : decode cX6_answerRequest 72 = .ok (.putfield 49, 3) := by decide +kernel
theorem dX6_answerRequest_75 : decode cX6_answerRequest 75 = .ok (.return_, 1) := by decide +kernel
theorem dX6_hearFrame_0 : decode cX6_hearFrame 0 = .ok (.aload_n 0, 1) := by decide +kernel
theorem dX6_hearFrame_1 : decode cX6_hearFrame 1 = .ok (.getfield 19, 3) := by decide +kernel
theorem dX6_hearFrame_4 : decode cX6_hearFrame 4 = .ok (.iload_n 1, 1) := by decide +kernel
theorem dX6_hearFrame_5 : decode cX6_hearFrame 5 = .ok (.invokevirtual 187, 3) := by decide +kernel
theorem dX6_hearFrame_8 : decode cX6_hearFrame 8 = .ok (.istore_n 2, 1) := by decide +kernel
theorem dX6_hearFrame_9 : decode cX6_hearFrame 9 = .ok (.iload_n 2, 1) := by decide +kernel
theorem dX6_hearFrame_10 : decode cX6_hearFrame 10 = .ok (.iconst 1, 1) := by decide +kernel
theorem dX6_hearFrame_11 : decode cX6_hearFrame 11 = .ok (.if_icmp .ne 10, 3) := by decide +kernel
theorem dX6_hearFrame_14 : decode cX6_hearFrame 14 = .ok (.aload_n 0, 1) := by decide +kernel
theorem dX6_hearFrame_15 : decode cX6_hearFrame 15 = .ok (.invokevirtual 190, 3) := by decide +kernel
theorem dX6_hearFrame_18 : decode cX6_hearFrame 18 = .ok (.goto 12, 3) := by decide +kernel
theorem dX6_hearFrame_21 : decode cX6_hearFrame 21 = .ok (.iload_n 2, 1) := by decide +kernel
theorem dX6_hearFrame_22 : decode cX6_hearFrame 22 = .ok (.ifCond .eq 8, 3) := by decide +kernel
theorem dX6_hearFrame_25 : decode cX6_hearFrame 25 = .ok (.aload_n 0, 1) := by decide +kernel
theorem dX6_hearFrame_26 : decode cX6_hearFrame 26 = .ok (.iload_n 2, 1) := by decide +kernel
theorem dX6_hearFrame_27 : decode cX6_hearFrame 27 = .ok (.invokevirtual 193, 3) := by decide +kernel
theorem dX6_hearFrame_30 : decode cX6_hearFrame 30 = .ok (.return_, 1) := by decide +kernel
theorem dX6_violate_0 : decode cX6_violate 0 = .ok (.aload_n 0, 1) := by decide +kernel
theorem dX6_violate_1 : decode cX6_violate 1 = .ok (.getfield 49, 3) := by decide +kernel
theorem dX6_violate_4 : decode cX6_violate 4 = .ok (.iconst 1, 1) := by decide +kernel
theorem dX6_violate_5 : decode cX6_violate 5 = .ok (.if_icmp .ne 16, 3) := by decide +kernel
theorem dX6_violate_8 : decode cX6_violate 8 = .ok (.aload_n 0, 1) := by decide +kernel
theorem dX6_violate_9 : decode cX6_violate 9 = .ok (.sipush 136, 3) := by decide +kernel
theorem dX6_violate_12 : decode cX6_violate 12 = .ok (.iconst 2, 1) := by decide +kernel
theorem dX6_violate_13 : decode cX6_violate 13 = .ok (.invokevirtual 141, 3) := by decide +kernel
theorem dX6_violate_16 : decode cX6_violate 16 = .ok (.aload_n 0, 1) := by decide +kernel
theorem dX6_violate_17 : decode cX6_violate 17 = .ok (.iload_n 1, 1) := by decide +kernel
theorem dX6_violate_18 : decode cX6_violate 18 = .ok (.invokevirtual 145, 3) := by decide +kernel
theorem dX6_violate_21 : decode cX6_violate 21 = .ok (.aload_n 0, 1) := by decide +kernel
theorem dX6_violate_22 : decode cX6_violate 22 = .ok (.iload_n 1, 1) := by decide +kernel
theorem dX6_violate_23 : decode cX6_violate 23 = .ok (.invokevirtual 196, 3) := by decide +kernel
theorem dX6_violate_26 : decode cX6_violate 26 = .ok (.return_, 1) := by decide +kernel
theorem dX6_endWith_0 : decode cX6_endWith 0 = .ok (.aload_n 0, 1) := by decide +kernel
theorem dX6_endWith_1 : decode cX6_endWith 1 = .ok (.iload_n 1, 1) := by decide +kernel
theorem dX6_endWith_2 : decode cX6_endWith 2 = .ok (.putfield 76, 3) := by decide +kernel
theorem dX6_endWith_5 : decode cX6_endWith 5 = .ok (.aload_n 0, 1) := by decide +kernel
theorem dX6_endWith_6 : decode cX6_endWith 6 = .ok (.iconst 3, 1) := by decide +kernel
theorem dX6_endWith_7 : decode cX6_endWith 7 = .ok (.putfield 49, 3) := by decide +kernel
theorem dX6_endWith_10 : decode cX6_endWith 10 = .ok (.return_, 1) := by decide +kernel
theorem dX6_finishFrame_0 : decode cX6_finishFrame 0 = .ok (.aload_n 0, 1) := by decide +kernel
theorem dX6_finishFrame_1 : decode cX6_finishFrame 1 = .ok (.getfield 19, 3) := by decide +kernel
theorem dX6_finishFrame_4 : decode cX6_finishFrame 4 = .ok (.invokevirtual 199, 3) := by decide +kernel
theorem dX6_finishFrame_7 : decode cX6_finishFrame 7 = .ok (.tableswitch 66 8 10 #[25, 39, 53], 25) := by decide +kernel
theorem dX6_finishFrame_32 : decode cX6_finishFrame 32 = .ok (.aload_n 0, 1) := by decide +kernel
theorem dX6_finishFrame_33 : decode cX6_finishFrame 33 = .ok (.aload_n 0, 1) := by decide +kernel
theorem dX6_finishFrame_34 : decode cX6_finishFrame 34 = .ok (.getfield 19, 3) := by decide +kernel
theorem dX6_finishFrame_37 : decode cX6_finishFrame 37 = .ok (.invokevirtual 202, 3) := by decide +kernel
theorem dX6_finishFrame_40 : decode cX6_finishFrame 40 = .ok (.invokevirtual 206, 3) := by decide +kernel
theorem dX6_finishFrame_43 : decode cX6_finishFrame 43 = .ok (.goto 71, 3) := by decide +kernel
theorem dX6_finishFrame_46 : decode cX6_finishFrame 46 = .ok (.aload_n 0, 1) := by decide +kernel
theorem dX6_finishFrame_47 : decode cX6_finishFrame 47 = .ok (.aload_n 0, 1) := by decide +kernel
theorem dX6_finishFrame_48 : decode cX6_finishFrame 48 = .ok (.getfield 19, 3) := by decide +kernel
theorem dX6_finishFrame_51 : decode cX6_finishFrame 51 = .ok (.invokevirtual 202, 3) := by decide +kernel
theorem dX6_finishFrame_54 : decode cX6_finishFrame 54 = .ok (.invokevirtual 210, 3) := by decide +kernel
theorem dX6_finishFrame_57 : decode cX6_finishFrame 57 = .ok (.goto 57, 3) := by decide +kernel
theorem dX6_finishFrame_60 : decode cX6_finishFrame 60 = .ok (.aload_n 0, 1) := by decide +kernel
theorem dX6_finishFrame_61 : decode cX6_finishFrame 61 = .ok (.dup, 1) := by decide +kernel
theorem dX6_finishFrame_62 : decode cX6_finishFrame 62 = .ok (.getfield 114, 3) := by decide +kernel
theorem dX6_finishFrame_65 : decode cX6_finishFrame 65 = .ok (.iconst 1, 1) := by decide +kernel
theorem dX6_finishFrame_66 : decode cX6_finishFrame 66 = .ok (.iadd, 1) := by decide +kernel
theorem dX6_finishFrame_67 : decode cX6_finishFrame 67 = .ok (.putfield 114, 3) := by decide +kernel
theorem dX6_finishFrame_70 : decode cX6_finishFrame 70 = .ok (.goto 44, 3) := by decide +kernel
theorem dX6_finishFrame_73 : decode cX6_finishFrame 73 = .ok (.aload_n 0, 1) := by decide +kernel
theorem dX6_finishFrame_74 : decode cX6_finishFrame 74 = .ok (.getfield 19, 3) := by decide +kernel
theorem dX6_finishFrame_77 : decode cX6_finishFrame 77 = .ok (.invokevirtual 213, 3) := by decide +kernel
theorem dX6_finishFrame_80 : decode cX6_finishFrame 80 = .ok (.ifCond .eq 34, 3) := by decide +kernel
theorem dX6_finishFrame_83 : decode cX6_finishFrame 83 = .ok (.aload_n 0, 1) := by decide +kernel
theorem dX6_finishFrame_84 : decode cX6_finishFrame 84 = .ok (.dup, 1) := by decide +kernel
theorem dX6_finishFrame_85 : decode cX6_finishFrame 85 = .ok (.getfield 63, 3) := by decide +kernel
theorem dX6_finishFrame_88 : decode cX6_finishFrame 88 = .ok (.iconst 1, 1) := by decide +kernel
theorem dX6_finishFrame_89 : decode cX6_finishFrame 89 = .ok (.iadd, 1) := by decide +kernel
theorem dX6_finishFrame_90 : decode cX6_finishFrame 90 = .ok (.putfield 63, 3) := by decide +kernel
theorem dX6_finishFrame_93 : decode cX6_finishFrame 93 = .ok (.aload_n 0, 1) := by decide +kernel
theorem dX6_finishFrame_94 : decode cX6_finishFrame 94 = .ok (.getfield 26, 3) := by decide +kernel
theorem dX6_finishFrame_97 : decode cX6_finishFrame 97 = .ok (.aload_n 0, 1) := by decide +kernel
theorem dX6_finishFrame_98 : decode cX6_finishFrame 98 = .ok (.getfield 19, 3) := by decide +kernel
theorem dX6_finishFrame_101 : decode cX6_finishFrame 101 = .ok (.invokevirtual 216, 3) := by decide +kernel
theorem dX6_finishFrame_104 : decode cX6_finishFrame 104 = .ok (.aload_n 0, 1) := by decide +kernel
theorem dX6_finishFrame_105 : decode cX6_finishFrame 105 = .ok (.getfield 19, 3) := by decide +kernel
theorem dX6_finishFrame_108 : decode cX6_finishFrame 108 = .ok (.invokevirtual 219, 3) := by decide +kernel
theorem dX6_finishFrame_111 : decode cX6_finishFrame 111 = .ok (.invokevirtual 222, 3) := by decide +kernel
theorem dX6_finishFrame_114 : decode cX6_finishFrame 114 = .ok (.return_, 1) := by decide +kernel
theorem dX6_hearClose_0 : decode cX6_hearClose 0 = .ok (.aload_n 1, 1) := by decide +kernel
theorem dX6_hearClose_1 : decode cX6_hearClose 1 = .ok (.invokevirtual 79, 3) := by decide +kernel
theorem dX6_hearClose_4 : decode cX6_hearClose 4 = .ok (.iconst 2, 1) := by decide +kernel
theorem dX6_hearClose_5 : decode cX6_hearClose 5 = .ok (.if_icmp .lt 7, 3) := by decide +kernel
theorem dX6_hearClose_8 : decode cX6_hearClose 8 = .ok (.iconst 1, 1) := by decide +kernel
theorem dX6_hearClose_9 : decode cX6_hearClose 9 = .ok (.goto 4, 3) := by decide +kernel
theorem dX6_hearClose_12 : decode cX6_hearClose 12 = .ok (.iconst 0, 1) := by decide +kernel
theorem dX6_hearClose_13 : decode cX6_hearClose 13 = .ok (.istore_n 2, 1) := by decide +kernel
theorem dX6_hearClose_14 : decode cX6_hearClose 14 = .ok (.aload_n 0, 1) := by decide +kernel
theorem dX6_hearClose_15 : decode cX6_hearClose 15 = .ok (.getfield 49, 3) := by decide +kernel
theorem dX6_hearClose_18 : decode cX6_hearClose 18 = .ok (.iconst 1, 1) := by decide +kernel
theorem dX6_hearClose_19 : decode cX6_hearClose 19 = .ok (.if_icmp .ne 21, 3) := by decide +kernel
theorem dX6_hearClose_22 : decode cX6_hearClose 22 = .ok (.aload_n 0, 1) := by decide +kernel
theorem dX6_hearClose_23 : decode cX6_hearClose 23 = .ok (.sipush 136, 3) := by decide +kernel
theorem dX6_hearClose_26 : decode cX6_hearClose 26 = .ok (.aload_n 1, 1) := by decide +kernel
theorem dX6_hearClose_27 : decode cX6_hearClose 27 = .ok (.iconst 0, 1) := by decide +kernel
theorem dX6_hearClose_28 : decode cX6_hearClose 28 = .ok (.iload_n 2, 1) := by decide +kernel
theorem dX6_hearClose_29 : decode cX6_hearClose 29 = .ok (.ifCond .eq 7, 3) := by decide +kernel
theorem dX6_hearClose_32 : decode cX6_hearClose 32 = .ok (.iconst 2, 1) := by decide +kernel
theorem dX6_hearClose_33 : decode cX6_hearClose 33 = .ok (.goto 4, 3) := by decide +kernel
theorem dX6_hearClose_36 : decode cX6_hearClose 36 = .ok (.iconst 0, 1) := by decide +kernel
theorem dX6_hearClose_37 : decode cX6_hearClose 37 = .ok (.invokevirtual 134, 3) := by decide +kernel
theorem dX6_hearClose_40 : decode cX6_hearClose 40 = .ok (.aload_n 0, 1) := by decide +kernel
theorem dX6_hearClose_41 : decode cX6_hearClose 41 = .ok (.iload_n 2, 1) := by decide +kernel
theorem dX6_hearClose_42 : decode cX6_hearClose 42 = .ok (.ifCond .eq 10, 3) := by decide +kernel
theorem dX6_hearClose_45 : decode cX6_hearClose 45 = .ok (.aload_n 1, 1) := by decide +kernel
theorem dX6_hearClose_46 : decode cX6_hearClose 46 = .ok (.invokevirtual 226, 3) := by decide +kernel
theorem dX6_hearClose_49 : decode cX6_hearClose 49 = .ok (.goto 6, 3) := by decide +kernel
theorem dX6_hearClose_52 : decode cX6_hearClose 52 = .ok (.sipush 1005, 3) := by decide +kernel
theorem dX6_hearClose_55 : decode cX6_hearClose 55 = .ok (.invokevirtual 196, 3) := by decide +kernel
theorem dX6_hearClose_58 : decode cX6_hearClose 58 = .ok (.return_, 1) := by decide +kernel
theorem dX6_hearPing_0 : decode cX6_hearPing 0 = .ok (.aload_n 0, 1) := by decide +kernel
theorem dX6_hearPing_1 : decode cX6_hearPing 1 = .ok (.getfield 49, 3) := by decide +kernel
theorem dX6_hearPing_4 : decode cX6_hearPing 4 = .ok (.iconst 1, 1) := by decide +kernel
theorem dX6_hearPing_5 : decode cX6_hearPing 5 = .ok (.if_icmp .ne 36, 3) := by decide +kernel
theorem dX6_hearPing_8 : decode cX6_hearPing 8 = .ok (.aload_n 0, 1) := by decide +kernel
theorem dX6_hearPing_9 : decode cX6_hearPing 9 = .ok (.getfield 35, 3) := by decide +kernel
theorem dX6_hearPing_12 : decode cX6_hearPing 12 = .ok (.invokevirtual 79, 3) := by decide +kernel
theorem dX6_hearPing_15 : decode cX6_hearPing 15 = .ok (.iconst 2, 1) := by decide +kernel
theorem dX6_hearPing_16 : decode cX6_hearPing 16 = .ok (.iadd, 1) := by decide +kernel
theorem dX6_hearPing_17 : decode cX6_hearPing 17 = .ok (.aload_n 1, 1) := by decide +kernel
theorem dX6_hearPing_18 : decode cX6_hearPing 18 = .ok (.invokevirtual 79, 3) := by decide +kernel
theorem dX6_hearPing_21 : decode cX6_hearPing 21 = .ok (.iadd, 1) := by decide +kernel
theorem dX6_hearPing_22 : decode cX6_hearPing 22 = .ok (.sipush 470, 3) := by decide +kernel
theorem dX6_hearPing_25 : decode cX6_hearPing 25 = .ok (.if_icmp .gt 16, 3) := by decide +kernel
theorem dX6_hearPing_28 : decode cX6_hearPing 28 = .ok (.aload_n 0, 1) := by decide +kernel
theorem dX6_hearPing_29 : decode cX6_hearPing 29 = .ok (.sipush 138, 3) := by decide +kernel
theorem dX6_hearPing_32 : decode cX6_hearPing 32 = .ok (.aload_n 1, 1) := by decide +kernel
theorem dX6_hearPing_33 : decode cX6_hearPing 33 = .ok (.iconst 0, 1) := by decide +kernel
theorem dX6_hearPing_34 : decode cX6_hearPing 34 = .ok (.aload_n 1, 1) := by decide +kernel
theorem dX6_hearPing_35 : decode cX6_hearPing 35 = .ok (.invokevirtual 79, 3) := by decide +kernel
theorem dX6_hearPing_38 : decode cX6_hearPing 38 = .ok (.invokevirtual 134, 3) := by decide +kernel
theorem dX6_hearPing_41 : decode cX6_hearPing 41 = .ok (.return_, 1) := by decide +kernel
theorem dX6_maySay_0 : decode cX6_maySay 0 = .ok (.aload_n 0, 1) := by decide +kernel
theorem dX6_maySay_1 : decode cX6_maySay 1 = .ok (.getfield 49, 3) := by decide +kernel
theorem dX6_maySay_4 : decode cX6_maySay 4 = .ok (.iconst 1, 1) := by decide +kernel
theorem dX6_maySay_5 : decode cX6_maySay 5 = .ok (.if_icmp .ne 22, 3) := by decide +kernel
theorem dX6_maySay_8 : decode cX6_maySay 8 = .ok (.aload_n 0, 1) := by decide +kernel
theorem dX6_maySay_9 : decode cX6_maySay 9 = .ok (.getfield 35, 3) := by decide +kernel
theorem dX6_maySay_12 : decode cX6_maySay 12 = .ok (.invokevirtual 79, 3) := by decide +kernel
theorem dX6_maySay_15 : decode cX6_maySay 15 = .ok (.iload_n 1, 1) := by decide +kernel
theorem dX6_maySay_16 : decode cX6_maySay 16 = .ok (.iadd, 1) := by decide +kernel
theorem dX6_maySay_17 : decode cX6_maySay 17 = .ok (.sipush 400, 3) := by decide +kernel
theorem dX6_maySay_20 : decode cX6_maySay 20 = .ok (.if_icmp .gt 7, 3) := by decide +kernel
theorem dX6_maySay_23 : decode cX6_maySay 23 = .ok (.iconst 1, 1) := by decide +kernel
theorem dX6_maySay_24 : decode cX6_maySay 24 = .ok (.goto 4, 3) := by decide +kernel
theorem dX6_maySay_27 : decode cX6_maySay 27 = .ok (.iconst 0, 1) := by decide +kernel
theorem dX6_maySay_28 : decode cX6_maySay 28 = .ok (.ireturn, 1) := by decide +kernel
theorem dX6_sayPieces_0 : decode cX6_sayPieces 0 = .ok (.iconst 0, 1) := by decide +kernel
theorem dX6_sayPieces_1 : decode cX6_sayPieces 1 = .ok (.istore 4, 2) := by decide +kernel
theorem dX6_sayPieces_3 : decode cX6_sayPieces 3 = .ok (.iload 4, 2) := by decide +kernel
theorem dX6_sayPieces_5 : decode cX6_sayPieces 5 = .ok (.iload_n 3, 1) := by decide +kernel
theorem dX6_sayPieces_6 : decode cX6_sayPieces 6 = .ok (.if_icmp .ge 73, 3) := by decide +kernel
theorem dX6_sayPieces_9 : decode cX6_sayPieces 9 = .ok (.iload 4, 2) := by decide +kernel
theorem dX6_sayPieces_11 : decode cX6_sayPieces 11 = .ok (.iload_n 2, 1) := by decide +kernel
theorem dX6_sayPieces_12 : decode cX6_sayPieces 12 = .ok (.imul, 1) := by decide +kernel
theorem dX6_sayPieces_13 : decode cX6_sayPieces 13 = .ok (.istore 5, 2) := by decide +kernel
theorem dX6_sayPieces_15 : decode cX6_sayPieces 15 = .ok (.iload 5, 2) := by decide +kernel
theorem dX6_sayPieces_17 : decode cX6_sayPieces 17 = .ok (.iload_n 2, 1) := by decide +kernel
theorem dX6_sayPieces_18 : decode cX6_sayPieces 18 = .ok (.iadd, 1) := by decide +kernel
theorem dX6_sayPieces_19 : decode cX6_sayPieces 19 = .ok (.aload_n 0, 1) := by decide +kernel
theorem dX6_sayPieces_20 : decode cX6_sayPieces 20 = .ok (.getfield 39, 3) := by decide +kernel
theorem dX6_sayPieces_23 : decode cX6_sayPieces 23 = .ok (.invokevirtual 79, 3) := by decide +kernel
theorem dX6_sayPieces_26 : decode cX6_sayPieces 26 = .ok (.invokestatic 229, 3) := by decide +kernel
theorem dX6_sayPieces_29 : decode cX6_sayPieces 29 = .ok (.istore 6, 2) := by decide +kernel
theorem dX6_sayPieces_31 : decode cX6_sayPieces 31 = .ok (.iload 4, 2) := by decide +kernel
theorem dX6_sayPieces_33 : decode cX6_sayPieces 33 = .ok (.ifCond .ne 7, 3) := by decide +kernel
theorem dX6_sayPieces_36 : decode cX6_sayPieces 36 = .ok (.iload_n 1, 1) := by decide +kernel
theorem dX6_sayPieces_37 : decode cX6_sayPieces 37 = .ok (.goto 4, 3) := by decide +kernel
theorem dX6_sayPieces_40 : decode cX6_sayPieces 40 = .ok (.iconst 0, 1) := by decide +kernel
theorem dX6_sayPieces_41 : decode cX6_sayPieces 41 = .ok (.iload 4, 2) := by decide +kernel
theorem dX6_sayPieces_43 : decode cX6_sayPieces 43 = .ok (.iload_n 3, 1) := by decide +kernel
theorem dX6_sayPieces_44 : decode cX6_sayPieces 44 = .ok (.iconst 1, 1) := by decide +kernel
theorem dX6_sayPieces_45 : decode cX6_sayPieces 45 = .ok (.isub, 1) := by decide +kernel
theorem dX6_sayPieces_46 : decode cX6_sayPieces 46 = .ok (.if_icmp .ne 9, 3) := by decide +kernel
theorem dX6_sayPieces_49 : decode cX6_sayPieces 49 = .ok (.sipush 128, 3) := by decide +kernel
theorem dX6_sayPieces_52 : decode cX6_sayPieces 52 = .ok (.goto 4, 3) := by decide +kernel
theorem dX6_sayPieces_55 : decode cX6_sayPieces 55 = .ok (.iconst 0, 1) := by decide +kernel
theorem dX6_sayPieces_56 : decode cX6_sayPieces 56 = .ok (.iadd, 1) := by decide +kernel
theorem dX6_sayPieces_57 : decode cX6_sayPieces 57 = .ok (.istore 7, 2) := by decide +kernel
theorem dX6_sayPieces_59 : decode cX6_sayPieces 59 = .ok (.aload_n 0, 1) := by decide +kernel
theorem dX6_sayPieces_60 : decode cX6_sayPieces 60 = .ok (.iload 7, 2) := by decide +kernel
theorem dX6_sayPieces_62 : decode cX6_sayPieces 62 = .ok (.aload_n 0, 1) := by decide +kernel
theorem dX6_sayPieces_63 : decode cX6_sayPieces 63 = .ok (.getfield 39, 3) := by decide +kernel
theorem dX6_sayPieces_66 : decode cX6_sayPieces 66 = .ok (.iload 5, 2) := by decide +kernel
theorem dX6_sayPieces_68 : decode cX6_sayPieces 68 = .ok (.iload 6, 2) := by decide +kernel
theorem dX6_sayPieces_70 : decode cX6_sayPieces 70 = .ok (.invokevirtual 134, 3) := by decide +kernel
theorem dX6_sayPieces_73 : decode cX6_sayPieces 73 = .ok (.iinc 4 1, 3) := by decide +kernel
theorem dX6_sayPieces_76 : decode cX6_sayPieces 76 = .ok (.goto (-73), 3) := by decide +kernel
theorem dX6_sayPieces_79 : decode cX6_sayPieces 79 = .ok (.return_, 1) := by decide +kernel
theorem dX6_say_0 : decode cX6_say 0 = .ok (.aload_n 0, 1) := by decide +kernel
theorem dX6_say_1 : decode cX6_say 1 = .ok (.iload_n 1, 1) := by decide +kernel
theorem dX6_say_2 : decode cX6_say 2 = .ok (.iload 4, 2) := by decide +kernel
theorem dX6_say_4 : decode cX6_say 4 = .ok (.iload_n 3, 1) := by decide +kernel
theorem dX6_say_5 : decode cX6_say 5 = .ok (.isub, 1) := by decide +kernel
theorem dX6_say_6 : decode cX6_say 6 = .ok (.invokevirtual 141, 3) := by decide +kernel
theorem dX6_say_9 : decode cX6_say 9 = .ok (.aload_n 0, 1) := by decide +kernel
theorem dX6_say_10 : decode cX6_say 10 = .ok (.getfield 35, 3) := by decide +kernel
theorem dX6_say_13 : decode cX6_say 13 = .ok (.aload_n 2, 1) := by decide +kernel
theorem dX6_say_14 : decode cX6_say 14 = .ok (.iload_n 3, 1) := by decide +kernel
theorem dX6_say_15 : decode cX6_say 15 = .ok (.iload 4, 2) := by decide +kernel
theorem dX6_say_17 : decode cX6_say 17 = .ok (.invokevirtual 148, 3) := by decide +kernel
theorem dX6_say_20 : decode cX6_say 20 = .ok (.return_, 1) := by decide +kernel
theorem dX6_sayHead_0 : decode cX6_sayHead 0 = .ok (.aload_n 0, 1) := by decide +kernel
theorem dX6_sayHead_1 : decode cX6_sayHead 1 = .ok (.getfield 35, 3) := by decide +kernel
theorem dX6_sayHead_4 : decode cX6_sayHead 4 = .ok (.iload_n 1, 1) := by decide +kernel
theorem dX6_sayHead_5 : decode cX6_sayHead 5 = .ok (.invokevirtual 117, 3) := by decide +kernel
theorem dX6_sayHead_8 : decode cX6_sayHead 8 = .ok (.aload_n 0, 1) := by decide +kernel
theorem dX6_sayHead_9 : decode cX6_sayHead 9 = .ok (.getfield 35, 3) := by decide +kernel
theorem dX6_sayHead_12 : decode cX6_sayHead 12 = .ok (.iload_n 2, 1) := by decide +kernel
theorem dX6_sayHead_13 : decode cX6_sayHead 13 = .ok (.invokevirtual 117, 3) := by decide +kernel
theorem dX6_sayHead_16 : decode cX6_sayHead 16 = .ok (.return_, 1) := by decide +kernel
theorem dX6_sayCode_0 : decode cX6_sayCode 0 = .ok (.aload_n 0, 1) := by decide +kernel
theorem dX6_sayCode_1 : decode cX6_sayCode 1 = .ok (.getfield 35, 3) := by decide +kernel
theorem dX6_sayCode_4 : decode cX6_sayCode 4 = .ok (.iload_n 1, 1) := by decide +kernel
theorem dX6_sayCode_5 : decode cX6_sayCode 5 = .ok (.bipush 8, 2) := by decide +kernel
theorem dX6_sayCode_7 : decode cX6_sayCode 7 = .ok (.ishr, 1) := by decide +kernel
theorem dX6_sayCode_8 : decode cX6_sayCode 8 = .ok (.invokevirtual 117, 3) := by decide +kernel
theorem dX6_sayCode_11 : decode cX6_sayCode 11 = .ok (.aload_n 0, 1) := by decide +kernel
theorem dX6_sayCode_12 : decode cX6_sayCode 12 = .ok (.getfield 35, 3) := by decide +kernel
theorem dX6_sayCode_15 : decode cX6_sayCode 15 = .ok (.iload_n 1, 1) := by decide +kernel
theorem dX6_sayCode_16 : decode cX6_sayCode 16 = .ok (.sipush 255, 3) := by decide +kernel
theorem dX6_sayCode_19 : decode cX6_sayCode 19 = .ok (.iand, 1) := by decide +kernel
theorem dX6_sayCode_20 : decode cX6_sayCode 20 = .ok (.invokevirtual 117, 3) := by decide +kernel
theorem dX6_sayCode_23 : decode cX6_sayCode 23 = .ok (.return_, 1) := by decide +kernel
theorem dX7_init_0 : decode cX7_init 0 = .ok (.aload_n 0, 1) := by decide +kernel
theorem dX7_init_1 : decode cX7_init 1 = .ok (.invokespecial 1, 3) := by decide +kernel
theorem dX7_init_4 : decode cX7_init 4 = .ok (.aload_n 0, 1) := by decide +kernel
theorem dX7_init_5 : decode cX7_init 5 = .ok (.sipush 400, 3) := by decide +kernel
theorem dX7_init_8 : decode cX7_init 8 = .ok (.newarray .int, 2) := by decide +kernel
theorem dX7_init_10 : decode cX7_init 10 = .ok (.putfield 7, 3) := by decide +kernel
theorem dX7_init_13 : decode cX7_init 13 = .ok (.aload_n 0, 1) := by decide +kernel
theorem dX7_init_14 : decode cX7_init 14 = .ok (.iconst 5, 1) := by decide +kernel
theorem dX7_init_15 : decode cX7_init 15 = .ok (.newarray .int, 2) := by decide +kernel
theorem dX7_init_17 : decode cX7_init 17 = .ok (.putfield 13, 3) := by decide +kernel
theorem dX7_init_20 : decode cX7_init 20 = .ok (.aload_n 0, 1) := by decide +kernel
theorem dX7_init_21 : decode cX7_init 21 = .ok (.iconst 5, 1) := by decide +kernel
theorem dX7_init_22 : decode cX7_init 22 = .ok (.newarray .int, 2) := by decide +kernel
theorem dX7_init_24 : decode cX7_init 24 = .ok (.putfield 16, 3) := by decide +kernel
theorem dX7_init_27 : decode cX7_init 27 = .ok (.aload_n 0, 1) := by decide +kernel
theorem dX7_init_28 : decode cX7_init 28 = .ok (.iconst 5, 1) := by decide +kernel
theorem dX7_init_29 : decode cX7_init 29 = .ok (.newarray .int, 2) := by decide +kernel
