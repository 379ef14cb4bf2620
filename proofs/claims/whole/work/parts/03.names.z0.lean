theorem dX0_init_0 : decode cX0_init 0 = .ok (.aload_n 0, 1) := by decide +kernel
theorem dX0_init_1 : decode cX0_init 1 = .ok (.invokespecial 1, 3) := by decide +kernel
theorem dX0_init_4 : decode cX0_init 4 = .ok (.aload_n 0, 1) := by decide +kernel
theorem dX0_init_5 : decode cX0_init 5 = .ok (.iload_n 1, 1) := by decide +kernel
theorem dX0_init_6 : decode cX0_init 6 = .ok (.newarray .int, 2) := by decide +kernel
theorem dX0_init_8 : decode cX0_init 8 = .ok (.putfield 7, 3) := by decide +kernel
theorem dX0_init_11 : decode cX0_init 11 = .ok (.return_, 1) := by decide +kernel
theorem dX0_size_0 : decode cX0_size 0 = .ok (.aload_n 0, 1) := by decide +kernel
theorem dX0_size_1 : decode cX0_size 1 = .ok (.getfield 13, 3) := by decide +kernel
theorem dX0_size_4 : decode cX0_size 4 = .ok (.ireturn, 1) := by decide +kernel
theorem dX0_has_0 : decode cX0_has 0 = .ok (.iload_n 1, 1) := by decide +kernel
theorem dX0_has_1 : decode cX0_has 1 = .ok (.ifCond .lt 15, 3) := by decide +kernel
theorem dX0_has_4 : decode cX0_has 4 = .ok (.iload_n 1, 1) := by decide +kernel
theorem dX0_has_5 : decode cX0_has 5 = .ok (.aload_n 0, 1) := by decide +kernel
theorem dX0_has_6 : decode cX0_has 6 = .ok (.getfield 13, 3) := by decide +kernel
theorem dX0_has_9 : decode cX0_has 9 = .ok (.if_icmp .ge 7, 3) := by decide +kernel
theorem dX0_has_12 : decode cX0_has 12 = .ok (.iconst 1, 1) := by decide +kernel
theorem dX0_has_13 : decode cX0_has 13 = .ok (.goto 4, 3) := by decide +kernel
theorem dX0_has_16 : decode cX0_has 16 = .ok (.iconst 0, 1) := by decide +kernel
theorem dX0_has_17 : decode cX0_has 17 = .ok (.ireturn, 1) := by decide +kernel
theorem dX0_at_0 : decode cX0_at 0 = .ok (.iload_n 1, 1) := by decide +kernel
theorem dX0_at_1 : decode cX0_at 1 = .ok (.ifCond .lt 20, 3) := by decide +kernel
theorem dX0_at_4 : decode cX0_at 4 = .ok (.iload_n 1, 1) := by decide +kernel
theorem dX0_at_5 : decode cX0_at 5 = .ok (.aload_n 0, 1) := by decide +kernel
theorem dX0_at_6 : decode cX0_at 6 = .ok (.getfield 13, 3) := by decide +kernel
theorem dX0_at_9 : decode cX0_at 9 = .ok (.if_icmp .ge 12, 3) := by decide +kernel
theorem dX0_at_12 : decode cX0_at 12 = .ok (.aload_n 0, 1) := by decide +kernel
theorem dX0_at_13 : decode cX0_at 13 = .ok (.getfield 7, 3) := by decide +kernel
theorem dX0_at_16 : decode cX0_at 16 = .ok (.iload_n 1, 1) := by decide +kernel
theorem dX0_at_17 : decode cX0_at 17 = .ok (.iaload, 1) := by decide +kernel
theorem dX0_at_18 : decode cX0_at 18 = .ok (.goto 4, 3) := by decide +kernel
theorem dX0_at_21 : decode cX0_at 21 = .ok (.iconst (-1), 1) := by decide +kernel
theorem dX0_at_22 : decode cX0_at 22 = .ok (.ireturn, 1) := by decide +kernel
theorem dX0_pairAtStart_0 : decode cX0_pairAtStart 0 = .ok (.aload_n 0, 1) := by decide +kernel
theorem dX0_pairAtStart_1 : decode cX0_pairAtStart 1 = .ok (.getfield 13, 3) := by decide +kernel
theorem dX0_pairAtStart_4 : decode cX0_pairAtStart 4 = .ok (.iconst 2, 1) := by decide +kernel
theorem dX0_pairAtStart_5 : decode cX0_pairAtStart 5 = .ok (.if_icmp .ge 7, 3) := by decide +kernel
theorem dX0_pairAtStart_8 : decode cX0_pairAtStart 8 = .ok (.iconst (-1), 1) := by decide +kernel
theorem dX0_pairAtStart_9 : decode cX0_pairAtStart 9 = .ok (.goto 20, 3) := by decide +kernel
theorem dX0_pairAtStart_12 : decode cX0_pairAtStart 12 = .ok (.aload_n 0, 1) := by decide +kernel
theorem dX0_pairAtStart_13 : decode cX0_pairAtStart 13 = .ok (.getfield 7, 3) := by decide +kernel
theorem dX0_pairAtStart_16 : decode cX0_pairAtStart 16 = .ok (.iconst 0, 1) := by decide +kernel
theorem dX0_pairAtStart_17 : decode cX0_pairAtStart 17 = .ok (.iaload, 1) := by decide +kernel
theorem dX0_pairAtStart_18 : decode cX0_pairAtStart 18 = .ok (.sipush 256, 3) := by decide +kernel
theorem dX0_pairAtStart_21 : decode cX0_pairAtStart 21 = .ok (.imul, 1) := by decide +kernel
theorem dX0_pairAtStart_22 : decode cX0_pairAtStart 22 = .ok (.aload_n 0, 1) := by decide +kernel
theorem dX0_pairAtStart_23 : decode cX0_pairAtStart 23 = .ok (.getfield 7, 3) := by decide +kernel
theorem dX0_pairAtStart_26 : decode cX0_pairAtStart 26 = .ok (.iconst 1, 1) := by decide +kernel
theorem dX0_pairAtStart_27 : decode cX0_pairAtStart 27 = .ok (.iaload, 1) := by decide +kernel
theorem dX0_pairAtStart_28 : decode cX0_pairAtStart 28 = .ok (.iadd, 1) := by decide +kernel
theorem dX0_pairAtStart_29 : decode cX0_pairAtStart 29 = .ok (.ireturn, 1) := by decide +kernel
theorem dX0_isFull_0 : decode cX0_isFull 0 = .ok (.aload_n 0, 1) := by decide +kernel
theorem dX0_isFull_1 : decode cX0_isFull 1 = .ok (.getfield 13, 3) := by decide +kernel
theorem dX0_isFull_4 : decode cX0_isFull 4 = .ok (.aload_n 0, 1) := by decide +kernel
theorem dX0_isFull_5 : decode cX0_isFull 5 = .ok (.getfield 7, 3) := by decide +kernel
theorem dX0_isFull_8 : decode cX0_isFull 8 = .ok (.arraylength, 1) := by decide +kernel
theorem dX0_isFull_9 : decode cX0_isFull 9 = .ok (.if_icmp .ne 7, 3) := by decide +kernel
theorem dX0_isFull_12 : decode cX0_isFull 12 = .ok (.iconst 1, 1) := by decide +kernel
theorem dX0_isFull_13 : decode cX0_isFull 13 = .ok (.goto 4, 3) := by decide +kernel
theorem dX0_isFull_16 : decode cX0_isFull 16 = .ok (.iconst 0, 1) := by decide +kernel
theorem dX0_isFull_17 : decode cX0_isFull 17 = .ok (.ireturn, 1) := by decide +kernel
theorem dX0_empty_0 : decode cX0_empty 0 = .ok (.aload_n 0, 1) := by decide +kernel
theorem dX0_empty_1 : decode cX0_empty 1 = .ok (.iconst 0, 1) := by decide +kernel
theorem dX0_empty_2 : decode cX0_empty 2 = .ok (.putfield 13, 3) := by decide +kernel
theorem dX0_empty_5 : decode cX0_empty 5 = .ok (.return_, 1) := by decide +kernel
theorem dX0_add_0 : decode cX0_add 0 = .ok (.aload_n 0, 1) := by decide +kernel
theorem dX0_add_1 : decode cX0_add 1 = .ok (.getfield 13, 3) := by decide +kernel
theorem dX0_add_4 : decode cX0_add 4 = .ok (.aload_n 0, 1) := by decide +kernel
theorem dX0_add_5 : decode cX0_add 5 = .ok (.getfield 7, 3) := by decide +kernel
theorem dX0_add_8 : decode cX0_add 8 = .ok (.arraylength, 1) := by decide +kernel
theorem dX0_add_9 : decode cX0_add 9 = .ok (.if_icmp .ge 23, 3) := by decide +kernel
theorem dX0_add_12 : decode cX0_add 12 = .ok (.aload_n 0, 1) := by decide +kernel
theorem dX0_add_13 : decode cX0_add 13 = .ok (.getfield 7, 3) := by decide +kernel
theorem dX0_add_16 : decode cX0_add 16 = .ok (.aload_n 0, 1) := by decide +kernel
theorem dX0_add_17 : decode cX0_add 17 = .ok (.getfield 13, 3) := by decide +kernel
theorem dX0_add_20 : decode cX0_add 20 = .ok (.iload_n 1, 1) := by decide +kernel
theorem dX0_add_21 : decode cX0_add 21 = .ok (.iastore, 1) := by decide +kernel
theorem dX0_add_22 : decode cX0_add 22 = .ok (.aload_n 0, 1) := by decide +kernel
theorem dX0_add_23 : decode cX0_add 23 = .ok (.dup, 1) := by decide +kernel
theorem dX0_add_24 : decode cX0_add 24 = .ok (.getfield 13, 3) := by decide +kernel
theorem dX0_add_27 : decode cX0_add 27 = .ok (.iconst 1, 1) := by decide +kernel
theorem dX0_add_28 : decode cX0_add 28 = .ok (.iadd, 1) := by decide +kernel
theorem dX0_add_29 : decode cX0_add 29 = .ok (.putfield 13, 3) := by decide +kernel
theorem dX0_add_32 : decode cX0_add 32 = .ok (.return_, 1) := by decide +kernel
theorem dX0_addText_0 : decode cX0_addText 0 = .ok (.iconst 0, 1) := by decide +kernel
theorem dX0_addText_1 : decode cX0_addText 1 = .ok (.istore_n 2, 1) := by decide +kernel
theorem dX0_addText_2 : decode cX0_addText 2 = .ok (.iload_n 2, 1) := by decide +kernel
theorem dX0_addText_3 : decode cX0_addText 3 = .ok (.aload_n 1, 1) := by decide +kernel
theorem dX0_addText_4 : decode cX0_addText 4 = .ok (.invokevirtual 17, 3) := by decide +kernel
theorem dX0_addText_7 : decode cX0_addText 7 = .ok (.if_icmp .ge 18, 3) := by decide +kernel
theorem dX0_addText_10 : decode cX0_addText 10 = .ok (.aload_n 0, 1) := by decide +kernel
theorem dX0_addText_11 : decode cX0_addText 11 = .ok (.aload_n 1, 1) := by decide +kernel
theorem dX0_addText_12 : decode cX0_addText 12 = .ok (.iload_n 2, 1) := by decide +kernel
theorem dX0_addText_13 : decode cX0_addText 13 = .ok (.invokevirtual 23, 3) := by decide +kernel
theorem dX0_addText_16 : decode cX0_addText 16 = .ok (.invokevirtual 27, 3) := by decide +kernel
theorem dX0_addText_19 : decode cX0_addText 19 = .ok (.iinc 2 1, 3) := by decide +kernel
theorem dX0_addText_22 : decode cX0_addText 22 = .ok (.goto (-20), 3) := by decide +kernel
theorem dX0_addText_25 : decode cX0_addText 25 = .ok (.return_, 1) := by decide +kernel
theorem dX0_addPart_0 : decode cX0_addPart 0 = .ok (.iload_n 2, 1) := by decide +kernel
theorem dX0_addPart_1 : decode cX0_addPart 1 = .ok (.istore 4, 2) := by decide +kernel
theorem dX0_addPart_3 : decode cX0_addPart 3 = .ok (.iload 4, 2) := by decide +kernel
theorem dX0_addPart_5 : decode cX0_addPart 5 = .ok (.iload_n 3, 1) := by decide +kernel
theorem dX0_addPart_6 : decode cX0_addPart 6 = .ok (.if_icmp .ge 19, 3) := by decide +kernel
theorem dX0_addPart_9 : decode cX0_addPart 9 = .ok (.aload_n 0, 1) := by decide +kernel
theorem dX0_addPart_10 : decode cX0_addPart 10 = .ok (.aload_n 1, 1) := by decide +kernel
theorem dX0_addPart_11 : decode cX0_addPart 11 = .ok (.iload 4, 2) := by decide +kernel
theorem dX0_addPart_13 : decode cX0_addPart 13 = .ok (.invokevirtual 31, 3) := by decide +kernel
theorem dX0_addPart_16 : decode cX0_addPart 16 = .ok (.invokevirtual 27, 3) := by decide +kernel
theorem dX0_addPart_19 : decode cX0_addPart 19 = .ok (.iinc 4 1, 3) := by decide +kernel
theorem dX0_addPart_22 : decode cX0_addPart 22 = .ok (.goto (-19), 3) := by decide +kernel
theorem dX0_addPart_25 : decode cX0_addPart 25 = .ok (.return_, 1) := by decide +kernel
theorem dX0_cutFront_0 : decode cX0_cutFront 0 = .ok (.iload_n 1, 1) := by decide +kernel
theorem dX0_cutFront_1 : decode cX0_cutFront 1 = .ok (.ifCond .lt 11, 3) := by decide +kernel
theorem dX0_cutFront_4 : decode cX0_cutFront 4 = .ok (.iload_n 1, 1) := by decide +kernel
theorem dX0_cutFront_5 : decode cX0_cutFront 5 = .ok (.aload_n 0, 1) := by decide +kernel
theorem dX0_cutFront_6 : decode cX0_cutFront 6 = .ok (.getfield 13, 3) := by decide +kernel
theorem dX0_cutFront_9 : decode cX0_cutFront 9 = .ok (.if_icmp .le 5, 3) := by decide +kernel
theorem dX0_cutFront_12 : decode cX0_cutFront 12 = .ok (.iconst 0, 1) := by decide +kernel
theorem dX0_cutFront_13 : decode cX0_cutFront 13 = .ok (.ireturn, 1) := by decide +kernel
theorem dX0_cutFront_14 : decode cX0_cutFront 14 = .ok (.aload_n 0, 1) := by decide +kernel
theorem dX0_cutFront_15 : decode cX0_cutFront 15 = .ok (.getfield 7, 3) := by decide +kernel
theorem dX0_cutFront_18 : decode cX0_cutFront 18 = .ok (.iload_n 1, 1) := by decide +kernel
theorem dX0_cutFront_19 : decode cX0_cutFront 19 = .ok (.aload_n 0, 1) := by decide +kernel
theorem dX0_cutFront_20 : decode cX0_cutFront 20 = .ok (.getfield 7, 3) := by decide +kernel
theorem dX0_cutFront_23 : decode cX0_cutFront 23 = .ok (.iconst 0, 1) := by decide +kernel
theorem dX0_cutFront_24 : decode cX0_cutFront 24 = .ok (.aload_n 0, 1) := by decide +kernel
theorem dX0_cutFront_25 : decode cX0_cutFront 25 = .ok (.getfield 13, 3) := by decide +kernel
theorem dX0_cutFront_28 : decode cX0_cutFront 28 = .ok (.iload_n 1, 1) := by decide +kernel
theorem dX0_cutFront_29 : decode cX0_cutFront 29 = .ok (.isub, 1) := by decide +kernel
theorem dX0_cutFront_30 : decode cX0_cutFront 30 = .ok (.invokestatic 35, 3) := by decide +kernel
theorem dX0_cutFront_33 : decode cX0_cutFront 33 = .ok (.aload_n 0, 1) := by decide +kernel
theorem dX0_cutFront_34 : decode cX0_cutFront 34 = .ok (.dup, 1) := by decide +kernel
theorem dX0_cutFront_35 : decode cX0_cutFront 35 = .ok (.getfield 13, 3) := by decide +kernel
theorem dX0_cutFront_38 : decode cX0_cutFront 38 = .ok (.iload_n 1, 1) := by decide +kernel
theorem dX0_cutFront_39 : decode cX0_cutFront 39 = .ok (.isub, 1) := by decide +kernel
theorem dX0_cutFront_40 : decode cX0_cutFront 40 = .ok (.putfield 13, 3) := by decide +kernel
theorem dX0_cutFront_43 : decode cX0_cutFront 43 = .ok (.iconst 1, 1) := by decide +kernel
theorem dX0_cutFront_44 : decode cX0_cutFront 44 = .ok (.ireturn, 1) := by decide +kernel
theorem dX0_copyTo_0 : decode cX0_copyTo 0 = .ok (.iload_n 2, 1) := by decide +kernel
theorem dX0_copyTo_1 : decode cX0_copyTo 1 = .ok (.ifCond .lt 28, 3) := by decide +kernel
theorem dX0_copyTo_4 : decode cX0_copyTo 4 = .ok (.iload_n 2, 1) := by decide +kernel
theorem dX0_copyTo_5 : decode cX0_copyTo 5 = .ok (.aload_n 0, 1) := by decide +kernel
theorem dX0_copyTo_6 : decode cX0_copyTo 6 = .ok (.getfield 13, 3) := by decide +kernel
theorem dX0_copyTo_9 : decode cX0_copyTo 9 = .ok (.iadd, 1) := by decide +kernel
theorem dX0_copyTo_10 : decode cX0_copyTo 10 = .ok (.aload_n 1, 1) := by decide +kernel
theorem dX0_copyTo_11 : decode cX0_copyTo 11 = .ok (.arraylength, 1) := by decide +kernel
theorem dX0_copyTo_12 : decode cX0_copyTo 12 = .ok (.if_icmp .gt 17, 3) := by decide +kernel
theorem dX0_copyTo_15 : decode cX0_copyTo 15 = .ok (.aload_n 0, 1) := by decide +kernel
theorem dX0_copyTo_16 : decode cX0_copyTo 16 = .ok (.getfield 7, 3) := by decide +kernel
theorem dX0_copyTo_19 : decode cX0_copyTo 19 = .ok (.iconst 0, 1) := by decide +kernel
theorem dX0_copyTo_20 : decode cX0_copyTo 20 = .ok (.aload_n 1, 1) := by decide +kernel
theorem dX0_copyTo_21 : decode cX0_copyTo 21 = .ok (.iload_n 2, 1) := by decide +kernel
theorem dX0_copyTo_22 : decode cX0_copyTo 22 = .ok (.aload_n 0, 1) := by decide +kernel
theorem dX0_copyTo_23 : decode cX0_copyTo 23 = .ok (.getfield 13, 3) := by decide +kernel
theorem dX0_copyTo_26 : decode cX0_copyTo 26 = .ok (.invokestatic 35, 3) := by decide +kernel
theorem dX0_copyTo_29 : decode cX0_copyTo 29 = .ok (.return_, 1) := by decide +kernel
theorem dX1_init_0 : decode cX1_init 0 = .ok (.aload_n 0, 1) := by decide +kernel
theorem dX1_init_1 : decode cX1_init 1 = .ok (.invokespecial 3, 3) := by decide +kernel
theorem dX1_init_4 : decode cX1_init 4 = .ok (.aload_n 0, 1) := by decide +kernel
theorem dX1_init_5 : decode cX1_init 5 = .ok (.iconst 4, 1) := by decide +kernel
theorem dX1_init_6 : decode cX1_init 6 = .ok (.newarray .int, 2) := by decide +kernel
theorem dX1_init_8 : decode cX1_init 8 = .ok (.putfield 9, 3) := by decide +kernel
theorem dX1_init_11 : decode cX1_init 11 = .ok (.aload_n 0, 1) := by decide +kernel
theorem dX1_init_12 : decode cX1_init 12 = .ok (.new 15, 3) := by decide +kernel
theorem dX1_init_15 : decode cX1_init 15 = .ok (.dup, 1) := by decide +kernel
theorem dX1_init_16 : decode cX1_init 16 = .ok (.sipush 300, 3) := by decide +kernel
theorem dX1_init_19 : decode cX1_init 19 = .ok (.invokespecial 17, 3) := by decide +kernel
theorem dX1_init_22 : decode cX1_init 22 = .ok (.putfield 20, 3) := by decide +kernel
theorem dX1_init_25 : decode cX1_init 25 = .ok (.aload_n 0, 1) := by decide +kernel
theorem dX1_init_26 : decode cX1_init 26 = .ok (.new 15, 3) := by decide +kernel
theorem dX1_init_29 : decode cX1_init 29 = .ok (.dup, 1) := by decide +kernel
theorem dX1_init_30 : decode cX1_init 30 = .ok (.bipush 125, 2) := by decide +kernel
theorem dX1_init_32 : decode cX1_init 32 = .ok (.invokespecial 17, 3) := by decide +kernel
theorem dX1_init_35 : decode cX1_init 35 = .ok (.putfield 24, 3) := by decide +kernel
theorem dX1_init_38 : decode cX1_init 38 = .ok (.aload_n 0, 1) := by decide +kernel
theorem dX1_init_39 : decode cX1_init 39 = .ok (.new 27, 3) := by decide +kernel
theorem dX1_init_42 : decode cX1_init 42 = .ok (.dup, 1) := by decide +kernel
theorem dX1_init_43 : decode cX1_init 43 = .ok (.invokespecial 29, 3) := by decide +kernel
theorem dX1_init_46 : decode cX1_init 46 = .ok (.putfield 30, 3) := by decide +kernel
theorem dX1_init_49 : decode cX1_init 49 = .ok (.aload_n 0, 1) := by decide +kernel
theorem dX1_init_50 : decode cX1_init 50 = .ok (.new 27, 3) := by decide +kernel
theorem dX1_init_53 : decode cX1_init 53 = .ok (.dup, 1) := by decide +kernel
theorem dX1_init_54 : decode cX1_init 54 = .ok (.invokespecial 29, 3) := by decide +kernel
theorem dX1_init_57 : decode cX1_init 57 = .ok (.putfield 34, 3) := by decide +kernel
theorem dX1_init_60 : decode cX1_init 60 = .ok (.aload_n 0, 1) := by decide +kernel
theorem dX1_init_61 : decode cX1_init 61 = .ok (.iconst 0, 1) := by decide +kernel
theorem dX1_init_62 : decode cX1_init 62 = .ok (.putfield 37, 3) := by decide +kernel
theorem dX1_init_65 : decode cX1_init 65 = .ok (.return_, 1) := by decide +kernel
theorem dX1_frameKind_0 : decode cX1_frameKind 0 = .ok (.aload_n 0, 1) := by decide +kernel
theorem dX1_frameKind_1 : decode cX1_frameKind 1 = .ok (.getfield 41, 3) := by decide +kernel
theorem dX1_frameKind_4 : decode cX1_frameKind 4 = .ok (.ireturn, 1) := by decide +kernel
theorem dX1_isLast_0 : decode cX1_isLast 0 = .ok (.aload_n 0, 1) := by decide +kernel
theorem dX1_isLast_1 : decode cX1_isLast 1 = .ok (.getfield 44, 3) := by decide +kernel
theorem dX1_isLast_4 : decode cX1_isLast 4 = .ok (.ireturn, 1) := by decide +kernel
theorem dX1_messageKind_0 : decode cX1_messageKind 0 = .ok (.aload_n 0, 1) := by decide +kernel
theorem dX1_messageKind_1 : decode cX1_messageKind 1 = .ok (.getfield 48, 3) := by decide +kernel
theorem dX1_messageKind_4 : decode cX1_messageKind 4 = .ok (.ireturn, 1) := by decide +kernel
theorem dX1_message_0 : decode cX1_message 0 = .ok (.aload_n 0, 1) := by decide +kernel
theorem dX1_message_1 : decode cX1_message 1 = .ok (.getfield 20, 3) := by decide +kernel
theorem dX1_message_4 : decode cX1_message 4 = .ok (.areturn, 1) := by decide +kernel
theorem dX1_shortContent_0 : decode cX1_shortContent 0 = .ok (.aload_n 0, 1) := by decide +kernel
theorem dX1_shortContent_1 : decode cX1_shortContent 1 = .ok (.getfield 24, 3) := by decide +kernel
theorem dX1_shortContent_4 : decode cX1_shortContent 4 = .ok (.areturn, 1) := by decide +kernel
theorem dX1_read_0 : decode cX1_read 0 = .ok (.aload_n 0, 1) := by decide +kernel
theorem dX1_read_1 : decode cX1_read 1 = .ok (.iload_n 1, 1) := by decide +kernel
theorem dX1_read_2 : decode cX1_read 2 = .ok (.invokevirtual 51, 3) := by decide +kernel
theorem dX1_read_5 : decode cX1_read 5 = .ok (.istore_n 2, 1) := by decide +kernel
theorem dX1_read_6 : decode cX1_read 6 = .ok (.iload_n 2, 1) := by decide +kernel
theorem dX1_read_7 : decode cX1_read 7 = .ok (.ifCond .ne 34, 3) := by decide +kernel
theorem dX1_read_10 : decode cX1_read 10 = .ok (.aload_n 0, 1) := by decide +kernel
theorem dX1_read_11 : decode cX1_read 11 = .ok (.getfield 37, 3) := by decide +kernel
theorem dX1_read_14 : decode cX1_read 14 = .ok (.iconst 4, 1) := by decide +kernel
theorem dX1_read_15 : decode cX1_read 15 = .ok (.if_icmp .ne 26, 3) := by decide +kernel
theorem dX1_read_18 : decode cX1_read 18 = .ok (.aload_n 0, 1) := by decide +kernel
theorem dX1_read_19 : decode cX1_read 19 = .ok (.getfield 55, 3) := by decide +kernel
theorem dX1_read_22 : decode cX1_read 22 = .ok (.i2l, 1) := by decide +kernel
theorem dX1_read_23 : decode cX1_read 23 = .ok (.aload_n 0, 1) := by decide +kernel
theorem dX1_read_24 : decode cX1_read 24 = .ok (.getfield 58, 3) := by decide +kernel
theorem dX1_read_27 : decode cX1_read 27 = .ok (.lcmp, 1) := by decide +kernel
theorem dX1_read_28 : decode cX1_read 28 = .ok (.ifCond .ne 13, 3) := by decide +kernel
theorem dX1_read_31 : decode cX1_read 31 = .ok (.aload_n 0, 1) := by decide +kernel
theorem dX1_read_32 : decode cX1_read 32 = .ok (.iconst 0, 1) := by decide +kernel
theorem dX1_read_33 : decode cX1_read 33 = .ok (.putfield 37, 3) := by decide +kernel
theorem dX1_read_36 : decode cX1_read 36 = .ok (.aload_n 0, 1) := by decide +kernel
theorem dX1_read_37 : decode cX1_read 37 = .ok (.invokevirtual 62, 3) := by decide +kernel
theorem dX1_read_40 : decode cX1_read 40 = .ok (.ireturn, 1) := by decide +kernel
theorem dX1_read_41 : decode cX1_read 41 = .ok (.iload_n 2, 1) := by decide +kernel
theorem dX1_read_42 : decode cX1_read 42 = .ok (.ireturn, 1) := by decide +kernel
theorem dX1_readPart_0 : decode cX1_readPart 0 = .ok (.aload_n 0, 1) := by decide +kernel
theorem dX1_readPart_1 : decode cX1_readPart 1 = .ok (.getfield 37, 3) := by decide +kernel
theorem dX1_readPart_4 : decode cX1_readPart 4 = .ok (.tableswitch 56 0 3 #[32, 38, 44, 50], 32) := by decide +kernel
theorem dX1_readPart_36 : decode cX1_readPart 36 = .ok (.aload_n 0, 1) := by decide +kernel
theorem dX1_readPart_37 : decode cX1_readPart 37 = .ok (.iload_n 1, 1) := by decide +kernel
theorem dX1_readPart_38 : decode cX1_readPart 38 = .ok (.invokevirtual 66, 3) := by decide +kernel
theorem dX1_readPart_41 : decode cX1_readPart 41 = .ok (.ireturn, 1) := by decide +kernel
theorem dX1_readPart_42 : decode cX1_readPart 42 = .ok (.aload_n 0, 1) := by decide +kernel
theorem dX1_readPart_43 : decode cX1_readPart 43 = .ok (.iload_n 1, 1) := by decide +kernel
theorem dX1_readPart_44 : decode cX1_readPart 44 = .ok (.invokevirtual 69, 3) := by decide +kernel
theorem dX1_readPart_47 : decode cX1_readPart 47 = .ok (.ireturn, 1) := by decide +kernel
theorem dX1_readPart_48 : decode cX1_readPart 48 = .ok (.aload_n 0, 1) := by decide +kernel
theorem dX1_readPart_49 : decode cX1_readPart 49 = .ok (.iload_n 1, 1) := by decide +kernel
theorem dX1_readPart_50 : decode cX1_readPart 50 = .ok (.invokevirtual 72, 3) := by decide +kernel
theorem dX1_readPart_53 : decode cX1_readPart 53 = .ok (.ireturn, 1) := by decide +kernel
theorem dX1_readPart_54 : decode cX1_readPart 54 = .ok (.aload_n 0, 1) := by decide +kernel
theorem dX1_readPart_55 : decode cX1_readPart 55 = .ok (.iload_n 1, 1) := by decide +kernel
theorem dX1_readPart_56 : decode cX1_readPart 56 = .ok (.invokevirtual 75, 3) := by decide +kernel
theorem dX1_readPart_59 : decode cX1_readPart 59 = .ok (.ireturn, 1) := by decide +kernel
theorem dX1_readPart_60 : decode cX1_readPart 60 = .ok (.aload_n 0, 1) := by decide +kernel
theorem dX1_readPart_61 : decode cX1_readPart 61 = .ok (.iload_n 1, 1) := by decide +kernel
theorem dX1_readPart_62 : decode cX1_readPart 62 = .ok (.invokevirtual 78, 3) := by decide +kernel
theorem dX1_readPart_65 : decode cX1_readPart 65 = .ok (.ireturn, 1) := by decide +kernel
theorem dX1_readFirst_0 : decode cX1_readFirst 0 = .ok (.aload_n 0, 1) := by decide +kernel
theorem dX1_readFirst_1 : decode cX1_readFirst 1 = .ok (.iload_n 1, 1) := by decide +kernel
theorem dX1_readFirst_2 : decode cX1_readFirst 2 = .ok (.bipush 15, 2) := by decide +kernel
theorem dX1_readFirst_4 : decode cX1_readFirst 4 = .ok (.iand, 1) := by decide +kernel
theorem dX1_readFirst_5 : decode cX1_readFirst 5 = .ok (.putfield 41, 3) := by decide +kernel
theorem dX1_readFirst_8 : decode cX1_readFirst 8 = .ok (.aload_n 0, 1) := by decide +kernel
theorem dX1_readFirst_9 : decode cX1_readFirst 9 = .ok (.iload_n 1, 1) := by decide +kernel
theorem dX1_readFirst_10 : decode cX1_readFirst 10 = .ok (.sipush 128, 3) := by decide +kernel
theorem dX1_readFirst_13 : decode cX1_readFirst 13 = .ok (.if_icmp .lt 7, 3) := by decide +kernel
theorem dX1_readFirst_16 : decode cX1_readFirst 16 = .ok (.iconst 1, 1) := by decide +kernel
theorem dX1_readFirst_17 : decode cX1_readFirst 17 = .ok (.goto 4, 3) := by decide +kernel
theorem dX1_readFirst_20 : decode cX1_readFirst 20 = .ok (.iconst 0, 1) := by decide +kernel
theorem dX1_readFirst_21 : decode cX1_readFirst 21 = .ok (.putfield 44, 3) := by decide +kernel
theorem dX1_readFirst_24 : decode cX1_readFirst 24 = .ok (.iload_n 1, 1) := by decide +kernel
theorem dX1_readFirst_25 : decode cX1_readFirst 25 = .ok (.bipush 112, 2) := by decide +kernel
theorem dX1_readFirst_27 : decode cX1_readFirst 27 = .ok (.iand, 1) := by decide +kernel
theorem dX1_readFirst_28 : decode cX1_readFirst 28 = .ok (.ifCond .ne 10, 3) := by decide +kernel
theorem dX1_readFirst_31 : decode cX1_readFirst 31 = .ok (.aload_n 0, 1) := by decide +kernel
theorem dX1_readFirst_32 : decode cX1_readFirst 32 = .ok (.invokevirtual 81, 3) := by decide +kernel
theorem dX1_readFirst_35 : decode cX1_readFirst 35 = .ok (.ifCond .ne 7, 3) := by decide +kernel
theorem dX1_readFirst_38 : decode cX1_readFirst 38 = .ok (.sipush 1002, 3) := by decide +kernel
theorem dX1_readFirst_41 : decode cX1_readFirst 41 = .ok (.ireturn, 1) := by decide +kernel
theorem dX1_readFirst_42 : decode cX1_readFirst 42 = .ok (.aload_n 0, 1) := by decide +kernel
theorem dX1_readFirst_43 : decode cX1_readFirst 43 = .ok (.invokevirtual 85, 3) := by decide +kernel
theorem dX1_readFirst_46 : decode cX1_readFirst 46 = .ok (.ifCond .eq 13, 3) := by decide +kernel
theorem dX1_readFirst_49 : decode cX1_readFirst 49 = .ok (.aload_n 0, 1) := by decide +kernel
theorem dX1_readFirst_50 : decode cX1_readFirst 50 = .ok (.getfield 24, 3) := by decide +kernel
theorem dX1_readFirst_53 : decode cX1_readFirst 53 = .ok (.invokevirtual 88, 3) := by decide +kernel
theorem dX1_readFirst_56 : decode cX1_readFirst 56 = .ok (.goto 14, 3) := by decide +kernel
theorem dX1_readFirst_59 : decode cX1_readFirst 59 = .ok (.aload_n 0, 1) := by decide +kernel
theorem dX1_readFirst_60 : decode cX1_readFirst 60 = .ok (.getfield 41, 3) := by decide +kernel
theorem dX1_readFirst_63 : decode cX1_readFirst 63 = .ok (.ifCond .eq 7, 3) := by decide +kernel
theorem dX1_readFirst_66 : decode cX1_readFirst 66 = .ok (.aload_n 0, 1) := by decide +kernel
theorem dX1_readFirst_67 : decode cX1_readFirst 67 = .ok (.invokevirtual 91, 3) := by decide +kernel
theorem dX1_readFirst_70 : decode cX1_readFirst 70 = .ok (.aload_n 0, 1) := by decide +kernel
theorem dX1_readFirst_71 : decode cX1_readFirst 71 = .ok (.iconst 1, 1) := by decide +kernel
theorem dX1_readFirst_72 : decode cX1_readFirst 72 = .ok (.putfield 37, 3) := by decide +kernel
theorem dX1_readFirst_75 : decode cX1_readFirst 75 = .ok (.iconst 0, 1) := by decide +kernel
theorem dX1_readFirst_76 : decode cX1_readFirst 76 = .ok (.ireturn, 1) := by decide +kernel
theorem dX1_isShort_0 : decode cX1_isShort 0 = .ok (.aload_n 0, 1) := by decide +kernel
theorem dX1_isShort_1 : decode cX1_isShort 1 = .ok (.getfield 41, 3) := by decide +kernel
theorem dX1_isShort_4 : decode cX1_isShort 4 = .ok (.bipush 8, 2) := by decide +kernel
theorem dX1_isShort_6 : decode cX1_isShort 6 = .ok (.if_icmp .lt 7, 3) := by decide +kernel
theorem dX1_isShort_9 : decode cX1_isShort 9 = .ok (.iconst 1, 1) := by decide +kernel
theorem dX1_isShort_10 : decode cX1_isShort 10 = .ok (.goto 4, 3) := by decide +kernel
theorem dX1_isShort_13 : decode cX1_isShort 13 = .ok (.iconst 0, 1) := by decide +kernel
theorem dX1_isShort_14 : decode cX1_isShort 14 = .ok (.ireturn, 1) := by decide +kernel
theorem dX1_mayComeNow_0 : decode cX1_mayComeNow 0 = .ok (.aload_n 0, 1) := by decide +kernel
theorem dX1_mayComeNow_1 : decode cX1_mayComeNow 1 = .ok (.getfield 41, 3) := by decide +kernel
theorem dX1_mayComeNow_4 : decode cX1_mayComeNow 4 = .ok (.tableswitch 83 0 10 #[60, 65, 65, 83, 83, 83, 83, 83, 78, 78, 78], 60) := by decide +kernel
theorem dX1_mayComeNow_64 : decode cX1_mayComeNow 64 = .ok (.aload_n 0, 1) := by decide +kernel
theorem dX1_mayComeNow_65 : decode cX1_mayComeNow 65 = .ok (.getfield 94, 3) := by decide +kernel
theorem dX1_mayComeNow_68 : decode cX1_mayComeNow 68 = .ok (.ireturn, 1) := by decide +kernel
theorem dX1_mayComeNow_69 : decode cX1_mayComeNow 69 = .ok (.aload_n 0, 1) := by decide +kernel
theorem dX1_mayComeNow_70 : decode cX1_mayComeNow 70 = .ok (.getfield 94, 3) := by decide +kernel
theorem dX1_mayComeNow_73 : decode cX1_mayComeNow 73 = .ok (.ifCond .ne 7, 3) := by decide +kernel
theorem dX1_mayComeNow_76 : decode cX1_mayComeNow 76 = .ok (.iconst 1, 1) := by decide +kernel
theorem dX1_mayComeNow_77 : decode cX1_mayComeNow 77 = .ok (.goto 4, 3) := by decide +kernel
theorem dX1_mayComeNow_80 : decode cX1_mayComeNow 80 = .ok (.iconst 0, 1) := by decide +kernel
theorem dX1_mayComeNow_81 : decode cX1_mayComeNow 81 = .ok (.ireturn, 1) := by decide +kernel
theorem dX1_mayComeNow_82 : decode cX1_mayComeNow 82 = .ok (.aload_n 0, 1) := by decide +kernel
theorem dX1_mayComeNow_83 : decode cX1_mayComeNow 83 = .ok (.getfield 44, 3) := by decide +kernel
theorem dX1_mayComeNow_86 : decode cX1_mayComeNow 86 = .ok (.ireturn, 1) := by decide +kernel
theorem dX1_mayComeNow_87 : decode cX1_mayComeNow 87 = .ok (.iconst 0, 1) := by decide +kernel
theorem dX1_mayComeNow_88 : decode cX1_mayComeNow 88 = .ok (.ireturn, 1) := by decide +kernel
theorem dX1_beginMessage_0 : decode cX1_beginMessage 0 = .ok (.aload_n 0, 1) := by decide +kernel
theorem dX1_beginMessage_1 : decode cX1_beginMessage 1 = .ok (.iconst 1, 1) := by decide +kernel
theorem dX1_beginMessage_2 : decode cX1_beginMessage 2 = .ok (.putfield 94, 3) := by decide +kernel
theorem dX1_beginMessage_5 : decode cX1_beginMessage 5 = .ok (.aload_n 0, 1) := by decide +kernel
theorem dX1_beginMessage_6 : decode cX1_beginMessage 6 = .ok (.aload_n 0, 1) := by decide +kernel
theorem dX1_beginMessage_7 : decode cX1_beginMessage 7 = .ok (.getfield 41, 3) := by decide +kernel
theorem dX1_beginMessage_10 : decode cX1_beginMessage 10 = .ok (.putfield 48, 3) := by decide +kernel
theorem dX1_beginMessage_13 : decode cX1_beginMessage 13 = .ok (.aload_n 0, 1) := by decide +kernel
theorem dX1_beginMessage_14 : decode cX1_beginMessage 14 = .ok (.getfield 20, 3) := by decide +kernel
theorem dX1_beginMessage_17 : decode cX1_beginMessage 17 = .ok (.invokevirtual 88, 3) := by decide +kernel
theorem dX1_beginMessage_20 : decode cX1_beginMessage 20 = .ok (.aload_n 0, 1) := by decide +kernel
theorem dX1_beginMessage_21 : decode cX1_beginMessage 21 = .ok (.getfield 30, 3) := by decide +kernel
theorem dX1_beginMessage_24 : decode cX1_beginMessage 24 = .ok (.invokevirtual 97, 3) := by decide +kernel
theorem dX1_beginMessage_27 : decode cX1_beginMessage 27 = .ok (.return_, 1) := by decide +kernel
theorem dX1_readSecond_0 : decode cX1_readSecond 0 = .ok (.iload_n 1, 1) := by decide +kernel
theorem dX1_readSecond_1 : decode cX1_readSecond 1 = .ok (.bipush 127, 2) := by decide +kernel
theorem dX1_readSecond_3 : decode cX1_readSecond 3 = .ok (.iand, 1) := by decide +kernel
theorem dX1_readSecond_4 : decode cX1_readSecond 4 = .ok (.istore_n 2, 1) := by decide +kernel
theorem dX1_readSecond_5 : decode cX1_readSecond 5 = .ok (.iload_n 1, 1) := by decide +kernel
theorem dX1_readSecond_6 : decode cX1_readSecond 6 = .ok (.sipush 128, 3) := by decide +kernel
theorem dX1_readSecond_9 : decode cX1_readSecond 9 = .ok (.if_icmp .lt 16, 3) := by decide +kernel
theorem dX1_readSecond_12 : decode cX1_readSecond 12 = .ok (.aload_n 0, 1) := by decide +kernel
theorem dX1_readSecond_13 : decode cX1_readSecond 13 = .ok (.invokevirtual 85, 3) := by decide +kernel
theorem dX1_readSecond_16 : decode cX1_readSecond 16 = .ok (.ifCond .eq 13, 3) := by decide +kernel
theorem dX1_readSecond_19 : decode cX1_readSecond 19 = .ok (.iload_n 2, 1) := by decide +kernel
theorem dX1_readSecond_20 : decode cX1_readSecond 20 = .ok (.bipush 125, 2) := by decide +kernel
theorem dX1_readSecond_22 : decode cX1_readSecond 22 = .ok (.if_icmp .le 7, 3) := by decide +kernel
theorem dX1_readSecond_25 : decode cX1_readSecond 25 = .ok (.sipush 1002, 3) := by decide +kernel
theorem dX1_readSecond_28 : decode cX1_readSecond 28 = .ok (.ireturn, 1) := by decide +kernel
theorem dX1_readSecond_29 : decode cX1_readSecond 29 = .ok (.iload_n 2, 1) := by decide +kernel
theorem dX1_readSecond_30 : decode cX1_readSecond 30 = .ok (.bipush 125, 2) := by decide +kernel
theorem dX1_readSecond_32 : decode cX1_readSecond 32 = .ok (.if_icmp .gt 14, 3) := by decide +kernel
theorem dX1_readSecond_35 : decode cX1_readSecond 35 = .ok (.aload_n 0, 1) := by decide +kernel
theorem dX1_readSecond_36 : decode cX1_readSecond 36 = .ok (.iload_n 2, 1) := by decide +kernel
theorem dX1_readSecond_37 : decode cX1_readSecond 37 = .ok (.i2l, 1) := by decide +kernel
theorem dX1_readSecond_38 : decode cX1_readSecond 38 = .ok (.putfield 58, 3) := by decide +kernel
theorem dX1_readSecond_41 : decode cX1_readSecond 41 = .ok (.aload_n 0, 1) := by decide +kernel
theorem dX1_readSecond_42 : decode cX1_readSecond 42 = .ok (.invokevirtual 100, 3) := by decide +kernel
theorem dX1_readSecond_45 : decode cX1_readSecond 45 = .ok (.ireturn, 1) := by decide +kernel
theorem dX1_readSecond_46 : decode cX1_readSecond 46 = .ok (.aload_n 0, 1) := by decide +kernel
theorem dX1_readSecond_47 : decode cX1_readSecond 47 = .ok (.iload_n 2, 1) := by decide +kernel
theorem dX1_readSecond_48 : decode cX1_readSecond 48 = .ok (.bipush 126, 2) := by decide +kernel
theorem dX1_readSecond_50 : decode cX1_readSecond 50 = .ok (.if_icmp .ne 7, 3) := by decide +kernel
theorem dX1_readSecond_53 : decode cX1_readSecond 53 = .ok (.iconst 2, 1) := by decide +kernel
theorem dX1_readSecond_54 : decode cX1_readSecond 54 = .ok (.goto 5, 3) := by decide +kernel
theorem dX1_readSecond_57 : decode cX1_readSecond 57 = .ok (.bipush 8, 2) := by decide +kernel
theorem dX1_readSecond_59 : decode cX1_readSecond 59 = .ok (.putfield 103, 3) := by decide +kernel
theorem dX1_readSecond_62 : decode cX1_readSecond 62 = .ok (.aload_n 0, 1) := by decide +kernel
theorem dX1_readSecond_63 : decode cX1_readSecond 63 = .ok (.iconst 0, 1) := by decide +kernel
theorem dX1_readSecond_64 : decode cX1_readSecond 64 = .ok (.putfield 106, 3) := by decide +kernel
theorem dX1_readSecond_67 : decode cX1_readSecond 67 = .ok (.aload_n 0, 1) := by decide +kernel
theorem dX1_readSecond_68 : decode cX1_readSecond 68 = .ok (.lconst 0, 1) := by decide +kernel
theorem dX1_readSecond_69 : decode cX1_readSecond 69 = .ok (.putfield 58, 3) := by decide +kernel
theorem dX1_readSecond_72 : decode cX1_readSecond 72 = .ok (.aload_n 0, 1) := by decide +kernel
theorem dX1_readSecond_73 : decode cX1_readSecond 73 = .ok (.iconst 2, 1) := by decide +kernel
theorem dX1_readSecond_74 : decode cX1_readSecond 74 = .ok (.putfield 37, 3) := by decide +kernel
theorem dX1_readSecond_77 : decode cX1_readSecond 77 = .ok (.iconst 0, 1) := by decide +kernel
theorem dX1_readSecond_78 : decode cX1_readSecond 78 = .ok (.ireturn, 1) := by decide +kernel
theorem dX1_readLength_0 : decode cX1_readLength 0 = .ok (.aload_n 0, 1) := by decide +kernel
theorem dX1_readLength_1 : decode cX1_readLength 1 = .ok (.aload_n 0, 1) := by decide +kernel
theorem dX1_readLength_2 : decode cX1_readLength 2 = .ok (.getfield 58, 3) := by decide +kernel
theorem dX1_readLength_5 : decode cX1_readLength 5 = .ok (.bipush 8, 2) := by decide +kernel
theorem dX1_readLength_7 : decode cX1_readLength 7 = .ok (.lshl, 1) := by decide +kernel
theorem dX1_readLength_8 : decode cX1_readLength 8 = .ok (.iload_n 1, 1) := by decide +kernel
theorem dX1_readLength_9 : decode cX1_readLength 9 = .ok (.i2l, 1) := by decide +kernel
theorem dX1_readLength_10 : decode cX1_readLength 10 = .ok (.lor, 1) := by decide +kernel
theorem dX1_readLength_11 : decode cX1_readLength 11 = .ok (.putfield 58, 3) := by decide +kernel
theorem dX1_readLength_14 : decode cX1_readLength 14 = .ok (.aload_n 0, 1) := by decide +kernel
theorem dX1_readLength_15 : decode cX1_readLength 15 = .ok (.dup, 1) := by decide +kernel
theorem dX1_readLength_16 : decode cX1_readLength 16 = .ok (.getfield 106, 3) := by decide +kernel
theorem dX1_readLength_19 : decode cX1_readLength 19 = .ok (.iconst 1, 1) := by decide +kernel
theorem dX1_readLength_20 : decode cX1_readLength 20 = .ok (.iadd, 1) := by decide +kernel
theorem dX1_readLength_21 : decode cX1_readLength 21 = .ok (.putfield 106, 3) := by decide +kernel
theorem dX1_readLength_24 : decode cX1_readLength 24 = .ok (.aload_n 0, 1) := by decide +kernel
theorem dX1_readLength_25 : decode cX1_readLength 25 = .ok (.getfield 106, 3) := by decide +kernel
theorem dX1_readLength_28 : decode cX1_readLength 28 = .ok (.aload_n 0, 1) := by decide +kernel
theorem dX1_readLength_29 : decode cX1_readLength 29 = .ok (.getfield 103, 3) := by decide +kernel
theorem dX1_readLength_32 : decode cX1_readLength 32 = .ok (.if_icmp .ge 5, 3) := by decide +kernel
theorem dX1_readLength_35 : decode cX1_readLength 35 = .ok (.iconst 0, 1) := by decide +kernel
theorem dX1_readLength_36 : decode cX1_readLength 36 = .ok (.ireturn, 1) := by decide +kernel
theorem dX1_readLength_37 : decode cX1_readLength 37 = .ok (.aload_n 0, 1) := by decide +kernel
theorem dX1_readLength_38 : decode cX1_readLength 38 = .ok (.getfield 58, 3) := by decide +kernel
theorem dX1_readLength_41 : decode cX1_readLength 41 = .ok (.aload_n 0, 1) := by decide +kernel
theorem dX1_readLength_42 : decode cX1_readLength 42 = .ok (.getfield 103, 3) := by decide +kernel
theorem dX1_readLength_45 : decode cX1_readLength 45 = .ok (.iconst 2, 1) := by decide +kernel
theorem dX1_readLength_46 : decode cX1_readLength 46 = .ok (.if_icmp .ne 8, 3) := by decide +kernel
theorem dX1_readLength_49 : decode cX1_readLength 49 = .ok (.bipush 126, 2) := by decide +kernel
theorem dX1_readLength_51 : decode cX1_readLength 51 = .ok (.goto 5, 3) := by decide +kernel
theorem dX1_readLength_54 : decode cX1_readLength 54 = .ok (.ldc 109, 2) := by decide +kernel
theorem dX1_readLength_56 : decode cX1_readLength 56 = .ok (.i2l, 1) := by decide +kernel
theorem dX1_readLength_57 : decode cX1_readLength 57 = .ok (.lcmp, 1) := by decide +kernel
theorem dX1_readLength_58 : decode cX1_readLength 58 = .ok (.ifCond .ge 7, 3) := by decide +kernel
theorem dX1_readLength_61 : decode cX1_readLength 61 = .ok (.sipush 1002, 3) := by decide +kernel
theorem dX1_readLength_64 : decode cX1_readLength 64 = .ok (.ireturn, 1) := by decide +kernel
theorem dX1_readLength_65 : decode cX1_readLength 65 = .ok (.aload_n 0, 1) := by decide +kernel
theorem dX1_readLength_66 : decode cX1_readLength 66 = .ok (.invokevirtual 100, 3) := by decide +kernel
theorem dX1_readLength_69 : decode cX1_readLength 69 = .ok (.ireturn, 1) := by decide +kernel
theorem dX1_judgeLength_0 : decode cX1_judgeLength 0 = .ok (.aload_n 0, 1) := by decide +kernel
theorem dX1_judgeLength_1 : decode cX1_judgeLength 1 = .ok (.invokevirtual 85, 3) := by decide +kernel
theorem dX1_judgeLength_4 : decode cX1_judgeLength 4 = .ok (.ifCond .ne 27, 3) := by decide +kernel
theorem dX1_judgeLength_7 : decode cX1_judgeLength 7 = .ok (.aload_n 0, 1) := by decide +kernel
theorem dX1_judgeLength_8 : decode cX1_judgeLength 8 = .ok (.getfield 58, 3) := by decide +kernel
theorem dX1_judgeLength_11 : decode cX1_judgeLength 11 = .ok (.sipush 300, 3) := by decide +kernel
theorem dX1_judgeLength_14 : decode cX1_judgeLength 14 = .ok (.aload_n 0, 1) := by decide +kernel
theorem dX1_judgeLength_15 : decode cX1_judgeLength 15 = .ok (.getfield 20, 3) := by decide +kernel
theorem dX1_judgeLength_18 : decode cX1_judgeLength 18 = .ok (.invokevirtual 110, 3) := by decide +kernel
theorem dX1_judgeLength_21 : decode cX1_judgeLength 21 = .ok (.isub, 1) := by decide +kernel
theorem dX1_judgeLength_22 : decode cX1_judgeLength 22 = .ok (.i2l, 1) := by decide +kernel
theorem dX1_judgeLength_23 : decode cX1_judgeLength 23 = .ok (.lcmp, 1) := by decide +kernel
theorem dX1_judgeLength_24 : decode cX1_judgeLength 24 = .ok (.ifCond .le 7, 3) := by decide +kernel
theorem dX1_judgeLength_27 : decode cX1_judgeLength 27 = .ok (.sipush 1009, 3) := by decide +kernel
theorem dX1_judgeLength_30 : decode cX1_judgeLength 30 = .ok (.ireturn, 1) := by decide +kernel
theorem dX1_judgeLength_31 : decode cX1_judgeLength 31 = .ok (.aload_n 0, 1) := by decide +kernel
theorem dX1_judgeLength_32 : decode cX1_judgeLength 32 = .ok (.iconst 0, 1) := by decide +kernel
theorem dX1_judgeLength_33 : decode cX1_judgeLength 33 = .ok (.putfield 113, 3) := by decide +kernel
theorem dX1_judgeLength_36 : decode cX1_judgeLength 36 = .ok (.aload_n 0, 1) := by decide +kernel
theorem dX1_judgeLength_37 : decode cX1_judgeLength 37 = .ok (.iconst 3, 1) := by decide +kernel
theorem dX1_judgeLength_38 : decode cX1_judgeLength 38 = .ok (.putfield 37, 3) := by decide +kernel
theorem dX1_judgeLength_41 : decode cX1_judgeLength 41 = .ok (.iconst 0, 1) := by decide +kernel
theorem dX1_judgeLength_42 : decode cX1_judgeLength 42 = .ok (.ireturn, 1) := by decide +kernel
theorem dX1_readMask_0 : decode cX1_readMask 0 = .ok (.aload_n 0, 1) := by decide +kernel
theorem dX1_readMask_1 : decode cX1_readMask 1 = .ok (.getfield 9, 3) := by decide +kernel
theorem dX1_readMask_4 : decode cX1_readMask 4 = .ok (.aload_n 0, 1) := by decide +kernel
theorem dX1_readMask_5 : decode cX1_readMask 5 = .ok (.getfield 113, 3) := by decide +kernel
theorem dX1_readMask_8 : decode cX1_readMask 8 = .ok (.iconst 3, 1) := by decide +kernel
theorem dX1_readMask_9 : decode cX1_readMask 9 = .ok (.iand, 1) := by decide +kernel
theorem dX1_readMask_10 : decode cX1_readMask 10 = .ok (.iload_n 1, 1) := by decide +kernel
theorem dX1_readMask_11 : decode cX1_readMask 11 = .ok (.iastore, 1) := by decide +kernel
theorem dX1_readMask_12 : decode cX1_readMask 12 = .ok (.aload_n 0, 1) := by decide +kernel
theorem dX1_readMask_13 : decode cX1_readMask 13 = .ok (.dup, 1) := by decide +kernel
theorem dX1_readMask_14 : decode cX1_readMask 14 = .ok (.getfield 113, 3) := by decide +kernel
theorem dX1_readMask_17 : decode cX1_readMask 17 = .ok (.iconst 1, 1) := by decide +kernel
theorem dX1_readMask_18 : decode cX1_readMask 18 = .ok (.iadd, 1) := by decide +kernel
theorem dX1_readMask_19 : decode cX1_readMask 19 = .ok (.putfield 113, 3) := by decide +kernel
theorem dX1_readMask_22 : decode cX1_readMask 22 = .ok (.aload_n 0, 1) := by decide +kernel
theorem dX1_readMask_23 : decode cX1_readMask 23 = .ok (.getfield 113, 3) := by decide +kernel
theorem dX1_readMask_26 : decode cX1_readMask 26 = .ok (.iconst 4, 1) := by decide +kernel
theorem dX1_readMask_27 : decode cX1_readMask 27 = .ok (.if_icmp .ne 13, 3) := by decide +kernel
theorem dX1_readMask_30 : decode cX1_readMask 30 = .ok (.aload_n 0, 1) := by decide +kernel
theorem dX1_readMask_31 : decode cX1_readMask 31 = .ok (.iconst 0, 1) := by decide +kernel
theorem dX1_readMask_32 : decode cX1_readMask 32 = .ok (.putfield 55, 3) := by decide +kernel
theorem dX1_readMask_35 : decode cX1_readMask 35 = .ok (.aload_n 0, 1) := by decide +kernel
theorem dX1_readMask_36 : decode cX1_readMask 36 = .ok (.iconst 4, 1) := by decide +kernel
theorem dX1_readMask_37 : decode cX1_readMask 37 = .ok (.putfield 37, 3) := by decide +kernel
theorem dX1_readMask_40 : decode cX1_readMask 40 = .ok (.iconst 0, 1) := by decide +kernel
theorem dX1_readMask_41 : decode cX1_readMask 41 = .ok (.ireturn, 1) := by decide +kernel
theorem dX1_readContent_0 : decode cX1_readContent 0 = .ok (.iload_n 1, 1) := by decide +kernel
theorem dX1_readContent_1 : decode cX1_readContent 1 = .ok (.aload_n 0, 1) := by decide +kernel
theorem dX1_readContent_2 : decode cX1_readContent 2 = .ok (.getfield 9, 3) := by decide +kernel
theorem dX1_readContent_5 : decode cX1_readContent 5 = .ok (.aload_n 0, 1) := by decide +kernel
theorem dX1_readContent_6 : decode cX1_readContent 6 = .ok (.getfield 55, 3) := by decide +kernel
theorem dX1_readContent_9 : decode cX1_readContent 9 = .ok (.iconst 3, 1) := by decide +kernel
theorem dX1_readContent_10 : decode cX1_readContent 10 = .ok (.iand, 1) := by decide +kernel
theorem dX1_readContent_11 : decode cX1_readContent 11 = .ok (.iaload, 1) := by decide +kernel
theorem dX1_readContent_12 : decode cX1_readContent 12 = .ok (.ixor, 1) := by decide +kernel
theorem dX1_readContent_13 : decode cX1_readContent 13 = .ok (.istore_n 2, 1) := by decide +kernel
theorem dX1_readContent_14 : decode cX1_readContent 14 = .ok (.aload_n 0, 1) := by decide +kernel
theorem dX1_readContent_15 : decode cX1_readContent 15 = .ok (.dup, 1) := by decide +kernel
theorem dX1_readContent_16 : decode cX1_readContent 16 = .ok (.getfield 55, 3) := by decide +kernel
theorem dX1_readContent_19 : decode cX1_readContent 19 = .ok (.iconst 1, 1) := by decide +kernel
theorem dX1_readContent_20 : decode cX1_readContent 20 = .ok (.iadd, 1) := by decide +kernel
theorem dX1_readContent_21 : decode cX1_readContent 21 = .ok (.putfield 55, 3) := by decide +kernel
theorem dX1_readContent_24 : decode cX1_readContent 24 = .ok (.aload_n 0, 1) := by decide +kernel
theorem dX1_readContent_25 : decode cX1_readContent 25 = .ok (.invokevirtual 85, 3) := by decide +kernel
theorem dX1_readContent_28 : decode cX1_readContent 28 = .ok (.ifCond .eq 13, 3) := by decide +kernel
theorem dX1_readContent_31 : decode cX1_readContent 31 = .ok (.aload_n 0, 1) := by decide +kernel
theorem dX1_readContent_32 : decode cX1_readContent 32 = .ok (.getfield 24, 3) := by decide +kernel
theorem dX1_readContent_35 : decode cX1_readContent 35 = .ok (.iload_n 2, 1) := by decide +kernel
theorem dX1_readContent_36 : decode cX1_readContent 36 = .ok (.invokevirtual 116, 3) := by decide +kernel
theorem dX1_readContent_39 : decode cX1_readContent 39 = .ok (.iconst 0, 1) := by decide +kernel
theorem dX1_readContent_40 : decode cX1_readContent 40 = .ok (.ireturn, 1) := by decide +kernel
theorem dX1_readContent_41 : decode cX1_readContent 41 = .ok (.aload_n 0, 1) := by decide +kernel
theorem dX1_readContent_42 : decode cX1_readContent 42 = .ok (.getfield 48, 3) := by decide +kernel
theorem dX1_readContent_45 : decode cX1_readContent 45 = .ok (.iconst 1, 1) := by decide +kernel
theorem dX1_readContent_46 : decode cX1_readContent 46 = .ok (.if_icmp .ne 18, 3) := by decide +kernel
theorem dX1_readContent_49 : decode cX1_readContent 49 = .ok (.aload_n 0, 1) := by decide +kernel
theorem dX1_readContent_50 : decode cX1_readContent 50 = .ok (.getfield 30, 3) := by decide +kernel
theorem dX1_readContent_53 : decode cX1_readContent 53 = .ok (.iload_n 2, 1) := by decide +kernel
theorem dX1_readContent_54 : decode cX1_readContent 54 = .ok (.invokevirtual 119, 3) := by decide +kernel
theorem dX1_readContent_57 : decode cX1_readContent 57 = .ok (.ifCond .ne 7, 3) := by decide +kernel
theorem dX1_readContent_60 : decode cX1_readContent 60 = .ok (.sipush 1007, 3) := by decide +kernel
theorem dX1_readContent_63 : decode cX1_readContent 63 = .ok (.ireturn, 1) := by decide +kernel
theorem dX1_readContent_64 : decode cX1_readContent 64 = .ok (.aload_n 0, 1) := by decide +kernel
theorem dX1_readContent_65 : decode cX1_readContent 65 = .ok (.getfield 20, 3) := by decide +kernel
theorem dX1_readContent_68 : decode cX1_readContent 68 = .ok (.iload_n 2, 1) := by decide +kernel
theorem dX1_readContent_69 : decode cX1_readContent 69 = .ok (.invokevirtual 116, 3) := by decide +kernel
theorem dX1_readContent_72 : decode cX1_readContent 72 = .ok (.iconst 0, 1) := by decide +kernel
theorem dX1_readContent_73 : decode cX1_readContent 73 = .ok (.ireturn, 1) := by decide +kernel
theorem dX1_judgeFrame_0 : decode cX1_judgeFrame 0 = .ok (.aload_n 0, 1) := by decide +kernel
theorem dX1_judgeFrame_1 : decode cX1_judgeFrame 1 = .ok (.invokevirtual 85, 3) := by decide +kernel
theorem dX1_judgeFrame_4 : decode cX1_judgeFrame 4 = .ok (.ifCond .eq 21, 3) := by decide +kernel
theorem dX1_judgeFrame_7 : decode cX1_judgeFrame 7 = .ok (.aload_n 0, 1) := by decide +kernel
theorem dX1_judgeFrame_8 : decode cX1_judgeFrame 8 = .ok (.getfield 41, 3) := by decide +kernel
theorem dX1_judgeFrame_11 : decode cX1_judgeFrame 11 = .ok (.bipush 8, 2) := by decide +kernel
theorem dX1_judgeFrame_13 : decode cX1_judgeFrame 13 = .ok (.if_icmp .ne 10, 3) := by decide +kernel
theorem dX1_judgeFrame_16 : decode cX1_judgeFrame 16 = .ok (.aload_n 0, 1) := by decide +kernel
theorem dX1_judgeFrame_17 : decode cX1_judgeFrame 17 = .ok (.invokevirtual 123, 3) := by decide +kernel
theorem dX1_judgeFrame_20 : decode cX1_judgeFrame 20 = .ok (.goto 4, 3) := by decide +kernel
theorem dX1_judgeFrame_23 : decode cX1_judgeFrame 23 = .ok (.iconst 1, 1) := by decide +kernel
theorem dX1_judgeFrame_24 : decode cX1_judgeFrame 24 = .ok (.ireturn, 1) := by decide +kernel
theorem dX1_judgeFrame_25 : decode cX1_judgeFrame 25 = .ok (.aload_n 0, 1) := by decide +kernel
theorem dX1_judgeFrame_26 : decode cX1_judgeFrame 26 = .ok (.getfield 44, 3) := by decide +kernel
theorem dX1_judgeFrame_29 : decode cX1_judgeFrame 29 = .ok (.ifCond .eq 30, 3) := by decide +kernel
theorem dX1_judgeFrame_32 : decode cX1_judgeFrame 32 = .ok (.aload_n 0, 1) := by decide +kernel
theorem dX1_judgeFrame_33 : decode cX1_judgeFrame 33 = .ok (.iconst 0, 1) := by decide +kernel
theorem dX1_judgeFrame_34 : decode cX1_judgeFrame 34 = .ok (.putfield 94, 3) := by decide +kernel
theorem dX1_judgeFrame_37 : decode cX1_judgeFrame 37 = .ok (.aload_n 0, 1) := by decide +kernel
theorem dX1_judgeFrame_38 : decode cX1_judgeFrame 38 = .ok (.getfield 48, 3) := by decide +kernel
theorem dX1_judgeFrame_41 : decode cX1_judgeFrame 41 = .ok (.iconst 1, 1) := by decide +kernel
theorem dX1_judgeFrame_42 : decode cX1_judgeFrame 42 = .ok (.if_icmp .ne 17, 3) := by decide +kernel
theorem dX1_judgeFrame_45 : decode cX1_judgeFrame 45 = .ok (.aload_n 0, 1) := by decide +kernel
theorem dX1_judgeFrame_46 : decode cX1_judgeFrame 46 = .ok (.getfield 30, 3) := by decide +kernel
theorem dX1_judgeFrame_49 : decode cX1_judgeFrame 49 = .ok (.invokevirtual 126, 3) := by decide +kernel
theorem dX1_judgeFrame_52 : decode cX1_judgeFrame 52 = .ok (.ifCond .ne 7, 3) := by decide +kernel
theorem dX1_judgeFrame_55 : decode cX1_judgeFrame 55 = .ok (.sipush 1007, 3) := by decide +kernel
theorem dX1_judgeFrame_58 : decode cX1_judgeFrame 58 = .ok (.ireturn, 1) := by decide +kernel
theorem dX1_judgeFrame_59 : decode cX1_judgeFrame 59 = .ok (.iconst 1, 1) := by decide +kernel
theorem dX1_judgeFrame_60 : decode cX1_judgeFrame 60 = .ok (.ireturn, 1) := by decide +kernel
theorem dX1_judgeClose_0 : decode cX1_judgeClose 0 = .ok (.aload_n 0, 1) := by decide +kernel
theorem dX1_judgeClose_1 : decode cX1_judgeClose 1 = .ok (.getfield 24, 3) := by decide +kernel
theorem dX1_judgeClose_4 : decode cX1_judgeClose 4 = .ok (.invokevirtual 110, 3) := by decide +kernel
theorem dX1_judgeClose_7 : decode cX1_judgeClose 7 = .ok (.ifCond .ne 5, 3) := by decide +kernel
theorem dX1_judgeClose_10 : decode cX1_judgeClose 10 = .ok (.iconst 1, 1) := by decide +kernel
theorem dX1_judgeClose_11 : decode cX1_judgeClose 11 = .ok (.ireturn, 1) := by decide +kernel
theorem dX1_judgeClose_12 : decode cX1_judgeClose 12 = .ok (.aload_n 0, 1) := by decide +kernel
theorem dX1_judgeClose_13 : decode cX1_judgeClose 13 = .ok (.getfield 24, 3) := by decide +kernel
theorem dX1_judgeClose_16 : decode cX1_judgeClose 16 = .ok (.invokevirtual 129, 3) := by decide +kernel
theorem dX1_judgeClose_19 : decode cX1_judgeClose 19 = .ok (.invokestatic 132, 3) := by decide +kernel
theorem dX1_judgeClose_22 : decode cX1_judgeClose 22 = .ok (.ifCond .ne 7, 3) := by decide +kernel
theorem dX1_judgeClose_25 : decode cX1_judgeClose 25 = .ok (.sipush 1002, 3) := by decide +kernel
theorem dX1_judgeClose_28 : decode cX1_judgeClose 28 = .ok (.ireturn, 1) := by decide +kernel
theorem dX1_judgeClose_29 : decode cX1_judgeClose 29 = .ok (.aload_n 0, 1) := by decide +kernel
theorem dX1_judgeClose_30 : decode cX1_judgeClose 30 = .ok (.getfield 34, 3) := by decide +kernel
theorem dX1_judgeClose_33 : decode cX1_judgeClose 33 = .ok (.aload_n 0, 1) := by decide +kernel
theorem dX1_judgeClose_34 : decode cX1_judgeClose 34 = .ok (.getfield 24, 3) := by decide +kernel
theorem dX1_judgeClose_37 : decode cX1_judgeClose 37 = .ok (.iconst 2, 1) := by decide +kernel
theorem dX1_judgeClose_38 : decode cX1_judgeClose 38 = .ok (.invokevirtual 135, 3) := by decide +kernel
theorem dX1_judgeClose_41 : decode cX1_judgeClose 41 = .ok (.ifCond .eq 7, 3) := by decide +kernel
theorem dX1_judgeClose_44 : decode cX1_judgeClose 44 = .ok (.iconst 1, 1) := by decide +kernel
theorem dX1_judgeClose_45 : decode cX1_judgeClose 45 = .ok (.goto 6, 3) := by decide +kernel
theorem dX1_judgeClose_48 : decode cX1_judgeClose 48 = .ok (.sipush 1007, 3) := by decide +kernel
theorem dX1_judgeClose_51 : decode cX1_judgeClose 51 = .ok (.ireturn, 1) := by decide +kernel
theorem dX2_init_0 : decode cX2_init 0 = .ok (.aload_n 0, 1) := by decide +kernel
theorem dX2_init_1 : decode cX2_init 1 = .ok (.invokespecial 3, 3) := by decide +kernel
theorem dX2_init_4 : decode cX2_init 4 = .ok (.aload_n 0, 1) := by decide +kernel
theorem dX2_init_5 : decode cX2_init 5 = .ok (.new 9, 3) := by decide +kernel
theorem dX2_init_8 : decode cX2_init 8 = .ok (.dup, 1) := by decide +kernel
theorem dX2_init_9 : decode cX2_init 9 = .ok (.sipush 128, 3) := by decide +kernel
theorem dX2_init_12 : decode cX2_init 12 = .ok (.invokespecial 13, 3) := by decide +kernel
theorem dX2_init_15 : decode cX2_init 15 = .ok (.putfield 16, 3) := by decide +kernel
theorem dX2_init_18 : decode cX2_init 18 = .ok (.aload_n 0, 1) := by decide +kernel
theorem dX2_init_19 : decode cX2_init 19 = .ok (.bipush 80, 2) := by decide +kernel
theorem dX2_init_21 : decode cX2_init 21 = .ok (.newarray .int, 2) := by decide +kernel
theorem dX2_init_23 : decode cX2_init 23 = .ok (.putfield 20, 3) := by decide +kernel
theorem dX2_init_26 : decode cX2_init 26 = .ok (.aload_n 0, 1) := by decide +kernel
theorem dX2_init_27 : decode cX2_init 27 = .ok (.iconst 5, 1) := by decide +kernel
theorem dX2_init_28 : decode cX2_init 28 = .ok (.newarray .int, 2) := by decide +kernel
theorem dX2_init_30 : decode cX2_init 30 = .ok (.putfield 24, 3) := by decide +kernel
theorem dX2_init_33 : decode cX2_init 33 = .ok (.return_, 1) := by decide +kernel
theorem dX2_putInto_0 : decode cX2_putInto 0 = .ok (.aload_n 2, 1) := by decide +kernel
theorem dX2_putInto_1 : decode cX2_putInto 1 = .ok (.aload_n 0, 1) := by decide +kernel
theorem dX2_putInto_2 : decode cX2_putInto 2 = .ok (.getfield 16, 3) := by decide +kernel
theorem dX2_putInto_5 : decode cX2_putInto 5 = .ok (.invokevirtual 27, 3) := by decide +kernel
theorem dX2_putInto_8 : decode cX2_putInto 8 = .ok (.aload_n 0, 1) := by decide +kernel
theorem dX2_putInto_9 : decode cX2_putInto 9 = .ok (.getfield 16, 3) := by decide +kernel
theorem dX2_putInto_12 : decode cX2_putInto 12 = .ok (.ldc 33, 2) := by decide +kernel
theorem dX2_putInto_14 : decode cX2_putInto 14 = .ok (.invokevirtual 35, 3) := by decide +kernel
theorem dX2_putInto_17 : decode cX2_putInto 17 = .ok (.aload_n 0, 1) := by decide +kernel
theorem dX2_putInto_18 : decode cX2_putInto 18 = .ok (.invokevirtual 39, 3) := by decide +kernel
theorem dX2_putInto_21 : decode cX2_putInto 21 = .ok (.aload_n 0, 1) := by decide +kernel
theorem dX2_putInto_22 : decode cX2_putInto 22 = .ok (.invokevirtual 42, 3) := by decide +kernel
theorem dX2_putInto_25 : decode cX2_putInto 25 = .ok (.iconst 0, 1) := by decide +kernel
theorem dX2_putInto_26 : decode cX2_putInto 26 = .ok (.istore_n 3, 1) := by decide +kernel
theorem dX2_putInto_27 : decode cX2_putInto 27 = .ok (.iload_n 3, 1) := by decide +kernel
theorem dX2_putInto_28 : decode cX2_putInto 28 = .ok (.sipush 128, 3) := by decide +kernel
theorem dX2_putInto_31 : decode cX2_putInto 31 = .ok (.if_icmp .ge 18, 3) := by decide +kernel
theorem dX2_putInto_34 : decode cX2_putInto 34 = .ok (.aload_n 0, 1) := by decide +kernel
theorem dX2_putInto_35 : decode cX2_putInto 35 = .ok (.iload_n 3, 1) := by decide +kernel
theorem dX2_putInto_36 : decode cX2_putInto 36 = .ok (.invokevirtual 45, 3) := by decide +kernel
theorem dX2_putInto_39 : decode cX2_putInto 39 = .ok (.aload_n 0, 1) := by decide +kernel
theorem dX2_putInto_40 : decode cX2_putInto 40 = .ok (.invokevirtual 48, 3) := by decide +kernel
theorem dX2_putInto_43 : decode cX2_putInto 43 = .ok (.iinc 3 64, 3) := by decide +kernel
theorem dX2_putInto_46 : decode cX2_putInto 46 = .ok (.goto (-19), 3) := by decide +kernel
theorem dX2_putInto_49 : decode cX2_putInto 49 = .ok (.aload_n 0, 1) := by decide +kernel
theorem dX2_putInto_50 : decode cX2_putInto 50 = .ok (.aload_n 1, 1) := by decide +kernel
theorem dX2_putInto_51 : decode cX2_putInto 51 = .ok (.invokevirtual 51, 3) := by decide +kernel
theorem dX2_putInto_54 : decode cX2_putInto 54 = .ok (.return_, 1) := by decide +kernel
theorem dX2_pad_0 : decode cX2_pad 0 = .ok (.aload_n 0, 1) := by decide +kernel
theorem dX2_pad_1 : decode cX2_pad 1 = .ok (.getfield 16, 3) := by decide +kernel
theorem dX2_pad_4 : decode cX2_pad 4 = .ok (.invokevirtual 54, 3) := by decide +kernel
theorem dX2_pad_7 : decode cX2_pad 7 = .ok (.bipush 8, 2) := by decide +kernel
theorem dX2_pad_9 : decode cX2_pad 9 = .ok (.imul, 1) := by decide +kernel
theorem dX2_pad_10 : decode cX2_pad 10 = .ok (.istore_n 1, 1) := by decide +kernel
theorem dX2_pad_11 : decode cX2_pad 11 = .ok (.aload_n 0, 1) := by decide +kernel
theorem dX2_pad_12 : decode cX2_pad 12 = .ok (.getfield 16, 3) := by decide +kernel
theorem dX2_pad_15 : decode cX2_pad 15 = .ok (.sipush 128, 3) := by decide +kernel
theorem dX2_pad_18 : decode cX2_pad 18 = .ok (.invokevirtual 58, 3) := by decide +kernel
theorem dX2_pad_21 : decode cX2_pad 21 = .ok (.aload_n 0, 1) := by decide +kernel
theorem dX2_pad_22 : decode cX2_pad 22 = .ok (.getfield 16, 3) := by decide +kernel
theorem dX2_pad_25 : decode cX2_pad 25 = .ok (.invokevirtual 54, 3) := by decide +kernel
theorem dX2_pad_28 : decode cX2_pad 28 = .ok (.istore_n 2, 1) := by decide +kernel
theorem dX2_pad_29 : decode cX2_pad 29 = .ok (.iload_n 2, 1) := by decide +kernel
theorem dX2_pad_30 : decode cX2_pad 30 = .ok (.bipush 126, 2) := by decide +kernel
theorem dX2_pad_32 : decode cX2_pad 32 = .ok (.if_icmp .ge 17, 3) := by decide +kernel
theorem dX2_pad_35 : decode cX2_pad 35 = .ok (.aload_n 0, 1) := by decide +kernel
theorem dX2_pad_36 : decode cX2_pad 36 = .ok (.getfield 16, 3) := by decide +kernel
theorem dX2_pad_39 : decode cX2_pad 39 = .ok (.iconst 0, 1) := by decide +kernel
theorem dX2_pad_40 : decode cX2_pad 40 = .ok (.invokevirtual 58, 3) := by decide +kernel
theorem dX2_pad_43 : decode cX2_pad 43 = .ok (.iinc 2 1, 3) := by decide +kernel
theorem dX2_pad_46 : decode cX2_pad 46 = .ok (.goto (-17), 3) := by decide +kernel
theorem dX2_pad_49 : decode cX2_pad 49 = .ok (.aload_n 0, 1) := by decide +kernel
theorem dX2_pad_50 : decode cX2_pad 50 = .ok (.getfield 16, 3) := by decide +kernel
theorem dX2_pad_53 : decode cX2_pad 53 = .ok (.iload_n 1, 1) := by decide +kernel
theorem dX2_pad_54 : decode cX2_pad 54 = .ok (.bipush 8, 2) := by decide +kernel
theorem dX2_pad_56 : decode cX2_pad 56 = .ok (.ishr, 1) := by decide +kernel
theorem dX2_pad_57 : decode cX2_pad 57 = .ok (.invokevirtual 58, 3) := by decide +kernel
theorem dX2_pad_60 : decode cX2_pad 60 = .ok (.aload_n 0, 1) := by decide +kernel
theorem dX2_pad_61 : decode cX2_pad 61 = .ok (.getfield 16, 3) := by decide +kernel
theorem dX2_pad_64 : decode cX2_pad 64 = .ok (.iload_n 1, 1) := by decide +kernel
theorem dX2_pad_65 : decode cX2_pad 65 = .ok (.sipush 255, 3) := by decide +kernel
theorem dX2_pad_68 : decode cX2_pad 68 = .ok (.iand, 1) := by decide +kernel
theorem dX2_pad_69 : decode cX2_pad 69 = .ok (.invokevirtual 58, 3) := by decide +kernel
theorem dX2_pad_72 : decode cX2_pad 72 = .ok (.return_, 1) := by decide +kernel
theorem dX2_startWords_0 : decode cX2_startWords 0 = .ok (.aload_n 0, 1) := by decide +kernel
theorem dX2_startWords_1 : decode cX2_startWords 1 = .ok (.getfield 24, 3) := by decide +kernel
theorem dX2_startWords_4 : decode cX2_startWords 4 = .ok (.iconst 0, 1) := by decide +kernel
theorem dX2_startWords_5 : decode cX2_startWords 5 = .ok (.ldc 61, 2) := by decide +kernel
theorem dX2_startWords_7 : decode cX2_startWords 7 = .ok (.iastore, 1) := by decide +kernel
theorem dX2_startWords_8 : decode cX2_startWords 8 = .ok (.aload_n 0, 1) := by decide +kernel
theorem dX2_startWords_9 : decode cX2_startWords 9 = .ok (.getfield 24, 3) := by decide +kernel
theorem dX2_startWords_12 : decode cX2_startWords 12 = .ok (.iconst 1, 1) := by decide +kernel
theorem dX2_startWords_13 : decode cX2_startWords 13 = .ok (.ldc 62, 2) := by decide +kernel
theorem dX2_startWords_15 : decode cX2_startWords 15 = .ok (.iastore, 1) := by decide +kernel
theorem dX2_startWords_16 : decode cX2_startWords 16 = .ok (.aload_n 0, 1) := by decide +kernel
theorem dX2_startWords_17 : decode cX2_startWords 17 = .ok (.getfield 24, 3) := by decide +kernel
theorem dX2_startWords_20 : decode cX2_startWords 20 = .ok (.iconst 2, 1) := by decide +kernel
theorem dX2_startWords_21 : decode cX2_startWords 21 = .ok (.ldc 63, 2) := by decide +kernel
theorem dX2_startWords_23 : decode cX2_startWords 23 = .ok (.iastore, 1) := by decide +kernel
theorem dX2_startWords_24 : decode cX2_startWords 24 = .ok (.aload_n 0, 1) := by decide +kernel
theorem dX2_startWords_25 : decode cX2_startWords 25 = .ok (.getfield 24, 3) := by decide +kernel
theorem dX2_startWords_28 : decode cX2_startWords 28 = .ok (.iconst 3, 1) := by decide +kernel
theorem dX2_startWords_29 : decode cX2_startWords 29 = .ok (.ldc 64, 2) := by decide +kernel
theorem dX2_startWords_31 : decode cX2_startWords 31 = .ok (.iastore, 1) := by decide +kernel
theorem dX2_startWords_32 : decode cX2_startWords 32 = .ok (.aload_n 0, 1) := by decide +kernel
theorem dX2_startWords_33 : decode cX2_startWords 33 = .ok (.getfield 24, 3) := by decide +kernel
theorem dX2_startWords_36 : decode cX2_startWords 36 = .ok (.iconst 4, 1) := by decide +kernel
theorem dX2_startWords_37 : decode cX2_startWords 37 = .ok (.ldc 65, 2) := by decide +kernel
theorem dX2_startWords_39 : decode cX2_startWords 39 = .ok (.iastore, 1) := by decide +kernel
theorem dX2_startWords_40 : decode cX2_startWords 40 = .ok (.return_, 1) := by decide +kernel
theorem dX2_spread_0 : decode cX2_spread 0 = .ok (.iconst 0, 1) := by decide +kernel
theorem dX2_spread_1 : decode cX2_spread 1 = .ok (.istore_n 2, 1) := by decide +kernel
theorem dX2_spread_2 : decode cX2_spread 2 = .ok (.iload_n 2, 1) := by decide +kernel
theorem dX2_spread_3 : decode cX2_spread 3 = .ok (.bipush 16, 2) := by decide +kernel
theorem dX2_spread_5 : decode cX2_spread 5 = .ok (.if_icmp .ge 71, 3) := by decide +kernel
theorem dX2_spread_8 : decode cX2_spread 8 = .ok (.iload_n 1, 1) := by decide +kernel
theorem dX2_spread_9 : decode cX2_spread 9 = .ok (.iconst 4, 1) := by decide +kernel
theorem dX2_spread_10 : decode cX2_spread 10 = .ok (.iload_n 2, 1) := by decide +kernel
theorem dX2_spread_11 : decode cX2_spread 11 = .ok (.imul, 1) := by decide +kernel
theorem dX2_spread_12 : decode cX2_spread 12 = .ok (.iadd, 1) := by decide +kernel
theorem dX2_spread_13 : decode cX2_spread 13 = .ok (.istore_n 3, 1) := by decide +kernel
theorem dX2_spread_14 : decode cX2_spread 14 = .ok (.aload_n 0, 1) := by decide +kernel
theorem dX2_spread_15 : decode cX2_spread 15 = .ok (.getfield 20, 3) := by decide +kernel
theorem dX2_spread_18 : decode cX2_spread 18 = .ok (.iload_n 2, 1) := by decide +kernel
theorem dX2_spread_19 : decode cX2_spread 19 = .ok (.aload_n 0, 1) := by decide +kernel
theorem dX2_spread_20 : decode cX2_spread 20 = .ok (.getfield 16, 3) := by decide +kernel
theorem dX2_spread_23 : decode cX2_spread 23 = .ok (.iload_n 3, 1) := by decide +kernel
theorem dX2_spread_24 : decode cX2_spread 24 = .ok (.invokevirtual 66, 3) := by decide +kernel
theorem dX2_spread_27 : decode cX2_spread 27 = .ok (.bipush 24, 2) := by decide +kernel
theorem dX2_spread_29 : decode cX2_spread 29 = .ok (.ishl, 1) := by decide +kernel
theorem dX2_spread_30 : decode cX2_spread 30 = .ok (.aload_n 0, 1) := by decide +kernel
theorem dX2_spread_31 : decode cX2_spread 31 = .ok (.getfield 16, 3) := by decide +kernel
theorem dX2_spread_34 : decode cX2_spread 34 = .ok (.iload_n 3, 1) := by decide +kernel
theorem dX2_spread_35 : decode cX2_spread 35 = .ok (.iconst 1, 1) := by decide +kernel
theorem dX2_spread_36 : decode cX2_spread 36 = .ok (.iadd, 1) := by decide +kernel
theorem dX2_spread_37 : decode cX2_spread 37 = .ok (.invokevirtual 66, 3) := by decide +kernel
theorem dX2_spread_40 : decode cX2_spread 40 = .ok (.bipush 16, 2) := by decide +kernel
theorem dX2_spread_42 : decode cX2_spread 42 = .ok (.ishl, 1) := by decide +kernel
theorem dX2_spread_43 : decode cX2_spread 43 = .ok (.ior, 1) := by decide +kernel
theorem dX2_spread_44 : decode cX2_spread 44 = .ok (.aload_n 0, 1) := by decide +kernel
theorem dX2_spread_45 : decode cX2_spread 45 = .ok (.getfield 16, 3) := by decide +kernel
theorem dX2_spread_48 : decode cX2_spread 48 = .ok (.iload_n 3, 1) := by decide +kernel
theorem dX2_spread_49 : decode cX2_spread 49 = .ok (.iconst 2, 1) := by decide +kernel
theorem dX2_spread_50 : decode cX2_spread 50 = .ok (.iadd, 1) := by decide +kernel
theorem dX2_spread_51 : decode cX2_spread 51 = .ok (.invokevirtual 66, 3) := by decide +kernel
theorem dX2_spread_54 : decode cX2_spread 54 = .ok (.bipush 8, 2) := by decide +kernel
theorem dX2_spread_56 : decode cX2_spread 56 = .ok (.ishl, 1) := by decide +kernel
theorem dX2_spread_57 : decode cX2_spread 57 = .ok (.ior, 1) := by decide +kernel
theorem dX2_spread_58 : decode cX2_spread 58 = .ok (.aload_n 0, 1) := by decide +kernel
theorem dX2_spread_59 : decode cX2_spread 59 = .ok (.getfield 16, 3) := by decide +kernel
theorem dX2_spread_62 : decode cX2_spread 62 = .ok (.iload_n 3, 1) := by decide +kernel
theorem dX2_spread_63 : decode cX2_spread 63 = .ok (.iconst 3, 1) := by decide +kernel
theorem dX2_spread_64 : decode cX2_spread 64 = .ok (.iadd, 1) := by decide +kernel
theorem dX2_spread_65 : decode cX2_spread 65 = .ok (.invokevirtual 66, 3) := by decide +kernel
theorem dX2_spread_68 : decode cX2_spread 68 = .ok (.ior, 1) := by decide +kernel
theorem dX2_spread_69 : decode cX2_spread 69 = .ok (.iastore, 1) := by decide +kernel
theorem dX2_spread_70 : decode cX2_spread 70 = .ok (.iinc 2 1, 3) := by decide +kernel
theorem dX2_spread_73 : decode cX2_spread 73 = .ok (.goto (-71), 3) := by decide +kernel
theorem dX2_spread_76 : decode cX2_spread 76 = .ok (.bipush 16, 2) := by decide +kernel
theorem dX2_spread_78 : decode cX2_spread 78 = .ok (.istore_n 2, 1) := by decide +kernel
theorem dX2_spread_79 : decode cX2_spread 79 = .ok (.iload_n 2, 1) := by decide +kernel
theorem dX2_spread_80 : decode cX2_spread 80 = .ok (.bipush 80, 2) := by decide +kernel
theorem dX2_spread_82 : decode cX2_spread 82 = .ok (.if_icmp .ge 57, 3) := by decide +kernel
theorem dX2_spread_85 : decode cX2_spread 85 = .ok (.aload_n 0, 1) := by decide +kernel
theorem dX2_spread_86 : decode cX2_spread 86 = .ok (.getfield 20, 3) := by decide +kernel
theorem dX2_spread_89 : decode cX2_spread 89 = .ok (.iload_n 2, 1) := by decide +kernel
theorem dX2_spread_90 : decode cX2_spread 90 = .ok (.aload_n 0, 1) := by decide +kernel
theorem dX2_spread_91 : decode cX2_spread 91 = .ok (.getfield 20, 3) := by decide +kernel
theorem dX2_spread_94 : decode cX2_spread 94 = .ok (.iload_n 2, 1) := by decide +kernel
theorem dX2_spread_95 : decode cX2_spread 95 = .ok (.iconst 3, 1) := by decide +kernel
theorem dX2_spread_96 : decode cX2_spread 96 = .ok (.isub, 1) := by decide +kernel
theorem dX2_spread_97 : decode cX2_spread 97 = .ok (.iaload, 1) := by decide +kernel
theorem dX2_spread_98 : decode cX2_spread 98 = .ok (.aload_n 0, 1) := by decide +kernel
theorem dX2_spread_99 : decode cX2_spread 99 = .ok (.getfield 20, 3) := by decide +kernel
theorem dX2_spread_102 : decode cX2_spread 102 = .ok (.iload_n 2, 1) := by decide +kernel
theorem dX2_spread_103 : decode cX2_spread 103 = .ok (.bipush 8, 2) := by decide +kernel
theorem dX2_spread_105 : decode cX2_spread 105 = .ok (.isub, 1) := by decide +kernel
theorem dX2_spread_106 : decode cX2_spread 106 = .ok (.iaload, 1) := by decide +kernel
theorem dX2_spread_107 : decode cX2_spread 107 = .ok (.ixor, 1) := by decide +kernel
theorem dX2_spread_108 : decode cX2_spread 108 = .ok (.aload_n 0, 1) := by decide +kernel
theorem dX2_spread_109 : decode cX2_spread 109 = .ok (.getfield 20, 3) := by decide +kernel
theorem dX2_spread_112 : decode cX2_spread 112 = .ok (.iload_n 2, 1) := by decide +kernel
theorem dX2_spread_113 : decode cX2_spread 113 = .ok (.bipush 14, 2) := by decide +kernel
theorem dX2_spread_115 : decode cX2_spread 115 = .ok (.isub, 1) := by decide +kernel
theorem dX2_spread_116 : decode cX2_spread 116 = .ok (.iaload, 1) := by decide +kernel
theorem dX2_spread_117 : decode cX2_spread 117 = .ok (.ixor, 1) := by decide +kernel
theorem dX2_spread_118 : decode cX2_spread 118 = .ok (.aload_n 0, 1) := by decide +kernel
theorem dX2_spread_119 : decode cX2_spread 119 = .ok (.getfield 20, 3) := by decide +kernel
theorem dX2_spread_122 : decode cX2_spread 122 = .ok (.iload_n 2, 1) := by decide +kernel
theorem dX2_spread_123 : decode cX2_spread 123 = .ok (.bipush 16, 2) := by decide +kernel
theorem dX2_spread_125 : decode cX2_spread 125 = .ok (.isub, 1) := by decide +kernel
theorem dX2_spread_126 : decode cX2_spread 126 = .ok (.iaload, 1) := by decide +kernel
theorem dX2_spread_127 : decode cX2_spread 127 = .ok (.ixor, 1) := by decide +kernel
theorem dX2_spread_128 : decode cX2_spread 128 = .ok (.iconst 1, 1) := by decide +kernel
theorem dX2_spread_129 : decode cX2_spread 129 = .ok (.invokestatic 70, 3) := by decide +kernel
theorem dX2_spread_132 : decode cX2_spread 132 = .ok (.iastore, 1) := by decide +kernel
theorem dX2_spread_133 : decode cX2_spread 133 = .ok (.iinc 2 1, 3) := by decide +kernel
theorem dX2_spread_136 : decode cX2_spread 136 = .ok (.goto (-57), 3) := by decide +kernel
theorem dX2_spread_139 : decode cX2_spread 139 = .ok (.return_, 1) := by decide +kernel
theorem dX2_mix_0 : decode cX2_mix 0 = .ok (.aload_n 0, 1) := by decide +kernel
theorem dX2_mix_1 : decode cX2_mix 1 = .ok (.getfield 24, 3) := by decide +kernel
theorem dX2_mix_4 : decode cX2_mix 4 = .ok (.iconst 0, 1) := by decide +kernel
theorem dX2_mix_5 : decode cX2_mix 5 = .ok (.iaload, 1) := by decide +kernel
theorem dX2_mix_6 : decode cX2_mix 6 = .ok (.istore_n 1, 1) := by decide +kernel
theorem dX2_mix_7 : decode cX2_mix 7 = .ok (.aload_n 0, 1) := by decide +kernel
theorem dX2_mix_8 : decode cX2_mix 8 = .ok (.getfield 24, 3) := by decide +kernel
theorem dX2_mix_11 : decode cX2_mix 11 = .ok (.iconst 1, 1) := by decide +kernel
theorem dX2_mix_12 : decode cX2_mix 12 = .ok (.iaload, 1) := by decide +kernel
theorem dX2_mix_13 : decode cX2_mix 13 = .ok (.istore_n 2, 1) := by decide +kernel
theorem dX2_mix_14 : decode cX2_mix 14 = .ok (.aload_n 0, 1) := by decide +kernel
theorem dX2_mix_15 : decode cX2_mix 15 = .ok (.getfield 24, 3) := by decide +kernel
theorem dX2_mix_18 : decode cX2_mix 18 = .ok (.iconst 2, 1) := by decide +kernel
theorem dX2_mix_19 : decode cX2_mix 19 = .ok (.iaload, 1) := by decide +kernel
theorem dX2_mix_20 : decode cX2_mix 20 = .ok (.istore_n 3, 1) := by decide +kernel
theorem dX2_mix_21 : decode cX2_mix 21 = .ok (.aload_n 0, 1) := by decide +kernel
theorem dX2_mix_22 : decode cX2_mix 22 = .ok (.getfield 24, 3) := by decide +kernel
theorem dX2_mix_25 : decode cX2_mix 25 = .ok (.iconst 3, 1) := by decide +kernel
theorem dX2_mix_26 : decode cX2_mix 26 = .ok (.iaload, 1) := by decide +kernel
theorem dX2_mix_27 : decode cX2_mix 27 = .ok (.istore 4, 2) := by decide +kernel
theorem dX2_mix_29 : decode cX2_mix 29 = .ok (.aload_n 0, 1) := by decide +kernel
theorem dX2_mix_30 : decode cX2_mix 30 = .ok (.getfield 24, 3) := by decide +kernel
theorem dX2_mix_33 : decode cX2_mix 33 = .ok (.iconst 4, 1) := by decide +kernel
theorem dX2_mix_34 : decode cX2_mix 34 = .ok (.iaload, 1) := by decide +kernel
theorem dX2_mix_35 : decode cX2_mix 35 = .ok (.istore 5, 2) := by decide +kernel
theorem dX2_mix_37 : decode cX2_mix 37 = .ok (.iconst 0, 1) := by decide +kernel
theorem dX2_mix_38 : decode cX2_mix 38 = .ok (.istore 6, 2) := by decide +kernel
theorem dX2_mix_40 : decode cX2_mix 40 = .ok (.iload 6, 2) := by decide +kernel
theorem dX2_mix_42 : decode cX2_mix 42 = .ok (.bipush 80, 2) := by decide +kernel
theorem dX2_mix_44 : decode cX2_mix 44 = .ok (.if_icmp .ge 56, 3) := by decide +kernel
theorem dX2_mix_47 : decode cX2_mix 47 = .ok (.iload_n 1, 1) := by decide +kernel
theorem dX2_mix_48 : decode cX2_mix 48 = .ok (.iconst 5, 1) := by decide +kernel
theorem dX2_mix_49 : decode cX2_mix 49 = .ok (.invokestatic 70, 3) := by decide +kernel
theorem dX2_mix_52 : decode cX2_mix 52 = .ok (.iload 6, 2) := by decide +kernel
theorem dX2_mix_54 : decode cX2_mix 54 = .ok (.iload_n 2, 1) := by decide +kernel
theorem dX2_mix_55 : decode cX2_mix 55 = .ok (.iload_n 3, 1) := by decide +kernel
theorem dX2_mix_56 : decode cX2_mix 56 = .ok (.iload 4, 2) := by decide +kernel
theorem dX2_mix_58 : decode cX2_mix 58 = .ok (.invokestatic 74, 3) := by decide +kernel
theorem dX2_mix_61 : decode cX2_mix 61 = .ok (.iadd, 1) := by decide +kernel
theorem dX2_mix_62 : decode cX2_mix 62 = .ok (.iload 5, 2) := by decide +kernel
theorem dX2_mix_64 : decode cX2_mix 64 = .ok (.iadd, 1) := by decide +kernel
theorem dX2_mix_65 : decode cX2_mix 65 = .ok (.aload_n 0, 1) := by decide +kernel
theorem dX2_mix_66 : decode cX2_mix 66 = .ok (.getfield 20, 3) := by decide +kernel
theorem dX2_mix_69 : decode cX2_mix 69 = .ok (.iload 6, 2) := by decide +kernel
theorem dX2_mix_71 : decode cX2_mix 71 = .ok (.iaload, 1) := by decide +kernel
theorem dX2_mix_72 : decode cX2_mix 72 = .ok (.iadd, 1) := by decide +kernel
theorem dX2_mix_73 : decode cX2_mix 73 = .ok (.istore 7, 2) := by decide +kernel
theorem dX2_mix_75 : decode cX2_mix 75 = .ok (.iload 4, 2) := by decide +kernel
theorem dX2_mix_77 : decode cX2_mix 77 = .ok (.istore 5, 2) := by decide +kernel
theorem dX2_mix_79 : decode cX2_mix 79 = .ok (.iload_n 3, 1) := by decide +kernel
theorem dX2_mix_80 : decode cX2_mix 80 = .ok (.istore 4, 2) := by decide +kernel
theorem dX2_mix_82 : decode cX2_mix 82 = .ok (.iload_n 2, 1) := by decide +kernel
theorem dX2_mix_83 : decode cX2_mix 83 = .ok (.bipush 30, 2) := by decide +kernel
theorem dX2_mix_85 : decode cX2_mix 85 = .ok (.invokestatic 70, 3) := by decide +kernel
theorem dX2_mix_88 : decode cX2_mix 88 = .ok (.istore_n 3, 1) := by decide +kernel
theorem dX2_mix_89 : decode cX2_mix 89 = .ok (.iload_n 1, 1) := by decide +kernel
theorem dX2_mix_90 : decode cX2_mix 90 = .ok (.istore_n 2, 1) := by decide +kernel
theorem dX2_mix_91 : decode cX2_mix 91 = .ok (.iload 7, 2) := by decide +kernel
theorem dX2_mix_93 : decode cX2_mix 93 = .ok (.istore_n 1, 1) := by decide +kernel
theorem dX2_mix_94 : decode cX2_mix 94 = .ok (.iinc 6 1, 3) := by decide +kernel
theorem dX2_mix_97 : decode cX2_mix 97 = .ok (.goto (-57), 3) := by decide +kernel
theorem dX2_mix_100 : decode cX2_mix 100 = .ok (.aload_n 0, 1) := by decide +kernel
theorem dX2_mix_101 : decode cX2_mix 101 = .ok (.getfield 24, 3) := by decide +kernel
theorem dX2_mix_104 : decode cX2_mix 104 = .ok (.iconst 0, 1) := by decide +kernel
theorem dX2_mix_105 : decode cX2_mix 105 = .ok (.dup2, 1) := by decide +kernel
theorem dX2_mix_106 : decode cX2_mix 106 = .ok (.iaload, 1) := by decide +kernel
theorem dX2_mix_107 : decode cX2_mix 107 = .ok (.iload_n 1, 1) := by decide +kernel
theorem dX2_mix_108 : decode cX2_mix 108 = .ok (.iadd, 1) := by decide +kernel
theorem dX2_mix_109 : decode cX2_mix 109 = .ok (.iastore, 1) := by decide +kernel
theorem dX2_mix_110 : decode cX2_mix 110 = .ok (.aload_n 0, 1) := by decide +kernel
theorem dX2_mix_111 : decode cX2_mix 111 = .ok (.getfield 24, 3) := by decide +kernel
theorem dX2_mix_114 : decode cX2_mix 114 = .ok (.iconst 1, 1) := by decide +kernel
theorem dX2_mix_115 : decode cX2_mix 115 = .ok (.dup2, 1) := by decide +kernel
theorem dX2_mix_116 : decode cX2_mix 116 = .ok (.iaload, 1) := by decide +kernel
theorem dX2_mix_117 : decode cX2_mix 117 = .ok (.iload_n 2, 1) := by decide +kernel
theorem dX2_mix_118 : decode cX2_mix 118 = .ok (.iadd, 1) := by decide +kernel
theorem dX2_mix_119 : decode cX2_mix 119 = .ok (.iastore, 1) := by decide +kernel
theorem dX2_mix_120 : decode cX2_mix 120 = .ok (.aload_n 0, 1) := by decide +kernel
theorem dX2_mix_121 : decode cX2_mix 121 = .ok (.getfield 24, 3) := by decide +kernel
theorem dX2_mix_124 : decode cX2_mix 124 = .ok (.iconst 2, 1) := by decide +kernel
theorem dX2_mix_125 : decode cX2_mix 125 = .ok (.dup2, 1) := by decide +kernel
theorem dX2_mix_126 : decode cX2_mix 126 = .ok (.iaload, 1) := by decide +kernel
theorem dX2_mix_127 : decode cX2_mix 127 = .ok (.iload_n 3, 1) := by decide +kernel
theorem dX2_mix_128 : decode cX2_mix 128 = .ok (.iadd, 1) := by decide +kernel
theorem dX2_mix_129 : decode cX2_mix 129 = .ok (.iastore, 1) := by decide +kernel
theorem dX2_mix_130 : decode cX2_mix 130 = .ok (.aload_n 0, 1) := by decide +kernel
theorem dX2_mix_131 : decode cX2_mix 131 = .ok (.getfield 24, 3) := by decide +kernel
theorem dX2_mix_134 : decode cX2_mix 134 = .ok (.iconst 3, 1) := by decide +kernel
theorem dX2_mix_135 : decode cX2_mix 135 = .ok (.dup2, 1) := by decide +kernel
theorem dX2_mix_136 : decode cX2_mix 136 = .ok (.iaload, 1) := by decide +kernel
theorem dX2_mix_137 : decode cX2_mix 137 = .ok (.iload 4, 2) := by decide +kernel
theorem dX2_mix_139 : decode cX2_mix 139 = .ok (.iadd, 1) := by decide +kernel
theorem dX2_mix_140 : decode cX2_mix 140 = .ok (.iastore, 1) := by decide +kernel
theorem dX2_mix_141 : decode cX2_mix 141 = .ok (.aload_n 0, 1) := by decide +kernel
theorem dX2_mix_142 : decode cX2_mix 142 = .ok (.getfield 24, 3) := by decide +kernel
theorem dX2_mix_145 : decode cX2_mix 145 = .ok (.iconst 4, 1) := by decide +kernel
theorem dX2_mix_146 : decode cX2_mix 146 = .ok (.dup2, 1) := by decide +kernel
theorem dX2_mix_147 : decode cX2_mix 147 = .ok (.iaload, 1) := by decide +kernel
theorem dX2_mix_148 : decode cX2_mix 148 = .ok (.iload 5, 2) := by decide +kernel
theorem dX2_mix_150 : decode cX2_mix 150 = .ok (.iadd, 1) := by decide +kernel
theorem dX2_mix_151 : decode cX2_mix 151 = .ok (.iastore, 1) := by decide +kernel
theorem dX2_mix_152 : decode cX2_mix 152 = .ok (.return_, 1) := by decide +kernel
theorem dX2_rotated_0 : decode cX2_rotated 0 = .ok (.iload_n 0, 1) := by decide +kernel
theorem dX2_rotated_1 : decode cX2_rotated 1 = .ok (.iload_n 1, 1) := by decide +kernel
theorem dX2_rotated_2 : decode cX2_rotated 2 = .ok (.ishl, 1) := by decide +kernel
theorem dX2_rotated_3 : decode cX2_rotated 3 = .ok (.iload_n 0, 1) := by decide +kernel
theorem dX2_rotated_4 : decode cX2_rotated 4 = .ok (.bipush 32, 2) := by decide +kernel
theorem dX2_rotated_6 : decode cX2_rotated 6 = .ok (.iload_n 1, 1) := by decide +kernel
theorem dX2_rotated_7 : decode cX2_rotated 7 = .ok (.isub, 1) := by decide +kernel
theorem dX2_rotated_8 : decode cX2_rotated 8 = .ok (.iushr, 1) := by decide +kernel
theorem dX2_rotated_9 : decode cX2_rotated 9 = .ok (.ior, 1) := by decide +kernel
theorem dX2_rotated_10 : decode cX2_rotated 10 = .ok (.ireturn, 1) := by decide +kernel
theorem dX2_blend_0 : decode cX2_blend 0 = .ok (.iload_n 0, 1) := by decide +kernel
theorem dX2_blend_1 : decode cX2_blend 1 = .ok (.bipush 20, 2) := by decide +kernel
theorem dX2_blend_3 : decode cX2_blend 3 = .ok (.if_icmp .ge 16, 3) := by decide +kernel
theorem dX2_blend_6 : decode cX2_blend 6 = .ok (.iload_n 1, 1) := by decide +kernel
theorem dX2_blend_7 : decode cX2_blend 7 = .ok (.iload_n 2, 1) := by decide +kernel
theorem dX2_blend_8 : decode cX2_blend 8 = .ok (.iand, 1) := by decide +kernel
theorem dX2_blend_9 : decode cX2_blend 9 = .ok (.iload_n 1, 1) := by decide +kernel
theorem dX2_blend_10 : decode cX2_blend 10 = .ok (.iconst (-1), 1) := by decide +kernel
theorem dX2_blend_11 : decode cX2_blend 11 = .ok (.ixor, 1) := by decide +kernel
theorem dX2_blend_12 : decode cX2_blend 12 = .ok (.iload_n 3, 1) := by decide +kernel
theorem dX2_blend_13 : decode cX2_blend 13 = .ok (.iand, 1) := by decide +kernel
theorem dX2_blend_14 : decode cX2_blend 14 = .ok (.ior, 1) := by decide +kernel
theorem dX2_blend_15 : decode cX2_blend 15 = .ok (.ldc 78, 2) := by decide +kernel
theorem dX2_blend_17 : decode cX2_blend 17 = .ok (.iadd, 1) := by decide +kernel
theorem dX2_blend_18 : decode cX2_blend 18 = .ok (.ireturn, 1) := by decide +kernel
theorem dX2_blend_19 : decode cX2_blend 19 = .ok (.iload_n 0, 1) := by decide +kernel
theorem dX2_blend_20 : decode cX2_blend 20 = .ok (.bipush 40, 2) := by decide +kernel
theorem dX2_blend_22 : decode cX2_blend 22 = .ok (.if_icmp .ge 12, 3) := by decide +kernel
theorem dX2_blend_25 : decode cX2_blend 25 = .ok (.iload_n 1, 1) := by decide +kernel
theorem dX2_blend_26 : decode cX2_blend 26 = .ok (.iload_n 2, 1) := by decide +kernel
theorem dX2_blend_27 : decode cX2_blend 27 = .ok (.ixor, 1) := by decide +kernel
theorem dX2_blend_28 : decode cX2_blend 28 = .ok (.iload_n 3, 1) := by decide +kernel
theorem dX2_blend_29 : decode cX2_blend 29 = .ok (.ixor, 1) := by decide +kernel
theorem dX2_blend_30 : decode cX2_blend 30 = .ok (.ldc 79, 2) := by decide +kernel
theorem dX2_blend_32 : decode cX2_blend 32 = .ok (.iadd, 1) := by decide +kernel
theorem dX2_blend_33 : decode cX2_blend 33 = .ok (.ireturn, 1) := by decide +kernel
theorem dX2_blend_34 : decode cX2_blend 34 = .ok (.iload_n 0, 1) := by decide +kernel
theorem dX2_blend_35 : decode cX2_blend 35 = .ok (.bipush 60, 2) := by decide +kernel
theorem dX2_blend_37 : decode cX2_blend 37 = .ok (.if_icmp .ge 18, 3) := by decide +kernel
theorem dX2_blend_40 : decode cX2_blend 40 = .ok (.iload_n 1, 1) := by decide +kernel
theorem dX2_blend_41 : decode cX2_blend 41 = .ok (.iload_n 2, 1) := by decide +kernel
theorem dX2_blend_42 : decode cX2_blend 42 = .ok (.iand, 1) := by decide +kernel
theorem dX2_blend_43 : decode cX2_blend 43 = .ok (.iload_n 1, 1) := by decide +kernel
theorem dX2_blend_44 : decode cX2_blend 44 = .ok (.iload_n 3, 1) := by decide +kernel
theorem dX2_blend_45 : decode cX2_blend 45 = .ok (.iand, 1) := by decide +kernel
theorem dX2_blend_46 : decode cX2_blend 46 = .ok (.ior, 1) := by decide +kernel
theorem dX2_blend_47 : decode cX2_blend 47 = .ok (.iload_n 2, 1) := by decide +kernel
theorem dX2_blend_48 : decode cX2_blend 48 = .ok (.iload_n 3, 1) := by decide +kernel
theorem dX2_blend_49 : decode cX2_blend 49 = .ok (.iand, 1) := by decide +kernel
theorem dX2_blend_50 : decode cX2_blend 50 = .ok (.ior, 1) := by decide +kernel
theorem dX2_blend_51 : decode cX2_blend 51 = .ok (.ldc 80, 2) := by decide +kernel
theorem dX2_blend_53 : decode cX2_blend 53 = .ok (.isub, 1) := by decide +kernel
theorem dX2_blend_54 : decode cX2_blend 54 = .ok (.ireturn, 1) := by decide +kernel
theorem dX2_blend_55 : decode cX2_blend 55 = .ok (.iload_n 1, 1) := by decide +kernel
theorem dX2_blend_56 : decode cX2_blend 56 = .ok (.iload_n 2, 1) := by decide +kernel
theorem dX2_blend_57 : decode cX2_blend 57 = .ok (.ixor, 1) := by decide +kernel
theorem dX2_blend_58 : decode cX2_blend 58 = .ok (.iload_n 3, 1) := by decide +kernel
theorem dX2_blend_59 : decode cX2_blend 59 = .ok (.ixor, 1) := by decide +kernel
theorem dX2_blend_60 : decode cX2_blend 60 = .ok (.ldc 81, 2) := by decide +kernel
theorem dX2_blend_62 : decode cX2_blend 62 = .ok (.isub, 1) := by decide +kernel
theorem dX2_blend_63 : decode cX2_blend 63 = .ok (.ireturn, 1) := by decide +kernel
theorem dX2_putBase64_0 : decode cX2_putBase64 0 = .ok (.iconst 0, 1) := by decide +kernel
theorem dX2_putBase64_1 : decode cX2_putBase64 1 = .ok (.istore_n 2, 1) := by decide +kernel
theorem dX2_putBase64_2 : decode cX2_putBase64 2 = .ok (.iload_n 2, 1) := by decide +kernel
theorem dX2_putBase64_3 : decode cX2_putBase64 3 = .ok (.bipush 18, 2) := by decide +kernel
theorem dX2_putBase64_5 : decode cX2_putBase64 5 = .ok (.if_icmp .ge 43, 3) := by decide +kernel
theorem dX2_putBase64_8 : decode cX2_putBase64 8 = .ok (.aload_n 0, 1) := by decide +kernel
theorem dX2_putBase64_9 : decode cX2_putBase64 9 = .ok (.iload_n 2, 1) := by decide +kernel
theorem dX2_putBase64_10 : decode cX2_putBase64 10 = .ok (.invokevirtual 82, 3) := by decide +kernel
theorem dX2_putBase64_13 : decode cX2_putBase64 13 = .ok (.bipush 16, 2) := by decide +kernel
theorem dX2_putBase64_15 : decode cX2_putBase64 15 = .ok (.ishl, 1) := by decide +kernel
theorem dX2_putBase64_16 : decode cX2_putBase64 16 = .ok (.aload_n 0, 1) := by decide +kernel
theorem dX2_putBase64_17 : decode cX2_putBase64 17 = .ok (.iload_n 2, 1) := by decide +kernel
theorem dX2_putBase64_18 : decode cX2_putBase64 18 = .ok (.iconst 1, 1) := by decide +kernel
theorem dX2_putBase64_19 : decode cX2_putBase64 19 = .ok (.iadd, 1) := by decide +kernel
theorem dX2_putBase64_20 : decode cX2_putBase64 20 = .ok (.invokevirtual 82, 3) := by decide +kernel
theorem dX2_putBase64_23 : decode cX2_putBase64 23 = .ok (.bipush 8, 2) := by decide +kernel
theorem dX2_putBase64_25 : decode cX2_putBase64 25 = .ok (.ishl, 1) := by decide +kernel
theorem dX2_putBase64_26 : decode cX2_putBase64 26 = .ok (.ior, 1) := by decide +kernel
theorem dX2_putBase64_27 : decode cX2_putBase64 27 = .ok (.aload_n 0, 1) := by decide +kernel
theorem dX2_putBase64_28 : decode cX2_putBase64 28 = .ok (.iload_n 2, 1) := by decide +kernel
theorem dX2_putBase64_29 : decode cX2_putBase64 29 = .ok (.iconst 2, 1) := by decide +kernel
theorem dX2_putBase64_30 : decode cX2_putBase64 30 = .ok (.iadd, 1) := by decide +kernel
theorem dX2_putBase64_31 : decode cX2_putBase64 31 = .ok (.invokevirtual 82, 3) := by decide +kernel
theorem dX2_putBase64_34 : decode cX2_putBase64 34 = .ok (.ior, 1) := by decide +kernel
theorem dX2_putBase64_35 : decode cX2_putBase64 35 = .ok (.istore_n 3, 1) := by decide +kernel
theorem dX2_putBase64_36 : decode cX2_putBase64 36 = .ok (.aload_n 1, 1) := by decide +kernel
theorem dX2_putBase64_37 : decode cX2_putBase64 37 = .ok (.iload_n 3, 1) := by decide +kernel
theorem dX2_putBase64_38 : decode cX2_putBase64 38 = .ok (.iconst 4, 1) := by decide +kernel
theorem dX2_putBase64_39 : decode cX2_putBase64 39 = .ok (.invokestatic 85, 3) := by decide +kernel
theorem dX2_putBase64_42 : decode cX2_putBase64 42 = .ok (.iinc 2 3, 3) := by decide +kernel
theorem dX2_putBase64_45 : decode cX2_putBase64 45 = .ok (.goto (-43), 3) := by decide +kernel
theorem dX2_putBase64_48 : decode cX2_putBase64 48 = .ok (.aload_n 1, 1) := by decide +kernel
theorem dX2_putBase64_49 : decode cX2_putBase64 49 = .ok (.aload_n 0, 1) := by decide +kernel
theorem dX2_putBase64_50 : decode cX2_putBase64 50 = .ok (.bipush 18, 2) := by decide +kernel
theorem dX2_putBase64_52 : decode cX2_putBase64 52 = .ok (.invokevirtual 82, 3) := by decide +kernel
theorem dX2_putBase64_55 : decode cX2_putBase64 55 = .ok (.bipush 16, 2) := by decide +kernel
theorem dX2_putBase64_57 : decode cX2_putBase64 57 = .ok (.ishl, 1) := by decide +kernel
theorem dX2_putBase64_58 : decode cX2_putBase64 58 = .ok (.aload_n 0, 1) := by decide +kernel
theorem dX2_putBase64_59 : decode cX2_putBase64 59 = .ok (.bipush 19, 2) := by decide +kernel
theorem dX2_putBase64_61 : decode cX2_putBase64 61 = .ok (.invokevirtual 82, 3) := by decide +kernel
theorem dX2_putBase64_64 : decode cX2_putBase64 64 = .ok (.bipush 8, 2) := by decide +kernel
theorem dX2_putBase64_66 : decode cX2_putBase64 66 = .ok (.ishl, 1) := by decide +kernel
theorem dX2_putBase64_67 : decode cX2_putBase64 67 = .ok (.ior, 1) := by decide +kernel
theorem dX2_putBase64_68 : decode cX2_putBase64 68 = .ok (.iconst 3, 1) := by decide +kernel
theorem dX2_putBase64_69 : decode cX2_putBase64 69 = .ok (.invokestatic 85, 3) := by decide +kernel
theorem dX2_putBase64_72 : decode cX2_putBase64 72 = .ok (.aload_n 1, 1) := by decide +kernel
theorem dX2_putBase64_73 : decode cX2_putBase64 73 = .ok (.bipush 61, 2) := by decide +kernel
theorem dX2_putBase64_75 : decode cX2_putBase64 75 = .ok (.invokevirtual 58, 3) := by decide +kernel
theorem dX2_putBase64_78 : decode cX2_putBase64 78 = .ok (.return_, 1) := by decide +kernel
theorem dX2_digestByte_0 : decode cX2_digestByte 0 = .ok (.iload_n 1, 1) := by decide +kernel
theorem dX2_digestByte_1 : decode cX2_digestByte 1 = .ok (.ifCond .lt 9, 3) := by decide +kernel
theorem dX2_digestByte_4 : decode cX2_digestByte 4 = .ok (.iload_n 1, 1) := by decide +kernel
theorem dX2_digestByte_5 : decode cX2_digestByte 5 = .ok (.bipush 20, 2) := by decide +kernel
theorem dX2_digestByte_7 : decode cX2_digestByte 7 = .ok (.if_icmp .lt 7, 3) := by decide +kernel
theorem dX2_digestByte_10 : decode cX2_digestByte 10 = .ok (.iconst 0, 1) := by decide +kernel
theorem dX2_digestByte_11 : decode cX2_digestByte 11 = .ok (.goto 25, 3) := by decide +kernel
theorem dX2_digestByte_14 : decode cX2_digestByte 14 = .ok (.aload_n 0, 1) := by decide +kernel
theorem dX2_digestByte_15 : decode cX2_digestByte 15 = .ok (.getfield 24, 3) := by decide +kernel
theorem dX2_digestByte_18 : decode cX2_digestByte 18 = .ok (.iload_n 1, 1) := by decide +kernel
theorem dX2_digestByte_19 : decode cX2_digestByte 19 = .ok (.iconst 2, 1) := by decide +kernel
theorem dX2_digestByte_20 : decode cX2_digestByte 20 = .ok (.ishr, 1) := by decide +kernel
theorem dX2_digestByte_21 : decode cX2_digestByte 21 = .ok (.iaload, 1) := by decide +kernel
theorem dX2_digestByte_22 : decode cX2_digestByte 22 = .ok (.bipush 24, 2) := by decide +kernel
theorem dX2_digestByte_24 : decode cX2_digestByte 24 = .ok (.bipush 8, 2) := by decide +kernel
theorem dX2_digestByte_26 : decode cX2_digestByte 26 = .ok (.iload_n 1, 1) := by decide +kernel
theorem dX2_digestByte_27 : decode cX2_digestByte 27 = .ok (.iconst 3, 1) := by decide +kernel
theorem dX2_digestByte_28 : decode cX2_digestByte 28 = .ok (.iand, 1) := by decide +kernel
theorem dX2_digestByte_29 : decode cX2_digestByte 29 = .ok (.imul, 1) := by decide +kernel
theorem dX2_digestByte_30 : decode cX2_digestByte 30 = .ok (.isub, 1) := by decide +kernel
theorem dX2_digestByte_31 : decode cX2_digestByte 31 = .ok (.iushr, 1) := by decide +kernel
theorem dX2_digestByte_32 : decode cX2_digestByte 32 = .ok (.sipush 255, 3) := by decide +kernel
theorem dX2_digestByte_35 : decode cX2_digestByte 35 = .ok (.iand, 1) := by decide +kernel
theorem dX2_digestByte_36 : decode cX2_digestByte 36 = .ok (.ireturn, 1) := by decide +kernel
theorem dX2_putSigns_0 : decode cX2_putSigns 0 = .ok (.iconst 0, 1) := by decide +kernel
theorem dX2_putSigns_1 : decode cX2_putSigns 1 = .ok (.istore_n 3, 1) := by decide +kernel
theorem dX2_putSigns_2 : decode cX2_putSigns 2 = .ok (.iload_n 3, 1) := by decide +kernel
theorem dX2_putSigns_3 : decode cX2_putSigns 3 = .ok (.iload_n 2, 1) := by decide +kernel
theorem dX2_putSigns_4 : decode cX2_putSigns 4 = .ok (.if_icmp .ge 30, 3) := by decide +kernel
theorem dX2_putSigns_7 : decode cX2_putSigns 7 = .ok (.aload_n 0, 1) := by decide +kernel
theorem dX2_putSigns_8 : decode cX2_putSigns 8 = .ok (.ldc 89, 2) := by decide +kernel
theorem dX2_putSigns_10 : decode cX2_putSigns 10 = .ok (.iload_n 1, 1) := by decide +kernel
theorem dX2_putSigns_11 : decode cX2_putSigns 11 = .ok (.bipush 18, 2) := by decide +kernel
theorem dX2_putSigns_13 : decode cX2_putSigns 13 = .ok (.bipush 6, 2) := by decide +kernel
theorem dX2_putSigns_15 : decode cX2_putSigns 15 = .ok (.iload_n 3, 1) := by decide +kernel
theorem dX2_putSigns_16 : decode cX2_putSigns 16 = .ok (.imul, 1) := by decide +kernel
theorem dX2_putSigns_17 : decode cX2_putSigns 17 = .ok (.isub, 1) := by decide +kernel
theorem dX2_putSigns_18 : decode cX2_putSigns 18 = .ok (.iushr, 1) := by decide +kernel
theorem dX2_putSigns_19 : decode cX2_putSigns 19 = .ok (.bipush 63, 2) := by decide +kernel
theorem dX2_putSigns_21 : decode cX2_putSigns 21 = .ok (.iand, 1) := by decide +kernel
theorem dX2_putSigns_22 : decode cX2_putSigns 22 = .ok (.invokevirtual 91, 3) := by decide +kernel
theorem dX2_putSigns_25 : decode cX2_putSigns 25 = .ok (.invokevirtual 58, 3) := by decide +kernel
theorem dX2_putSigns_28 : decode cX2_putSigns 28 = .ok (.iinc 3 1, 3) := by decide +kernel
theorem dX2_putSigns_31 : decode cX2_putSigns 31 = .ok (.goto (-29), 3) := by decide +kernel
theorem dX2_putSigns_34 : decode cX2_putSigns 34 = .ok (.return_, 1) := by decide +kernel
theorem dX3_init_0 : decode cX3_init 0 = .ok (.aload_n 0, 1) := by decide +kernel
theorem dX3_init_1 : decode cX3_init 1 = .ok (.invokespecial 3, 3) := by decide +kernel
theorem dX3_init_4 : decode cX3_init 4 = .ok (.aload_n 0, 1) := by decide +kernel
theorem dX3_init_5 : decode cX3_init 5 = .ok (.new 9, 3) := by decide +kernel
theorem dX3_init_8 : decode cX3_init 8 = .ok (.dup, 1) := by decide +kernel
theorem dX3_init_9 : decode cX3_init 9 = .ok (.sipush 400, 3) := by decide +kernel
theorem dX3_init_12 : decode cX3_init 12 = .ok (.invokespecial 11, 3) := by decide +kernel
theorem dX3_init_15 : decode cX3_init 15 = .ok (.putfield 14, 3) := by decide +kernel
theorem dX3_init_18 : decode cX3_init 18 = .ok (.aload_n 0, 1) := by decide +kernel
theorem dX3_init_19 : decode cX3_init 19 = .ok (.iconst 5, 1) := by decide +kernel
theorem dX3_init_20 : decode cX3_init 20 = .ok (.newarray .int, 2) := by decide +kernel
theorem dX3_init_22 : decode cX3_init 22 = .ok (.putfield 20, 3) := by decide +kernel
theorem dX3_init_25 : decode cX3_init 25 = .ok (.aload_n 0, 1) := by decide +kernel
theorem dX3_init_26 : decode cX3_init 26 = .ok (.iconst 5, 1) := by decide +kernel
theorem dX3_init_27 : decode cX3_init 27 = .ok (.newarray .int, 2) := by decide +kernel
theorem dX3_init_29 : decode cX3_init 29 = .ok (.putfield 24, 3) := by decide +kernel
theorem dX3_init_32 : decode cX3_init 32 = .ok (.aload_n 0, 1) := by decide +kernel
theorem dX3_init_33 : decode cX3_init 33 = .ok (.iconst 5, 1) := by decide +kernel
theorem dX3_init_34 : decode cX3_init 34 = .ok (.newarray .int, 2) := by decide +kernel
theorem dX3_init_36 : decode cX3_init 36 = .ok (.putfield 27, 3) := by decide +kernel
theorem dX3_init_39 : decode cX3_init 39 = .ok (.return_, 1) := by decide +kernel
theorem dX3_gather_0 : decode cX3_gather 0 = .ok (.aload_n 0, 1) := by decide +kernel
theorem dX3_gather_1 : decode cX3_gather 1 = .ok (.getfield 14, 3) := by decide +kernel
theorem dX3_gather_4 : decode cX3_gather 4 = .ok (.iload_n 1, 1) := by decide +kernel
theorem dX3_gather_5 : decode cX3_gather 5 = .ok (.invokevirtual 30, 3) := by decide +kernel
theorem dX3_gather_8 : decode cX3_gather 8 = .ok (.return_, 1) := by decide +kernel
theorem dX3_isAtLimit_0 : decode cX3_isAtLimit 0 = .ok (.aload_n 0, 1) := by decide +kernel
theorem dX3_isAtLimit_1 : decode cX3_isAtLimit 1 = .ok (.getfield 14, 3) := by decide +kernel
theorem dX3_isAtLimit_4 : decode cX3_isAtLimit 4 = .ok (.invokevirtual 33, 3) := by decide +kernel
theorem dX3_isAtLimit_7 : decode cX3_isAtLimit 7 = .ok (.ireturn, 1) := by decide +kernel
theorem dX3_isComplete_0 : decode cX3_isComplete 0 = .ok (.aload_n 0, 1) := by decide +kernel
theorem dX3_isComplete_1 : decode cX3_isComplete 1 = .ok (.getfield 14, 3) := by decide +kernel
theorem dX3_isComplete_4 : decode cX3_isComplete 4 = .ok (.invokevirtual 37, 3) := by decide +kernel
theorem dX3_isComplete_7 : decode cX3_isComplete 7 = .ok (.iconst 4, 1) := by decide +kernel
theorem dX3_isComplete_8 : decode cX3_isComplete 8 = .ok (.isub, 1) := by decide +kernel
theorem dX3_isComplete_9 : decode cX3_isComplete 9 = .ok (.istore_n 1, 1) := by decide +kernel
theorem dX3_isComplete_10 : decode cX3_isComplete 10 = .ok (.aload_n 0, 1) := by decide +kernel
theorem dX3_isComplete_11 : decode cX3_isComplete 11 = .ok (.iload_n 1, 1) := by decide +kernel
theorem dX3_isComplete_12 : decode cX3_isComplete 12 = .ok (.invokevirtual 41, 3) := by decide +kernel
theorem dX3_isComplete_15 : decode cX3_isComplete 15 = .ok (.ifCond .eq 17, 3) := by decide +kernel
theorem dX3_isComplete_18 : decode cX3_isComplete 18 = .ok (.aload_n 0, 1) := by decide +kernel
theorem dX3_isComplete_19 : decode cX3_isComplete 19 = .ok (.iload_n 1, 1) := by decide +kernel
theorem dX3_isComplete_20 : decode cX3_isComplete 20 = .ok (.iconst 2, 1) := by decide +kernel
theorem dX3_isComplete_21 : decode cX3_isComplete 21 = .ok (.iadd, 1) := by decide +kernel
theorem dX3_isComplete_22 : decode cX3_isComplete 22 = .ok (.invokevirtual 41, 3) := by decide +kernel
theorem dX3_isComplete_25 : decode cX3_isComplete 25 = .ok (.ifCond .eq 7, 3) := by decide +kernel
theorem dX3_isComplete_28 : decode cX3_isComplete 28 = .ok (.iconst 1, 1) := by decide +kernel
theorem dX3_isComplete_29 : decode cX3_isComplete 29 = .ok (.goto 4, 3) := by decide +kernel
theorem dX3_isComplete_32 : decode cX3_isComplete 32 = .ok (.iconst 0, 1) := by decide +kernel
theorem dX3_isComplete_33 : decode cX3_isComplete 33 = .ok (.ireturn, 1) := by decide +kernel
theorem dX3_judge_0 : decode cX3_judge 0 = .ok (.aload_n 0, 1) := by decide +kernel
theorem dX3_judge_1 : decode cX3_judge 1 = .ok (.invokevirtual 45, 3) := by decide +kernel
theorem dX3_judge_4 : decode cX3_judge 4 = .ok (.ifCond .eq 10, 3) := by decide +kernel
theorem dX3_judge_7 : decode cX3_judge 7 = .ok (.aload_n 0, 1) := by decide +kernel
theorem dX3_judge_8 : decode cX3_judge 8 = .ok (.invokevirtual 48, 3) := by decide +kernel
theorem dX3_judge_11 : decode cX3_judge 11 = .ok (.ifCond .ne 5, 3) := by decide +kernel
theorem dX3_judge_14 : decode cX3_judge 14 = .ok (.iconst 0, 1) := by decide +kernel
theorem dX3_judge_15 : decode cX3_judge 15 = .ok (.ireturn, 1) := by decide +kernel
theorem dX3_judge_16 : decode cX3_judge 16 = .ok (.aload_n 0, 1) := by decide +kernel
theorem dX3_judge_17 : decode cX3_judge 17 = .ok (.aload_n 0, 1) := by decide +kernel
theorem dX3_judge_18 : decode cX3_judge 18 = .ok (.getfield 24, 3) := by decide +kernel
theorem dX3_judge_21 : decode cX3_judge 21 = .ok (.iconst 4, 1) := by decide +kernel
theorem dX3_judge_22 : decode cX3_judge 22 = .ok (.iaload, 1) := by decide +kernel
theorem dX3_judge_23 : decode cX3_judge 23 = .ok (.aload_n 0, 1) := by decide +kernel
theorem dX3_judge_24 : decode cX3_judge 24 = .ok (.getfield 27, 3) := by decide +kernel
theorem dX3_judge_27 : decode cX3_judge 27 = .ok (.iconst 4, 1) := by decide +kernel
theorem dX3_judge_28 : decode cX3_judge 28 = .ok (.iaload, 1) := by decide +kernel
theorem dX3_judge_29 : decode cX3_judge 29 = .ok (.ldc 51, 2) := by decide +kernel
theorem dX3_judge_31 : decode cX3_judge 31 = .ok (.invokevirtual 53, 3) := by decide +kernel
theorem dX3_judge_34 : decode cX3_judge 34 = .ok (.ifCond .eq 7, 3) := by decide +kernel
theorem dX3_judge_37 : decode cX3_judge 37 = .ok (.iconst 2, 1) := by decide +kernel
theorem dX3_judge_38 : decode cX3_judge 38 = .ok (.goto 4, 3) := by decide +kernel
theorem dX3_judge_41 : decode cX3_judge 41 = .ok (.iconst 1, 1) := by decide +kernel
theorem dX3_judge_42 : decode cX3_judge 42 = .ok (.ireturn, 1) := by decide +kernel
theorem dX3_putKeyInto_0 : decode cX3_putKeyInto 0 = .ok (.aload_n 1, 1) := by decide +kernel
theorem dX3_putKeyInto_1 : decode cX3_putKeyInto 1 = .ok (.aload_n 0, 1) := by decide +kernel
theorem dX3_putKeyInto_2 : decode cX3_putKeyInto 2 = .ok (.getfield 14, 3) := by decide +kernel
theorem dX3_putKeyInto_5 : decode cX3_putKeyInto 5 = .ok (.aload_n 0, 1) := by decide +kernel
theorem dX3_putKeyInto_6 : decode cX3_putKeyInto 6 = .ok (.getfield 24, 3) := by decide +kernel
theorem dX3_putKeyInto_9 : decode cX3_putKeyInto 9 = .ok (.iconst 3, 1) := by decide +kernel
theorem dX3_putKeyInto_10 : decode cX3_putKeyInto 10 = .ok (.iaload, 1) := by decide +kernel
theorem dX3_putKeyInto_11 : decode cX3_putKeyInto 11 = .ok (.aload_n 0, 1) := by decide +kernel
theorem dX3_putKeyInto_12 : decode cX3_putKeyInto 12 = .ok (.getfield 27, 3) := by decide +kernel
theorem dX3_putKeyInto_15 : decode cX3_putKeyInto 15 = .ok (.iconst 3, 1) := by decide +kernel
theorem dX3_putKeyInto_16 : decode cX3_putKeyInto 16 = .ok (.iaload, 1) := by decide +kernel
theorem dX3_putKeyInto_17 : decode cX3_putKeyInto 17 = .ok (.invokevirtual 57, 3) := by decide +kernel
theorem dX3_putKeyInto_20 : decode cX3_putKeyInto 20 = .ok (.return_, 1) := by decide +kernel
theorem dX3_isLineEnd_0 : decode cX3_isLineEnd 0 = .ok (.aload_n 0, 1) := by decide +kernel
theorem dX3_isLineEnd_1 : decode cX3_isLineEnd 1 = .ok (.getfield 14, 3) := by decide +kernel
theorem dX3_isLineEnd_4 : decode cX3_isLineEnd 4 = .ok (.iload_n 1, 1) := by decide +kernel
theorem dX3_isLineEnd_5 : decode cX3_isLineEnd 5 = .ok (.invokevirtual 61, 3) := by decide +kernel
theorem dX3_isLineEnd_8 : decode cX3_isLineEnd 8 = .ok (.bipush 13, 2) := by decide +kernel
theorem dX3_isLineEnd_10 : decode cX3_isLineEnd 10 = .ok (.if_icmp .ne 22, 3) := by decide +kernel
theorem dX3_isLineEnd_13 : decode cX3_isLineEnd 13 = .ok (.aload_n 0, 1) := by decide +kernel
theorem dX3_isLineEnd_14 : decode cX3_isLineEnd 14 = .ok (.getfield 14, 3) := by decide +kernel
theorem dX3_isLineEnd_17 : decode cX3_isLineEnd 17 = .ok (.iload_n 1, 1) := by decide +kernel
theorem dX3_isLineEnd_18 : decode cX3_isLineEnd 18 = .ok (.iconst 1, 1) := by decide +kernel
theorem dX3_isLineEnd_19 : decode cX3_isLineEnd 19 = .ok (.iadd, 1) := by decide +kernel
theorem dX3_isLineEnd_20 : decode cX3_isLineEnd 20 = .ok (.invokevirtual 61, 3) := by decide +kernel
theorem dX3_isLineEnd_23 : decode cX3_isLineEnd 23 = .ok (.bipush 10, 2) := by decide +kernel
theorem dX3_isLineEnd_25 : decode cX3_isLineEnd 25 = .ok (.if_icmp .ne 7, 3) := by decide +kernel
theorem dX3_isLineEnd_28 : decode cX3_isLineEnd 28 = .ok (.iconst 1, 1) := by decide +kernel
theorem dX3_isLineEnd_29 : decode cX3_isLineEnd 29 = .ok (.goto 4, 3) := by decide +kernel
theorem dX3_isLineEnd_32 : decode cX3_isLineEnd 32 = .ok (.iconst 0, 1) := by decide +kernel
theorem dX3_isLineEnd_33 : decode cX3_isLineEnd 33 = .ok (.ireturn, 1) := by decide +kernel
theorem dX3_readLines_0 : decode cX3_readLines 0 = .ok (.aload_n 0, 1) := by decide +kernel
theorem dX3_readLines_1 : decode cX3_readLines 1 = .ok (.getfield 14, 3) := by decide +kernel
theorem dX3_readLines_4 : decode cX3_readLines 4 = .ok (.invokevirtual 37, 3) := by decide +kernel
theorem dX3_readLines_7 : decode cX3_readLines 7 = .ok (.iconst 4, 1) := by decide +kernel
theorem dX3_readLines_8 : decode cX3_readLines 8 = .ok (.isub, 1) := by decide +kernel
theorem dX3_readLines_9 : decode cX3_readLines 9 = .ok (.istore_n 1, 1) := by decide +kernel
theorem dX3_readLines_10 : decode cX3_readLines 10 = .ok (.iconst 0, 1) := by decide +kernel
theorem dX3_readLines_11 : decode cX3_readLines 11 = .ok (.istore_n 2, 1) := by decide +kernel
theorem dX3_readLines_12 : decode cX3_readLines 12 = .ok (.iconst 0, 1) := by decide +kernel
theorem dX3_readLines_13 : decode cX3_readLines 13 = .ok (.istore_n 3, 1) := by decide +kernel
theorem dX3_readLines_14 : decode cX3_readLines 14 = .ok (.iload_n 3, 1) := by decide +kernel
theorem dX3_readLines_15 : decode cX3_readLines 15 = .ok (.iload_n 1, 1) := by decide +kernel
theorem dX3_readLines_16 : decode cX3_readLines 16 = .ok (.if_icmp .gt 48, 3) := by decide +kernel
theorem dX3_readLines_19 : decode cX3_readLines 19 = .ok (.aload_n 0, 1) := by decide +kernel
theorem dX3_readLines_20 : decode cX3_readLines 20 = .ok (.iload_n 3, 1) := by decide +kernel
theorem dX3_readLines_21 : decode cX3_readLines 21 = .ok (.invokevirtual 41, 3) := by decide +kernel
theorem dX3_readLines_24 : decode cX3_readLines 24 = .ok (.ifCond .eq 34, 3) := by decide +kernel
theorem dX3_readLines_27 : decode cX3_readLines 27 = .ok (.iload_n 2, 1) := by decide +kernel
theorem dX3_readLines_28 : decode cX3_readLines 28 = .ok (.ifCond .ne 11, 3) := by decide +kernel
theorem dX3_readLines_31 : decode cX3_readLines 31 = .ok (.aload_n 0, 1) := by decide +kernel
theorem dX3_readLines_32 : decode cX3_readLines 32 = .ok (.iload_n 3, 1) := by decide +kernel
theorem dX3_readLines_33 : decode cX3_readLines 33 = .ok (.invokevirtual 65, 3) := by decide +kernel
theorem dX3_readLines_36 : decode cX3_readLines 36 = .ok (.goto 9, 3) := by decide +kernel
theorem dX3_readLines_39 : decode cX3_readLines 39 = .ok (.aload_n 0, 1) := by decide +kernel
theorem dX3_readLines_40 : decode cX3_readLines 40 = .ok (.iload_n 2, 1) := by decide +kernel
theorem dX3_readLines_41 : decode cX3_readLines 41 = .ok (.iload_n 3, 1) := by decide +kernel
theorem dX3_readLines_42 : decode cX3_readLines 42 = .ok (.invokevirtual 68, 3) := by decide +kernel
theorem dX3_readLines_45 : decode cX3_readLines 45 = .ok (.istore 4, 2) := by decide +kernel
theorem dX3_readLines_47 : decode cX3_readLines 47 = .ok (.iload 4, 2) := by decide +kernel
theorem dX3_readLines_49 : decode cX3_readLines 49 = .ok (.ifCond .ne 5, 3) := by decide +kernel
theorem dX3_readLines_52 : decode cX3_readLines 52 = .ok (.iconst 0, 1) := by decide +kernel
theorem dX3_readLines_53 : decode cX3_readLines 53 = .ok (.ireturn, 1) := by decide +kernel
theorem dX3_readLines_54 : decode cX3_readLines 54 = .ok (.iload_n 3, 1) := by decide +kernel
theorem dX3_readLines_55 : decode cX3_readLines 55 = .ok (.iconst 2, 1) := by decide +kernel
theorem dX3_readLines_56 : decode cX3_readLines 56 = .ok (.iadd, 1) := by decide +kernel
theorem dX3_readLines_57 : decode cX3_readLines 57 = .ok (.istore_n 2, 1) := by decide +kernel
theorem dX3_readLines_58 : decode cX3_readLines 58 = .ok (.iinc 3 1, 3) := by decide +kernel
theorem dX3_readLines_61 : decode cX3_readLines 61 = .ok (.goto (-47), 3) := by decide +kernel
theorem dX3_readLines_64 : decode cX3_readLines 64 = .ok (.iconst 1, 1) := by decide +kernel
theorem dX3_readLines_65 : decode cX3_readLines 65 = .ok (.ireturn, 1) := by decide +kernel
theorem dX3_isFirstLine_0 : decode cX3_isFirstLine 0 = .ok (.iconst 4, 1) := by decide +kernel
theorem dX3_isFirstLine_1 : decode cX3_isFirstLine 1 = .ok (.istore_n 2, 1) := by decide +kernel
theorem dX3_isFirstLine_2 : decode cX3_isFirstLine 2 = .ok (.iload_n 1, 1) := by decide +kernel
theorem dX3_isFirstLine_3 : decode cX3_isFirstLine 3 = .ok (.bipush 9, 2) := by decide +kernel
theorem dX3_isFirstLine_5 : decode cX3_isFirstLine 5 = .ok (.isub, 1) := by decide +kernel
theorem dX3_isFirstLine_6 : decode cX3_isFirstLine 6 = .ok (.istore_n 3, 1) := by decide +kernel
theorem dX3_isFirstLine_7 : decode cX3_isFirstLine 7 = .ok (.iload_n 3, 1) := by decide +kernel
theorem dX3_isFirstLine_8 : decode cX3_isFirstLine 8 = .ok (.iload_n 2, 1) := by decide +kernel
theorem dX3_isFirstLine_9 : decode cX3_isFirstLine 9 = .ok (.if_icmp .le 38, 3) := by decide +kernel
theorem dX3_isFirstLine_12 : decode cX3_isFirstLine 12 = .ok (.aload_n 0, 1) := by decide +kernel
theorem dX3_isFirstLine_13 : decode cX3_isFirstLine 13 = .ok (.iconst 0, 1) := by decide +kernel
theorem dX3_isFirstLine_14 : decode cX3_isFirstLine 14 = .ok (.ldc 72, 2) := by decide +kernel
theorem dX3_isFirstLine_16 : decode cX3_isFirstLine 16 = .ok (.invokevirtual 74, 3) := by decide +kernel
theorem dX3_isFirstLine_19 : decode cX3_isFirstLine 19 = .ok (.ifCond .eq 28, 3) := by decide +kernel
theorem dX3_isFirstLine_22 : decode cX3_isFirstLine 22 = .ok (.aload_n 0, 1) := by decide +kernel
theorem dX3_isFirstLine_23 : decode cX3_isFirstLine 23 = .ok (.iload_n 3, 1) := by decide +kernel
theorem dX3_isFirstLine_24 : decode cX3_isFirstLine 24 = .ok (.ldc 78, 2) := by decide +kernel
theorem dX3_isFirstLine_26 : decode cX3_isFirstLine 26 = .ok (.invokevirtual 74, 3) := by decide +kernel
theorem dX3_isFirstLine_29 : decode cX3_isFirstLine 29 = .ok (.ifCond .eq 18, 3) := by decide +kernel
theorem dX3_isFirstLine_32 : decode cX3_isFirstLine 32 = .ok (.aload_n 0, 1) := by decide +kernel
theorem dX3_isFirstLine_33 : decode cX3_isFirstLine 33 = .ok (.iload_n 2, 1) := by decide +kernel
theorem dX3_isFirstLine_34 : decode cX3_isFirstLine 34 = .ok (.iload_n 3, 1) := by decide +kernel
theorem dX3_isFirstLine_35 : decode cX3_isFirstLine 35 = .ok (.bipush 33, 2) := by decide +kernel
theorem dX3_isFirstLine_37 : decode cX3_isFirstLine 37 = .ok (.invokevirtual 80, 3) := by decide +kernel
theorem dX3_isFirstLine_40 : decode cX3_isFirstLine 40 = .ok (.ifCond .eq 7, 3) := by decide +kernel
theorem dX3_isFirstLine_43 : decode cX3_isFirstLine 43 = .ok (.iconst 1, 1) := by decide +kernel
theorem dX3_isFirstLine_44 : decode cX3_isFirstLine 44 = .ok (.goto 4, 3) := by decide +kernel
theorem dX3_isFirstLine_47 : decode cX3_isFirstLine 47 = .ok (.iconst 0, 1) := by decide +kernel
theorem dX3_isFirstLine_48 : decode cX3_isFirstLine 48 = .ok (.ireturn, 1) := by decide +kernel
theorem dX3_isExactly_0 : decode cX3_isExactly 0 = .ok (.iconst 0, 1) := by decide +kernel
theorem dX3_isExactly_1 : decode cX3_isExactly 1 = .ok (.istore_n 3, 1) := by decide +kernel
theorem dX3_isExactly_2 : decode cX3_isExactly 2 = .ok (.iload_n 3, 1) := by decide +kernel
theorem dX3_isExactly_3 : decode cX3_isExactly 3 = .ok (.aload_n 2, 1) := by decide +kernel
theorem dX3_isExactly_4 : decode cX3_isExactly 4 = .ok (.invokevirtual 84, 3) := by decide +kernel
theorem dX3_isExactly_7 : decode cX3_isExactly 7 = .ok (.if_icmp .ge 29, 3) := by decide +kernel
theorem dX3_isExactly_10 : decode cX3_isExactly 10 = .ok (.aload_n 0, 1) := by decide +kernel
theorem dX3_isExactly_11 : decode cX3_isExactly 11 = .ok (.getfield 14, 3) := by decide +kernel
theorem dX3_isExactly_14 : decode cX3_isExactly 14 = .ok (.iload_n 1, 1) := by decide +kernel
theorem dX3_isExactly_15 : decode cX3_isExactly 15 = .ok (.iload_n 3, 1) := by decide +kernel
theorem dX3_isExactly_16 : decode cX3_isExactly 16 = .ok (.iadd, 1) := by decide +kernel
theorem dX3_isExactly_17 : decode cX3_isExactly 17 = .ok (.invokevirtual 61, 3) := by decide +kernel
theorem dX3_isExactly_20 : decode cX3_isExactly 20 = .ok (.aload_n 2, 1) := by decide +kernel
theorem dX3_isExactly_21 : decode cX3_isExactly 21 = .ok (.iload_n 3, 1) := by decide +kernel
theorem dX3_isExactly_22 : decode cX3_isExactly 22 = .ok (.invokevirtual 89, 3) := by decide +kernel
theorem dX3_isExactly_25 : decode cX3_isExactly 25 = .ok (.if_icmp .eq 5, 3) := by decide +kernel
theorem dX3_isExactly_28 : decode cX3_isExactly 28 = .ok (.iconst 0, 1) := by decide +kernel
theorem dX3_isExactly_29 : decode cX3_isExactly 29 = .ok (.ireturn, 1) := by decide +kernel
theorem dX3_isExactly_30 : decode cX3_isExactly 30 = .ok (.iinc 3 1, 3) := by decide +kernel
theorem dX3_isExactly_33 : decode cX3_isExactly 33 = .ok (.goto (-31), 3) := by decide +kernel
theorem dX3_isExactly_36 : decode cX3_isExactly 36 = .ok (.iconst 1, 1) := by decide +kernel
theorem dX3_isExactly_37 : decode cX3_isExactly 37 = .ok (.ireturn, 1) := by decide +kernel
theorem dX3_allWithin_0 : decode cX3_allWithin 0 = .ok (.iload_n 1, 1) := by decide +kernel
theorem dX3_allWithin_1 : decode cX3_allWithin 1 = .ok (.istore 4, 2) := by decide +kernel
theorem dX3_allWithin_3 : decode cX3_allWithin 3 = .ok (.iload 4, 2) := by decide +kernel
theorem dX3_allWithin_5 : decode cX3_allWithin 5 = .ok (.iload_n 2, 1) := by decide +kernel
theorem dX3_allWithin_6 : decode cX3_allWithin 6 = .ok (.if_icmp .ge 38, 3) := by decide +kernel
theorem dX3_allWithin_9 : decode cX3_allWithin 9 = .ok (.aload_n 0, 1) := by decide +kernel
theorem dX3_allWithin_10 : decode cX3_allWithin 10 = .ok (.getfield 14, 3) := by decide +kernel
theorem dX3_allWithin_13 : decode cX3_allWithin 13 = .ok (.iload 4, 2) := by decide +kernel
theorem dX3_allWithin_15 : decode cX3_allWithin 15 = .ok (.invokevirtual 61, 3) := by decide +kernel
theorem dX3_allWithin_18 : decode cX3_allWithin 18 = .ok (.iload_n 3, 1) := by decide +kernel
theorem dX3_allWithin_19 : decode cX3_allWithin 19 = .ok (.if_icmp .lt 17, 3) := by decide +kernel
theorem dX3_allWithin_22 : decode cX3_allWithin 22 = .ok (.aload_n 0, 1) := by decide +kernel
theorem dX3_allWithin_23 : decode cX3_allWithin 23 = .ok (.getfield 14, 3) := by decide +kernel
theorem dX3_allWithin_26 : decode cX3_allWithin 26 = .ok (.iload 4, 2) := by decide +kernel
theorem dX3_allWithin_28 : decode cX3_allWithin 28 = .ok (.invokevirtual 61, 3) := by decide +kernel
theorem dX3_allWithin_31 : decode cX3_allWithin 31 = .ok (.bipush 126, 2) := by decide +kernel
theorem dX3_allWithin_33 : decode cX3_allWithin 33 = .ok (.if_icmp .le 5, 3) := by decide +kernel
theorem dX3_allWithin_36 : decode cX3_allWithin 36 = .ok (.iconst 0, 1) := by decide +kernel
theorem dX3_allWithin_37 : decode cX3_allWithin 37 = .ok (.ireturn, 1) := by decide +kernel
theorem dX3_allWithin_38 : decode cX3_allWithin 38 = .ok (.iinc 4 1, 3) := by decide +kernel
theorem dX3_allWithin_41 : decode cX3_allWithin 41 = .ok (.goto (-38), 3) := by decide +kernel
theorem dX3_allWithin_44 : decode cX3_allWithin 44 = .ok (.iconst 1, 1) := by decide +kernel
theorem dX3_allWithin_45 : decode cX3_allWithin 45 = .ok (.ireturn, 1) := by decide +kernel
theorem dX3_readField_0 : decode cX3_readField 0 = .ok (.iload_n 1, 1) := by decide +kernel
theorem dX3_readField_1 : decode cX3_readField 1 = .ok (.istore_n 3, 1) := by decide +kernel
theorem dX3_readField_2 : decode cX3_readField 2 = .ok (.iload_n 3, 1) := by decide +kernel
theorem dX3_readField_3 : decode cX3_readField 3 = .ok (.iload_n 2, 1) := by decide +kernel
theorem dX3_readField_4 : decode cX3_readField 4 = .ok (.if_icmp .ge 23, 3) := by decide +kernel
theorem dX3_readField_7 : decode cX3_readField 7 = .ok (.aload_n 0, 1) := by decide +kernel
theorem dX3_readField_8 : decode cX3_readField 8 = .ok (.getfield 14, 3) := by decide +kernel
theorem dX3_readField_11 : decode cX3_readField 11 = .ok (.iload_n 3, 1) := by decide +kernel
theorem dX3_readField_12 : decode cX3_readField 12 = .ok (.invokevirtual 61, 3) := by decide +kernel
theorem dX3_readField_15 : decode cX3_readField 15 = .ok (.invokestatic 93, 3) := by decide +kernel
theorem dX3_readField_18 : decode cX3_readField 18 = .ok (.ifCond .eq 9, 3) := by decide +kernel
theorem dX3_readField_21 : decode cX3_readField 21 = .ok (.iinc 3 1, 3) := by decide +kernel
theorem dX3_readField_24 : decode cX3_readField 24 = .ok (.goto (-22), 3) := by decide +kernel
theorem dX3_readField_27 : decode cX3_readField 27 = .ok (.iload_n 3, 1) := by decide +kernel
theorem dX3_readField_28 : decode cX3_readField 28 = .ok (.iload_n 1, 1) := by decide +kernel
theorem dX3_readField_29 : decode cX3_readField 29 = .ok (.if_icmp .eq 21, 3) := by decide +kernel
theorem dX3_readField_32 : decode cX3_readField 32 = .ok (.iload_n 3, 1) := by decide +kernel
theorem dX3_readField_33 : decode cX3_readField 33 = .ok (.iload_n 2, 1) := by decide +kernel
theorem dX3_readField_34 : decode cX3_readField 34 = .ok (.if_icmp .eq 16, 3) := by decide +kernel
theorem dX3_readField_37 : decode cX3_readField 37 = .ok (.aload_n 0, 1) := by decide +kernel
theorem dX3_readField_38 : decode cX3_readField 38 = .ok (.getfield 14, 3) := by decide +kernel
theorem dX3_readField_41 : decode cX3_readField 41 = .ok (.iload_n 3, 1) := by decide +kernel
theorem dX3_readField_42 : decode cX3_readField 42 = .ok (.invokevirtual 61, 3) := by decide +kernel
theorem dX3_readField_45 : decode cX3_readField 45 = .ok (.bipush 58, 2) := by decide +kernel
theorem dX3_readField_47 : decode cX3_readField 47 = .ok (.if_icmp .eq 5, 3) := by decide +kernel
theorem dX3_readField_50 : decode cX3_readField 50 = .ok (.iconst 0, 1) := by decide +kernel
theorem dX3_readField_51 : decode cX3_readField 51 = .ok (.ireturn, 1) := by decide +kernel
theorem dX3_readField_52 : decode cX3_readField 52 = .ok (.iload_n 3, 1) := by decide +kernel
theorem dX3_readField_53 : decode cX3_readField 53 = .ok (.iconst 1, 1) := by decide +kernel
theorem dX3_readField_54 : decode cX3_readField 54 = .ok (.iadd, 1) := by decide +kernel
theorem dX3_readField_55 : decode cX3_readField 55 = .ok (.istore 4, 2) := by decide +kernel
theorem dX3_readField_57 : decode cX3_readField 57 = .ok (.iload 4, 2) := by decide +kernel
theorem dX3_readField_59 : decode cX3_readField 59 = .ok (.iload_n 2, 1) := by decide +kernel
theorem dX3_readField_60 : decode cX3_readField 60 = .ok (.if_icmp .ge 53, 3) := by decide +kernel
theorem dX3_readField_63 : decode cX3_readField 63 = .ok (.aload_n 0, 1) := by decide +kernel
theorem dX3_readField_64 : decode cX3_readField 64 = .ok (.getfield 14, 3) := by decide +kernel
theorem dX3_readField_67 : decode cX3_readField 67 = .ok (.iload 4, 2) := by decide +kernel
theorem dX3_readField_69 : decode cX3_readField 69 = .ok (.invokevirtual 61, 3) := by decide +kernel
theorem dX3_readField_72 : decode cX3_readField 72 = .ok (.bipush 9, 2) := by decide +kernel
theorem dX3_readField_74 : decode cX3_readField 74 = .ok (.if_icmp .eq 33, 3) := by decide +kernel
theorem dX3_readField_77 : decode cX3_readField 77 = .ok (.aload_n 0, 1) := by decide +kernel
theorem dX3_readField_78 : decode cX3_readField 78 = .ok (.getfield 14, 3) := by decide +kernel
theorem dX3_readField_81 : decode cX3_readField 81 = .ok (.iload 4, 2) := by decide +kernel
theorem dX3_readField_83 : decode cX3_readField 83 = .ok (.invokevirtual 61, 3) := by decide +kernel
theorem dX3_readField_86 : decode cX3_readField 86 = .ok (.bipush 32, 2) := by decide +kernel
theorem dX3_readField_88 : decode cX3_readField 88 = .ok (.if_icmp .lt 17, 3) := by decide +kernel
theorem dX3_readField_91 : decode cX3_readField 91 = .ok (.aload_n 0, 1) := by decide +kernel
theorem dX3_readField_92 : decode cX3_readField 92 = .ok (.getfield 14, 3) := by decide +kernel
theorem dX3_readField_95 : decode cX3_readField 95 = .ok (.iload 4, 2) := by decide +kernel
theorem dX3_readField_97 : decode cX3_readField 97 = .ok (.invokevirtual 61, 3) := by decide +kernel
theorem dX3_readField_100 : decode cX3_readField 100 = .ok (.bipush 126, 2) := by decide +kernel
theorem dX3_readField_102 : decode cX3_readField 102 = .ok (.if_icmp .le 5, 3) := by decide +kernel
theorem dX3_readField_105 : decode cX3_readField 105 = .ok (.iconst 0, 1) := by decide +kernel
theorem dX3_readField_106 : decode cX3_readField 106 = .ok (.ireturn, 1) := by decide +kernel
theorem dX3_readField_107 : decode cX3_readField 107 = .ok (.iinc 4 1, 3) := by decide +kernel
theorem dX3_readField_110 : decode cX3_readField 110 = .ok (.goto (-53), 3) := by decide +kernel
theorem dX3_readField_113 : decode cX3_readField 113 = .ok (.aload_n 0, 1) := by decide +kernel
theorem dX3_readField_114 : decode cX3_readField 114 = .ok (.aload_n 0, 1) := by decide +kernel
theorem dX3_readField_115 : decode cX3_readField 115 = .ok (.iload_n 1, 1) := by decide +kernel
theorem dX3_readField_116 : decode cX3_readField 116 = .ok (.iload_n 3, 1) := by decide +kernel
theorem dX3_readField_117 : decode cX3_readField 117 = .ok (.invokevirtual 96, 3) := by decide +kernel
theorem dX3_readField_120 : decode cX3_readField 120 = .ok (.iload_n 3, 1) := by decide +kernel
theorem dX3_readField_121 : decode cX3_readField 121 = .ok (.iconst 1, 1) := by decide +kernel
theorem dX3_readField_122 : decode cX3_readField 122 = .ok (.iadd, 1) := by decide +kernel
theorem dX3_readField_123 : decode cX3_readField 123 = .ok (.iload_n 2, 1) := by decide +kernel
theorem dX3_readField_124 : decode cX3_readField 124 = .ok (.invokevirtual 100, 3) := by decide +kernel
theorem dX3_readField_127 : decode cX3_readField 127 = .ok (.iconst 1, 1) := by decide +kernel
theorem dX3_readField_128 : decode cX3_readField 128 = .ok (.ireturn, 1) := by decide +kernel
theorem dX3_isNameSign_0 : decode cX3_isNameSign 0 = .ok (.iload_n 0, 1) := by decide +kernel
theorem dX3_isNameSign_1 : decode cX3_isNameSign 1 = .ok (.invokestatic 104, 3) := by decide +kernel
