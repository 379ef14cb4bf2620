theorem dX7_init_31 : decode cX7_init 31 = .ok (.putfield 19, 3) := by decide +kernel
theorem dX7_init_34 : decode cX7_init 34 = .ok (.aload_n 0, 1) := by decide +kernel
theorem dX7_init_35 : decode cX7_init 35 = .ok (.sipush 800, 3) := by decide +kernel
theorem dX7_init_38 : decode cX7_init 38 = .ok (.newarray .int, 2) := by decide +kernel
theorem dX7_init_40 : decode cX7_init 40 = .ok (.putfield 22, 3) := by decide +kernel
theorem dX7_init_43 : decode cX7_init 43 = .ok (.aload_n 0, 1) := by decide +kernel
theorem dX7_init_44 : decode cX7_init 44 = .ok (.bipush 100, 2) := by decide +kernel
theorem dX7_init_46 : decode cX7_init 46 = .ok (.newarray .int, 2) := by decide +kernel
theorem dX7_init_48 : decode cX7_init 48 = .ok (.putfield 25, 3) := by decide +kernel
theorem dX7_init_51 : decode cX7_init 51 = .ok (.aload_n 0, 1) := by decide +kernel
theorem dX7_init_52 : decode cX7_init 52 = .ok (.iconst 4, 1) := by decide +kernel
theorem dX7_init_53 : decode cX7_init 53 = .ok (.newarray .int, 2) := by decide +kernel
theorem dX7_init_55 : decode cX7_init 55 = .ok (.putfield 28, 3) := by decide +kernel
theorem dX7_init_58 : decode cX7_init 58 = .ok (.aload_n 0, 1) := by decide +kernel
theorem dX7_init_59 : decode cX7_init 59 = .ok (.bipush 125, 2) := by decide +kernel
theorem dX7_init_61 : decode cX7_init 61 = .ok (.newarray .int, 2) := by decide +kernel
theorem dX7_init_63 : decode cX7_init 63 = .ok (.putfield 31, 3) := by decide +kernel
theorem dX7_init_66 : decode cX7_init 66 = .ok (.aload_n 0, 1) := by decide +kernel
theorem dX7_init_67 : decode cX7_init 67 = .ok (.sipush 300, 3) := by decide +kernel
theorem dX7_init_70 : decode cX7_init 70 = .ok (.newarray .int, 2) := by decide +kernel
theorem dX7_init_72 : decode cX7_init 72 = .ok (.putfield 34, 3) := by decide +kernel
theorem dX7_init_75 : decode cX7_init 75 = .ok (.aload_n 0, 1) := by decide +kernel
theorem dX7_init_76 : decode cX7_init 76 = .ok (.iconst 4, 1) := by decide +kernel
theorem dX7_init_77 : decode cX7_init 77 = .ok (.newarray .int, 2) := by decide +kernel
theorem dX7_init_79 : decode cX7_init 79 = .ok (.putfield 37, 3) := by decide +kernel
theorem dX7_init_82 : decode cX7_init 82 = .ok (.aload_n 0, 1) := by decide +kernel
theorem dX7_init_83 : decode cX7_init 83 = .ok (.iconst 4, 1) := by decide +kernel
theorem dX7_init_84 : decode cX7_init 84 = .ok (.newarray .int, 2) := by decide +kernel
theorem dX7_init_86 : decode cX7_init 86 = .ok (.putfield 40, 3) := by decide +kernel
theorem dX7_init_89 : decode cX7_init 89 = .ok (.aload_n 0, 1) := by decide +kernel
theorem dX7_init_90 : decode cX7_init 90 = .ok (.sipush 1200, 3) := by decide +kernel
theorem dX7_init_93 : decode cX7_init 93 = .ok (.newarray .int, 2) := by decide +kernel
theorem dX7_init_95 : decode cX7_init 95 = .ok (.putfield 43, 3) := by decide +kernel
theorem dX7_init_98 : decode cX7_init 98 = .ok (.aload_n 0, 1) := by decide +kernel
theorem dX7_init_99 : decode cX7_init 99 = .ok (.sipush 128, 3) := by decide +kernel
theorem dX7_init_102 : decode cX7_init 102 = .ok (.newarray .int, 2) := by decide +kernel
theorem dX7_init_104 : decode cX7_init 104 = .ok (.putfield 46, 3) := by decide +kernel
theorem dX7_init_107 : decode cX7_init 107 = .ok (.aload_n 0, 1) := by decide +kernel
theorem dX7_init_108 : decode cX7_init 108 = .ok (.bipush 80, 2) := by decide +kernel
theorem dX7_init_110 : decode cX7_init 110 = .ok (.newarray .int, 2) := by decide +kernel
theorem dX7_init_112 : decode cX7_init 112 = .ok (.putfield 49, 3) := by decide +kernel
theorem dX7_init_115 : decode cX7_init 115 = .ok (.aload_n 0, 1) := by decide +kernel
theorem dX7_init_116 : decode cX7_init 116 = .ok (.iconst 5, 1) := by decide +kernel
theorem dX7_init_117 : decode cX7_init 117 = .ok (.newarray .int, 2) := by decide +kernel
theorem dX7_init_119 : decode cX7_init 119 = .ok (.putfield 52, 3) := by decide +kernel
theorem dX7_init_122 : decode cX7_init 122 = .ok (.return_, 1) := by decide +kernel
theorem dX7_thrown_0 : decode cX7_thrown 0 = .ok (.aload_n 0, 1) := by decide +kernel
theorem dX7_thrown_1 : decode cX7_thrown 1 = .ok (.getfield 55, 3) := by decide +kernel
theorem dX7_thrown_4 : decode cX7_thrown 4 = .ok (.ireturn, 1) := by decide +kernel
theorem dX7_fail_0 : decode cX7_fail 0 = .ok (.aload_n 0, 1) := by decide +kernel
theorem dX7_fail_1 : decode cX7_fail 1 = .ok (.iload_n 1, 1) := by decide +kernel
theorem dX7_fail_2 : decode cX7_fail 2 = .ok (.putfield 55, 3) := by decide +kernel
theorem dX7_fail_5 : decode cX7_fail 5 = .ok (.iconst 0, 1) := by decide +kernel
theorem dX7_fail_6 : decode cX7_fail 6 = .ok (.ireturn, 1) := by decide +kernel
theorem dX7_put_0 : decode cX7_put 0 = .ok (.aload_n 0, 1) := by decide +kernel
theorem dX7_put_1 : decode cX7_put 1 = .ok (.getfield 22, 3) := by decide +kernel
theorem dX7_put_4 : decode cX7_put 4 = .ok (.aload_n 0, 1) := by decide +kernel
theorem dX7_put_5 : decode cX7_put 5 = .ok (.getfield 59, 3) := by decide +kernel
theorem dX7_put_8 : decode cX7_put 8 = .ok (.iload_n 1, 1) := by decide +kernel
theorem dX7_put_9 : decode cX7_put 9 = .ok (.iastore, 1) := by decide +kernel
theorem dX7_put_10 : decode cX7_put 10 = .ok (.aload_n 0, 1) := by decide +kernel
theorem dX7_put_11 : decode cX7_put 11 = .ok (.dup, 1) := by decide +kernel
theorem dX7_put_12 : decode cX7_put 12 = .ok (.getfield 59, 3) := by decide +kernel
theorem dX7_put_15 : decode cX7_put 15 = .ok (.iconst 1, 1) := by decide +kernel
theorem dX7_put_16 : decode cX7_put 16 = .ok (.iadd, 1) := by decide +kernel
theorem dX7_put_17 : decode cX7_put 17 = .ok (.putfield 59, 3) := by decide +kernel
theorem dX7_put_20 : decode cX7_put 20 = .ok (.return_, 1) := by decide +kernel
theorem dX7_text_0 : decode cX7_text 0 = .ok (.lload_n 1, 1) := by decide +kernel
theorem dX7_text_1 : decode cX7_text 1 = .ok (.lstore_n 3, 1) := by decide +kernel
theorem dX7_text_2 : decode cX7_text 2 = .ok (.lload_n 3, 1) := by decide +kernel
theorem dX7_text_3 : decode cX7_text 3 = .ok (.lconst 0, 1) := by decide +kernel
theorem dX7_text_4 : decode cX7_text 4 = .ok (.lcmp, 1) := by decide +kernel
theorem dX7_text_5 : decode cX7_text 5 = .ok (.ifCond .eq 21, 3) := by decide +kernel
theorem dX7_text_8 : decode cX7_text 8 = .ok (.aload_n 0, 1) := by decide +kernel
theorem dX7_text_9 : decode cX7_text 9 = .ok (.lload_n 3, 1) := by decide +kernel
theorem dX7_text_10 : decode cX7_text 10 = .ok (.ldc2_w 62, 3) := by decide +kernel
theorem dX7_text_13 : decode cX7_text 13 = .ok (.land, 1) := by decide +kernel
theorem dX7_text_14 : decode cX7_text 14 = .ok (.l2i, 1) := by decide +kernel
theorem dX7_text_15 : decode cX7_text 15 = .ok (.invokevirtual 64, 3) := by decide +kernel
theorem dX7_text_18 : decode cX7_text 18 = .ok (.lload_n 3, 1) := by decide +kernel
theorem dX7_text_19 : decode cX7_text 19 = .ok (.bipush 8, 2) := by decide +kernel
theorem dX7_text_21 : decode cX7_text 21 = .ok (.lshr, 1) := by decide +kernel
theorem dX7_text_22 : decode cX7_text 22 = .ok (.lstore_n 3, 1) := by decide +kernel
theorem dX7_text_23 : decode cX7_text 23 = .ok (.goto (-21), 3) := by decide +kernel
theorem dX7_text_26 : decode cX7_text 26 = .ok (.return_, 1) := by decide +kernel
theorem dX7_line_0 : decode cX7_line 0 = .ok (.aload_n 0, 1) := by decide +kernel
theorem dX7_line_1 : decode cX7_line 1 = .ok (.bipush 13, 2) := by decide +kernel
theorem dX7_line_3 : decode cX7_line 3 = .ok (.invokevirtual 64, 3) := by decide +kernel
theorem dX7_line_6 : decode cX7_line 6 = .ok (.aload_n 0, 1) := by decide +kernel
theorem dX7_line_7 : decode cX7_line 7 = .ok (.bipush 10, 2) := by decide +kernel
theorem dX7_line_9 : decode cX7_line 9 = .ok (.invokevirtual 64, 3) := by decide +kernel
theorem dX7_line_12 : decode cX7_line 12 = .ok (.return_, 1) := by decide +kernel
theorem dX7_head_0 : decode cX7_head 0 = .ok (.aload_n 0, 1) := by decide +kernel
theorem dX7_head_1 : decode cX7_head 1 = .ok (.iload_n 2, 1) := by decide +kernel
theorem dX7_head_2 : decode cX7_head 2 = .ok (.ifCond .eq 11, 3) := by decide +kernel
theorem dX7_head_5 : decode cX7_head 5 = .ok (.sipush 128, 3) := by decide +kernel
theorem dX7_head_8 : decode cX7_head 8 = .ok (.iload_n 1, 1) := by decide +kernel
theorem dX7_head_9 : decode cX7_head 9 = .ok (.iadd, 1) := by decide +kernel
theorem dX7_head_10 : decode cX7_head 10 = .ok (.goto 4, 3) := by decide +kernel
theorem dX7_head_13 : decode cX7_head 13 = .ok (.iload_n 1, 1) := by decide +kernel
theorem dX7_head_14 : decode cX7_head 14 = .ok (.invokevirtual 64, 3) := by decide +kernel
theorem dX7_head_17 : decode cX7_head 17 = .ok (.aload_n 0, 1) := by decide +kernel
theorem dX7_head_18 : decode cX7_head 18 = .ok (.iload_n 3, 1) := by decide +kernel
theorem dX7_head_19 : decode cX7_head 19 = .ok (.bipush 126, 2) := by decide +kernel
theorem dX7_head_21 : decode cX7_head 21 = .ok (.if_icmp .ge 7, 3) := by decide +kernel
theorem dX7_head_24 : decode cX7_head 24 = .ok (.iload_n 3, 1) := by decide +kernel
theorem dX7_head_25 : decode cX7_head 25 = .ok (.goto 5, 3) := by decide +kernel
theorem dX7_head_28 : decode cX7_head 28 = .ok (.bipush 126, 2) := by decide +kernel
theorem dX7_head_30 : decode cX7_head 30 = .ok (.invokevirtual 64, 3) := by decide +kernel
theorem dX7_head_33 : decode cX7_head 33 = .ok (.iload_n 3, 1) := by decide +kernel
theorem dX7_head_34 : decode cX7_head 34 = .ok (.bipush 125, 2) := by decide +kernel
theorem dX7_head_36 : decode cX7_head 36 = .ok (.if_icmp .le 21, 3) := by decide +kernel
theorem dX7_head_39 : decode cX7_head 39 = .ok (.aload_n 0, 1) := by decide +kernel
theorem dX7_head_40 : decode cX7_head 40 = .ok (.iload_n 3, 1) := by decide +kernel
theorem dX7_head_41 : decode cX7_head 41 = .ok (.sipush 256, 3) := by decide +kernel
theorem dX7_head_44 : decode cX7_head 44 = .ok (.idiv, 1) := by decide +kernel
theorem dX7_head_45 : decode cX7_head 45 = .ok (.invokevirtual 64, 3) := by decide +kernel
theorem dX7_head_48 : decode cX7_head 48 = .ok (.aload_n 0, 1) := by decide +kernel
theorem dX7_head_49 : decode cX7_head 49 = .ok (.iload_n 3, 1) := by decide +kernel
theorem dX7_head_50 : decode cX7_head 50 = .ok (.sipush 256, 3) := by decide +kernel
theorem dX7_head_53 : decode cX7_head 53 = .ok (.irem, 1) := by decide +kernel
theorem dX7_head_54 : decode cX7_head 54 = .ok (.invokevirtual 64, 3) := by decide +kernel
theorem dX7_head_57 : decode cX7_head 57 = .ok (.return_, 1) := by decide +kernel
theorem dX7_sayClose_0 : decode cX7_sayClose 0 = .ok (.aload_n 0, 1) := by decide +kernel
theorem dX7_sayClose_1 : decode cX7_sayClose 1 = .ok (.bipush 8, 2) := by decide +kernel
theorem dX7_sayClose_3 : decode cX7_sayClose 3 = .ok (.iconst 1, 1) := by decide +kernel
theorem dX7_sayClose_4 : decode cX7_sayClose 4 = .ok (.iconst 2, 1) := by decide +kernel
theorem dX7_sayClose_5 : decode cX7_sayClose 5 = .ok (.invokevirtual 68, 3) := by decide +kernel
theorem dX7_sayClose_8 : decode cX7_sayClose 8 = .ok (.aload_n 0, 1) := by decide +kernel
theorem dX7_sayClose_9 : decode cX7_sayClose 9 = .ok (.iload_n 1, 1) := by decide +kernel
theorem dX7_sayClose_10 : decode cX7_sayClose 10 = .ok (.sipush 256, 3) := by decide +kernel
theorem dX7_sayClose_13 : decode cX7_sayClose 13 = .ok (.idiv, 1) := by decide +kernel
theorem dX7_sayClose_14 : decode cX7_sayClose 14 = .ok (.invokevirtual 64, 3) := by decide +kernel
theorem dX7_sayClose_17 : decode cX7_sayClose 17 = .ok (.aload_n 0, 1) := by decide +kernel
theorem dX7_sayClose_18 : decode cX7_sayClose 18 = .ok (.iload_n 1, 1) := by decide +kernel
theorem dX7_sayClose_19 : decode cX7_sayClose 19 = .ok (.sipush 256, 3) := by decide +kernel
theorem dX7_sayClose_22 : decode cX7_sayClose 22 = .ok (.irem, 1) := by decide +kernel
theorem dX7_sayClose_23 : decode cX7_sayClose 23 = .ok (.invokevirtual 64, 3) := by decide +kernel
theorem dX7_sayClose_26 : decode cX7_sayClose 26 = .ok (.return_, 1) := by decide +kernel
theorem dX7_beginCharacters_0 : decode cX7_beginCharacters 0 = .ok (.aload_n 0, 1) := by decide +kernel
theorem dX7_beginCharacters_1 : decode cX7_beginCharacters 1 = .ok (.iconst 0, 1) := by decide +kernel
theorem dX7_beginCharacters_2 : decode cX7_beginCharacters 2 = .ok (.putfield 72, 3) := by decide +kernel
theorem dX7_beginCharacters_5 : decode cX7_beginCharacters 5 = .ok (.return_, 1) := by decide +kernel
theorem dX7_character_0 : decode cX7_character 0 = .ok (.aload_n 0, 1) := by decide +kernel
theorem dX7_character_1 : decode cX7_character 1 = .ok (.getfield 72, 3) := by decide +kernel
theorem dX7_character_4 : decode cX7_character 4 = .ok (.ifCond .le 51, 3) := by decide +kernel
theorem dX7_character_7 : decode cX7_character 7 = .ok (.iload_n 1, 1) := by decide +kernel
theorem dX7_character_8 : decode cX7_character 8 = .ok (.aload_n 0, 1) := by decide +kernel
theorem dX7_character_9 : decode cX7_character 9 = .ok (.getfield 75, 3) := by decide +kernel
theorem dX7_character_12 : decode cX7_character 12 = .ok (.if_icmp .lt 15, 3) := by decide +kernel
theorem dX7_character_15 : decode cX7_character 15 = .ok (.iload_n 1, 1) := by decide +kernel
theorem dX7_character_16 : decode cX7_character 16 = .ok (.aload_n 0, 1) := by decide +kernel
theorem dX7_character_17 : decode cX7_character 17 = .ok (.getfield 78, 3) := by decide +kernel
theorem dX7_character_20 : decode cX7_character 20 = .ok (.if_icmp .gt 7, 3) := by decide +kernel
theorem dX7_character_23 : decode cX7_character 23 = .ok (.iconst 1, 1) := by decide +kernel
theorem dX7_character_24 : decode cX7_character 24 = .ok (.goto 4, 3) := by decide +kernel
theorem dX7_character_27 : decode cX7_character 27 = .ok (.iconst 0, 1) := by decide +kernel
theorem dX7_character_28 : decode cX7_character 28 = .ok (.istore_n 2, 1) := by decide +kernel
theorem dX7_character_29 : decode cX7_character 29 = .ok (.aload_n 0, 1) := by decide +kernel
theorem dX7_character_30 : decode cX7_character 30 = .ok (.dup, 1) := by decide +kernel
theorem dX7_character_31 : decode cX7_character 31 = .ok (.getfield 72, 3) := by decide +kernel
theorem dX7_character_34 : decode cX7_character 34 = .ok (.iconst 1, 1) := by decide +kernel
theorem dX7_character_35 : decode cX7_character 35 = .ok (.isub, 1) := by decide +kernel
theorem dX7_character_36 : decode cX7_character 36 = .ok (.putfield 72, 3) := by decide +kernel
theorem dX7_character_39 : decode cX7_character 39 = .ok (.aload_n 0, 1) := by decide +kernel
theorem dX7_character_40 : decode cX7_character 40 = .ok (.sipush 128, 3) := by decide +kernel
theorem dX7_character_43 : decode cX7_character 43 = .ok (.putfield 75, 3) := by decide +kernel
theorem dX7_character_46 : decode cX7_character 46 = .ok (.aload_n 0, 1) := by decide +kernel
theorem dX7_character_47 : decode cX7_character 47 = .ok (.sipush 191, 3) := by decide +kernel
theorem dX7_character_50 : decode cX7_character 50 = .ok (.putfield 78, 3) := by decide +kernel
theorem dX7_character_53 : decode cX7_character 53 = .ok (.iload_n 2, 1) := by decide +kernel
theorem dX7_character_54 : decode cX7_character 54 = .ok (.ireturn, 1) := by decide +kernel
theorem dX7_character_55 : decode cX7_character 55 = .ok (.aload_n 0, 1) := by decide +kernel
theorem dX7_character_56 : decode cX7_character 56 = .ok (.iload_n 1, 1) := by decide +kernel
theorem dX7_character_57 : decode cX7_character 57 = .ok (.sipush 128, 3) := by decide +kernel
theorem dX7_character_60 : decode cX7_character 60 = .ok (.if_icmp .ge 7, 3) := by decide +kernel
theorem dX7_character_63 : decode cX7_character 63 = .ok (.iconst 0, 1) := by decide +kernel
theorem dX7_character_64 : decode cX7_character 64 = .ok (.goto 26, 3) := by decide +kernel
theorem dX7_character_67 : decode cX7_character 67 = .ok (.iload_n 1, 1) := by decide +kernel
theorem dX7_character_68 : decode cX7_character 68 = .ok (.sipush 224, 3) := by decide +kernel
theorem dX7_character_71 : decode cX7_character 71 = .ok (.if_icmp .ge 7, 3) := by decide +kernel
theorem dX7_character_74 : decode cX7_character 74 = .ok (.iconst 1, 1) := by decide +kernel
theorem dX7_character_75 : decode cX7_character 75 = .ok (.goto 15, 3) := by decide +kernel
theorem dX7_character_78 : decode cX7_character 78 = .ok (.iload_n 1, 1) := by decide +kernel
theorem dX7_character_79 : decode cX7_character 79 = .ok (.sipush 240, 3) := by decide +kernel
theorem dX7_character_82 : decode cX7_character 82 = .ok (.if_icmp .ge 7, 3) := by decide +kernel
theorem dX7_character_85 : decode cX7_character 85 = .ok (.iconst 2, 1) := by decide +kernel
theorem dX7_character_86 : decode cX7_character 86 = .ok (.goto 4, 3) := by decide +kernel
theorem dX7_character_89 : decode cX7_character 89 = .ok (.iconst 3, 1) := by decide +kernel
theorem dX7_character_90 : decode cX7_character 90 = .ok (.putfield 72, 3) := by decide +kernel
theorem dX7_character_93 : decode cX7_character 93 = .ok (.aload_n 0, 1) := by decide +kernel
theorem dX7_character_94 : decode cX7_character 94 = .ok (.iload_n 1, 1) := by decide +kernel
theorem dX7_character_95 : decode cX7_character 95 = .ok (.sipush 224, 3) := by decide +kernel
theorem dX7_character_98 : decode cX7_character 98 = .ok (.if_icmp .ne 9, 3) := by decide +kernel
theorem dX7_character_101 : decode cX7_character 101 = .ok (.sipush 160, 3) := by decide +kernel
theorem dX7_character_104 : decode cX7_character 104 = .ok (.goto 19, 3) := by decide +kernel
theorem dX7_character_107 : decode cX7_character 107 = .ok (.iload_n 1, 1) := by decide +kernel
theorem dX7_character_108 : decode cX7_character 108 = .ok (.sipush 240, 3) := by decide +kernel
theorem dX7_character_111 : decode cX7_character 111 = .ok (.if_icmp .ne 9, 3) := by decide +kernel
theorem dX7_character_114 : decode cX7_character 114 = .ok (.sipush 144, 3) := by decide +kernel
theorem dX7_character_117 : decode cX7_character 117 = .ok (.goto 6, 3) := by decide +kernel
theorem dX7_character_120 : decode cX7_character 120 = .ok (.sipush 128, 3) := by decide +kernel
theorem dX7_character_123 : decode cX7_character 123 = .ok (.putfield 75, 3) := by decide +kernel
theorem dX7_character_126 : decode cX7_character 126 = .ok (.aload_n 0, 1) := by decide +kernel
theorem dX7_character_127 : decode cX7_character 127 = .ok (.iload_n 1, 1) := by decide +kernel
theorem dX7_character_128 : decode cX7_character 128 = .ok (.sipush 237, 3) := by decide +kernel
theorem dX7_character_131 : decode cX7_character 131 = .ok (.if_icmp .ne 9, 3) := by decide +kernel
theorem dX7_character_134 : decode cX7_character 134 = .ok (.sipush 159, 3) := by decide +kernel
theorem dX7_character_137 : decode cX7_character 137 = .ok (.goto 19, 3) := by decide +kernel
theorem dX7_character_140 : decode cX7_character 140 = .ok (.iload_n 1, 1) := by decide +kernel
theorem dX7_character_141 : decode cX7_character 141 = .ok (.sipush 244, 3) := by decide +kernel
theorem dX7_character_144 : decode cX7_character 144 = .ok (.if_icmp .ne 9, 3) := by decide +kernel
theorem dX7_character_147 : decode cX7_character 147 = .ok (.sipush 143, 3) := by decide +kernel
theorem dX7_character_150 : decode cX7_character 150 = .ok (.goto 6, 3) := by decide +kernel
theorem dX7_character_153 : decode cX7_character 153 = .ok (.sipush 191, 3) := by decide +kernel
theorem dX7_character_156 : decode cX7_character 156 = .ok (.putfield 78, 3) := by decide +kernel
theorem dX7_character_159 : decode cX7_character 159 = .ok (.iload_n 1, 1) := by decide +kernel
theorem dX7_character_160 : decode cX7_character 160 = .ok (.sipush 128, 3) := by decide +kernel
theorem dX7_character_163 : decode cX7_character 163 = .ok (.if_icmp .lt 17, 3) := by decide +kernel
theorem dX7_character_166 : decode cX7_character 166 = .ok (.iload_n 1, 1) := by decide +kernel
theorem dX7_character_167 : decode cX7_character 167 = .ok (.sipush 193, 3) := by decide +kernel
theorem dX7_character_170 : decode cX7_character 170 = .ok (.if_icmp .le 14, 3) := by decide +kernel
theorem dX7_character_173 : decode cX7_character 173 = .ok (.iload_n 1, 1) := by decide +kernel
theorem dX7_character_174 : decode cX7_character 174 = .ok (.sipush 245, 3) := by decide +kernel
theorem dX7_character_177 : decode cX7_character 177 = .ok (.if_icmp .ge 7, 3) := by decide +kernel
theorem dX7_character_180 : decode cX7_character 180 = .ok (.iconst 1, 1) := by decide +kernel
theorem dX7_character_181 : decode cX7_character 181 = .ok (.goto 4, 3) := by decide +kernel
theorem dX7_character_184 : decode cX7_character 184 = .ok (.iconst 0, 1) := by decide +kernel
theorem dX7_character_185 : decode cX7_character 185 = .ok (.ireturn, 1) := by decide +kernel
theorem dX7_isDraftText_0 : decode cX7_isDraftText 0 = .ok (.aload_n 0, 1) := by decide +kernel
theorem dX7_isDraftText_1 : decode cX7_isDraftText 1 = .ok (.getfield 72, 3) := by decide +kernel
theorem dX7_isDraftText_4 : decode cX7_isDraftText 4 = .ok (.istore_n 1, 1) := by decide +kernel
theorem dX7_isDraftText_5 : decode cX7_isDraftText 5 = .ok (.aload_n 0, 1) := by decide +kernel
theorem dX7_isDraftText_6 : decode cX7_isDraftText 6 = .ok (.getfield 75, 3) := by decide +kernel
theorem dX7_isDraftText_9 : decode cX7_isDraftText 9 = .ok (.istore_n 2, 1) := by decide +kernel
theorem dX7_isDraftText_10 : decode cX7_isDraftText 10 = .ok (.aload_n 0, 1) := by decide +kernel
theorem dX7_isDraftText_11 : decode cX7_isDraftText 11 = .ok (.getfield 78, 3) := by decide +kernel
theorem dX7_isDraftText_14 : decode cX7_isDraftText 14 = .ok (.istore_n 3, 1) := by decide +kernel
theorem dX7_isDraftText_15 : decode cX7_isDraftText 15 = .ok (.iconst 1, 1) := by decide +kernel
theorem dX7_isDraftText_16 : decode cX7_isDraftText 16 = .ok (.istore 4, 2) := by decide +kernel
theorem dX7_isDraftText_18 : decode cX7_isDraftText 18 = .ok (.aload_n 0, 1) := by decide +kernel
theorem dX7_isDraftText_19 : decode cX7_isDraftText 19 = .ok (.invokevirtual 81, 3) := by decide +kernel
theorem dX7_isDraftText_22 : decode cX7_isDraftText 22 = .ok (.iconst 0, 1) := by decide +kernel
theorem dX7_isDraftText_23 : decode cX7_isDraftText 23 = .ok (.istore 5, 2) := by decide +kernel
theorem dX7_isDraftText_25 : decode cX7_isDraftText 25 = .ok (.iload 5, 2) := by decide +kernel
theorem dX7_isDraftText_27 : decode cX7_isDraftText 27 = .ok (.aload_n 0, 1) := by decide +kernel
theorem dX7_isDraftText_28 : decode cX7_isDraftText 28 = .ok (.getfield 84, 3) := by decide +kernel
theorem dX7_isDraftText_31 : decode cX7_isDraftText 31 = .ok (.if_icmp .ge 27, 3) := by decide +kernel
theorem dX7_isDraftText_34 : decode cX7_isDraftText 34 = .ok (.iload 4, 2) := by decide +kernel
theorem dX7_isDraftText_36 : decode cX7_isDraftText 36 = .ok (.ifCond .eq 22, 3) := by decide +kernel
theorem dX7_isDraftText_39 : decode cX7_isDraftText 39 = .ok (.aload_n 0, 1) := by decide +kernel
theorem dX7_isDraftText_40 : decode cX7_isDraftText 40 = .ok (.aload_n 0, 1) := by decide +kernel
theorem dX7_isDraftText_41 : decode cX7_isDraftText 41 = .ok (.getfield 25, 3) := by decide +kernel
theorem dX7_isDraftText_44 : decode cX7_isDraftText 44 = .ok (.iload 5, 2) := by decide +kernel
theorem dX7_isDraftText_46 : decode cX7_isDraftText 46 = .ok (.iaload, 1) := by decide +kernel
theorem dX7_isDraftText_47 : decode cX7_isDraftText 47 = .ok (.invokevirtual 87, 3) := by decide +kernel
theorem dX7_isDraftText_50 : decode cX7_isDraftText 50 = .ok (.istore 4, 2) := by decide +kernel
theorem dX7_isDraftText_52 : decode cX7_isDraftText 52 = .ok (.iinc 5 1, 3) := by decide +kernel
theorem dX7_isDraftText_55 : decode cX7_isDraftText 55 = .ok (.goto (-30), 3) := by decide +kernel
theorem dX7_isDraftText_58 : decode cX7_isDraftText 58 = .ok (.iload 4, 2) := by decide +kernel
theorem dX7_isDraftText_60 : decode cX7_isDraftText 60 = .ok (.ifCond .eq 14, 3) := by decide +kernel
theorem dX7_isDraftText_63 : decode cX7_isDraftText 63 = .ok (.aload_n 0, 1) := by decide +kernel
theorem dX7_isDraftText_64 : decode cX7_isDraftText 64 = .ok (.getfield 72, 3) := by decide +kernel
theorem dX7_isDraftText_67 : decode cX7_isDraftText 67 = .ok (.ifCond .ne 7, 3) := by decide +kernel
theorem dX7_isDraftText_70 : decode cX7_isDraftText 70 = .ok (.iconst 1, 1) := by decide +kernel
theorem dX7_isDraftText_71 : decode cX7_isDraftText 71 = .ok (.goto 4, 3) := by decide +kernel
theorem dX7_isDraftText_74 : decode cX7_isDraftText 74 = .ok (.iconst 0, 1) := by decide +kernel
theorem dX7_isDraftText_75 : decode cX7_isDraftText 75 = .ok (.istore 4, 2) := by decide +kernel
theorem dX7_isDraftText_77 : decode cX7_isDraftText 77 = .ok (.aload_n 0, 1) := by decide +kernel
theorem dX7_isDraftText_78 : decode cX7_isDraftText 78 = .ok (.iload_n 1, 1) := by decide +kernel
theorem dX7_isDraftText_79 : decode cX7_isDraftText 79 = .ok (.putfield 72, 3) := by decide +kernel
theorem dX7_isDraftText_82 : decode cX7_isDraftText 82 = .ok (.aload_n 0, 1) := by decide +kernel
theorem dX7_isDraftText_83 : decode cX7_isDraftText 83 = .ok (.iload_n 2, 1) := by decide +kernel
theorem dX7_isDraftText_84 : decode cX7_isDraftText 84 = .ok (.putfield 75, 3) := by decide +kernel
theorem dX7_isDraftText_87 : decode cX7_isDraftText 87 = .ok (.aload_n 0, 1) := by decide +kernel
theorem dX7_isDraftText_88 : decode cX7_isDraftText 88 = .ok (.iload_n 3, 1) := by decide +kernel
theorem dX7_isDraftText_89 : decode cX7_isDraftText 89 = .ok (.putfield 78, 3) := by decide +kernel
theorem dX7_isDraftText_92 : decode cX7_isDraftText 92 = .ok (.iload 4, 2) := by decide +kernel
theorem dX7_isDraftText_94 : decode cX7_isDraftText 94 = .ok (.ireturn, 1) := by decide +kernel
theorem dX7_small_0 : decode cX7_small 0 = .ok (.iload_n 0, 1) := by decide +kernel
theorem dX7_small_1 : decode cX7_small 1 = .ok (.bipush 65, 2) := by decide +kernel
theorem dX7_small_3 : decode cX7_small 3 = .ok (.if_icmp .lt 16, 3) := by decide +kernel
theorem dX7_small_6 : decode cX7_small 6 = .ok (.iload_n 0, 1) := by decide +kernel
theorem dX7_small_7 : decode cX7_small 7 = .ok (.bipush 90, 2) := by decide +kernel
theorem dX7_small_9 : decode cX7_small 9 = .ok (.if_icmp .gt 10, 3) := by decide +kernel
theorem dX7_small_12 : decode cX7_small 12 = .ok (.iload_n 0, 1) := by decide +kernel
theorem dX7_small_13 : decode cX7_small 13 = .ok (.bipush 32, 2) := by decide +kernel
theorem dX7_small_15 : decode cX7_small 15 = .ok (.iadd, 1) := by decide +kernel
theorem dX7_small_16 : decode cX7_small 16 = .ok (.goto 4, 3) := by decide +kernel
theorem dX7_small_19 : decode cX7_small 19 = .ok (.iload_n 0, 1) := by decide +kernel
theorem dX7_small_20 : decode cX7_small 20 = .ok (.ireturn, 1) := by decide +kernel
theorem dX7_isDigit_0 : decode cX7_isDigit 0 = .ok (.iload_n 0, 1) := by decide +kernel
theorem dX7_isDigit_1 : decode cX7_isDigit 1 = .ok (.bipush 48, 2) := by decide +kernel
theorem dX7_isDigit_3 : decode cX7_isDigit 3 = .ok (.if_icmp .lt 13, 3) := by decide +kernel
theorem dX7_isDigit_6 : decode cX7_isDigit 6 = .ok (.iload_n 0, 1) := by decide +kernel
theorem dX7_isDigit_7 : decode cX7_isDigit 7 = .ok (.bipush 57, 2) := by decide +kernel
theorem dX7_isDigit_9 : decode cX7_isDigit 9 = .ok (.if_icmp .gt 7, 3) := by decide +kernel
theorem dX7_isDigit_12 : decode cX7_isDigit 12 = .ok (.iconst 1, 1) := by decide +kernel
theorem dX7_isDigit_13 : decode cX7_isDigit 13 = .ok (.goto 4, 3) := by decide +kernel
theorem dX7_isDigit_16 : decode cX7_isDigit 16 = .ok (.iconst 0, 1) := by decide +kernel
theorem dX7_isDigit_17 : decode cX7_isDigit 17 = .ok (.ireturn, 1) := by decide +kernel
theorem dX7_isLetter_0 : decode cX7_isLetter 0 = .ok (.iload_n 0, 1) := by decide +kernel
theorem dX7_isLetter_1 : decode cX7_isLetter 1 = .ok (.invokestatic 91, 3) := by decide +kernel
theorem dX7_isLetter_4 : decode cX7_isLetter 4 = .ok (.bipush 97, 2) := by decide +kernel
theorem dX7_isLetter_6 : decode cX7_isLetter 6 = .ok (.if_icmp .lt 16, 3) := by decide +kernel
theorem dX7_isLetter_9 : decode cX7_isLetter 9 = .ok (.iload_n 0, 1) := by decide +kernel
theorem dX7_isLetter_10 : decode cX7_isLetter 10 = .ok (.invokestatic 91, 3) := by decide +kernel
theorem dX7_isLetter_13 : decode cX7_isLetter 13 = .ok (.bipush 122, 2) := by decide +kernel
theorem dX7_isLetter_15 : decode cX7_isLetter 15 = .ok (.if_icmp .gt 7, 3) := by decide +kernel
theorem dX7_isLetter_18 : decode cX7_isLetter 18 = .ok (.iconst 1, 1) := by decide +kernel
theorem dX7_isLetter_19 : decode cX7_isLetter 19 = .ok (.goto 4, 3) := by decide +kernel
theorem dX7_isLetter_22 : decode cX7_isLetter 22 = .ok (.iconst 0, 1) := by decide +kernel
theorem dX7_isLetter_23 : decode cX7_isLetter 23 = .ok (.ireturn, 1) := by decide +kernel
theorem dX7_known_0 : decode cX7_known 0 = .ok (.iload_n 0, 1) := by decide +kernel
theorem dX7_known_1 : decode cX7_known 1 = .ok (.tableswitch 150 0 4 #[35, 56, 77, 100, 125], 35) := by decide +kernel
theorem dX7_known_36 : decode cX7_known 36 = .ok (.iload_n 1, 1) := by decide +kernel
theorem dX7_known_37 : decode cX7_known 37 = .ok (.ifCond .ne 9, 3) := by decide +kernel
theorem dX7_known_40 : decode cX7_known 40 = .ok (.ldc2_w 95, 3) := by decide +kernel
theorem dX7_known_43 : decode cX7_known 43 = .ok (.goto 13, 3) := by decide +kernel
theorem dX7_known_46 : decode cX7_known 46 = .ok (.iload_n 1, 1) := by decide +kernel
theorem dX7_known_47 : decode cX7_known 47 = .ok (.iconst 1, 1) := by decide +kernel
theorem dX7_known_48 : decode cX7_known 48 = .ok (.if_icmp .ne 7, 3) := by decide +kernel
theorem dX7_known_51 : decode cX7_known 51 = .ok (.lconst 0, 1) := by decide +kernel
theorem dX7_known_52 : decode cX7_known 52 = .ok (.goto 4, 3) := by decide +kernel
theorem dX7_known_55 : decode cX7_known 55 = .ok (.lconst 0, 1) := by decide +kernel
theorem dX7_known_56 : decode cX7_known 56 = .ok (.lreturn, 1) := by decide +kernel
theorem dX7_known_57 : decode cX7_known 57 = .ok (.iload_n 1, 1) := by decide +kernel
theorem dX7_known_58 : decode cX7_known 58 = .ok (.ifCond .ne 9, 3) := by decide +kernel
theorem dX7_known_61 : decode cX7_known 61 = .ok (.ldc2_w 97, 3) := by decide +kernel
theorem dX7_known_64 : decode cX7_known 64 = .ok (.goto 13, 3) := by decide +kernel
theorem dX7_known_67 : decode cX7_known 67 = .ok (.iload_n 1, 1) := by decide +kernel
theorem dX7_known_68 : decode cX7_known 68 = .ok (.iconst 1, 1) := by decide +kernel
theorem dX7_known_69 : decode cX7_known 69 = .ok (.if_icmp .ne 7, 3) := by decide +kernel
theorem dX7_known_72 : decode cX7_known 72 = .ok (.lconst 0, 1) := by decide +kernel
theorem dX7_known_73 : decode cX7_known 73 = .ok (.goto 4, 3) := by decide +kernel
theorem dX7_known_76 : decode cX7_known 76 = .ok (.lconst 0, 1) := by decide +kernel
theorem dX7_known_77 : decode cX7_known 77 = .ok (.lreturn, 1) := by decide +kernel
theorem dX7_known_78 : decode cX7_known 78 = .ok (.iload_n 1, 1) := by decide +kernel
theorem dX7_known_79 : decode cX7_known 79 = .ok (.ifCond .ne 9, 3) := by decide +kernel
theorem dX7_known_82 : decode cX7_known 82 = .ok (.ldc2_w 99, 3) := by decide +kernel
theorem dX7_known_85 : decode cX7_known 85 = .ok (.goto 15, 3) := by decide +kernel
theorem dX7_known_88 : decode cX7_known 88 = .ok (.iload_n 1, 1) := by decide +kernel
theorem dX7_known_89 : decode cX7_known 89 = .ok (.iconst 1, 1) := by decide +kernel
theorem dX7_known_90 : decode cX7_known 90 = .ok (.if_icmp .ne 9, 3) := by decide +kernel
theorem dX7_known_93 : decode cX7_known 93 = .ok (.ldc2_w 101, 3) := by decide +kernel
theorem dX7_known_96 : decode cX7_known 96 = .ok (.goto 4, 3) := by decide +kernel
theorem dX7_known_99 : decode cX7_known 99 = .ok (.lconst 0, 1) := by decide +kernel
theorem dX7_known_100 : decode cX7_known 100 = .ok (.lreturn, 1) := by decide +kernel
theorem dX7_known_101 : decode cX7_known 101 = .ok (.iload_n 1, 1) := by decide +kernel
theorem dX7_known_102 : decode cX7_known 102 = .ok (.ifCond .ne 9, 3) := by decide +kernel
theorem dX7_known_105 : decode cX7_known 105 = .ok (.ldc2_w 103, 3) := by decide +kernel
theorem dX7_known_108 : decode cX7_known 108 = .ok (.goto 17, 3) := by decide +kernel
theorem dX7_known_111 : decode cX7_known 111 = .ok (.iload_n 1, 1) := by decide +kernel
theorem dX7_known_112 : decode cX7_known 112 = .ok (.iconst 1, 1) := by decide +kernel
theorem dX7_known_113 : decode cX7_known 113 = .ok (.if_icmp .ne 9, 3) := by decide +kernel
theorem dX7_known_116 : decode cX7_known 116 = .ok (.ldc2_w 105, 3) := by decide +kernel
theorem dX7_known_119 : decode cX7_known 119 = .ok (.goto 6, 3) := by decide +kernel
theorem dX7_known_122 : decode cX7_known 122 = .ok (.ldc2_w 107, 3) := by decide +kernel
theorem dX7_known_125 : decode cX7_known 125 = .ok (.lreturn, 1) := by decide +kernel
theorem dX7_known_126 : decode cX7_known 126 = .ok (.iload_n 1, 1) := by decide +kernel
theorem dX7_known_127 : decode cX7_known 127 = .ok (.ifCond .ne 9, 3) := by decide +kernel
theorem dX7_known_130 : decode cX7_known 130 = .ok (.ldc2_w 103, 3) := by decide +kernel
theorem dX7_known_133 : decode cX7_known 133 = .ok (.goto 17, 3) := by decide +kernel
theorem dX7_known_136 : decode cX7_known 136 = .ok (.iload_n 1, 1) := by decide +kernel
theorem dX7_known_137 : decode cX7_known 137 = .ok (.iconst 1, 1) := by decide +kernel
theorem dX7_known_138 : decode cX7_known 138 = .ok (.if_icmp .ne 9, 3) := by decide +kernel
theorem dX7_known_141 : decode cX7_known 141 = .ok (.ldc2_w 109, 3) := by decide +kernel
theorem dX7_known_144 : decode cX7_known 144 = .ok (.goto 6, 3) := by decide +kernel
theorem dX7_known_147 : decode cX7_known 147 = .ok (.ldc2_w 111, 3) := by decide +kernel
theorem dX7_known_150 : decode cX7_known 150 = .ok (.lreturn, 1) := by decide +kernel
theorem dX7_known_151 : decode cX7_known 151 = .ok (.iload_n 1, 1) := by decide +kernel
theorem dX7_known_152 : decode cX7_known 152 = .ok (.ifCond .ne 9, 3) := by decide +kernel
theorem dX7_known_155 : decode cX7_known 155 = .ok (.ldc2_w 113, 3) := by decide +kernel
theorem dX7_known_158 : decode cX7_known 158 = .ok (.goto 15, 3) := by decide +kernel
theorem dX7_known_161 : decode cX7_known 161 = .ok (.iload_n 1, 1) := by decide +kernel
theorem dX7_known_162 : decode cX7_known 162 = .ok (.iconst 1, 1) := by decide +kernel
theorem dX7_known_163 : decode cX7_known 163 = .ok (.if_icmp .ne 9, 3) := by decide +kernel
theorem dX7_known_166 : decode cX7_known 166 = .ok (.ldc2_w 115, 3) := by decide +kernel
theorem dX7_known_169 : decode cX7_known 169 = .ok (.goto 4, 3) := by decide +kernel
theorem dX7_known_172 : decode cX7_known 172 = .ok (.lconst 0, 1) := by decide +kernel
theorem dX7_known_173 : decode cX7_known 173 = .ok (.lreturn, 1) := by decide +kernel
theorem dX7_letter_0 : decode cX7_letter 0 = .ok (.iload_n 1, 1) := by decide +kernel
theorem dX7_letter_1 : decode cX7_letter 1 = .ok (.bipush 23, 2) := by decide +kernel
theorem dX7_letter_3 : decode cX7_letter 3 = .ok (.if_icmp .le 7, 3) := by decide +kernel
theorem dX7_letter_6 : decode cX7_letter 6 = .ok (.iconst 0, 1) := by decide +kernel
theorem dX7_letter_7 : decode cX7_letter 7 = .ok (.goto 24, 3) := by decide +kernel
theorem dX7_letter_10 : decode cX7_letter 10 = .ok (.iload_n 0, 1) := by decide +kernel
theorem dX7_letter_11 : decode cX7_letter 11 = .ok (.iload_n 1, 1) := by decide +kernel
theorem dX7_letter_12 : decode cX7_letter 12 = .ok (.bipush 8, 2) := by decide +kernel
theorem dX7_letter_14 : decode cX7_letter 14 = .ok (.idiv, 1) := by decide +kernel
theorem dX7_letter_15 : decode cX7_letter 15 = .ok (.invokestatic 117, 3) := by decide +kernel
theorem dX7_letter_18 : decode cX7_letter 18 = .ok (.bipush 8, 2) := by decide +kernel
theorem dX7_letter_20 : decode cX7_letter 20 = .ok (.iload_n 1, 1) := by decide +kernel
theorem dX7_letter_21 : decode cX7_letter 21 = .ok (.bipush 8, 2) := by decide +kernel
theorem dX7_letter_23 : decode cX7_letter 23 = .ok (.irem, 1) := by decide +kernel
theorem dX7_letter_24 : decode cX7_letter 24 = .ok (.imul, 1) := by decide +kernel
theorem dX7_letter_25 : decode cX7_letter 25 = .ok (.lshr, 1) := by decide +kernel
theorem dX7_letter_26 : decode cX7_letter 26 = .ok (.ldc2_w 62, 3) := by decide +kernel
theorem dX7_letter_29 : decode cX7_letter 29 = .ok (.land, 1) := by decide +kernel
theorem dX7_letter_30 : decode cX7_letter 30 = .ok (.l2i, 1) := by decide +kernel
theorem dX7_letter_31 : decode cX7_letter 31 = .ok (.ireturn, 1) := by decide +kernel
theorem dX7_isWord_0 : decode cX7_isWord 0 = .ok (.iload_n 3, 1) := by decide +kernel
theorem dX7_isWord_1 : decode cX7_isWord 1 = .ok (.iload_n 2, 1) := by decide +kernel
theorem dX7_isWord_2 : decode cX7_isWord 2 = .ok (.iload_n 1, 1) := by decide +kernel
theorem dX7_isWord_3 : decode cX7_isWord 3 = .ok (.isub, 1) := by decide +kernel
theorem dX7_isWord_4 : decode cX7_isWord 4 = .ok (.invokestatic 121, 3) := by decide +kernel
theorem dX7_isWord_7 : decode cX7_isWord 7 = .ok (.ifCond .ne 7, 3) := by decide +kernel
theorem dX7_isWord_10 : decode cX7_isWord 10 = .ok (.iconst 1, 1) := by decide +kernel
theorem dX7_isWord_11 : decode cX7_isWord 11 = .ok (.goto 4, 3) := by decide +kernel
theorem dX7_isWord_14 : decode cX7_isWord 14 = .ok (.iconst 0, 1) := by decide +kernel
theorem dX7_isWord_15 : decode cX7_isWord 15 = .ok (.istore 4, 2) := by decide +kernel
theorem dX7_isWord_17 : decode cX7_isWord 17 = .ok (.iload_n 1, 1) := by decide +kernel
theorem dX7_isWord_18 : decode cX7_isWord 18 = .ok (.istore 5, 2) := by decide +kernel
theorem dX7_isWord_20 : decode cX7_isWord 20 = .ok (.iload 5, 2) := by decide +kernel
theorem dX7_isWord_22 : decode cX7_isWord 22 = .ok (.iload_n 2, 1) := by decide +kernel
theorem dX7_isWord_23 : decode cX7_isWord 23 = .ok (.if_icmp .ge 42, 3) := by decide +kernel
theorem dX7_isWord_26 : decode cX7_isWord 26 = .ok (.iload 4, 2) := by decide +kernel
theorem dX7_isWord_28 : decode cX7_isWord 28 = .ok (.ifCond .eq 37, 3) := by decide +kernel
theorem dX7_isWord_31 : decode cX7_isWord 31 = .ok (.aload_n 0, 1) := by decide +kernel
theorem dX7_isWord_32 : decode cX7_isWord 32 = .ok (.getfield 7, 3) := by decide +kernel
theorem dX7_isWord_35 : decode cX7_isWord 35 = .ok (.iload 5, 2) := by decide +kernel
theorem dX7_isWord_37 : decode cX7_isWord 37 = .ok (.iaload, 1) := by decide +kernel
theorem dX7_isWord_38 : decode cX7_isWord 38 = .ok (.invokestatic 91, 3) := by decide +kernel
theorem dX7_isWord_41 : decode cX7_isWord 41 = .ok (.iload_n 3, 1) := by decide +kernel
theorem dX7_isWord_42 : decode cX7_isWord 42 = .ok (.iload 5, 2) := by decide +kernel
theorem dX7_isWord_44 : decode cX7_isWord 44 = .ok (.iload_n 1, 1) := by decide +kernel
theorem dX7_isWord_45 : decode cX7_isWord 45 = .ok (.isub, 1) := by decide +kernel
theorem dX7_isWord_46 : decode cX7_isWord 46 = .ok (.invokestatic 121, 3) := by decide +kernel
theorem dX7_isWord_49 : decode cX7_isWord 49 = .ok (.if_icmp .ne 7, 3) := by decide +kernel
theorem dX7_isWord_52 : decode cX7_isWord 52 = .ok (.iconst 1, 1) := by decide +kernel
theorem dX7_isWord_53 : decode cX7_isWord 53 = .ok (.goto 4, 3) := by decide +kernel
theorem dX7_isWord_56 : decode cX7_isWord 56 = .ok (.iconst 0, 1) := by decide +kernel
theorem dX7_isWord_57 : decode cX7_isWord 57 = .ok (.istore 4, 2) := by decide +kernel
theorem dX7_isWord_59 : decode cX7_isWord 59 = .ok (.iinc 5 1, 3) := by decide +kernel
theorem dX7_isWord_62 : decode cX7_isWord 62 = .ok (.goto (-42), 3) := by decide +kernel
theorem dX7_isWord_65 : decode cX7_isWord 65 = .ok (.iload 4, 2) := by decide +kernel
theorem dX7_isWord_67 : decode cX7_isWord 67 = .ok (.ireturn, 1) := by decide +kernel
theorem dX7_isGap_0 : decode cX7_isGap 0 = .ok (.iload_n 0, 1) := by decide +kernel
theorem dX7_isGap_1 : decode cX7_isGap 1 = .ok (.bipush 32, 2) := by decide +kernel
theorem dX7_isGap_3 : decode cX7_isGap 3 = .ok (.if_icmp .eq 9, 3) := by decide +kernel
theorem dX7_isGap_6 : decode cX7_isGap 6 = .ok (.iload_n 0, 1) := by decide +kernel
theorem dX7_isGap_7 : decode cX7_isGap 7 = .ok (.bipush 9, 2) := by decide +kernel
theorem dX7_isGap_9 : decode cX7_isGap 9 = .ok (.if_icmp .ne 7, 3) := by decide +kernel
theorem dX7_isGap_12 : decode cX7_isGap 12 = .ok (.iconst 1, 1) := by decide +kernel
theorem dX7_isGap_13 : decode cX7_isGap 13 = .ok (.goto 4, 3) := by decide +kernel
theorem dX7_isGap_16 : decode cX7_isGap 16 = .ok (.iconst 0, 1) := by decide +kernel
theorem dX7_isGap_17 : decode cX7_isGap 17 = .ok (.ireturn, 1) := by decide +kernel
theorem dX7_begin_0 : decode cX7_begin 0 = .ok (.iload_n 1, 1) := by decide +kernel
theorem dX7_begin_1 : decode cX7_begin 1 = .ok (.istore_n 3, 1) := by decide +kernel
theorem dX7_begin_2 : decode cX7_begin 2 = .ok (.iload_n 3, 1) := by decide +kernel
theorem dX7_begin_3 : decode cX7_begin 3 = .ok (.iload_n 2, 1) := by decide +kernel
theorem dX7_begin_4 : decode cX7_begin 4 = .ok (.if_icmp .ge 21, 3) := by decide +kernel
theorem dX7_begin_7 : decode cX7_begin 7 = .ok (.aload_n 0, 1) := by decide +kernel
theorem dX7_begin_8 : decode cX7_begin 8 = .ok (.getfield 7, 3) := by decide +kernel
theorem dX7_begin_11 : decode cX7_begin 11 = .ok (.iload_n 3, 1) := by decide +kernel
theorem dX7_begin_12 : decode cX7_begin 12 = .ok (.iaload, 1) := by decide +kernel
theorem dX7_begin_13 : decode cX7_begin 13 = .ok (.invokestatic 125, 3) := by decide +kernel
theorem dX7_begin_16 : decode cX7_begin 16 = .ok (.ifCond .eq 9, 3) := by decide +kernel
theorem dX7_begin_19 : decode cX7_begin 19 = .ok (.iinc 3 1, 3) := by decide +kernel
theorem dX7_begin_22 : decode cX7_begin 22 = .ok (.goto (-20), 3) := by decide +kernel
theorem dX7_begin_25 : decode cX7_begin 25 = .ok (.iload_n 3, 1) := by decide +kernel
theorem dX7_begin_26 : decode cX7_begin 26 = .ok (.ireturn, 1) := by decide +kernel
theorem dX7_end_0 : decode cX7_end 0 = .ok (.iload_n 2, 1) := by decide +kernel
theorem dX7_end_1 : decode cX7_end 1 = .ok (.istore_n 3, 1) := by decide +kernel
theorem dX7_end_2 : decode cX7_end 2 = .ok (.iload_n 3, 1) := by decide +kernel
theorem dX7_end_3 : decode cX7_end 3 = .ok (.iload_n 1, 1) := by decide +kernel
theorem dX7_end_4 : decode cX7_end 4 = .ok (.if_icmp .le 23, 3) := by decide +kernel
theorem dX7_end_7 : decode cX7_end 7 = .ok (.aload_n 0, 1) := by decide +kernel
theorem dX7_end_8 : decode cX7_end 8 = .ok (.getfield 7, 3) := by decide +kernel
theorem dX7_end_11 : decode cX7_end 11 = .ok (.iload_n 3, 1) := by decide +kernel
theorem dX7_end_12 : decode cX7_end 12 = .ok (.iconst 1, 1) := by decide +kernel
theorem dX7_end_13 : decode cX7_end 13 = .ok (.isub, 1) := by decide +kernel
theorem dX7_end_14 : decode cX7_end 14 = .ok (.iaload, 1) := by decide +kernel
theorem dX7_end_15 : decode cX7_end 15 = .ok (.invokestatic 125, 3) := by decide +kernel
theorem dX7_end_18 : decode cX7_end 18 = .ok (.ifCond .eq 9, 3) := by decide +kernel
theorem dX7_end_21 : decode cX7_end 21 = .ok (.iinc 3 (-1), 3) := by decide +kernel
theorem dX7_end_24 : decode cX7_end 24 = .ok (.goto (-22), 3) := by decide +kernel
theorem dX7_end_27 : decode cX7_end 27 = .ok (.iload_n 3, 1) := by decide +kernel
theorem dX7_end_28 : decode cX7_end 28 = .ok (.ireturn, 1) := by decide +kernel
theorem dX7_isFirst_0 : decode cX7_isFirst 0 = .ok (.iload_n 1, 1) := by decide +kernel
theorem dX7_isFirst_1 : decode cX7_isFirst 1 = .ok (.bipush 13, 2) := by decide +kernel
theorem dX7_isFirst_3 : decode cX7_isFirst 3 = .ok (.if_icmp .le 172, 3) := by decide +kernel
theorem dX7_isFirst_6 : decode cX7_isFirst 6 = .ok (.aload_n 0, 1) := by decide +kernel
theorem dX7_isFirst_7 : decode cX7_isFirst 7 = .ok (.getfield 7, 3) := by decide +kernel
theorem dX7_isFirst_10 : decode cX7_isFirst 10 = .ok (.iconst 0, 1) := by decide +kernel
theorem dX7_isFirst_11 : decode cX7_isFirst 11 = .ok (.iaload, 1) := by decide +kernel
theorem dX7_isFirst_12 : decode cX7_isFirst 12 = .ok (.bipush 71, 2) := by decide +kernel
theorem dX7_isFirst_14 : decode cX7_isFirst 14 = .ok (.if_icmp .ne 161, 3) := by decide +kernel
theorem dX7_isFirst_17 : decode cX7_isFirst 17 = .ok (.aload_n 0, 1) := by decide +kernel
theorem dX7_isFirst_18 : decode cX7_isFirst 18 = .ok (.getfield 7, 3) := by decide +kernel
theorem dX7_isFirst_21 : decode cX7_isFirst 21 = .ok (.iconst 1, 1) := by decide +kernel
theorem dX7_isFirst_22 : decode cX7_isFirst 22 = .ok (.iaload, 1) := by decide +kernel
theorem dX7_isFirst_23 : decode cX7_isFirst 23 = .ok (.bipush 69, 2) := by decide +kernel
theorem dX7_isFirst_25 : decode cX7_isFirst 25 = .ok (.if_icmp .ne 150, 3) := by decide +kernel
theorem dX7_isFirst_28 : decode cX7_isFirst 28 = .ok (.aload_n 0, 1) := by decide +kernel
theorem dX7_isFirst_29 : decode cX7_isFirst 29 = .ok (.getfield 7, 3) := by decide +kernel
theorem dX7_isFirst_32 : decode cX7_isFirst 32 = .ok (.iconst 2, 1) := by decide +kernel
theorem dX7_isFirst_33 : decode cX7_isFirst 33 = .ok (.iaload, 1) := by decide +kernel
theorem dX7_isFirst_34 : decode cX7_isFirst 34 = .ok (.bipush 84, 2) := by decide +kernel
theorem dX7_isFirst_36 : decode cX7_isFirst 36 = .ok (.if_icmp .ne 139, 3) := by decide +kernel
theorem dX7_isFirst_39 : decode cX7_isFirst 39 = .ok (.aload_n 0, 1) := by decide +kernel
theorem dX7_isFirst_40 : decode cX7_isFirst 40 = .ok (.getfield 7, 3) := by decide +kernel
theorem dX7_isFirst_43 : decode cX7_isFirst 43 = .ok (.iconst 3, 1) := by decide +kernel
theorem dX7_isFirst_44 : decode cX7_isFirst 44 = .ok (.iaload, 1) := by decide +kernel
theorem dX7_isFirst_45 : decode cX7_isFirst 45 = .ok (.bipush 32, 2) := by decide +kernel
theorem dX7_isFirst_47 : decode cX7_isFirst 47 = .ok (.if_icmp .ne 128, 3) := by decide +kernel
theorem dX7_isFirst_50 : decode cX7_isFirst 50 = .ok (.aload_n 0, 1) := by decide +kernel
theorem dX7_isFirst_51 : decode cX7_isFirst 51 = .ok (.getfield 7, 3) := by decide +kernel
theorem dX7_isFirst_54 : decode cX7_isFirst 54 = .ok (.iload_n 1, 1) := by decide +kernel
theorem dX7_isFirst_55 : decode cX7_isFirst 55 = .ok (.bipush 9, 2) := by decide +kernel
theorem dX7_isFirst_57 : decode cX7_isFirst 57 = .ok (.isub, 1) := by decide +kernel
theorem dX7_isFirst_58 : decode cX7_isFirst 58 = .ok (.iaload, 1) := by decide +kernel
theorem dX7_isFirst_59 : decode cX7_isFirst 59 = .ok (.bipush 32, 2) := by decide +kernel
theorem dX7_isFirst_61 : decode cX7_isFirst 61 = .ok (.if_icmp .ne 114, 3) := by decide +kernel
theorem dX7_isFirst_64 : decode cX7_isFirst 64 = .ok (.aload_n 0, 1) := by decide +kernel
theorem dX7_isFirst_65 : decode cX7_isFirst 65 = .ok (.getfield 7, 3) := by decide +kernel
theorem dX7_isFirst_68 : decode cX7_isFirst 68 = .ok (.iload_n 1, 1) := by decide +kernel
theorem dX7_isFirst_69 : decode cX7_isFirst 69 = .ok (.bipush 8, 2) := by decide +kernel
theorem dX7_isFirst_71 : decode cX7_isFirst 71 = .ok (.isub, 1) := by decide +kernel
theorem dX7_isFirst_72 : decode cX7_isFirst 72 = .ok (.iaload, 1) := by decide +kernel
theorem dX7_isFirst_73 : decode cX7_isFirst 73 = .ok (.bipush 72, 2) := by decide +kernel
theorem dX7_isFirst_75 : decode cX7_isFirst 75 = .ok (.if_icmp .ne 100, 3) := by decide +kernel
theorem dX7_isFirst_78 : decode cX7_isFirst 78 = .ok (.aload_n 0, 1) := by decide +kernel
theorem dX7_isFirst_79 : decode cX7_isFirst 79 = .ok (.getfield 7, 3) := by decide +kernel
theorem dX7_isFirst_82 : decode cX7_isFirst 82 = .ok (.iload_n 1, 1) := by decide +kernel
theorem dX7_isFirst_83 : decode cX7_isFirst 83 = .ok (.bipush 7, 2) := by decide +kernel
theorem dX7_isFirst_85 : decode cX7_isFirst 85 = .ok (.isub, 1) := by decide +kernel
theorem dX7_isFirst_86 : decode cX7_isFirst 86 = .ok (.iaload, 1) := by decide +kernel
theorem dX7_isFirst_87 : decode cX7_isFirst 87 = .ok (.bipush 84, 2) := by decide +kernel
theorem dX7_isFirst_89 : decode cX7_isFirst 89 = .ok (.if_icmp .ne 86, 3) := by decide +kernel
theorem dX7_isFirst_92 : decode cX7_isFirst 92 = .ok (.aload_n 0, 1) := by decide +kernel
theorem dX7_isFirst_93 : decode cX7_isFirst 93 = .ok (.getfield 7, 3) := by decide +kernel
theorem dX7_isFirst_96 : decode cX7_isFirst 96 = .ok (.iload_n 1, 1) := by decide +kernel
theorem dX7_isFirst_97 : decode cX7_isFirst 97 = .ok (.bipush 6, 2) := by decide +kernel
theorem dX7_isFirst_99 : decode cX7_isFirst 99 = .ok (.isub, 1) := by decide +kernel
theorem dX7_isFirst_100 : decode cX7_isFirst 100 = .ok (.iaload, 1) := by decide +kernel
theorem dX7_isFirst_101 : decode cX7_isFirst 101 = .ok (.bipush 84, 2) := by decide +kernel
theorem dX7_isFirst_103 : decode cX7_isFirst 103 = .ok (.if_icmp .ne 72, 3) := by decide +kernel
theorem dX7_isFirst_106 : decode cX7_isFirst 106 = .ok (.aload_n 0, 1) := by decide +kernel
theorem dX7_isFirst_107 : decode cX7_isFirst 107 = .ok (.getfield 7, 3) := by decide +kernel
theorem dX7_isFirst_110 : decode cX7_isFirst 110 = .ok (.iload_n 1, 1) := by decide +kernel
theorem dX7_isFirst_111 : decode cX7_isFirst 111 = .ok (.iconst 5, 1) := by decide +kernel
theorem dX7_isFirst_112 : decode cX7_isFirst 112 = .ok (.isub, 1) := by decide +kernel
theorem dX7_isFirst_113 : decode cX7_isFirst 113 = .ok (.iaload, 1) := by decide +kernel
theorem dX7_isFirst_114 : decode cX7_isFirst 114 = .ok (.bipush 80, 2) := by decide +kernel
theorem dX7_isFirst_116 : decode cX7_isFirst 116 = .ok (.if_icmp .ne 59, 3) := by decide +kernel
theorem dX7_isFirst_119 : decode cX7_isFirst 119 = .ok (.aload_n 0, 1) := by decide +kernel
theorem dX7_isFirst_120 : decode cX7_isFirst 120 = .ok (.getfield 7, 3) := by decide +kernel
theorem dX7_isFirst_123 : decode cX7_isFirst 123 = .ok (.iload_n 1, 1) := by decide +kernel
theorem dX7_isFirst_124 : decode cX7_isFirst 124 = .ok (.iconst 4, 1) := by decide +kernel
theorem dX7_isFirst_125 : decode cX7_isFirst 125 = .ok (.isub, 1) := by decide +kernel
theorem dX7_isFirst_126 : decode cX7_isFirst 126 = .ok (.iaload, 1) := by decide +kernel
theorem dX7_isFirst_127 : decode cX7_isFirst 127 = .ok (.bipush 47, 2) := by decide +kernel
theorem dX7_isFirst_129 : decode cX7_isFirst 129 = .ok (.if_icmp .ne 46, 3) := by decide +kernel
theorem dX7_isFirst_132 : decode cX7_isFirst 132 = .ok (.aload_n 0, 1) := by decide +kernel
theorem dX7_isFirst_133 : decode cX7_isFirst 133 = .ok (.getfield 7, 3) := by decide +kernel
theorem dX7_isFirst_136 : decode cX7_isFirst 136 = .ok (.iload_n 1, 1) := by decide +kernel
theorem dX7_isFirst_137 : decode cX7_isFirst 137 = .ok (.iconst 3, 1) := by decide +kernel
theorem dX7_isFirst_138 : decode cX7_isFirst 138 = .ok (.isub, 1) := by decide +kernel
theorem dX7_isFirst_139 : decode cX7_isFirst 139 = .ok (.iaload, 1) := by decide +kernel
theorem dX7_isFirst_140 : decode cX7_isFirst 140 = .ok (.bipush 49, 2) := by decide +kernel
theorem dX7_isFirst_142 : decode cX7_isFirst 142 = .ok (.if_icmp .ne 33, 3) := by decide +kernel
theorem dX7_isFirst_145 : decode cX7_isFirst 145 = .ok (.aload_n 0, 1) := by decide +kernel
theorem dX7_isFirst_146 : decode cX7_isFirst 146 = .ok (.getfield 7, 3) := by decide +kernel
theorem dX7_isFirst_149 : decode cX7_isFirst 149 = .ok (.iload_n 1, 1) := by decide +kernel
theorem dX7_isFirst_150 : decode cX7_isFirst 150 = .ok (.iconst 2, 1) := by decide +kernel
theorem dX7_isFirst_151 : decode cX7_isFirst 151 = .ok (.isub, 1) := by decide +kernel
theorem dX7_isFirst_152 : decode cX7_isFirst 152 = .ok (.iaload, 1) := by decide +kernel
theorem dX7_isFirst_153 : decode cX7_isFirst 153 = .ok (.bipush 46, 2) := by decide +kernel
theorem dX7_isFirst_155 : decode cX7_isFirst 155 = .ok (.if_icmp .ne 20, 3) := by decide +kernel
theorem dX7_isFirst_158 : decode cX7_isFirst 158 = .ok (.aload_n 0, 1) := by decide +kernel
theorem dX7_isFirst_159 : decode cX7_isFirst 159 = .ok (.getfield 7, 3) := by decide +kernel
theorem dX7_isFirst_162 : decode cX7_isFirst 162 = .ok (.iload_n 1, 1) := by decide +kernel
theorem dX7_isFirst_163 : decode cX7_isFirst 163 = .ok (.iconst 1, 1) := by decide +kernel
theorem dX7_isFirst_164 : decode cX7_isFirst 164 = .ok (.isub, 1) := by decide +kernel
theorem dX7_isFirst_165 : decode cX7_isFirst 165 = .ok (.iaload, 1) := by decide +kernel
theorem dX7_isFirst_166 : decode cX7_isFirst 166 = .ok (.bipush 49, 2) := by decide +kernel
theorem dX7_isFirst_168 : decode cX7_isFirst 168 = .ok (.if_icmp .ne 7, 3) := by decide +kernel
theorem dX7_isFirst_171 : decode cX7_isFirst 171 = .ok (.iconst 1, 1) := by decide +kernel
theorem dX7_isFirst_172 : decode cX7_isFirst 172 = .ok (.goto 4, 3) := by decide +kernel
theorem dX7_isFirst_175 : decode cX7_isFirst 175 = .ok (.iconst 0, 1) := by decide +kernel
theorem dX7_isFirst_176 : decode cX7_isFirst 176 = .ok (.istore_n 2, 1) := by decide +kernel
theorem dX7_isFirst_177 : decode cX7_isFirst 177 = .ok (.iconst 4, 1) := by decide +kernel
theorem dX7_isFirst_178 : decode cX7_isFirst 178 = .ok (.istore_n 3, 1) := by decide +kernel
theorem dX7_isFirst_179 : decode cX7_isFirst 179 = .ok (.iload_n 3, 1) := by decide +kernel
theorem dX7_isFirst_180 : decode cX7_isFirst 180 = .ok (.iload_n 1, 1) := by decide +kernel
theorem dX7_isFirst_181 : decode cX7_isFirst 181 = .ok (.bipush 9, 2) := by decide +kernel
theorem dX7_isFirst_183 : decode cX7_isFirst 183 = .ok (.isub, 1) := by decide +kernel
theorem dX7_isFirst_184 : decode cX7_isFirst 184 = .ok (.if_icmp .ge 41, 3) := by decide +kernel
theorem dX7_isFirst_187 : decode cX7_isFirst 187 = .ok (.iload_n 2, 1) := by decide +kernel
theorem dX7_isFirst_188 : decode cX7_isFirst 188 = .ok (.ifCond .eq 29, 3) := by decide +kernel
theorem dX7_isFirst_191 : decode cX7_isFirst 191 = .ok (.aload_n 0, 1) := by decide +kernel
theorem dX7_isFirst_192 : decode cX7_isFirst 192 = .ok (.getfield 7, 3) := by decide +kernel
theorem dX7_isFirst_195 : decode cX7_isFirst 195 = .ok (.iload_n 3, 1) := by decide +kernel
theorem dX7_isFirst_196 : decode cX7_isFirst 196 = .ok (.iaload, 1) := by decide +kernel
theorem dX7_isFirst_197 : decode cX7_isFirst 197 = .ok (.bipush 32, 2) := by decide +kernel
theorem dX7_isFirst_199 : decode cX7_isFirst 199 = .ok (.if_icmp .le 18, 3) := by decide +kernel
theorem dX7_isFirst_202 : decode cX7_isFirst 202 = .ok (.aload_n 0, 1) := by decide +kernel
theorem dX7_isFirst_203 : decode cX7_isFirst 203 = .ok (.getfield 7, 3) := by decide +kernel
theorem dX7_isFirst_206 : decode cX7_isFirst 206 = .ok (.iload_n 3, 1) := by decide +kernel
theorem dX7_isFirst_207 : decode cX7_isFirst 207 = .ok (.iaload, 1) := by decide +kernel
theorem dX7_isFirst_208 : decode cX7_isFirst 208 = .ok (.bipush 127, 2) := by decide +kernel
theorem dX7_isFirst_210 : decode cX7_isFirst 210 = .ok (.if_icmp .ge 7, 3) := by decide +kernel
theorem dX7_isFirst_213 : decode cX7_isFirst 213 = .ok (.iconst 1, 1) := by decide +kernel
theorem dX7_isFirst_214 : decode cX7_isFirst 214 = .ok (.goto 4, 3) := by decide +kernel
theorem dX7_isFirst_217 : decode cX7_isFirst 217 = .ok (.iconst 0, 1) := by decide +kernel
theorem dX7_isFirst_218 : decode cX7_isFirst 218 = .ok (.istore_n 2, 1) := by decide +kernel
theorem dX7_isFirst_219 : decode cX7_isFirst 219 = .ok (.iinc 3 1, 3) := by decide +kernel
theorem dX7_isFirst_222 : decode cX7_isFirst 222 = .ok (.goto (-43), 3) := by decide +kernel
theorem dX7_isFirst_225 : decode cX7_isFirst 225 = .ok (.iload_n 2, 1) := by decide +kernel
theorem dX7_isFirst_226 : decode cX7_isFirst 226 = .ok (.ireturn, 1) := by decide +kernel
theorem dX7_takeLine_0 : decode cX7_takeLine 0 = .ok (.iload_n 1, 1) := by decide +kernel
theorem dX7_takeLine_1 : decode cX7_takeLine 1 = .ok (.istore_n 3, 1) := by decide +kernel
theorem dX7_takeLine_2 : decode cX7_takeLine 2 = .ok (.iload_n 3, 1) := by decide +kernel
theorem dX7_takeLine_3 : decode cX7_takeLine 3 = .ok (.iload_n 2, 1) := by decide +kernel
theorem dX7_takeLine_4 : decode cX7_takeLine 4 = .ok (.if_icmp .ge 44, 3) := by decide +kernel
theorem dX7_takeLine_7 : decode cX7_takeLine 7 = .ok (.aload_n 0, 1) := by decide +kernel
theorem dX7_takeLine_8 : decode cX7_takeLine 8 = .ok (.getfield 7, 3) := by decide +kernel
theorem dX7_takeLine_11 : decode cX7_takeLine 11 = .ok (.iload_n 3, 1) := by decide +kernel
theorem dX7_takeLine_12 : decode cX7_takeLine 12 = .ok (.iaload, 1) := by decide +kernel
theorem dX7_takeLine_13 : decode cX7_takeLine 13 = .ok (.invokestatic 128, 3) := by decide +kernel
theorem dX7_takeLine_16 : decode cX7_takeLine 16 = .ok (.ifCond .ne 26, 3) := by decide +kernel
theorem dX7_takeLine_19 : decode cX7_takeLine 19 = .ok (.aload_n 0, 1) := by decide +kernel
theorem dX7_takeLine_20 : decode cX7_takeLine 20 = .ok (.getfield 7, 3) := by decide +kernel
theorem dX7_takeLine_23 : decode cX7_takeLine 23 = .ok (.iload_n 3, 1) := by decide +kernel
theorem dX7_takeLine_24 : decode cX7_takeLine 24 = .ok (.iaload, 1) := by decide +kernel
theorem dX7_takeLine_25 : decode cX7_takeLine 25 = .ok (.invokestatic 131, 3) := by decide +kernel
theorem dX7_takeLine_28 : decode cX7_takeLine 28 = .ok (.ifCond .ne 14, 3) := by decide +kernel
theorem dX7_takeLine_31 : decode cX7_takeLine 31 = .ok (.aload_n 0, 1) := by decide +kernel
theorem dX7_takeLine_32 : decode cX7_takeLine 32 = .ok (.getfield 7, 3) := by decide +kernel
theorem dX7_takeLine_35 : decode cX7_takeLine 35 = .ok (.iload_n 3, 1) := by decide +kernel
theorem dX7_takeLine_36 : decode cX7_takeLine 36 = .ok (.iaload, 1) := by decide +kernel
theorem dX7_takeLine_37 : decode cX7_takeLine 37 = .ok (.bipush 45, 2) := by decide +kernel
theorem dX7_takeLine_39 : decode cX7_takeLine 39 = .ok (.if_icmp .ne 9, 3) := by decide +kernel
theorem dX7_takeLine_42 : decode cX7_takeLine 42 = .ok (.iinc 3 1, 3) := by decide +kernel
theorem dX7_takeLine_45 : decode cX7_takeLine 45 = .ok (.goto (-43), 3) := by decide +kernel
theorem dX7_takeLine_48 : decode cX7_takeLine 48 = .ok (.iload_n 3, 1) := by decide +kernel
theorem dX7_takeLine_49 : decode cX7_takeLine 49 = .ok (.iload_n 1, 1) := by decide +kernel
theorem dX7_takeLine_50 : decode cX7_takeLine 50 = .ok (.if_icmp .le 23, 3) := by decide +kernel
theorem dX7_takeLine_53 : decode cX7_takeLine 53 = .ok (.iload_n 3, 1) := by decide +kernel
theorem dX7_takeLine_54 : decode cX7_takeLine 54 = .ok (.iload_n 2, 1) := by decide +kernel
theorem dX7_takeLine_55 : decode cX7_takeLine 55 = .ok (.if_icmp .ge 18, 3) := by decide +kernel
theorem dX7_takeLine_58 : decode cX7_takeLine 58 = .ok (.aload_n 0, 1) := by decide +kernel
theorem dX7_takeLine_59 : decode cX7_takeLine 59 = .ok (.getfield 7, 3) := by decide +kernel
theorem dX7_takeLine_62 : decode cX7_takeLine 62 = .ok (.iload_n 3, 1) := by decide +kernel
theorem dX7_takeLine_63 : decode cX7_takeLine 63 = .ok (.iaload, 1) := by decide +kernel
theorem dX7_takeLine_64 : decode cX7_takeLine 64 = .ok (.bipush 58, 2) := by decide +kernel
theorem dX7_takeLine_66 : decode cX7_takeLine 66 = .ok (.if_icmp .ne 7, 3) := by decide +kernel
theorem dX7_takeLine_69 : decode cX7_takeLine 69 = .ok (.iconst 1, 1) := by decide +kernel
theorem dX7_takeLine_70 : decode cX7_takeLine 70 = .ok (.goto 4, 3) := by decide +kernel
theorem dX7_takeLine_73 : decode cX7_takeLine 73 = .ok (.iconst 0, 1) := by decide +kernel
theorem dX7_takeLine_74 : decode cX7_takeLine 74 = .ok (.istore 4, 2) := by decide +kernel
theorem dX7_takeLine_76 : decode cX7_takeLine 76 = .ok (.iload_n 3, 1) := by decide +kernel
theorem dX7_takeLine_77 : decode cX7_takeLine 77 = .ok (.iconst 1, 1) := by decide +kernel
theorem dX7_takeLine_78 : decode cX7_takeLine 78 = .ok (.iadd, 1) := by decide +kernel
theorem dX7_takeLine_79 : decode cX7_takeLine 79 = .ok (.istore 5, 2) := by decide +kernel
theorem dX7_takeLine_81 : decode cX7_takeLine 81 = .ok (.iload 5, 2) := by decide +kernel
theorem dX7_takeLine_83 : decode cX7_takeLine 83 = .ok (.iload_n 2, 1) := by decide +kernel
theorem dX7_takeLine_84 : decode cX7_takeLine 84 = .ok (.if_icmp .ge 57, 3) := by decide +kernel
theorem dX7_takeLine_87 : decode cX7_takeLine 87 = .ok (.iload 4, 2) := by decide +kernel
theorem dX7_takeLine_89 : decode cX7_takeLine 89 = .ok (.ifCond .eq 43, 3) := by decide +kernel
theorem dX7_takeLine_92 : decode cX7_takeLine 92 = .ok (.aload_n 0, 1) := by decide +kernel
theorem dX7_takeLine_93 : decode cX7_takeLine 93 = .ok (.getfield 7, 3) := by decide +kernel
theorem dX7_takeLine_96 : decode cX7_takeLine 96 = .ok (.iload 5, 2) := by decide +kernel
theorem dX7_takeLine_98 : decode cX7_takeLine 98 = .ok (.iaload, 1) := by decide +kernel
theorem dX7_takeLine_99 : decode cX7_takeLine 99 = .ok (.bipush 9, 2) := by decide +kernel
theorem dX7_takeLine_101 : decode cX7_takeLine 101 = .ok (.if_icmp .eq 27, 3) := by decide +kernel
theorem dX7_takeLine_104 : decode cX7_takeLine 104 = .ok (.aload_n 0, 1) := by decide +kernel
theorem dX7_takeLine_105 : decode cX7_takeLine 105 = .ok (.getfield 7, 3) := by decide +kernel
theorem dX7_takeLine_108 : decode cX7_takeLine 108 = .ok (.iload 5, 2) := by decide +kernel
theorem dX7_takeLine_110 : decode cX7_takeLine 110 = .ok (.iaload, 1) := by decide +kernel
theorem dX7_takeLine_111 : decode cX7_takeLine 111 = .ok (.bipush 31, 2) := by decide +kernel
theorem dX7_takeLine_113 : decode cX7_takeLine 113 = .ok (.if_icmp .le 19, 3) := by decide +kernel
theorem dX7_takeLine_116 : decode cX7_takeLine 116 = .ok (.aload_n 0, 1) := by decide +kernel
theorem dX7_takeLine_117 : decode cX7_takeLine 117 = .ok (.getfield 7, 3) := by decide +kernel
theorem dX7_takeLine_120 : decode cX7_takeLine 120 = .ok (.iload 5, 2) := by decide +kernel
theorem dX7_takeLine_122 : decode cX7_takeLine 122 = .ok (.iaload, 1) := by decide +kernel
theorem dX7_takeLine_123 : decode cX7_takeLine 123 = .ok (.bipush 127, 2) := by decide +kernel
theorem dX7_takeLine_125 : decode cX7_takeLine 125 = .ok (.if_icmp .ge 7, 3) := by decide +kernel
theorem dX7_takeLine_128 : decode cX7_takeLine 128 = .ok (.iconst 1, 1) := by decide +kernel
theorem dX7_takeLine_129 : decode cX7_takeLine 129 = .ok (.goto 4, 3) := by decide +kernel
theorem dX7_takeLine_132 : decode cX7_takeLine 132 = .ok (.iconst 0, 1) := by decide +kernel
theorem dX7_takeLine_133 : decode cX7_takeLine 133 = .ok (.istore 4, 2) := by decide +kernel
theorem dX7_takeLine_135 : decode cX7_takeLine 135 = .ok (.iinc 5 1, 3) := by decide +kernel
theorem dX7_takeLine_138 : decode cX7_takeLine 138 = .ok (.goto (-57), 3) := by decide +kernel
theorem dX7_takeLine_141 : decode cX7_takeLine 141 = .ok (.iconst 0, 1) := by decide +kernel
theorem dX7_takeLine_142 : decode cX7_takeLine 142 = .ok (.istore 5, 2) := by decide +kernel
theorem dX7_takeLine_144 : decode cX7_takeLine 144 = .ok (.iload 5, 2) := by decide +kernel
theorem dX7_takeLine_146 : decode cX7_takeLine 146 = .ok (.iconst 5, 1) := by decide +kernel
theorem dX7_takeLine_147 : decode cX7_takeLine 147 = .ok (.if_icmp .ge 70, 3) := by decide +kernel
theorem dX7_takeLine_150 : decode cX7_takeLine 150 = .ok (.iload 4, 2) := by decide +kernel
theorem dX7_takeLine_152 : decode cX7_takeLine 152 = .ok (.ifCond .eq 65, 3) := by decide +kernel
theorem dX7_takeLine_155 : decode cX7_takeLine 155 = .ok (.aload_n 0, 1) := by decide +kernel
theorem dX7_takeLine_156 : decode cX7_takeLine 156 = .ok (.iload_n 1, 1) := by decide +kernel
theorem dX7_takeLine_157 : decode cX7_takeLine 157 = .ok (.iload_n 3, 1) := by decide +kernel
theorem dX7_takeLine_158 : decode cX7_takeLine 158 = .ok (.iload 5, 2) := by decide +kernel
theorem dX7_takeLine_160 : decode cX7_takeLine 160 = .ok (.invokevirtual 134, 3) := by decide +kernel
theorem dX7_takeLine_163 : decode cX7_takeLine 163 = .ok (.ifCond .eq 48, 3) := by decide +kernel
theorem dX7_takeLine_166 : decode cX7_takeLine 166 = .ok (.aload_n 0, 1) := by decide +kernel
theorem dX7_takeLine_167 : decode cX7_takeLine 167 = .ok (.getfield 13, 3) := by decide +kernel
theorem dX7_takeLine_170 : decode cX7_takeLine 170 = .ok (.iload 5, 2) := by decide +kernel
theorem dX7_takeLine_172 : decode cX7_takeLine 172 = .ok (.dup2, 1) := by decide +kernel
theorem dX7_takeLine_173 : decode cX7_takeLine 173 = .ok (.iaload, 1) := by decide +kernel
theorem dX7_takeLine_174 : decode cX7_takeLine 174 = .ok (.iconst 1, 1) := by decide +kernel
theorem dX7_takeLine_175 : decode cX7_takeLine 175 = .ok (.iadd, 1) := by decide +kernel
theorem dX7_takeLine_176 : decode cX7_takeLine 176 = .ok (.iastore, 1) := by decide +kernel
theorem dX7_takeLine_177 : decode cX7_takeLine 177 = .ok (.aload_n 0, 1) := by decide +kernel
theorem dX7_takeLine_178 : decode cX7_takeLine 178 = .ok (.getfield 16, 3) := by decide +kernel
theorem dX7_takeLine_181 : decode cX7_takeLine 181 = .ok (.iload 5, 2) := by decide +kernel
theorem dX7_takeLine_183 : decode cX7_takeLine 183 = .ok (.aload_n 0, 1) := by decide +kernel
theorem dX7_takeLine_184 : decode cX7_takeLine 184 = .ok (.iload_n 3, 1) := by decide +kernel
theorem dX7_takeLine_185 : decode cX7_takeLine 185 = .ok (.iconst 1, 1) := by decide +kernel
theorem dX7_takeLine_186 : decode cX7_takeLine 186 = .ok (.iadd, 1) := by decide +kernel
theorem dX7_takeLine_187 : decode cX7_takeLine 187 = .ok (.iload_n 2, 1) := by decide +kernel
theorem dX7_takeLine_188 : decode cX7_takeLine 188 = .ok (.invokevirtual 138, 3) := by decide +kernel
theorem dX7_takeLine_191 : decode cX7_takeLine 191 = .ok (.iastore, 1) := by decide +kernel
theorem dX7_takeLine_192 : decode cX7_takeLine 192 = .ok (.aload_n 0, 1) := by decide +kernel
theorem dX7_takeLine_193 : decode cX7_takeLine 193 = .ok (.getfield 19, 3) := by decide +kernel
theorem dX7_takeLine_196 : decode cX7_takeLine 196 = .ok (.iload 5, 2) := by decide +kernel
theorem dX7_takeLine_198 : decode cX7_takeLine 198 = .ok (.aload_n 0, 1) := by decide +kernel
theorem dX7_takeLine_199 : decode cX7_takeLine 199 = .ok (.aload_n 0, 1) := by decide +kernel
theorem dX7_takeLine_200 : decode cX7_takeLine 200 = .ok (.getfield 16, 3) := by decide +kernel
theorem dX7_takeLine_203 : decode cX7_takeLine 203 = .ok (.iload 5, 2) := by decide +kernel
theorem dX7_takeLine_205 : decode cX7_takeLine 205 = .ok (.iaload, 1) := by decide +kernel
theorem dX7_takeLine_206 : decode cX7_takeLine 206 = .ok (.iload_n 2, 1) := by decide +kernel
theorem dX7_takeLine_207 : decode cX7_takeLine 207 = .ok (.invokevirtual 141, 3) := by decide +kernel
theorem dX7_takeLine_210 : decode cX7_takeLine 210 = .ok (.iastore, 1) := by decide +kernel
theorem dX7_takeLine_211 : decode cX7_takeLine 211 = .ok (.iinc 5 1, 3) := by decide +kernel
theorem dX7_takeLine_214 : decode cX7_takeLine 214 = .ok (.goto (-70), 3) := by decide +kernel
theorem dX7_takeLine_217 : decode cX7_takeLine 217 = .ok (.iload 4, 2) := by decide +kernel
theorem dX7_takeLine_219 : decode cX7_takeLine 219 = .ok (.ireturn, 1) := by decide +kernel
theorem dX7_hasWord_0 : decode cX7_hasWord 0 = .ok (.iconst 0, 1) := by decide +kernel
theorem dX7_hasWord_1 : decode cX7_hasWord 1 = .ok (.istore_n 3, 1) := by decide +kernel
theorem dX7_hasWord_2 : decode cX7_hasWord 2 = .ok (.aload_n 0, 1) := by decide +kernel
theorem dX7_hasWord_3 : decode cX7_hasWord 3 = .ok (.getfield 16, 3) := by decide +kernel
theorem dX7_hasWord_6 : decode cX7_hasWord 6 = .ok (.iload_n 1, 1) := by decide +kernel
theorem dX7_hasWord_7 : decode cX7_hasWord 7 = .ok (.iaload, 1) := by decide +kernel
theorem dX7_hasWord_8 : decode cX7_hasWord 8 = .ok (.istore 4, 2) := by decide +kernel
theorem dX7_hasWord_10 : decode cX7_hasWord 10 = .ok (.iload 4, 2) := by decide +kernel
theorem dX7_hasWord_12 : decode cX7_hasWord 12 = .ok (.istore 5, 2) := by decide +kernel
theorem dX7_hasWord_14 : decode cX7_hasWord 14 = .ok (.iload 5, 2) := by decide +kernel
theorem dX7_hasWord_16 : decode cX7_hasWord 16 = .ok (.aload_n 0, 1) := by decide +kernel
theorem dX7_hasWord_17 : decode cX7_hasWord 17 = .ok (.getfield 19, 3) := by decide +kernel
theorem dX7_hasWord_20 : decode cX7_hasWord 20 = .ok (.iload_n 1, 1) := by decide +kernel
theorem dX7_hasWord_21 : decode cX7_hasWord 21 = .ok (.iaload, 1) := by decide +kernel
theorem dX7_hasWord_22 : decode cX7_hasWord 22 = .ok (.if_icmp .gt 76, 3) := by decide +kernel
theorem dX7_hasWord_25 : decode cX7_hasWord 25 = .ok (.iload 5, 2) := by decide +kernel
theorem dX7_hasWord_27 : decode cX7_hasWord 27 = .ok (.aload_n 0, 1) := by decide +kernel
theorem dX7_hasWord_28 : decode cX7_hasWord 28 = .ok (.getfield 19, 3) := by decide +kernel
theorem dX7_hasWord_31 : decode cX7_hasWord 31 = .ok (.iload_n 1, 1) := by decide +kernel
theorem dX7_hasWord_32 : decode cX7_hasWord 32 = .ok (.iaload, 1) := by decide +kernel
theorem dX7_hasWord_33 : decode cX7_hasWord 33 = .ok (.if_icmp .eq 15, 3) := by decide +kernel
theorem dX7_hasWord_36 : decode cX7_hasWord 36 = .ok (.aload_n 0, 1) := by decide +kernel
theorem dX7_hasWord_37 : decode cX7_hasWord 37 = .ok (.getfield 7, 3) := by decide +kernel
theorem dX7_hasWord_40 : decode cX7_hasWord 40 = .ok (.iload 5, 2) := by decide +kernel
theorem dX7_hasWord_42 : decode cX7_hasWord 42 = .ok (.iaload, 1) := by decide +kernel
theorem dX7_hasWord_43 : decode cX7_hasWord 43 = .ok (.bipush 44, 2) := by decide +kernel
theorem dX7_hasWord_45 : decode cX7_hasWord 45 = .ok (.if_icmp .ne 47, 3) := by decide +kernel
theorem dX7_hasWord_48 : decode cX7_hasWord 48 = .ok (.aload_n 0, 1) := by decide +kernel
theorem dX7_hasWord_49 : decode cX7_hasWord 49 = .ok (.iload 4, 2) := by decide +kernel
theorem dX7_hasWord_51 : decode cX7_hasWord 51 = .ok (.iload 5, 2) := by decide +kernel
theorem dX7_hasWord_53 : decode cX7_hasWord 53 = .ok (.invokevirtual 138, 3) := by decide +kernel
theorem dX7_hasWord_56 : decode cX7_hasWord 56 = .ok (.istore 6, 2) := by decide +kernel
theorem dX7_hasWord_58 : decode cX7_hasWord 58 = .ok (.iload_n 3, 1) := by decide +kernel
theorem dX7_hasWord_59 : decode cX7_hasWord 59 = .ok (.ifCond .ne 21, 3) := by decide +kernel
theorem dX7_hasWord_62 : decode cX7_hasWord 62 = .ok (.aload_n 0, 1) := by decide +kernel
theorem dX7_hasWord_63 : decode cX7_hasWord 63 = .ok (.iload 6, 2) := by decide +kernel
theorem dX7_hasWord_65 : decode cX7_hasWord 65 = .ok (.aload_n 0, 1) := by decide +kernel
theorem dX7_hasWord_66 : decode cX7_hasWord 66 = .ok (.iload 6, 2) := by decide +kernel
theorem dX7_hasWord_68 : decode cX7_hasWord 68 = .ok (.iload 5, 2) := by decide +kernel
theorem dX7_hasWord_70 : decode cX7_hasWord 70 = .ok (.invokevirtual 141, 3) := by decide +kernel
theorem dX7_hasWord_73 : decode cX7_hasWord 73 = .ok (.iload_n 2, 1) := by decide +kernel
theorem dX7_hasWord_74 : decode cX7_hasWord 74 = .ok (.invokevirtual 134, 3) := by decide +kernel
theorem dX7_hasWord_77 : decode cX7_hasWord 77 = .ok (.ifCond .eq 7, 3) := by decide +kernel
theorem dX7_hasWord_80 : decode cX7_hasWord 80 = .ok (.iconst 1, 1) := by decide +kernel
theorem dX7_hasWord_81 : decode cX7_hasWord 81 = .ok (.goto 4, 3) := by decide +kernel
theorem dX7_hasWord_84 : decode cX7_hasWord 84 = .ok (.iconst 0, 1) := by decide +kernel
theorem dX7_hasWord_85 : decode cX7_hasWord 85 = .ok (.istore_n 3, 1) := by decide +kernel
theorem dX7_hasWord_86 : decode cX7_hasWord 86 = .ok (.iload 5, 2) := by decide +kernel
theorem dX7_hasWord_88 : decode cX7_hasWord 88 = .ok (.iconst 1, 1) := by decide +kernel
theorem dX7_hasWord_89 : decode cX7_hasWord 89 = .ok (.iadd, 1) := by decide +kernel
theorem dX7_hasWord_90 : decode cX7_hasWord 90 = .ok (.istore 4, 2) := by decide +kernel
theorem dX7_hasWord_92 : decode cX7_hasWord 92 = .ok (.iinc 5 1, 3) := by decide +kernel
theorem dX7_hasWord_95 : decode cX7_hasWord 95 = .ok (.goto (-81), 3) := by decide +kernel
theorem dX7_hasWord_98 : decode cX7_hasWord 98 = .ok (.iload_n 3, 1) := by decide +kernel
theorem dX7_hasWord_99 : decode cX7_hasWord 99 = .ok (.ireturn, 1) := by decide +kernel
theorem dX7_isBase64_0 : decode cX7_isBase64 0 = .ok (.iload_n 0, 1) := by decide +kernel
theorem dX7_isBase64_1 : decode cX7_isBase64 1 = .ok (.invokestatic 128, 3) := by decide +kernel
theorem dX7_isBase64_4 : decode cX7_isBase64 4 = .ok (.ifCond .ne 22, 3) := by decide +kernel
theorem dX7_isBase64_7 : decode cX7_isBase64 7 = .ok (.iload_n 0, 1) := by decide +kernel
theorem dX7_isBase64_8 : decode cX7_isBase64 8 = .ok (.invokestatic 131, 3) := by decide +kernel
theorem dX7_isBase64_11 : decode cX7_isBase64 11 = .ok (.ifCond .ne 15, 3) := by decide +kernel
theorem dX7_isBase64_14 : decode cX7_isBase64 14 = .ok (.iload_n 0, 1) := by decide +kernel
theorem dX7_isBase64_15 : decode cX7_isBase64 15 = .ok (.bipush 43, 2) := by decide +kernel
theorem dX7_isBase64_17 : decode cX7_isBase64 17 = .ok (.if_icmp .eq 9, 3) := by decide +kernel
theorem dX7_isBase64_20 : decode cX7_isBase64 20 = .ok (.iload_n 0, 1) := by decide +kernel
theorem dX7_isBase64_21 : decode cX7_isBase64 21 = .ok (.bipush 47, 2) := by decide +kernel
theorem dX7_isBase64_23 : decode cX7_isBase64 23 = .ok (.if_icmp .ne 7, 3) := by decide +kernel
theorem dX7_isBase64_26 : decode cX7_isBase64 26 = .ok (.iconst 1, 1) := by decide +kernel
theorem dX7_isBase64_27 : decode cX7_isBase64 27 = .ok (.goto 4, 3) := by decide +kernel
theorem dX7_isBase64_30 : decode cX7_isBase64 30 = .ok (.iconst 0, 1) := by decide +kernel
theorem dX7_isBase64_31 : decode cX7_isBase64 31 = .ok (.ireturn, 1) := by decide +kernel
theorem dX7_isKey_0 : decode cX7_isKey 0 = .ok (.iload_n 2, 1) := by decide +kernel
theorem dX7_isKey_1 : decode cX7_isKey 1 = .ok (.iload_n 1, 1) := by decide +kernel
theorem dX7_isKey_2 : decode cX7_isKey 2 = .ok (.isub, 1) := by decide +kernel
theorem dX7_isKey_3 : decode cX7_isKey 3 = .ok (.bipush 24, 2) := by decide +kernel
theorem dX7_isKey_5 : decode cX7_isKey 5 = .ok (.if_icmp .ne 33, 3) := by decide +kernel
theorem dX7_isKey_8 : decode cX7_isKey 8 = .ok (.aload_n 0, 1) := by decide +kernel
theorem dX7_isKey_9 : decode cX7_isKey 9 = .ok (.getfield 7, 3) := by decide +kernel
theorem dX7_isKey_12 : decode cX7_isKey 12 = .ok (.iload_n 2, 1) := by decide +kernel
theorem dX7_isKey_13 : decode cX7_isKey 13 = .ok (.iconst 1, 1) := by decide +kernel
theorem dX7_isKey_14 : decode cX7_isKey 14 = .ok (.isub, 1) := by decide +kernel
theorem dX7_isKey_15 : decode cX7_isKey 15 = .ok (.iaload, 1) := by decide +kernel
theorem dX7_isKey_16 : decode cX7_isKey 16 = .ok (.bipush 61, 2) := by decide +kernel
theorem dX7_isKey_18 : decode cX7_isKey 18 = .ok (.if_icmp .ne 20, 3) := by decide +kernel
theorem dX7_isKey_21 : decode cX7_isKey 21 = .ok (.aload_n 0, 1) := by decide +kernel
theorem dX7_isKey_22 : decode cX7_isKey 22 = .ok (.getfield 7, 3) := by decide +kernel
theorem dX7_isKey_25 : decode cX7_isKey 25 = .ok (.iload_n 2, 1) := by decide +kernel
theorem dX7_isKey_26 : decode cX7_isKey 26 = .ok (.iconst 2, 1) := by decide +kernel
theorem dX7_isKey_27 : decode cX7_isKey 27 = .ok (.isub, 1) := by decide +kernel
theorem dX7_isKey_28 : decode cX7_isKey 28 = .ok (.iaload, 1) := by decide +kernel
theorem dX7_isKey_29 : decode cX7_isKey 29 = .ok (.bipush 61, 2) := by decide +kernel
theorem dX7_isKey_31 : decode cX7_isKey 31 = .ok (.if_icmp .ne 7, 3) := by decide +kernel
theorem dX7_isKey_34 : decode cX7_isKey 34 = .ok (.iconst 1, 1) := by decide +kernel
theorem dX7_isKey_35 : decode cX7_isKey 35 = .ok (.goto 4, 3) := by decide +kernel
theorem dX7_isKey_38 : decode cX7_isKey 38 = .ok (.iconst 0, 1) := by decide +kernel
theorem dX7_isKey_39 : decode cX7_isKey 39 = .ok (.istore_n 3, 1) := by decide +kernel
theorem dX7_isKey_40 : decode cX7_isKey 40 = .ok (.iload_n 1, 1) := by decide +kernel
theorem dX7_isKey_41 : decode cX7_isKey 41 = .ok (.istore 4, 2) := by decide +kernel
theorem dX7_isKey_43 : decode cX7_isKey 43 = .ok (.iload 4, 2) := by decide +kernel
theorem dX7_isKey_45 : decode cX7_isKey 45 = .ok (.iload_n 2, 1) := by decide +kernel
theorem dX7_isKey_46 : decode cX7_isKey 46 = .ok (.iconst 2, 1) := by decide +kernel
theorem dX7_isKey_47 : decode cX7_isKey 47 = .ok (.isub, 1) := by decide +kernel
theorem dX7_isKey_48 : decode cX7_isKey 48 = .ok (.if_icmp .ge 24, 3) := by decide +kernel
theorem dX7_isKey_51 : decode cX7_isKey 51 = .ok (.iload_n 3, 1) := by decide +kernel
theorem dX7_isKey_52 : decode cX7_isKey 52 = .ok (.ifCond .eq 20, 3) := by decide +kernel
theorem dX7_isKey_55 : decode cX7_isKey 55 = .ok (.aload_n 0, 1) := by decide +kernel
theorem dX7_isKey_56 : decode cX7_isKey 56 = .ok (.getfield 7, 3) := by decide +kernel
theorem dX7_isKey_59 : decode cX7_isKey 59 = .ok (.iload 4, 2) := by decide +kernel
theorem dX7_isKey_61 : decode cX7_isKey 61 = .ok (.iaload, 1) := by decide +kernel
theorem dX7_isKey_62 : decode cX7_isKey 62 = .ok (.invokestatic 144, 3) := by decide +kernel
theorem dX7_isKey_65 : decode cX7_isKey 65 = .ok (.istore_n 3, 1) := by decide +kernel
theorem dX7_isKey_66 : decode cX7_isKey 66 = .ok (.iinc 4 1, 3) := by decide +kernel
theorem dX7_isKey_69 : decode cX7_isKey 69 = .ok (.goto (-26), 3) := by decide +kernel
theorem dX7_isKey_72 : decode cX7_isKey 72 = .ok (.iload_n 3, 1) := by decide +kernel
theorem dX7_isKey_73 : decode cX7_isKey 73 = .ok (.ifCond .eq 14, 3) := by decide +kernel
theorem dX7_isKey_76 : decode cX7_isKey 76 = .ok (.aload_n 0, 1) := by decide +kernel
theorem dX7_isKey_77 : decode cX7_isKey 77 = .ok (.getfield 7, 3) := by decide +kernel
theorem dX7_isKey_80 : decode cX7_isKey 80 = .ok (.iload_n 2, 1) := by decide +kernel
theorem dX7_isKey_81 : decode cX7_isKey 81 = .ok (.iconst 3, 1) := by decide +kernel
theorem dX7_isKey_82 : decode cX7_isKey 82 = .ok (.isub, 1) := by decide +kernel
theorem dX7_isKey_83 : decode cX7_isKey 83 = .ok (.iaload, 1) := by decide +kernel
theorem dX7_isKey_84 : decode cX7_isKey 84 = .ok (.goto 4, 3) := by decide +kernel
theorem dX7_isKey_87 : decode cX7_isKey 87 = .ok (.iconst 0, 1) := by decide +kernel
theorem dX7_isKey_88 : decode cX7_isKey 88 = .ok (.istore 4, 2) := by decide +kernel
theorem dX7_isKey_90 : decode cX7_isKey 90 = .ok (.iload 4, 2) := by decide +kernel
theorem dX7_isKey_92 : decode cX7_isKey 92 = .ok (.bipush 65, 2) := by decide +kernel
theorem dX7_isKey_94 : decode cX7_isKey 94 = .ok (.if_icmp .eq 24, 3) := by decide +kernel
theorem dX7_isKey_97 : decode cX7_isKey 97 = .ok (.iload 4, 2) := by decide +kernel
theorem dX7_isKey_99 : decode cX7_isKey 99 = .ok (.bipush 81, 2) := by decide +kernel
theorem dX7_isKey_101 : decode cX7_isKey 101 = .ok (.if_icmp .eq 17, 3) := by decide +kernel
theorem dX7_isKey_104 : decode cX7_isKey 104 = .ok (.iload 4, 2) := by decide +kernel
theorem dX7_isKey_106 : decode cX7_isKey 106 = .ok (.bipush 103, 2) := by decide +kernel
theorem dX7_isKey_108 : decode cX7_isKey 108 = .ok (.if_icmp .eq 10, 3) := by decide +kernel
theorem dX7_isKey_111 : decode cX7_isKey 111 = .ok (.iload 4, 2) := by decide +kernel
theorem dX7_isKey_113 : decode cX7_isKey 113 = .ok (.bipush 119, 2) := by decide +kernel
theorem dX7_isKey_115 : decode cX7_isKey 115 = .ok (.if_icmp .ne 7, 3) := by decide +kernel
theorem dX7_isKey_118 : decode cX7_isKey 118 = .ok (.iconst 1, 1) := by decide +kernel
theorem dX7_isKey_119 : decode cX7_isKey 119 = .ok (.goto 4, 3) := by decide +kernel
theorem dX7_isKey_122 : decode cX7_isKey 122 = .ok (.iconst 0, 1) := by decide +kernel
theorem dX7_isKey_123 : decode cX7_isKey 123 = .ok (.ireturn, 1) := by decide +kernel
theorem dX7_isRequest_0 : decode cX7_isRequest 0 = .ok (.iconst 1, 1) := by decide +kernel
theorem dX7_isRequest_1 : decode cX7_isRequest 1 = .ok (.istore_n 2, 1) := by decide +kernel
theorem dX7_isRequest_2 : decode cX7_isRequest 2 = .ok (.iconst 1, 1) := by decide +kernel
theorem dX7_isRequest_3 : decode cX7_isRequest 3 = .ok (.istore_n 3, 1) := by decide +kernel
theorem dX7_isRequest_4 : decode cX7_isRequest 4 = .ok (.iconst 0, 1) := by decide +kernel
theorem dX7_isRequest_5 : decode cX7_isRequest 5 = .ok (.istore 4, 2) := by decide +kernel
theorem dX7_isRequest_7 : decode cX7_isRequest 7 = .ok (.iconst 0, 1) := by decide +kernel
theorem dX7_isRequest_8 : decode cX7_isRequest 8 = .ok (.istore 5, 2) := by decide +kernel
theorem dX7_isRequest_10 : decode cX7_isRequest 10 = .ok (.iload 5, 2) := by decide +kernel
theorem dX7_isRequest_12 : decode cX7_isRequest 12 = .ok (.iconst 5, 1) := by decide +kernel
theorem dX7_isRequest_13 : decode cX7_isRequest 13 = .ok (.if_icmp .ge 17, 3) := by decide +kernel
theorem dX7_isRequest_16 : decode cX7_isRequest 16 = .ok (.aload_n 0, 1) := by decide +kernel
theorem dX7_isRequest_17 : decode cX7_isRequest 17 = .ok (.getfield 13, 3) := by decide +kernel
theorem dX7_isRequest_20 : decode cX7_isRequest 20 = .ok (.iload 5, 2) := by decide +kernel
theorem dX7_isRequest_22 : decode cX7_isRequest 22 = .ok (.iconst 0, 1) := by decide +kernel
theorem dX7_isRequest_23 : decode cX7_isRequest 23 = .ok (.iastore, 1) := by decide +kernel
theorem dX7_isRequest_24 : decode cX7_isRequest 24 = .ok (.iinc 5 1, 3) := by decide +kernel
theorem dX7_isRequest_27 : decode cX7_isRequest 27 = .ok (.goto (-17), 3) := by decide +kernel
theorem dX7_isRequest_30 : decode cX7_isRequest 30 = .ok (.iconst 0, 1) := by decide +kernel
theorem dX7_isRequest_31 : decode cX7_isRequest 31 = .ok (.istore 5, 2) := by decide +kernel
theorem dX7_isRequest_33 : decode cX7_isRequest 33 = .ok (.iload 5, 2) := by decide +kernel
theorem dX7_isRequest_35 : decode cX7_isRequest 35 = .ok (.iload_n 1, 1) := by decide +kernel
theorem dX7_isRequest_36 : decode cX7_isRequest 36 = .ok (.if_icmp .gt 75, 3) := by decide +kernel
theorem dX7_isRequest_39 : decode cX7_isRequest 39 = .ok (.iload_n 2, 1) := by decide +kernel
theorem dX7_isRequest_40 : decode cX7_isRequest 40 = .ok (.ifCond .eq 71, 3) := by decide +kernel
theorem dX7_isRequest_43 : decode cX7_isRequest 43 = .ok (.iload 5, 2) := by decide +kernel
theorem dX7_isRequest_45 : decode cX7_isRequest 45 = .ok (.iload_n 1, 1) := by decide +kernel
theorem dX7_isRequest_46 : decode cX7_isRequest 46 = .ok (.if_icmp .eq 29, 3) := by decide +kernel
theorem dX7_isRequest_49 : decode cX7_isRequest 49 = .ok (.aload_n 0, 1) := by decide +kernel
theorem dX7_isRequest_50 : decode cX7_isRequest 50 = .ok (.getfield 7, 3) := by decide +kernel
theorem dX7_isRequest_53 : decode cX7_isRequest 53 = .ok (.iload 5, 2) := by decide +kernel
theorem dX7_isRequest_55 : decode cX7_isRequest 55 = .ok (.iaload, 1) := by decide +kernel
theorem dX7_isRequest_56 : decode cX7_isRequest 56 = .ok (.bipush 13, 2) := by decide +kernel
theorem dX7_isRequest_58 : decode cX7_isRequest 58 = .ok (.if_icmp .ne 47, 3) := by decide +kernel
theorem dX7_isRequest_61 : decode cX7_isRequest 61 = .ok (.aload_n 0, 1) := by decide +kernel
theorem dX7_isRequest_62 : decode cX7_isRequest 62 = .ok (.getfield 7, 3) := by decide +kernel
theorem dX7_isRequest_65 : decode cX7_isRequest 65 = .ok (.iload 5, 2) := by decide +kernel
theorem dX7_isRequest_67 : decode cX7_isRequest 67 = .ok (.iconst 1, 1) := by decide +kernel
theorem dX7_isRequest_68 : decode cX7_isRequest 68 = .ok (.iadd, 1) := by decide +kernel
theorem dX7_isRequest_69 : decode cX7_isRequest 69 = .ok (.iaload, 1) := by decide +kernel
theorem dX7_isRequest_70 : decode cX7_isRequest 70 = .ok (.bipush 10, 2) := by decide +kernel
theorem dX7_isRequest_72 : decode cX7_isRequest 72 = .ok (.if_icmp .ne 33, 3) := by decide +kernel
theorem dX7_isRequest_75 : decode cX7_isRequest 75 = .ok (.iload_n 3, 1) := by decide +kernel
theorem dX7_isRequest_76 : decode cX7_isRequest 76 = .ok (.ifCond .eq 12, 3) := by decide +kernel
theorem dX7_isRequest_79 : decode cX7_isRequest 79 = .ok (.aload_n 0, 1) := by decide +kernel
theorem dX7_isRequest_80 : decode cX7_isRequest 80 = .ok (.iload 5, 2) := by decide +kernel
theorem dX7_isRequest_82 : decode cX7_isRequest 82 = .ok (.invokevirtual 147, 3) := by decide +kernel
theorem dX7_isRequest_85 : decode cX7_isRequest 85 = .ok (.goto 11, 3) := by decide +kernel
theorem dX7_isRequest_88 : decode cX7_isRequest 88 = .ok (.aload_n 0, 1) := by decide +kernel
theorem dX7_isRequest_89 : decode cX7_isRequest 89 = .ok (.iload 4, 2) := by decide +kernel
theorem dX7_isRequest_91 : decode cX7_isRequest 91 = .ok (.iload 5, 2) := by decide +kernel
theorem dX7_isRequest_93 : decode cX7_isRequest 93 = .ok (.invokevirtual 150, 3) := by decide +kernel
theorem dX7_isRequest_96 : decode cX7_isRequest 96 = .ok (.istore_n 2, 1) := by decide +kernel
theorem dX7_isRequest_97 : decode cX7_isRequest 97 = .ok (.iconst 0, 1) := by decide +kernel
theorem dX7_isRequest_98 : decode cX7_isRequest 98 = .ok (.istore_n 3, 1) := by decide +kernel
theorem dX7_isRequest_99 : decode cX7_isRequest 99 = .ok (.iload 5, 2) := by decide +kernel
theorem dX7_isRequest_101 : decode cX7_isRequest 101 = .ok (.iconst 2, 1) := by decide +kernel
theorem dX7_isRequest_102 : decode cX7_isRequest 102 = .ok (.iadd, 1) := by decide +kernel
theorem dX7_isRequest_103 : decode cX7_isRequest 103 = .ok (.istore 4, 2) := by decide +kernel
theorem dX7_isRequest_105 : decode cX7_isRequest 105 = .ok (.iinc 5 1, 3) := by decide +kernel
theorem dX7_isRequest_108 : decode cX7_isRequest 108 = .ok (.goto (-75), 3) := by decide +kernel
theorem dX7_isRequest_111 : decode cX7_isRequest 111 = .ok (.iconst 0, 1) := by decide +kernel
theorem dX7_isRequest_112 : decode cX7_isRequest 112 = .ok (.istore 5, 2) := by decide +kernel
theorem dX7_isRequest_114 : decode cX7_isRequest 114 = .ok (.iload 5, 2) := by decide +kernel
theorem dX7_isRequest_116 : decode cX7_isRequest 116 = .ok (.iconst 5, 1) := by decide +kernel
theorem dX7_isRequest_117 : decode cX7_isRequest 117 = .ok (.if_icmp .ge 30, 3) := by decide +kernel
theorem dX7_isRequest_120 : decode cX7_isRequest 120 = .ok (.iload_n 2, 1) := by decide +kernel
theorem dX7_isRequest_121 : decode cX7_isRequest 121 = .ok (.ifCond .eq 18, 3) := by decide +kernel
theorem dX7_isRequest_124 : decode cX7_isRequest 124 = .ok (.aload_n 0, 1) := by decide +kernel
theorem dX7_isRequest_125 : decode cX7_isRequest 125 = .ok (.getfield 13, 3) := by decide +kernel
theorem dX7_isRequest_128 : decode cX7_isRequest 128 = .ok (.iload 5, 2) := by decide +kernel
theorem dX7_isRequest_130 : decode cX7_isRequest 130 = .ok (.iaload, 1) := by decide +kernel
theorem dX7_isRequest_131 : decode cX7_isRequest 131 = .ok (.iconst 1, 1) := by decide +kernel
theorem dX7_isRequest_132 : decode cX7_isRequest 132 = .ok (.if_icmp .ne 7, 3) := by decide +kernel
theorem dX7_isRequest_135 : decode cX7_isRequest 135 = .ok (.iconst 1, 1) := by decide +kernel
theorem dX7_isRequest_136 : decode cX7_isRequest 136 = .ok (.goto 4, 3) := by decide +kernel
theorem dX7_isRequest_139 : decode cX7_isRequest 139 = .ok (.iconst 0, 1) := by decide +kernel
theorem dX7_isRequest_140 : decode cX7_isRequest 140 = .ok (.istore_n 2, 1) := by decide +kernel
theorem dX7_isRequest_141 : decode cX7_isRequest 141 = .ok (.iinc 5 1, 3) := by decide +kernel
theorem dX7_isRequest_144 : decode cX7_isRequest 144 = .ok (.goto (-30), 3) := by decide +kernel
theorem dX7_isRequest_147 : decode cX7_isRequest 147 = .ok (.iload_n 2, 1) := by decide +kernel
theorem dX7_isRequest_148 : decode cX7_isRequest 148 = .ok (.ifCond .eq 59, 3) := by decide +kernel
theorem dX7_isRequest_151 : decode cX7_isRequest 151 = .ok (.aload_n 0, 1) := by decide +kernel
theorem dX7_isRequest_152 : decode cX7_isRequest 152 = .ok (.getfield 19, 3) := by decide +kernel
theorem dX7_isRequest_155 : decode cX7_isRequest 155 = .ok (.iconst 0, 1) := by decide +kernel
theorem dX7_isRequest_156 : decode cX7_isRequest 156 = .ok (.iaload, 1) := by decide +kernel
theorem dX7_isRequest_157 : decode cX7_isRequest 157 = .ok (.aload_n 0, 1) := by decide +kernel
theorem dX7_isRequest_158 : decode cX7_isRequest 158 = .ok (.getfield 16, 3) := by decide +kernel
theorem dX7_isRequest_161 : decode cX7_isRequest 161 = .ok (.iconst 0, 1) := by decide +kernel
theorem dX7_isRequest_162 : decode cX7_isRequest 162 = .ok (.iaload, 1) := by decide +kernel
theorem dX7_isRequest_163 : decode cX7_isRequest 163 = .ok (.if_icmp .le 44, 3) := by decide +kernel
theorem dX7_isRequest_166 : decode cX7_isRequest 166 = .ok (.aload_n 0, 1) := by decide +kernel
theorem dX7_isRequest_167 : decode cX7_isRequest 167 = .ok (.iconst 1, 1) := by decide +kernel
theorem dX7_isRequest_168 : decode cX7_isRequest 168 = .ok (.iconst 5, 1) := by decide +kernel
theorem dX7_isRequest_169 : decode cX7_isRequest 169 = .ok (.invokevirtual 154, 3) := by decide +kernel
theorem dX7_isRequest_172 : decode cX7_isRequest 172 = .ok (.ifCond .eq 35, 3) := by decide +kernel
theorem dX7_isRequest_175 : decode cX7_isRequest 175 = .ok (.aload_n 0, 1) := by decide +kernel
theorem dX7_isRequest_176 : decode cX7_isRequest 176 = .ok (.iconst 2, 1) := by decide +kernel
theorem dX7_isRequest_177 : decode cX7_isRequest 177 = .ok (.iconst 1, 1) := by decide +kernel
theorem dX7_isRequest_178 : decode cX7_isRequest 178 = .ok (.invokevirtual 154, 3) := by decide +kernel
theorem dX7_isRequest_181 : decode cX7_isRequest 181 = .ok (.ifCond .eq 26, 3) := by decide +kernel
theorem dX7_isRequest_184 : decode cX7_isRequest 184 = .ok (.aload_n 0, 1) := by decide +kernel
theorem dX7_isRequest_185 : decode cX7_isRequest 185 = .ok (.aload_n 0, 1) := by decide +kernel
theorem dX7_isRequest_186 : decode cX7_isRequest 186 = .ok (.getfield 16, 3) := by decide +kernel
theorem dX7_isRequest_189 : decode cX7_isRequest 189 = .ok (.iconst 3, 1) := by decide +kernel
theorem dX7_isRequest_190 : decode cX7_isRequest 190 = .ok (.iaload, 1) := by decide +kernel
theorem dX7_isRequest_191 : decode cX7_isRequest 191 = .ok (.aload_n 0, 1) := by decide +kernel
theorem dX7_isRequest_192 : decode cX7_isRequest 192 = .ok (.getfield 19, 3) := by decide +kernel
theorem dX7_isRequest_195 : decode cX7_isRequest 195 = .ok (.iconst 3, 1) := by decide +kernel
theorem dX7_isRequest_196 : decode cX7_isRequest 196 = .ok (.iaload, 1) := by decide +kernel
theorem dX7_isRequest_197 : decode cX7_isRequest 197 = .ok (.invokevirtual 157, 3) := by decide +kernel
theorem dX7_isRequest_200 : decode cX7_isRequest 200 = .ok (.ifCond .eq 7, 3) := by decide +kernel
theorem dX7_isRequest_203 : decode cX7_isRequest 203 = .ok (.iconst 1, 1) := by decide +kernel
theorem dX7_isRequest_204 : decode cX7_isRequest 204 = .ok (.goto 4, 3) := by decide +kernel
theorem dX7_isRequest_207 : decode cX7_isRequest 207 = .ok (.iconst 0, 1) := by decide +kernel
theorem dX7_isRequest_208 : decode cX7_isRequest 208 = .ok (.ireturn, 1) := by decide +kernel
theorem dX7_rotated_0 : decode cX7_rotated 0 = .ok (.iload_n 0, 1) := by decide +kernel
theorem dX7_rotated_1 : decode cX7_rotated 1 = .ok (.iload_n 1, 1) := by decide +kernel
theorem dX7_rotated_2 : decode cX7_rotated 2 = .ok (.ishl, 1) := by decide +kernel
theorem dX7_rotated_3 : decode cX7_rotated 3 = .ok (.iload_n 0, 1) := by decide +kernel
theorem dX7_rotated_4 : decode cX7_rotated 4 = .ok (.bipush 32, 2) := by decide +kernel
theorem dX7_rotated_6 : decode cX7_rotated 6 = .ok (.iload_n 1, 1) := by decide +kernel
theorem dX7_rotated_7 : decode cX7_rotated 7 = .ok (.isub, 1) := by decide +kernel
theorem dX7_rotated_8 : decode cX7_rotated 8 = .ok (.iushr, 1) := by decide +kernel
theorem dX7_rotated_9 : decode cX7_rotated 9 = .ok (.ior, 1) := by decide +kernel
theorem dX7_rotated_10 : decode cX7_rotated 10 = .ok (.ireturn, 1) := by decide +kernel
theorem dX7_mix_0 : decode cX7_mix 0 = .ok (.iconst 0, 1) := by decide +kernel
theorem dX7_mix_1 : decode cX7_mix 1 = .ok (.istore_n 2, 1) := by decide +kernel
theorem dX7_mix_2 : decode cX7_mix 2 = .ok (.iload_n 2, 1) := by decide +kernel
theorem dX7_mix_3 : decode cX7_mix 3 = .ok (.bipush 80, 2) := by decide +kernel
theorem dX7_mix_5 : decode cX7_mix 5 = .ok (.if_icmp .ge 114, 3) := by decide +kernel
theorem dX7_mix_8 : decode cX7_mix 8 = .ok (.iload_n 1, 1) := by decide +kernel
theorem dX7_mix_9 : decode cX7_mix 9 = .ok (.iconst 4, 1) := by decide +kernel
theorem dX7_mix_10 : decode cX7_mix 10 = .ok (.iload_n 2, 1) := by decide +kernel
theorem dX7_mix_11 : decode cX7_mix 11 = .ok (.imul, 1) := by decide +kernel
theorem dX7_mix_12 : decode cX7_mix 12 = .ok (.iadd, 1) := by decide +kernel
theorem dX7_mix_13 : decode cX7_mix 13 = .ok (.istore_n 3, 1) := by decide +kernel
theorem dX7_mix_14 : decode cX7_mix 14 = .ok (.aload_n 0, 1) := by decide +kernel
theorem dX7_mix_15 : decode cX7_mix 15 = .ok (.getfield 49, 3) := by decide +kernel
theorem dX7_mix_18 : decode cX7_mix 18 = .ok (.iload_n 2, 1) := by decide +kernel
theorem dX7_mix_19 : decode cX7_mix 19 = .ok (.iload_n 2, 1) := by decide +kernel
theorem dX7_mix_20 : decode cX7_mix 20 = .ok (.bipush 16, 2) := by decide +kernel
theorem dX7_mix_22 : decode cX7_mix 22 = .ok (.if_icmp .ge 48, 3) := by decide +kernel
theorem dX7_mix_25 : decode cX7_mix 25 = .ok (.aload_n 0, 1) := by decide +kernel
theorem dX7_mix_26 : decode cX7_mix 26 = .ok (.getfield 46, 3) := by decide +kernel
theorem dX7_mix_29 : decode cX7_mix 29 = .ok (.iload_n 3, 1) := by decide +kernel
theorem dX7_mix_30 : decode cX7_mix 30 = .ok (.iaload, 1) := by decide +kernel
theorem dX7_mix_31 : decode cX7_mix 31 = .ok (.bipush 24, 2) := by decide +kernel
theorem dX7_mix_33 : decode cX7_mix 33 = .ok (.ishl, 1) := by decide +kernel
theorem dX7_mix_34 : decode cX7_mix 34 = .ok (.aload_n 0, 1) := by decide +kernel
theorem dX7_mix_35 : decode cX7_mix 35 = .ok (.getfield 46, 3) := by decide +kernel
theorem dX7_mix_38 : decode cX7_mix 38 = .ok (.iload_n 3, 1) := by decide +kernel
theorem dX7_mix_39 : decode cX7_mix 39 = .ok (.iconst 1, 1) := by decide +kernel
theorem dX7_mix_40 : decode cX7_mix 40 = .ok (.iadd, 1) := by decide +kernel
theorem dX7_mix_41 : decode cX7_mix 41 = .ok (.iaload, 1) := by decide +kernel
theorem dX7_mix_42 : decode cX7_mix 42 = .ok (.bipush 16, 2) := by decide +kernel
theorem dX7_mix_44 : decode cX7_mix 44 = .ok (.ishl, 1) := by decide +kernel
theorem dX7_mix_45 : decode cX7_mix 45 = .ok (.ior, 1) := by decide +kernel
theorem dX7_mix_46 : decode cX7_mix 46 = .ok (.aload_n 0, 1) := by decide +kernel
theorem dX7_mix_47 : decode cX7_mix 47 = .ok (.getfield 46, 3) := by decide +kernel
theorem dX7_mix_50 : decode cX7_mix 50 = .ok (.iload_n 3, 1) := by decide +kernel
theorem dX7_mix_51 : decode cX7_mix 51 = .ok (.iconst 2, 1) := by decide +kernel
theorem dX7_mix_52 : decode cX7_mix 52 = .ok (.iadd, 1) := by decide +kernel
theorem dX7_mix_53 : decode cX7_mix 53 = .ok (.iaload, 1) := by decide +kernel
theorem dX7_mix_54 : decode cX7_mix 54 = .ok (.bipush 8, 2) := by decide +kernel
theorem dX7_mix_56 : decode cX7_mix 56 = .ok (.ishl, 1) := by decide +kernel
theorem dX7_mix_57 : decode cX7_mix 57 = .ok (.ior, 1) := by decide +kernel
theorem dX7_mix_58 : decode cX7_mix 58 = .ok (.aload_n 0, 1) := by decide +kernel
theorem dX7_mix_59 : decode cX7_mix 59 = .ok (.getfield 46, 3) := by decide +kernel
theorem dX7_mix_62 : decode cX7_mix 62 = .ok (.iload_n 3, 1) := by decide +kernel
theorem dX7_mix_63 : decode cX7_mix 63 = .ok (.iconst 3, 1) := by decide +kernel
theorem dX7_mix_64 : decode cX7_mix 64 = .ok (.iadd, 1) := by decide +kernel
theorem dX7_mix_65 : decode cX7_mix 65 = .ok (.iaload, 1) := by decide +kernel
theorem dX7_mix_66 : decode cX7_mix 66 = .ok (.ior, 1) := by decide +kernel
theorem dX7_mix_67 : decode cX7_mix 67 = .ok (.goto 45, 3) := by decide +kernel
theorem dX7_mix_70 : decode cX7_mix 70 = .ok (.aload_n 0, 1) := by decide +kernel
theorem dX7_mix_71 : decode cX7_mix 71 = .ok (.getfield 49, 3) := by decide +kernel
theorem dX7_mix_74 : decode cX7_mix 74 = .ok (.iload_n 2, 1) := by decide +kernel
theorem dX7_mix_75 : decode cX7_mix 75 = .ok (.iconst 3, 1) := by decide +kernel
theorem dX7_mix_76 : decode cX7_mix 76 = .ok (.isub, 1) := by decide +kernel
theorem dX7_mix_77 : decode cX7_mix 77 = .ok (.iaload, 1) := by decide +kernel
theorem dX7_mix_78 : decode cX7_mix 78 = .ok (.aload_n 0, 1) := by decide +kernel
theorem dX7_mix_79 : decode cX7_mix 79 = .ok (.getfield 49, 3) := by decide +kernel
theorem dX7_mix_82 : decode cX7_mix 82 = .ok (.iload_n 2, 1) := by decide +kernel
theorem dX7_mix_83 : decode cX7_mix 83 = .ok (.bipush 8, 2) := by decide +kernel
theorem dX7_mix_85 : decode cX7_mix 85 = .ok (.isub, 1) := by decide +kernel
theorem dX7_mix_86 : decode cX7_mix 86 = .ok (.iaload, 1) := by decide +kernel
theorem dX7_mix_87 : decode cX7_mix 87 = .ok (.ixor, 1) := by decide +kernel
theorem dX7_mix_88 : decode cX7_mix 88 = .ok (.aload_n 0, 1) := by decide +kernel
theorem dX7_mix_89 : decode cX7_mix 89 = .ok (.getfield 49, 3) := by decide +kernel
theorem dX7_mix_92 : decode cX7_mix 92 = .ok (.iload_n 2, 1) := by decide +kernel
theorem dX7_mix_93 : decode cX7_mix 93 = .ok (.bipush 14, 2) := by decide +kernel
theorem dX7_mix_95 : decode cX7_mix 95 = .ok (.isub, 1) := by decide +kernel
theorem dX7_mix_96 : decode cX7_mix 96 = .ok (.iaload, 1) := by decide +kernel
theorem dX7_mix_97 : decode cX7_mix 97 = .ok (.ixor, 1) := by decide +kernel
theorem dX7_mix_98 : decode cX7_mix 98 = .ok (.aload_n 0, 1) := by decide +kernel
theorem dX7_mix_99 : decode cX7_mix 99 = .ok (.getfield 49, 3) := by decide +kernel
theorem dX7_mix_102 : decode cX7_mix 102 = .ok (.iload_n 2, 1) := by decide +kernel
theorem dX7_mix_103 : decode cX7_mix 103 = .ok (.bipush 16, 2) := by decide +kernel
theorem dX7_mix_105 : decode cX7_mix 105 = .ok (.isub, 1) := by decide +kernel
theorem dX7_mix_106 : decode cX7_mix 106 = .ok (.iaload, 1) := by decide +kernel
theorem dX7_mix_107 : decode cX7_mix 107 = .ok (.ixor, 1) := by decide +kernel
theorem dX7_mix_108 : decode cX7_mix 108 = .ok (.iconst 1, 1) := by decide +kernel
theorem dX7_mix_109 : decode cX7_mix 109 = .ok (.invokestatic 160, 3) := by decide +kernel
theorem dX7_mix_112 : decode cX7_mix 112 = .ok (.iastore, 1) := by decide +kernel
theorem dX7_mix_113 : decode cX7_mix 113 = .ok (.iinc 2 1, 3) := by decide +kernel
theorem dX7_mix_116 : decode cX7_mix 116 = .ok (.goto (-114), 3) := by decide +kernel
theorem dX7_mix_119 : decode cX7_mix 119 = .ok (.aload_n 0, 1) := by decide +kernel
theorem dX7_mix_120 : decode cX7_mix 120 = .ok (.getfield 52, 3) := by decide +kernel
theorem dX7_mix_123 : decode cX7_mix 123 = .ok (.iconst 0, 1) := by decide +kernel
theorem dX7_mix_124 : decode cX7_mix 124 = .ok (.iaload, 1) := by decide +kernel
theorem dX7_mix_125 : decode cX7_mix 125 = .ok (.istore_n 2, 1) := by decide +kernel
theorem dX7_mix_126 : decode cX7_mix 126 = .ok (.aload_n 0, 1) := by decide +kernel
theorem dX7_mix_127 : decode cX7_mix 127 = .ok (.getfield 52, 3) := by decide +kernel
theorem dX7_mix_130 : decode cX7_mix 130 = .ok (.iconst 1, 1) := by decide +kernel
theorem dX7_mix_131 : decode cX7_mix 131 = .ok (.iaload, 1) := by decide +kernel
theorem dX7_mix_132 : decode cX7_mix 132 = .ok (.istore_n 3, 1) := by decide +kernel
theorem dX7_mix_133 : decode cX7_mix 133 = .ok (.aload_n 0, 1) := by decide +kernel
theorem dX7_mix_134 : decode cX7_mix 134 = .ok (.getfield 52, 3) := by decide +kernel
theorem dX7_mix_137 : decode cX7_mix 137 = .ok (.iconst 2, 1) := by decide +kernel
theorem dX7_mix_138 : decode cX7_mix 138 = .ok (.iaload, 1) := by decide +kernel
theorem dX7_mix_139 : decode cX7_mix 139 = .ok (.istore 4, 2) := by decide +kernel
theorem dX7_mix_141 : decode cX7_mix 141 = .ok (.aload_n 0, 1) := by decide +kernel
theorem dX7_mix_142 : decode cX7_mix 142 = .ok (.getfield 52, 3) := by decide +kernel
theorem dX7_mix_145 : decode cX7_mix 145 = .ok (.iconst 3, 1) := by decide +kernel
theorem dX7_mix_146 : decode cX7_mix 146 = .ok (.iaload, 1) := by decide +kernel
theorem dX7_mix_147 : decode cX7_mix 147 = .ok (.istore 5, 2) := by decide +kernel
theorem dX7_mix_149 : decode cX7_mix 149 = .ok (.aload_n 0, 1) := by decide +kernel
theorem dX7_mix_150 : decode cX7_mix 150 = .ok (.getfield 52, 3) := by decide +kernel
theorem dX7_mix_153 : decode cX7_mix 153 = .ok (.iconst 4, 1) := by decide +kernel
theorem dX7_mix_154 : decode cX7_mix 154 = .ok (.iaload, 1) := by decide +kernel
theorem dX7_mix_155 : decode cX7_mix 155 = .ok (.istore 6, 2) := by decide +kernel
theorem dX7_mix_157 : decode cX7_mix 157 = .ok (.iconst 0, 1) := by decide +kernel
theorem dX7_mix_158 : decode cX7_mix 158 = .ok (.istore 7, 2) := by decide +kernel
theorem dX7_mix_160 : decode cX7_mix 160 = .ok (.iload 7, 2) := by decide +kernel
theorem dX7_mix_162 : decode cX7_mix 162 = .ok (.bipush 80, 2) := by decide +kernel
theorem dX7_mix_164 : decode cX7_mix 164 = .ok (.if_icmp .ge 156, 3) := by decide +kernel
theorem dX7_mix_167 : decode cX7_mix 167 = .ok (.iload 7, 2) := by decide +kernel
theorem dX7_mix_169 : decode cX7_mix 169 = .ok (.bipush 20, 2) := by decide +kernel
theorem dX7_mix_171 : decode cX7_mix 171 = .ok (.if_icmp .ge 17, 3) := by decide +kernel
theorem dX7_mix_174 : decode cX7_mix 174 = .ok (.iload_n 3, 1) := by decide +kernel
theorem dX7_mix_175 : decode cX7_mix 175 = .ok (.iload 4, 2) := by decide +kernel
theorem dX7_mix_177 : decode cX7_mix 177 = .ok (.iand, 1) := by decide +kernel
theorem dX7_mix_178 : decode cX7_mix 178 = .ok (.iload_n 3, 1) := by decide +kernel
theorem dX7_mix_179 : decode cX7_mix 179 = .ok (.iconst (-1), 1) := by decide +kernel
theorem dX7_mix_180 : decode cX7_mix 180 = .ok (.ixor, 1) := by decide +kernel
theorem dX7_mix_181 : decode cX7_mix 181 = .ok (.iload 5, 2) := by decide +kernel
theorem dX7_mix_183 : decode cX7_mix 183 = .ok (.iand, 1) := by decide +kernel
theorem dX7_mix_184 : decode cX7_mix 184 = .ok (.ior, 1) := by decide +kernel
theorem dX7_mix_185 : decode cX7_mix 185 = .ok (.goto 42, 3) := by decide +kernel
theorem dX7_mix_188 : decode cX7_mix 188 = .ok (.iload 7, 2) := by decide +kernel
theorem dX7_mix_190 : decode cX7_mix 190 = .ok (.bipush 40, 2) := by decide +kernel
theorem dX7_mix_192 : decode cX7_mix 192 = .ok (.if_icmp .lt 28, 3) := by decide +kernel
theorem dX7_mix_195 : decode cX7_mix 195 = .ok (.iload 7, 2) := by decide +kernel
theorem dX7_mix_197 : decode cX7_mix 197 = .ok (.bipush 60, 2) := by decide +kernel
theorem dX7_mix_199 : decode cX7_mix 199 = .ok (.if_icmp .ge 21, 3) := by decide +kernel
theorem dX7_mix_202 : decode cX7_mix 202 = .ok (.iload_n 3, 1) := by decide +kernel
theorem dX7_mix_203 : decode cX7_mix 203 = .ok (.iload 4, 2) := by decide +kernel
theorem dX7_mix_205 : decode cX7_mix 205 = .ok (.iand, 1) := by decide +kernel
theorem dX7_mix_206 : decode cX7_mix 206 = .ok (.iload_n 3, 1) := by decide +kernel
theorem dX7_mix_207 : decode cX7_mix 207 = .ok (.iload 5, 2) := by decide +kernel
theorem dX7_mix_209 : decode cX7_mix 209 = .ok (.iand, 1) := by decide +kernel
theorem dX7_mix_210 : decode cX7_mix 210 = .ok (.ior, 1) := by decide +kernel
theorem dX7_mix_211 : decode cX7_mix 211 = .ok (.iload 4, 2) := by decide +kernel
theorem dX7_mix_213 : decode cX7_mix 213 = .ok (.iload 5, 2) := by decide +kernel
theorem dX7_mix_215 : decode cX7_mix 215 = .ok (.iand, 1) := by decide +kernel
theorem dX7_mix_216 : decode cX7_mix 216 = .ok (.ior, 1) := by decide +kernel
theorem dX7_mix_217 : decode cX7_mix 217 = .ok (.goto 10, 3) := by decide +kernel
theorem dX7_mix_220 : decode cX7_mix 220 = .ok (.iload_n 3, 1) := by decide +kernel
theorem dX7_mix_221 : decode cX7_mix 221 = .ok (.iload 4, 2) := by decide +kernel
theorem dX7_mix_223 : decode cX7_mix 223 = .ok (.ixor, 1) := by decide +kernel
theorem dX7_mix_224 : decode cX7_mix 224 = .ok (.iload 5, 2) := by decide +kernel
theorem dX7_mix_226 : decode cX7_mix 226 = .ok (.ixor, 1) := by decide +kernel
theorem dX7_mix_227 : decode cX7_mix 227 = .ok (.istore 8, 2) := by decide +kernel
theorem dX7_mix_229 : decode cX7_mix 229 = .ok (.iload 7, 2) := by decide +kernel
theorem dX7_mix_231 : decode cX7_mix 231 = .ok (.bipush 20, 2) := by decide +kernel
theorem dX7_mix_233 : decode cX7_mix 233 = .ok (.if_icmp .ge 8, 3) := by decide +kernel
theorem dX7_mix_236 : decode cX7_mix 236 = .ok (.ldc 163, 2) := by decide +kernel
theorem dX7_mix_238 : decode cX7_mix 238 = .ok (.goto 29, 3) := by decide +kernel
theorem dX7_mix_241 : decode cX7_mix 241 = .ok (.iload 7, 2) := by decide +kernel
theorem dX7_mix_243 : decode cX7_mix 243 = .ok (.bipush 40, 2) := by decide +kernel
theorem dX7_mix_245 : decode cX7_mix 245 = .ok (.if_icmp .ge 8, 3) := by decide +kernel
theorem dX7_mix_248 : decode cX7_mix 248 = .ok (.ldc 164, 2) := by decide +kernel
theorem dX7_mix_250 : decode cX7_mix 250 = .ok (.goto 17, 3) := by decide +kernel
theorem dX7_mix_253 : decode cX7_mix 253 = .ok (.iload 7, 2) := by decide +kernel
theorem dX7_mix_255 : decode cX7_mix 255 = .ok (.bipush 60, 2) := by decide +kernel
theorem dX7_mix_257 : decode cX7_mix 257 = .ok (.if_icmp .ge 8, 3) := by decide +kernel
theorem dX7_mix_260 : decode cX7_mix 260 = .ok (.ldc 165, 2) := by decide +kernel
theorem dX7_mix_262 : decode cX7_mix 262 = .ok (.goto 5, 3) := by decide +kernel
theorem dX7_mix_265 : decode cX7_mix 265 = .ok (.ldc 166, 2) := by decide +kernel
theorem dX7_mix_267 : decode cX7_mix 267 = .ok (.istore 9, 2) := by decide +kernel
theorem dX7_mix_269 : decode cX7_mix 269 = .ok (.iload_n 2, 1) := by decide +kernel
theorem dX7_mix_270 : decode cX7_mix 270 = .ok (.iconst 5, 1) := by decide +kernel
theorem dX7_mix_271 : decode cX7_mix 271 = .ok (.invokestatic 160, 3) := by decide +kernel
theorem dX7_mix_274 : decode cX7_mix 274 = .ok (.iload 8, 2) := by decide +kernel
theorem dX7_mix_276 : decode cX7_mix 276 = .ok (.iadd, 1) := by decide +kernel
theorem dX7_mix_277 : decode cX7_mix 277 = .ok (.iload 6, 2) := by decide +kernel
theorem dX7_mix_279 : decode cX7_mix 279 = .ok (.iadd, 1) := by decide +kernel
theorem dX7_mix_280 : decode cX7_mix 280 = .ok (.iload 9, 2) := by decide +kernel
theorem dX7_mix_282 : decode cX7_mix 282 = .ok (.iadd, 1) := by decide +kernel
theorem dX7_mix_283 : decode cX7_mix 283 = .ok (.aload_n 0, 1) := by decide +kernel
theorem dX7_mix_284 : decode cX7_mix 284 = .ok (.getfield 49, 3) := by decide +kernel
theorem dX7_mix_287 : decode cX7_mix 287 = .ok (.iload 7, 2) := by decide +kernel
theorem dX7_mix_289 : decode cX7_mix 289 = .ok (.iaload, 1) := by decide +kernel
theorem dX7_mix_290 : decode cX7_mix 290 = .ok (.iadd, 1) := by decide +kernel
theorem dX7_mix_291 : decode cX7_mix 291 = .ok (.istore 10, 2) := by decide +kernel
theorem dX7_mix_293 : decode cX7_mix 293 = .ok (.iload 5, 2) := by decide +kernel
theorem dX7_mix_295 : decode cX7_mix 295 = .ok (.istore 6, 2) := by decide +kernel
theorem dX7_mix_297 : decode cX7_mix 297 = .ok (.iload 4, 2) := by decide +kernel
theorem dX7_mix_299 : decode cX7_mix 299 = .ok (.istore 5, 2) := by decide +kernel
theorem dX7_mix_301 : decode cX7_mix 301 = .ok (.iload_n 3, 1) := by decide +kernel
theorem dX7_mix_302 : decode cX7_mix 302 = .ok (.bipush 30, 2) := by decide +kernel
theorem dX7_mix_304 : decode cX7_mix 304 = .ok (.invokestatic 160, 3) := by decide +kernel
theorem dX7_mix_307 : decode cX7_mix 307 = .ok (.istore 4, 2) := by decide +kernel
theorem dX7_mix_309 : decode cX7_mix 309 = .ok (.iload_n 2, 1) := by decide +kernel
theorem dX7_mix_310 : decode cX7_mix 310 = .ok (.istore_n 3, 1) := by decide +kernel
theorem dX7_mix_311 : decode cX7_mix 311 = .ok (.iload 10, 2) := by decide +kernel
theorem dX7_mix_313 : decode cX7_mix 313 = .ok (.istore_n 2, 1) := by decide +kernel
theorem dX7_mix_314 : decode cX7_mix 314 = .ok (.iinc 7 1, 3) := by decide +kernel
theorem dX7_mix_317 : decode cX7_mix 317 = .ok (.goto (-157), 3) := by decide +kernel
theorem dX7_mix_320 : decode cX7_mix 320 = .ok (.aload_n 0, 1) := by decide +kernel
theorem dX7_mix_321 : decode cX7_mix 321 = .ok (.getfield 52, 3) := by decide +kernel
theorem dX7_mix_324 : decode cX7_mix 324 = .ok (.iconst 0, 1) := by decide +kernel
theorem dX7_mix_325 : decode cX7_mix 325 = .ok (.aload_n 0, 1) := by decide +kernel
theorem dX7_mix_326 : decode cX7_mix 326 = .ok (.getfield 52, 3) := by decide +kernel
theorem dX7_mix_329 : decode cX7_mix 329 = .ok (.iconst 0, 1) := by decide +kernel
theorem dX7_mix_330 : decode cX7_mix 330 = .ok (.iaload, 1) := by decide +kernel
theorem dX7_mix_331 : decode cX7_mix 331 = .ok (.iload_n 2, 1) := by decide +kernel
theorem dX7_mix_332 : decode cX7_mix 332 = .ok (.iadd, 1) := by decide +kernel
theorem dX7_mix_333 : decode cX7_mix 333 = .ok (.iastore, 1) := by decide +kernel
theorem dX7_mix_334 : decode cX7_mix 334 = .ok (.aload_n 0, 1) := by decide +kernel
theorem dX7_mix_335 : decode cX7_mix 335 = .ok (.getfield 52, 3) := by decide +kernel
theorem dX7_mix_338 : decode cX7_mix 338 = .ok (.iconst 1, 1) := by decide +kernel
theorem dX7_mix_339 : decode cX7_mix 339 = .ok (.aload_n 0, 1) := by decide +kernel
theorem dX7_mix_340 : decode cX7_mix 340 = .ok (.getfield 52, 3) := by decide +kernel
theorem dX7_mix_343 : decode cX7_mix 343 = .ok (.iconst 1, 1) := by decide +kernel
theorem dX7_mix_344 : decode cX7_mix 344 = .ok (.iaload, 1) := by decide +kernel
theorem dX7_mix_345 : decode cX7_mix 345 = .ok (.iload_n 3, 1) := by decide +kernel
theorem dX7_mix_346 : decode cX7_mix 346 = .ok (.iadd, 1) := by decide +kernel
theorem dX7_mix_347 : decode cX7_mix 347 = .ok (.iastore, 1) := by decide +kernel
theorem dX7_mix_348 : decode cX7_mix 348 = .ok (.aload_n 0, 1) := by decide +kernel
theorem dX7_mix_349 : decode cX7_mix 349 = .ok (.getfield 52, 3) := by decide +kernel
theorem dX7_mix_352 : decode cX7_mix 352 = .ok (.iconst 2, 1) := by decide +kernel
theorem dX7_mix_353 : decode cX7_mix 353 = .ok (.aload_n 0, 1) := by decide +kernel
theorem dX7_mix_354 : decode cX7_mix 354 = .ok (.getfield 52, 3) := by decide +kernel
theorem dX7_mix_357 : decode cX7_mix 357 = .ok (.iconst 2, 1) := by decide +kernel
theorem dX7_mix_358 : decode cX7_mix 358 = .ok (.iaload, 1) := by decide +kernel
theorem dX7_mix_359 : decode cX7_mix 359 = .ok (.iload 4, 2) := by decide +kernel
theorem dX7_mix_361 : decode cX7_mix 361 = .ok (.iadd, 1) := by decide +kernel
theorem dX7_mix_362 : decode cX7_mix 362 = .ok (.iastore, 1) := by decide +kernel
theorem dX7_mix_363 : decode cX7_mix 363 = .ok (.aload_n 0, 1) := by decide +kernel
theorem dX7_mix_364 : decode cX7_mix 364 = .ok (.getfield 52, 3) := by decide +kernel
theorem dX7_mix_367 : decode cX7_mix 367 = .ok (.iconst 3, 1) := by decide +kernel
theorem dX7_mix_368 : decode cX7_mix 368 = .ok (.aload_n 0, 1) := by decide +kernel
theorem dX7_mix_369 : decode cX7_mix 369 = .ok (.getfield 52, 3) := by decide +kernel
theorem dX7_mix_372 : decode cX7_mix 372 = .ok (.iconst 3, 1) := by decide +kernel
theorem dX7_mix_373 : decode cX7_mix 373 = .ok (.iaload, 1) := by decide +kernel
theorem dX7_mix_374 : decode cX7_mix 374 = .ok (.iload 5, 2) := by decide +kernel
theorem dX7_mix_376 : decode cX7_mix 376 = .ok (.iadd, 1) := by decide +kernel
theorem dX7_mix_377 : decode cX7_mix 377 = .ok (.iastore, 1) := by decide +kernel
theorem dX7_mix_378 : decode cX7_mix 378 = .ok (.aload_n 0, 1) := by decide +kernel
theorem dX7_mix_379 : decode cX7_mix 379 = .ok (.getfield 52, 3) := by decide +kernel
theorem dX7_mix_382 : decode cX7_mix 382 = .ok (.iconst 4, 1) := by decide +kernel
theorem dX7_mix_383 : decode cX7_mix 383 = .ok (.aload_n 0, 1) := by decide +kernel
theorem dX7_mix_384 : decode cX7_mix 384 = .ok (.getfield 52, 3) := by decide +kernel
theorem dX7_mix_387 : decode cX7_mix 387 = .ok (.iconst 4, 1) := by decide +kernel
theorem dX7_mix_388 : decode cX7_mix 388 = .ok (.iaload, 1) := by decide +kernel
theorem dX7_mix_389 : decode cX7_mix 389 = .ok (.iload 6, 2) := by decide +kernel
theorem dX7_mix_391 : decode cX7_mix 391 = .ok (.iadd, 1) := by decide +kernel
theorem dX7_mix_392 : decode cX7_mix 392 = .ok (.iastore, 1) := by decide +kernel
theorem dX7_mix_393 : decode cX7_mix 393 = .ok (.return_, 1) := by decide +kernel
theorem dX7_signs_0 : decode cX7_signs 0 = .ok (.iload_n 3, 1) := by decide +kernel
theorem dX7_signs_1 : decode cX7_signs 1 = .ok (.istore 4, 2) := by decide +kernel
theorem dX7_signs_3 : decode cX7_signs 3 = .ok (.lload_n 1, 1) := by decide +kernel
theorem dX7_signs_4 : decode cX7_signs 4 = .ok (.lstore 5, 2) := by decide +kernel
theorem dX7_signs_6 : decode cX7_signs 6 = .ok (.lload 5, 2) := by decide +kernel
theorem dX7_signs_8 : decode cX7_signs 8 = .ok (.lconst 0, 1) := by decide +kernel
theorem dX7_signs_9 : decode cX7_signs 9 = .ok (.lcmp, 1) := by decide +kernel
theorem dX7_signs_10 : decode cX7_signs 10 = .ok (.ifCond .eq 30, 3) := by decide +kernel
theorem dX7_signs_13 : decode cX7_signs 13 = .ok (.aload_n 0, 1) := by decide +kernel
theorem dX7_signs_14 : decode cX7_signs 14 = .ok (.getfield 46, 3) := by decide +kernel
theorem dX7_signs_17 : decode cX7_signs 17 = .ok (.iload 4, 2) := by decide +kernel
theorem dX7_signs_19 : decode cX7_signs 19 = .ok (.lload 5, 2) := by decide +kernel
theorem dX7_signs_21 : decode cX7_signs 21 = .ok (.ldc2_w 62, 3) := by decide +kernel
theorem dX7_signs_24 : decode cX7_signs 24 = .ok (.land, 1) := by decide +kernel
theorem dX7_signs_25 : decode cX7_signs 25 = .ok (.l2i, 1) := by decide +kernel
theorem dX7_signs_26 : decode cX7_signs 26 = .ok (.iastore, 1) := by decide +kernel
theorem dX7_signs_27 : decode cX7_signs 27 = .ok (.iinc 4 1, 3) := by decide +kernel
theorem dX7_signs_30 : decode cX7_signs 30 = .ok (.lload 5, 2) := by decide +kernel
theorem dX7_signs_32 : decode cX7_signs 32 = .ok (.bipush 8, 2) := by decide +kernel
theorem dX7_signs_34 : decode cX7_signs 34 = .ok (.lshr, 1) := by decide +kernel
theorem dX7_signs_35 : decode cX7_signs 35 = .ok (.lstore 5, 2) := by decide +kernel
theorem dX7_signs_37 : decode cX7_signs 37 = .ok (.goto (-31), 3) := by decide +kernel
theorem dX7_signs_40 : decode cX7_signs 40 = .ok (.iload 4, 2) := by decide +kernel
theorem dX7_signs_42 : decode cX7_signs 42 = .ok (.ireturn, 1) := by decide +kernel
theorem dX7_digest_0 : decode cX7_digest 0 = .ok (.iconst 0, 1) := by decide +kernel
theorem dX7_digest_1 : decode cX7_digest 1 = .ok (.istore_n 1, 1) := by decide +kernel
theorem dX7_digest_2 : decode cX7_digest 2 = .ok (.iload_n 1, 1) := by decide +kernel
theorem dX7_digest_3 : decode cX7_digest 3 = .ok (.sipush 128, 3) := by decide +kernel
theorem dX7_digest_6 : decode cX7_digest 6 = .ok (.if_icmp .ge 38, 3) := by decide +kernel
theorem dX7_digest_9 : decode cX7_digest 9 = .ok (.aload_n 0, 1) := by decide +kernel
theorem dX7_digest_10 : decode cX7_digest 10 = .ok (.getfield 46, 3) := by decide +kernel
theorem dX7_digest_13 : decode cX7_digest 13 = .ok (.iload_n 1, 1) := by decide +kernel
theorem dX7_digest_14 : decode cX7_digest 14 = .ok (.iload_n 1, 1) := by decide +kernel
theorem dX7_digest_15 : decode cX7_digest 15 = .ok (.bipush 24, 2) := by decide +kernel
theorem dX7_digest_17 : decode cX7_digest 17 = .ok (.if_icmp .ge 19, 3) := by decide +kernel
theorem dX7_digest_20 : decode cX7_digest 20 = .ok (.aload_n 0, 1) := by decide +kernel
theorem dX7_digest_21 : decode cX7_digest 21 = .ok (.getfield 7, 3) := by decide +kernel
theorem dX7_digest_24 : decode cX7_digest 24 = .ok (.aload_n 0, 1) := by decide +kernel
theorem dX7_digest_25 : decode cX7_digest 25 = .ok (.getfield 16, 3) := by decide +kernel
theorem dX7_digest_28 : decode cX7_digest 28 = .ok (.iconst 3, 1) := by decide +kernel
theorem dX7_digest_29 : decode cX7_digest 29 = .ok (.iaload, 1) := by decide +kernel
theorem dX7_digest_30 : decode cX7_digest 30 = .ok (.iload_n 1, 1) := by decide +kernel
theorem dX7_digest_31 : decode cX7_digest 31 = .ok (.iadd, 1) := by decide +kernel
theorem dX7_digest_32 : decode cX7_digest 32 = .ok (.iaload, 1) := by decide +kernel
theorem dX7_digest_33 : decode cX7_digest 33 = .ok (.goto 4, 3) := by decide +kernel
theorem dX7_digest_36 : decode cX7_digest 36 = .ok (.iconst 0, 1) := by decide +kernel
theorem dX7_digest_37 : decode cX7_digest 37 = .ok (.iastore, 1) := by decide +kernel
theorem dX7_digest_38 : decode cX7_digest 38 = .ok (.iinc 1 1, 3) := by decide +kernel
theorem dX7_digest_41 : decode cX7_digest 41 = .ok (.goto (-39), 3) := by decide +kernel
theorem dX7_digest_44 : decode cX7_digest 44 = .ok (.bipush 24, 2) := by decide +kernel
theorem dX7_digest_46 : decode cX7_digest 46 = .ok (.istore_n 1, 1) := by decide +kernel
theorem dX7_digest_47 : decode cX7_digest 47 = .ok (.aload_n 0, 1) := by decide +kernel
theorem dX7_digest_48 : decode cX7_digest 48 = .ok (.ldc2_w 167, 3) := by decide +kernel
theorem dX7_digest_51 : decode cX7_digest 51 = .ok (.iload_n 1, 1) := by decide +kernel
theorem dX7_digest_52 : decode cX7_digest 52 = .ok (.invokevirtual 169, 3) := by decide +kernel
theorem dX7_digest_55 : decode cX7_digest 55 = .ok (.istore_n 1, 1) := by decide +kernel
theorem dX7_digest_56 : decode cX7_digest 56 = .ok (.aload_n 0, 1) := by decide +kernel
theorem dX7_digest_57 : decode cX7_digest 57 = .ok (.ldc2_w 173, 3) := by decide +kernel
