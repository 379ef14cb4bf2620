theorem dX7_digest_60 : decode cX7_digest 60 = .ok (.iload_n 1, 1) := by decide +kernel
theorem dX7_digest_61 : decode cX7_digest 61 = .ok (.invokevirtual 169, 3) := by decide +kernel
theorem dX7_digest_64 : decode cX7_digest 64 = .ok (.istore_n 1, 1) := by decide +kernel
theorem dX7_digest_65 : decode cX7_digest 65 = .ok (.aload_n 0, 1) := by decide +kernel
theorem dX7_digest_66 : decode cX7_digest 66 = .ok (.ldc2_w 175, 3) := by decide +kernel
theorem dX7_digest_69 : decode cX7_digest 69 = .ok (.iload_n 1, 1) := by decide +kernel
theorem dX7_digest_70 : decode cX7_digest 70 = .ok (.invokevirtual 169, 3) := by decide +kernel
theorem dX7_digest_73 : decode cX7_digest 73 = .ok (.istore_n 1, 1) := by decide +kernel
theorem dX7_digest_74 : decode cX7_digest 74 = .ok (.aload_n 0, 1) := by decide +kernel
theorem dX7_digest_75 : decode cX7_digest 75 = .ok (.ldc2_w 177, 3) := by decide +kernel
theorem dX7_digest_78 : decode cX7_digest 78 = .ok (.iload_n 1, 1) := by decide +kernel
theorem dX7_digest_79 : decode cX7_digest 79 = .ok (.invokevirtual 169, 3) := by decide +kernel
theorem dX7_digest_82 : decode cX7_digest 82 = .ok (.istore_n 1, 1) := by decide +kernel
theorem dX7_digest_83 : decode cX7_digest 83 = .ok (.aload_n 0, 1) := by decide +kernel
theorem dX7_digest_84 : decode cX7_digest 84 = .ok (.ldc2_w 179, 3) := by decide +kernel
theorem dX7_digest_87 : decode cX7_digest 87 = .ok (.iload_n 1, 1) := by decide +kernel
theorem dX7_digest_88 : decode cX7_digest 88 = .ok (.invokevirtual 169, 3) := by decide +kernel
theorem dX7_digest_91 : decode cX7_digest 91 = .ok (.istore_n 1, 1) := by decide +kernel
theorem dX7_digest_92 : decode cX7_digest 92 = .ok (.aload_n 0, 1) := by decide +kernel
theorem dX7_digest_93 : decode cX7_digest 93 = .ok (.getfield 46, 3) := by decide +kernel
theorem dX7_digest_96 : decode cX7_digest 96 = .ok (.iload_n 1, 1) := by decide +kernel
theorem dX7_digest_97 : decode cX7_digest 97 = .ok (.sipush 128, 3) := by decide +kernel
theorem dX7_digest_100 : decode cX7_digest 100 = .ok (.iastore, 1) := by decide +kernel
theorem dX7_digest_101 : decode cX7_digest 101 = .ok (.aload_n 0, 1) := by decide +kernel
theorem dX7_digest_102 : decode cX7_digest 102 = .ok (.getfield 46, 3) := by decide +kernel
theorem dX7_digest_105 : decode cX7_digest 105 = .ok (.bipush 126, 2) := by decide +kernel
theorem dX7_digest_107 : decode cX7_digest 107 = .ok (.iconst 1, 1) := by decide +kernel
theorem dX7_digest_108 : decode cX7_digest 108 = .ok (.iastore, 1) := by decide +kernel
theorem dX7_digest_109 : decode cX7_digest 109 = .ok (.aload_n 0, 1) := by decide +kernel
theorem dX7_digest_110 : decode cX7_digest 110 = .ok (.getfield 46, 3) := by decide +kernel
theorem dX7_digest_113 : decode cX7_digest 113 = .ok (.bipush 127, 2) := by decide +kernel
theorem dX7_digest_115 : decode cX7_digest 115 = .ok (.sipush 224, 3) := by decide +kernel
theorem dX7_digest_118 : decode cX7_digest 118 = .ok (.iastore, 1) := by decide +kernel
theorem dX7_digest_119 : decode cX7_digest 119 = .ok (.aload_n 0, 1) := by decide +kernel
theorem dX7_digest_120 : decode cX7_digest 120 = .ok (.getfield 52, 3) := by decide +kernel
theorem dX7_digest_123 : decode cX7_digest 123 = .ok (.iconst 0, 1) := by decide +kernel
theorem dX7_digest_124 : decode cX7_digest 124 = .ok (.ldc 181, 2) := by decide +kernel
theorem dX7_digest_126 : decode cX7_digest 126 = .ok (.iastore, 1) := by decide +kernel
theorem dX7_digest_127 : decode cX7_digest 127 = .ok (.aload_n 0, 1) := by decide +kernel
theorem dX7_digest_128 : decode cX7_digest 128 = .ok (.getfield 52, 3) := by decide +kernel
theorem dX7_digest_131 : decode cX7_digest 131 = .ok (.iconst 1, 1) := by decide +kernel
theorem dX7_digest_132 : decode cX7_digest 132 = .ok (.ldc 182, 2) := by decide +kernel
theorem dX7_digest_134 : decode cX7_digest 134 = .ok (.iastore, 1) := by decide +kernel
theorem dX7_digest_135 : decode cX7_digest 135 = .ok (.aload_n 0, 1) := by decide +kernel
theorem dX7_digest_136 : decode cX7_digest 136 = .ok (.getfield 52, 3) := by decide +kernel
theorem dX7_digest_139 : decode cX7_digest 139 = .ok (.iconst 2, 1) := by decide +kernel
theorem dX7_digest_140 : decode cX7_digest 140 = .ok (.ldc 183, 2) := by decide +kernel
theorem dX7_digest_142 : decode cX7_digest 142 = .ok (.iastore, 1) := by decide +kernel
theorem dX7_digest_143 : decode cX7_digest 143 = .ok (.aload_n 0, 1) := by decide +kernel
theorem dX7_digest_144 : decode cX7_digest 144 = .ok (.getfield 52, 3) := by decide +kernel
theorem dX7_digest_147 : decode cX7_digest 147 = .ok (.iconst 3, 1) := by decide +kernel
theorem dX7_digest_148 : decode cX7_digest 148 = .ok (.ldc 184, 2) := by decide +kernel
theorem dX7_digest_150 : decode cX7_digest 150 = .ok (.iastore, 1) := by decide +kernel
theorem dX7_digest_151 : decode cX7_digest 151 = .ok (.aload_n 0, 1) := by decide +kernel
theorem dX7_digest_152 : decode cX7_digest 152 = .ok (.getfield 52, 3) := by decide +kernel
theorem dX7_digest_155 : decode cX7_digest 155 = .ok (.iconst 4, 1) := by decide +kernel
theorem dX7_digest_156 : decode cX7_digest 156 = .ok (.ldc 185, 2) := by decide +kernel
theorem dX7_digest_158 : decode cX7_digest 158 = .ok (.iastore, 1) := by decide +kernel
theorem dX7_digest_159 : decode cX7_digest 159 = .ok (.aload_n 0, 1) := by decide +kernel
theorem dX7_digest_160 : decode cX7_digest 160 = .ok (.iconst 0, 1) := by decide +kernel
theorem dX7_digest_161 : decode cX7_digest 161 = .ok (.invokevirtual 186, 3) := by decide +kernel
theorem dX7_digest_164 : decode cX7_digest 164 = .ok (.aload_n 0, 1) := by decide +kernel
theorem dX7_digest_165 : decode cX7_digest 165 = .ok (.bipush 64, 2) := by decide +kernel
theorem dX7_digest_167 : decode cX7_digest 167 = .ok (.invokevirtual 186, 3) := by decide +kernel
theorem dX7_digest_170 : decode cX7_digest 170 = .ok (.return_, 1) := by decide +kernel
theorem dX7_digestByte_0 : decode cX7_digestByte 0 = .ok (.iload_n 1, 1) := by decide +kernel
theorem dX7_digestByte_1 : decode cX7_digestByte 1 = .ok (.bipush 19, 2) := by decide +kernel
theorem dX7_digestByte_3 : decode cX7_digestByte 3 = .ok (.if_icmp .le 7, 3) := by decide +kernel
theorem dX7_digestByte_6 : decode cX7_digestByte 6 = .ok (.iconst 0, 1) := by decide +kernel
theorem dX7_digestByte_7 : decode cX7_digestByte 7 = .ok (.goto 25, 3) := by decide +kernel
theorem dX7_digestByte_10 : decode cX7_digestByte 10 = .ok (.aload_n 0, 1) := by decide +kernel
theorem dX7_digestByte_11 : decode cX7_digestByte 11 = .ok (.getfield 52, 3) := by decide +kernel
theorem dX7_digestByte_14 : decode cX7_digestByte 14 = .ok (.iload_n 1, 1) := by decide +kernel
theorem dX7_digestByte_15 : decode cX7_digestByte 15 = .ok (.iconst 4, 1) := by decide +kernel
theorem dX7_digestByte_16 : decode cX7_digestByte 16 = .ok (.idiv, 1) := by decide +kernel
theorem dX7_digestByte_17 : decode cX7_digestByte 17 = .ok (.iaload, 1) := by decide +kernel
theorem dX7_digestByte_18 : decode cX7_digestByte 18 = .ok (.bipush 24, 2) := by decide +kernel
theorem dX7_digestByte_20 : decode cX7_digestByte 20 = .ok (.bipush 8, 2) := by decide +kernel
theorem dX7_digestByte_22 : decode cX7_digestByte 22 = .ok (.iload_n 1, 1) := by decide +kernel
theorem dX7_digestByte_23 : decode cX7_digestByte 23 = .ok (.iconst 4, 1) := by decide +kernel
theorem dX7_digestByte_24 : decode cX7_digestByte 24 = .ok (.irem, 1) := by decide +kernel
theorem dX7_digestByte_25 : decode cX7_digestByte 25 = .ok (.imul, 1) := by decide +kernel
theorem dX7_digestByte_26 : decode cX7_digestByte 26 = .ok (.isub, 1) := by decide +kernel
theorem dX7_digestByte_27 : decode cX7_digestByte 27 = .ok (.ishr, 1) := by decide +kernel
theorem dX7_digestByte_28 : decode cX7_digestByte 28 = .ok (.sipush 255, 3) := by decide +kernel
theorem dX7_digestByte_31 : decode cX7_digestByte 31 = .ok (.iand, 1) := by decide +kernel
theorem dX7_digestByte_32 : decode cX7_digestByte 32 = .ok (.ireturn, 1) := by decide +kernel
theorem dX7_sign_0 : decode cX7_sign 0 = .ok (.iload_n 0, 1) := by decide +kernel
theorem dX7_sign_1 : decode cX7_sign 1 = .ok (.bipush 26, 2) := by decide +kernel
theorem dX7_sign_3 : decode cX7_sign 3 = .ok (.if_icmp .ge 10, 3) := by decide +kernel
theorem dX7_sign_6 : decode cX7_sign 6 = .ok (.bipush 65, 2) := by decide +kernel
theorem dX7_sign_8 : decode cX7_sign 8 = .ok (.iload_n 0, 1) := by decide +kernel
theorem dX7_sign_9 : decode cX7_sign 9 = .ok (.iadd, 1) := by decide +kernel
theorem dX7_sign_10 : decode cX7_sign 10 = .ok (.goto 41, 3) := by decide +kernel
theorem dX7_sign_13 : decode cX7_sign 13 = .ok (.iload_n 0, 1) := by decide +kernel
theorem dX7_sign_14 : decode cX7_sign 14 = .ok (.bipush 52, 2) := by decide +kernel
theorem dX7_sign_16 : decode cX7_sign 16 = .ok (.if_icmp .ge 10, 3) := by decide +kernel
theorem dX7_sign_19 : decode cX7_sign 19 = .ok (.bipush 71, 2) := by decide +kernel
theorem dX7_sign_21 : decode cX7_sign 21 = .ok (.iload_n 0, 1) := by decide +kernel
theorem dX7_sign_22 : decode cX7_sign 22 = .ok (.iadd, 1) := by decide +kernel
theorem dX7_sign_23 : decode cX7_sign 23 = .ok (.goto 28, 3) := by decide +kernel
theorem dX7_sign_26 : decode cX7_sign 26 = .ok (.iload_n 0, 1) := by decide +kernel
theorem dX7_sign_27 : decode cX7_sign 27 = .ok (.bipush 62, 2) := by decide +kernel
theorem dX7_sign_29 : decode cX7_sign 29 = .ok (.if_icmp .ge 9, 3) := by decide +kernel
theorem dX7_sign_32 : decode cX7_sign 32 = .ok (.iload_n 0, 1) := by decide +kernel
theorem dX7_sign_33 : decode cX7_sign 33 = .ok (.iconst 4, 1) := by decide +kernel
theorem dX7_sign_34 : decode cX7_sign 34 = .ok (.isub, 1) := by decide +kernel
theorem dX7_sign_35 : decode cX7_sign 35 = .ok (.goto 16, 3) := by decide +kernel
theorem dX7_sign_38 : decode cX7_sign 38 = .ok (.iload_n 0, 1) := by decide +kernel
theorem dX7_sign_39 : decode cX7_sign 39 = .ok (.bipush 62, 2) := by decide +kernel
theorem dX7_sign_41 : decode cX7_sign 41 = .ok (.if_icmp .ne 8, 3) := by decide +kernel
theorem dX7_sign_44 : decode cX7_sign 44 = .ok (.bipush 43, 2) := by decide +kernel
theorem dX7_sign_46 : decode cX7_sign 46 = .ok (.goto 5, 3) := by decide +kernel
theorem dX7_sign_49 : decode cX7_sign 49 = .ok (.bipush 47, 2) := by decide +kernel
theorem dX7_sign_51 : decode cX7_sign 51 = .ok (.ireturn, 1) := by decide +kernel
theorem dX7_proof_0 : decode cX7_proof 0 = .ok (.aload_n 0, 1) := by decide +kernel
theorem dX7_proof_1 : decode cX7_proof 1 = .ok (.invokevirtual 189, 3) := by decide +kernel
theorem dX7_proof_4 : decode cX7_proof 4 = .ok (.iconst 0, 1) := by decide +kernel
theorem dX7_proof_5 : decode cX7_proof 5 = .ok (.istore_n 1, 1) := by decide +kernel
theorem dX7_proof_6 : decode cX7_proof 6 = .ok (.iload_n 1, 1) := by decide +kernel
theorem dX7_proof_7 : decode cX7_proof 7 = .ok (.bipush 20, 2) := by decide +kernel
theorem dX7_proof_9 : decode cX7_proof 9 = .ok (.if_icmp .ge 103, 3) := by decide +kernel
theorem dX7_proof_12 : decode cX7_proof 12 = .ok (.aload_n 0, 1) := by decide +kernel
theorem dX7_proof_13 : decode cX7_proof 13 = .ok (.iload_n 1, 1) := by decide +kernel
theorem dX7_proof_14 : decode cX7_proof 14 = .ok (.invokevirtual 192, 3) := by decide +kernel
theorem dX7_proof_17 : decode cX7_proof 17 = .ok (.bipush 16, 2) := by decide +kernel
theorem dX7_proof_19 : decode cX7_proof 19 = .ok (.ishl, 1) := by decide +kernel
theorem dX7_proof_20 : decode cX7_proof 20 = .ok (.aload_n 0, 1) := by decide +kernel
theorem dX7_proof_21 : decode cX7_proof 21 = .ok (.iload_n 1, 1) := by decide +kernel
theorem dX7_proof_22 : decode cX7_proof 22 = .ok (.iconst 1, 1) := by decide +kernel
theorem dX7_proof_23 : decode cX7_proof 23 = .ok (.iadd, 1) := by decide +kernel
theorem dX7_proof_24 : decode cX7_proof 24 = .ok (.invokevirtual 192, 3) := by decide +kernel
theorem dX7_proof_27 : decode cX7_proof 27 = .ok (.bipush 8, 2) := by decide +kernel
theorem dX7_proof_29 : decode cX7_proof 29 = .ok (.ishl, 1) := by decide +kernel
theorem dX7_proof_30 : decode cX7_proof 30 = .ok (.ior, 1) := by decide +kernel
theorem dX7_proof_31 : decode cX7_proof 31 = .ok (.aload_n 0, 1) := by decide +kernel
theorem dX7_proof_32 : decode cX7_proof 32 = .ok (.iload_n 1, 1) := by decide +kernel
theorem dX7_proof_33 : decode cX7_proof 33 = .ok (.iconst 2, 1) := by decide +kernel
theorem dX7_proof_34 : decode cX7_proof 34 = .ok (.iadd, 1) := by decide +kernel
theorem dX7_proof_35 : decode cX7_proof 35 = .ok (.invokevirtual 192, 3) := by decide +kernel
theorem dX7_proof_38 : decode cX7_proof 38 = .ok (.ior, 1) := by decide +kernel
theorem dX7_proof_39 : decode cX7_proof 39 = .ok (.istore_n 2, 1) := by decide +kernel
theorem dX7_proof_40 : decode cX7_proof 40 = .ok (.aload_n 0, 1) := by decide +kernel
theorem dX7_proof_41 : decode cX7_proof 41 = .ok (.iload_n 2, 1) := by decide +kernel
theorem dX7_proof_42 : decode cX7_proof 42 = .ok (.bipush 18, 2) := by decide +kernel
theorem dX7_proof_44 : decode cX7_proof 44 = .ok (.ishr, 1) := by decide +kernel
theorem dX7_proof_45 : decode cX7_proof 45 = .ok (.bipush 63, 2) := by decide +kernel
theorem dX7_proof_47 : decode cX7_proof 47 = .ok (.iand, 1) := by decide +kernel
theorem dX7_proof_48 : decode cX7_proof 48 = .ok (.invokestatic 195, 3) := by decide +kernel
theorem dX7_proof_51 : decode cX7_proof 51 = .ok (.invokevirtual 64, 3) := by decide +kernel
theorem dX7_proof_54 : decode cX7_proof 54 = .ok (.aload_n 0, 1) := by decide +kernel
theorem dX7_proof_55 : decode cX7_proof 55 = .ok (.iload_n 2, 1) := by decide +kernel
theorem dX7_proof_56 : decode cX7_proof 56 = .ok (.bipush 12, 2) := by decide +kernel
theorem dX7_proof_58 : decode cX7_proof 58 = .ok (.ishr, 1) := by decide +kernel
theorem dX7_proof_59 : decode cX7_proof 59 = .ok (.bipush 63, 2) := by decide +kernel
theorem dX7_proof_61 : decode cX7_proof 61 = .ok (.iand, 1) := by decide +kernel
theorem dX7_proof_62 : decode cX7_proof 62 = .ok (.invokestatic 195, 3) := by decide +kernel
theorem dX7_proof_65 : decode cX7_proof 65 = .ok (.invokevirtual 64, 3) := by decide +kernel
theorem dX7_proof_68 : decode cX7_proof 68 = .ok (.aload_n 0, 1) := by decide +kernel
theorem dX7_proof_69 : decode cX7_proof 69 = .ok (.iload_n 2, 1) := by decide +kernel
theorem dX7_proof_70 : decode cX7_proof 70 = .ok (.bipush 6, 2) := by decide +kernel
theorem dX7_proof_72 : decode cX7_proof 72 = .ok (.ishr, 1) := by decide +kernel
theorem dX7_proof_73 : decode cX7_proof 73 = .ok (.bipush 63, 2) := by decide +kernel
theorem dX7_proof_75 : decode cX7_proof 75 = .ok (.iand, 1) := by decide +kernel
theorem dX7_proof_76 : decode cX7_proof 76 = .ok (.invokestatic 195, 3) := by decide +kernel
theorem dX7_proof_79 : decode cX7_proof 79 = .ok (.invokevirtual 64, 3) := by decide +kernel
theorem dX7_proof_82 : decode cX7_proof 82 = .ok (.aload_n 0, 1) := by decide +kernel
theorem dX7_proof_83 : decode cX7_proof 83 = .ok (.iload_n 1, 1) := by decide +kernel
theorem dX7_proof_84 : decode cX7_proof 84 = .ok (.iconst 2, 1) := by decide +kernel
theorem dX7_proof_85 : decode cX7_proof 85 = .ok (.iadd, 1) := by decide +kernel
theorem dX7_proof_86 : decode cX7_proof 86 = .ok (.bipush 20, 2) := by decide +kernel
theorem dX7_proof_88 : decode cX7_proof 88 = .ok (.if_icmp .ge 13, 3) := by decide +kernel
theorem dX7_proof_91 : decode cX7_proof 91 = .ok (.iload_n 2, 1) := by decide +kernel
theorem dX7_proof_92 : decode cX7_proof 92 = .ok (.bipush 63, 2) := by decide +kernel
theorem dX7_proof_94 : decode cX7_proof 94 = .ok (.iand, 1) := by decide +kernel
theorem dX7_proof_95 : decode cX7_proof 95 = .ok (.invokestatic 195, 3) := by decide +kernel
theorem dX7_proof_98 : decode cX7_proof 98 = .ok (.goto 5, 3) := by decide +kernel
theorem dX7_proof_101 : decode cX7_proof 101 = .ok (.bipush 61, 2) := by decide +kernel
theorem dX7_proof_103 : decode cX7_proof 103 = .ok (.invokevirtual 64, 3) := by decide +kernel
theorem dX7_proof_106 : decode cX7_proof 106 = .ok (.iinc 1 3, 3) := by decide +kernel
theorem dX7_proof_109 : decode cX7_proof 109 = .ok (.goto (-103), 3) := by decide +kernel
theorem dX7_proof_112 : decode cX7_proof 112 = .ok (.return_, 1) := by decide +kernel
theorem dX7_answer_0 : decode cX7_answer 0 = .ok (.iload_n 1, 1) := by decide +kernel
theorem dX7_answer_1 : decode cX7_answer 1 = .ok (.ifCond .eq 16, 3) := by decide +kernel
theorem dX7_answer_4 : decode cX7_answer 4 = .ok (.aload_n 0, 1) := by decide +kernel
theorem dX7_answer_5 : decode cX7_answer 5 = .ok (.aload_n 0, 1) := by decide +kernel
theorem dX7_answer_6 : decode cX7_answer 6 = .ok (.getfield 198, 3) := by decide +kernel
theorem dX7_answer_9 : decode cX7_answer 9 = .ok (.iconst 4, 1) := by decide +kernel
theorem dX7_answer_10 : decode cX7_answer 10 = .ok (.isub, 1) := by decide +kernel
theorem dX7_answer_11 : decode cX7_answer 11 = .ok (.invokevirtual 201, 3) := by decide +kernel
theorem dX7_answer_14 : decode cX7_answer 14 = .ok (.ifCond .ne 40, 3) := by decide +kernel
theorem dX7_answer_17 : decode cX7_answer 17 = .ok (.aload_n 0, 1) := by decide +kernel
theorem dX7_answer_18 : decode cX7_answer 18 = .ok (.ldc2_w 204, 3) := by decide +kernel
theorem dX7_answer_21 : decode cX7_answer 21 = .ok (.invokevirtual 206, 3) := by decide +kernel
theorem dX7_answer_24 : decode cX7_answer 24 = .ok (.aload_n 0, 1) := by decide +kernel
theorem dX7_answer_25 : decode cX7_answer 25 = .ok (.ldc2_w 210, 3) := by decide +kernel
theorem dX7_answer_28 : decode cX7_answer 28 = .ok (.invokevirtual 206, 3) := by decide +kernel
theorem dX7_answer_31 : decode cX7_answer 31 = .ok (.aload_n 0, 1) := by decide +kernel
theorem dX7_answer_32 : decode cX7_answer 32 = .ok (.ldc2_w 212, 3) := by decide +kernel
theorem dX7_answer_35 : decode cX7_answer 35 = .ok (.invokevirtual 206, 3) := by decide +kernel
theorem dX7_answer_38 : decode cX7_answer 38 = .ok (.aload_n 0, 1) := by decide +kernel
theorem dX7_answer_39 : decode cX7_answer 39 = .ok (.invokevirtual 214, 3) := by decide +kernel
theorem dX7_answer_42 : decode cX7_answer 42 = .ok (.aload_n 0, 1) := by decide +kernel
theorem dX7_answer_43 : decode cX7_answer 43 = .ok (.invokevirtual 214, 3) := by decide +kernel
theorem dX7_answer_46 : decode cX7_answer 46 = .ok (.aload_n 0, 1) := by decide +kernel
theorem dX7_answer_47 : decode cX7_answer 47 = .ok (.iconst 3, 1) := by decide +kernel
theorem dX7_answer_48 : decode cX7_answer 48 = .ok (.putfield 217, 3) := by decide +kernel
theorem dX7_answer_51 : decode cX7_answer 51 = .ok (.goto 250, 3) := by decide +kernel
theorem dX7_answer_54 : decode cX7_answer 54 = .ok (.aload_n 0, 1) := by decide +kernel
theorem dX7_answer_55 : decode cX7_answer 55 = .ok (.getfield 19, 3) := by decide +kernel
theorem dX7_answer_58 : decode cX7_answer 58 = .ok (.iconst 4, 1) := by decide +kernel
theorem dX7_answer_59 : decode cX7_answer 59 = .ok (.iaload, 1) := by decide +kernel
theorem dX7_answer_60 : decode cX7_answer 60 = .ok (.aload_n 0, 1) := by decide +kernel
theorem dX7_answer_61 : decode cX7_answer 61 = .ok (.getfield 16, 3) := by decide +kernel
theorem dX7_answer_64 : decode cX7_answer 64 = .ok (.iconst 4, 1) := by decide +kernel
theorem dX7_answer_65 : decode cX7_answer 65 = .ok (.iaload, 1) := by decide +kernel
theorem dX7_answer_66 : decode cX7_answer 66 = .ok (.isub, 1) := by decide +kernel
theorem dX7_answer_67 : decode cX7_answer 67 = .ok (.iconst 2, 1) := by decide +kernel
theorem dX7_answer_68 : decode cX7_answer 68 = .ok (.if_icmp .ne 37, 3) := by decide +kernel
theorem dX7_answer_71 : decode cX7_answer 71 = .ok (.aload_n 0, 1) := by decide +kernel
theorem dX7_answer_72 : decode cX7_answer 72 = .ok (.getfield 7, 3) := by decide +kernel
theorem dX7_answer_75 : decode cX7_answer 75 = .ok (.aload_n 0, 1) := by decide +kernel
theorem dX7_answer_76 : decode cX7_answer 76 = .ok (.getfield 16, 3) := by decide +kernel
theorem dX7_answer_79 : decode cX7_answer 79 = .ok (.iconst 4, 1) := by decide +kernel
theorem dX7_answer_80 : decode cX7_answer 80 = .ok (.iaload, 1) := by decide +kernel
theorem dX7_answer_81 : decode cX7_answer 81 = .ok (.iaload, 1) := by decide +kernel
theorem dX7_answer_82 : decode cX7_answer 82 = .ok (.bipush 49, 2) := by decide +kernel
theorem dX7_answer_84 : decode cX7_answer 84 = .ok (.if_icmp .ne 21, 3) := by decide +kernel
theorem dX7_answer_87 : decode cX7_answer 87 = .ok (.aload_n 0, 1) := by decide +kernel
theorem dX7_answer_88 : decode cX7_answer 88 = .ok (.getfield 7, 3) := by decide +kernel
theorem dX7_answer_91 : decode cX7_answer 91 = .ok (.aload_n 0, 1) := by decide +kernel
theorem dX7_answer_92 : decode cX7_answer 92 = .ok (.getfield 16, 3) := by decide +kernel
theorem dX7_answer_95 : decode cX7_answer 95 = .ok (.iconst 4, 1) := by decide +kernel
theorem dX7_answer_96 : decode cX7_answer 96 = .ok (.iaload, 1) := by decide +kernel
theorem dX7_answer_97 : decode cX7_answer 97 = .ok (.iconst 1, 1) := by decide +kernel
theorem dX7_answer_98 : decode cX7_answer 98 = .ok (.iadd, 1) := by decide +kernel
theorem dX7_answer_99 : decode cX7_answer 99 = .ok (.iaload, 1) := by decide +kernel
theorem dX7_answer_100 : decode cX7_answer 100 = .ok (.bipush 51, 2) := by decide +kernel
theorem dX7_answer_102 : decode cX7_answer 102 = .ok (.if_icmp .eq 79, 3) := by decide +kernel
theorem dX7_answer_105 : decode cX7_answer 105 = .ok (.aload_n 0, 1) := by decide +kernel
theorem dX7_answer_106 : decode cX7_answer 106 = .ok (.ldc2_w 204, 3) := by decide +kernel
theorem dX7_answer_109 : decode cX7_answer 109 = .ok (.invokevirtual 206, 3) := by decide +kernel
theorem dX7_answer_112 : decode cX7_answer 112 = .ok (.aload_n 0, 1) := by decide +kernel
theorem dX7_answer_113 : decode cX7_answer 113 = .ok (.ldc2_w 220, 3) := by decide +kernel
theorem dX7_answer_116 : decode cX7_answer 116 = .ok (.invokevirtual 206, 3) := by decide +kernel
theorem dX7_answer_119 : decode cX7_answer 119 = .ok (.aload_n 0, 1) := by decide +kernel
theorem dX7_answer_120 : decode cX7_answer 120 = .ok (.ldc2_w 222, 3) := by decide +kernel
theorem dX7_answer_123 : decode cX7_answer 123 = .ok (.invokevirtual 206, 3) := by decide +kernel
theorem dX7_answer_126 : decode cX7_answer 126 = .ok (.aload_n 0, 1) := by decide +kernel
theorem dX7_answer_127 : decode cX7_answer 127 = .ok (.ldc2_w 224, 3) := by decide +kernel
theorem dX7_answer_130 : decode cX7_answer 130 = .ok (.invokevirtual 206, 3) := by decide +kernel
theorem dX7_answer_133 : decode cX7_answer 133 = .ok (.aload_n 0, 1) := by decide +kernel
theorem dX7_answer_134 : decode cX7_answer 134 = .ok (.invokevirtual 214, 3) := by decide +kernel
theorem dX7_answer_137 : decode cX7_answer 137 = .ok (.aload_n 0, 1) := by decide +kernel
theorem dX7_answer_138 : decode cX7_answer 138 = .ok (.ldc2_w 226, 3) := by decide +kernel
theorem dX7_answer_141 : decode cX7_answer 141 = .ok (.invokevirtual 206, 3) := by decide +kernel
theorem dX7_answer_144 : decode cX7_answer 144 = .ok (.aload_n 0, 1) := by decide +kernel
theorem dX7_answer_145 : decode cX7_answer 145 = .ok (.ldc2_w 228, 3) := by decide +kernel
theorem dX7_answer_148 : decode cX7_answer 148 = .ok (.invokevirtual 206, 3) := by decide +kernel
theorem dX7_answer_151 : decode cX7_answer 151 = .ok (.aload_n 0, 1) := by decide +kernel
theorem dX7_answer_152 : decode cX7_answer 152 = .ok (.ldc2_w 230, 3) := by decide +kernel
theorem dX7_answer_155 : decode cX7_answer 155 = .ok (.invokevirtual 206, 3) := by decide +kernel
theorem dX7_answer_158 : decode cX7_answer 158 = .ok (.aload_n 0, 1) := by decide +kernel
theorem dX7_answer_159 : decode cX7_answer 159 = .ok (.ldc2_w 232, 3) := by decide +kernel
theorem dX7_answer_162 : decode cX7_answer 162 = .ok (.invokevirtual 206, 3) := by decide +kernel
theorem dX7_answer_165 : decode cX7_answer 165 = .ok (.aload_n 0, 1) := by decide +kernel
theorem dX7_answer_166 : decode cX7_answer 166 = .ok (.invokevirtual 214, 3) := by decide +kernel
theorem dX7_answer_169 : decode cX7_answer 169 = .ok (.aload_n 0, 1) := by decide +kernel
theorem dX7_answer_170 : decode cX7_answer 170 = .ok (.invokevirtual 214, 3) := by decide +kernel
theorem dX7_answer_173 : decode cX7_answer 173 = .ok (.aload_n 0, 1) := by decide +kernel
theorem dX7_answer_174 : decode cX7_answer 174 = .ok (.iconst 3, 1) := by decide +kernel
theorem dX7_answer_175 : decode cX7_answer 175 = .ok (.putfield 217, 3) := by decide +kernel
theorem dX7_answer_178 : decode cX7_answer 178 = .ok (.goto 123, 3) := by decide +kernel
theorem dX7_answer_181 : decode cX7_answer 181 = .ok (.aload_n 0, 1) := by decide +kernel
theorem dX7_answer_182 : decode cX7_answer 182 = .ok (.ldc2_w 204, 3) := by decide +kernel
theorem dX7_answer_185 : decode cX7_answer 185 = .ok (.invokevirtual 206, 3) := by decide +kernel
theorem dX7_answer_188 : decode cX7_answer 188 = .ok (.aload_n 0, 1) := by decide +kernel
theorem dX7_answer_189 : decode cX7_answer 189 = .ok (.ldc2_w 234, 3) := by decide +kernel
theorem dX7_answer_192 : decode cX7_answer 192 = .ok (.invokevirtual 206, 3) := by decide +kernel
theorem dX7_answer_195 : decode cX7_answer 195 = .ok (.aload_n 0, 1) := by decide +kernel
theorem dX7_answer_196 : decode cX7_answer 196 = .ok (.ldc2_w 236, 3) := by decide +kernel
theorem dX7_answer_199 : decode cX7_answer 199 = .ok (.invokevirtual 206, 3) := by decide +kernel
theorem dX7_answer_202 : decode cX7_answer 202 = .ok (.aload_n 0, 1) := by decide +kernel
theorem dX7_answer_203 : decode cX7_answer 203 = .ok (.ldc2_w 238, 3) := by decide +kernel
theorem dX7_answer_206 : decode cX7_answer 206 = .ok (.invokevirtual 206, 3) := by decide +kernel
theorem dX7_answer_209 : decode cX7_answer 209 = .ok (.aload_n 0, 1) := by decide +kernel
theorem dX7_answer_210 : decode cX7_answer 210 = .ok (.invokevirtual 214, 3) := by decide +kernel
theorem dX7_answer_213 : decode cX7_answer 213 = .ok (.aload_n 0, 1) := by decide +kernel
theorem dX7_answer_214 : decode cX7_answer 214 = .ok (.ldc2_w 240, 3) := by decide +kernel
theorem dX7_answer_217 : decode cX7_answer 217 = .ok (.invokevirtual 206, 3) := by decide +kernel
theorem dX7_answer_220 : decode cX7_answer 220 = .ok (.aload_n 0, 1) := by decide +kernel
theorem dX7_answer_221 : decode cX7_answer 221 = .ok (.ldc2_w 242, 3) := by decide +kernel
theorem dX7_answer_224 : decode cX7_answer 224 = .ok (.invokevirtual 206, 3) := by decide +kernel
theorem dX7_answer_227 : decode cX7_answer 227 = .ok (.aload_n 0, 1) := by decide +kernel
theorem dX7_answer_228 : decode cX7_answer 228 = .ok (.ldc2_w 244, 3) := by decide +kernel
theorem dX7_answer_231 : decode cX7_answer 231 = .ok (.invokevirtual 206, 3) := by decide +kernel
theorem dX7_answer_234 : decode cX7_answer 234 = .ok (.aload_n 0, 1) := by decide +kernel
theorem dX7_answer_235 : decode cX7_answer 235 = .ok (.invokevirtual 214, 3) := by decide +kernel
theorem dX7_answer_238 : decode cX7_answer 238 = .ok (.aload_n 0, 1) := by decide +kernel
theorem dX7_answer_239 : decode cX7_answer 239 = .ok (.ldc2_w 246, 3) := by decide +kernel
theorem dX7_answer_242 : decode cX7_answer 242 = .ok (.invokevirtual 206, 3) := by decide +kernel
theorem dX7_answer_245 : decode cX7_answer 245 = .ok (.aload_n 0, 1) := by decide +kernel
theorem dX7_answer_246 : decode cX7_answer 246 = .ok (.ldc2_w 248, 3) := by decide +kernel
theorem dX7_answer_249 : decode cX7_answer 249 = .ok (.invokevirtual 206, 3) := by decide +kernel
theorem dX7_answer_252 : decode cX7_answer 252 = .ok (.aload_n 0, 1) := by decide +kernel
theorem dX7_answer_253 : decode cX7_answer 253 = .ok (.ldc2_w 250, 3) := by decide +kernel
theorem dX7_answer_256 : decode cX7_answer 256 = .ok (.invokevirtual 206, 3) := by decide +kernel
theorem dX7_answer_259 : decode cX7_answer 259 = .ok (.aload_n 0, 1) := by decide +kernel
theorem dX7_answer_260 : decode cX7_answer 260 = .ok (.invokevirtual 214, 3) := by decide +kernel
theorem dX7_answer_263 : decode cX7_answer 263 = .ok (.aload_n 0, 1) := by decide +kernel
theorem dX7_answer_264 : decode cX7_answer 264 = .ok (.ldc2_w 226, 3) := by decide +kernel
theorem dX7_answer_267 : decode cX7_answer 267 = .ok (.invokevirtual 206, 3) := by decide +kernel
theorem dX7_answer_270 : decode cX7_answer 270 = .ok (.aload_n 0, 1) := by decide +kernel
theorem dX7_answer_271 : decode cX7_answer 271 = .ok (.ldc2_w 252, 3) := by decide +kernel
theorem dX7_answer_274 : decode cX7_answer 274 = .ok (.invokevirtual 206, 3) := by decide +kernel
theorem dX7_answer_277 : decode cX7_answer 277 = .ok (.aload_n 0, 1) := by decide +kernel
theorem dX7_answer_278 : decode cX7_answer 278 = .ok (.ldc2_w 254, 3) := by decide +kernel
theorem dX7_answer_281 : decode cX7_answer 281 = .ok (.invokevirtual 206, 3) := by decide +kernel
theorem dX7_answer_284 : decode cX7_answer 284 = .ok (.aload_n 0, 1) := by decide +kernel
theorem dX7_answer_285 : decode cX7_answer 285 = .ok (.invokevirtual 256, 3) := by decide +kernel
theorem dX7_answer_288 : decode cX7_answer 288 = .ok (.aload_n 0, 1) := by decide +kernel
theorem dX7_answer_289 : decode cX7_answer 289 = .ok (.invokevirtual 214, 3) := by decide +kernel
theorem dX7_answer_292 : decode cX7_answer 292 = .ok (.aload_n 0, 1) := by decide +kernel
theorem dX7_answer_293 : decode cX7_answer 293 = .ok (.invokevirtual 214, 3) := by decide +kernel
theorem dX7_answer_296 : decode cX7_answer 296 = .ok (.aload_n 0, 1) := by decide +kernel
theorem dX7_answer_297 : decode cX7_answer 297 = .ok (.iconst 1, 1) := by decide +kernel
theorem dX7_answer_298 : decode cX7_answer 298 = .ok (.putfield 217, 3) := by decide +kernel
theorem dX7_answer_301 : decode cX7_answer 301 = .ok (.return_, 1) := by decide +kernel
theorem dX7_ask_0 : decode cX7_ask 0 = .ok (.aload_n 0, 1) := by decide +kernel
theorem dX7_ask_1 : decode cX7_ask 1 = .ok (.getfield 7, 3) := by decide +kernel
theorem dX7_ask_4 : decode cX7_ask 4 = .ok (.aload_n 0, 1) := by decide +kernel
theorem dX7_ask_5 : decode cX7_ask 5 = .ok (.getfield 198, 3) := by decide +kernel
theorem dX7_ask_8 : decode cX7_ask 8 = .ok (.iload_n 1, 1) := by decide +kernel
theorem dX7_ask_9 : decode cX7_ask 9 = .ok (.iastore, 1) := by decide +kernel
theorem dX7_ask_10 : decode cX7_ask 10 = .ok (.aload_n 0, 1) := by decide +kernel
theorem dX7_ask_11 : decode cX7_ask 11 = .ok (.dup, 1) := by decide +kernel
theorem dX7_ask_12 : decode cX7_ask 12 = .ok (.getfield 198, 3) := by decide +kernel
theorem dX7_ask_15 : decode cX7_ask 15 = .ok (.iconst 1, 1) := by decide +kernel
theorem dX7_ask_16 : decode cX7_ask 16 = .ok (.iadd, 1) := by decide +kernel
theorem dX7_ask_17 : decode cX7_ask 17 = .ok (.putfield 198, 3) := by decide +kernel
theorem dX7_ask_20 : decode cX7_ask 20 = .ok (.aload_n 0, 1) := by decide +kernel
theorem dX7_ask_21 : decode cX7_ask 21 = .ok (.getfield 198, 3) := by decide +kernel
theorem dX7_ask_24 : decode cX7_ask 24 = .ok (.iconst 3, 1) := by decide +kernel
theorem dX7_ask_25 : decode cX7_ask 25 = .ok (.if_icmp .le 61, 3) := by decide +kernel
theorem dX7_ask_28 : decode cX7_ask 28 = .ok (.aload_n 0, 1) := by decide +kernel
theorem dX7_ask_29 : decode cX7_ask 29 = .ok (.getfield 7, 3) := by decide +kernel
theorem dX7_ask_32 : decode cX7_ask 32 = .ok (.aload_n 0, 1) := by decide +kernel
theorem dX7_ask_33 : decode cX7_ask 33 = .ok (.getfield 198, 3) := by decide +kernel
theorem dX7_ask_36 : decode cX7_ask 36 = .ok (.iconst 4, 1) := by decide +kernel
theorem dX7_ask_37 : decode cX7_ask 37 = .ok (.isub, 1) := by decide +kernel
theorem dX7_ask_38 : decode cX7_ask 38 = .ok (.iaload, 1) := by decide +kernel
theorem dX7_ask_39 : decode cX7_ask 39 = .ok (.bipush 13, 2) := by decide +kernel
theorem dX7_ask_41 : decode cX7_ask 41 = .ok (.if_icmp .ne 45, 3) := by decide +kernel
theorem dX7_ask_44 : decode cX7_ask 44 = .ok (.aload_n 0, 1) := by decide +kernel
theorem dX7_ask_45 : decode cX7_ask 45 = .ok (.getfield 7, 3) := by decide +kernel
theorem dX7_ask_48 : decode cX7_ask 48 = .ok (.aload_n 0, 1) := by decide +kernel
theorem dX7_ask_49 : decode cX7_ask 49 = .ok (.getfield 198, 3) := by decide +kernel
theorem dX7_ask_52 : decode cX7_ask 52 = .ok (.iconst 3, 1) := by decide +kernel
theorem dX7_ask_53 : decode cX7_ask 53 = .ok (.isub, 1) := by decide +kernel
theorem dX7_ask_54 : decode cX7_ask 54 = .ok (.iaload, 1) := by decide +kernel
theorem dX7_ask_55 : decode cX7_ask 55 = .ok (.bipush 10, 2) := by decide +kernel
theorem dX7_ask_57 : decode cX7_ask 57 = .ok (.if_icmp .ne 29, 3) := by decide +kernel
theorem dX7_ask_60 : decode cX7_ask 60 = .ok (.aload_n 0, 1) := by decide +kernel
theorem dX7_ask_61 : decode cX7_ask 61 = .ok (.getfield 7, 3) := by decide +kernel
theorem dX7_ask_64 : decode cX7_ask 64 = .ok (.aload_n 0, 1) := by decide +kernel
theorem dX7_ask_65 : decode cX7_ask 65 = .ok (.getfield 198, 3) := by decide +kernel
theorem dX7_ask_68 : decode cX7_ask 68 = .ok (.iconst 2, 1) := by decide +kernel
theorem dX7_ask_69 : decode cX7_ask 69 = .ok (.isub, 1) := by decide +kernel
theorem dX7_ask_70 : decode cX7_ask 70 = .ok (.iaload, 1) := by decide +kernel
theorem dX7_ask_71 : decode cX7_ask 71 = .ok (.bipush 13, 2) := by decide +kernel
theorem dX7_ask_73 : decode cX7_ask 73 = .ok (.if_icmp .ne 13, 3) := by decide +kernel
theorem dX7_ask_76 : decode cX7_ask 76 = .ok (.iload_n 1, 1) := by decide +kernel
theorem dX7_ask_77 : decode cX7_ask 77 = .ok (.bipush 10, 2) := by decide +kernel
theorem dX7_ask_79 : decode cX7_ask 79 = .ok (.if_icmp .ne 7, 3) := by decide +kernel
theorem dX7_ask_82 : decode cX7_ask 82 = .ok (.iconst 1, 1) := by decide +kernel
theorem dX7_ask_83 : decode cX7_ask 83 = .ok (.goto 4, 3) := by decide +kernel
theorem dX7_ask_86 : decode cX7_ask 86 = .ok (.iconst 0, 1) := by decide +kernel
theorem dX7_ask_87 : decode cX7_ask 87 = .ok (.istore_n 2, 1) := by decide +kernel
theorem dX7_ask_88 : decode cX7_ask 88 = .ok (.iload_n 2, 1) := by decide +kernel
theorem dX7_ask_89 : decode cX7_ask 89 = .ok (.ifCond .ne 13, 3) := by decide +kernel
theorem dX7_ask_92 : decode cX7_ask 92 = .ok (.aload_n 0, 1) := by decide +kernel
theorem dX7_ask_93 : decode cX7_ask 93 = .ok (.getfield 198, 3) := by decide +kernel
theorem dX7_ask_96 : decode cX7_ask 96 = .ok (.sipush 400, 3) := by decide +kernel
theorem dX7_ask_99 : decode cX7_ask 99 = .ok (.if_icmp .ne 8, 3) := by decide +kernel
theorem dX7_ask_102 : decode cX7_ask 102 = .ok (.aload_n 0, 1) := by decide +kernel
theorem dX7_ask_103 : decode cX7_ask 103 = .ok (.iload_n 2, 1) := by decide +kernel
theorem dX7_ask_104 : decode cX7_ask 104 = .ok (.invokevirtual 259, 3) := by decide +kernel
theorem dX7_ask_107 : decode cX7_ask 107 = .ok (.return_, 1) := by decide +kernel
theorem dX7_violate_0 : decode cX7_violate 0 = .ok (.aload_n 0, 1) := by decide +kernel
theorem dX7_violate_1 : decode cX7_violate 1 = .ok (.getfield 217, 3) := by decide +kernel
theorem dX7_violate_4 : decode cX7_violate 4 = .ok (.iconst 1, 1) := by decide +kernel
theorem dX7_violate_5 : decode cX7_violate 5 = .ok (.if_icmp .ne 8, 3) := by decide +kernel
theorem dX7_violate_8 : decode cX7_violate 8 = .ok (.aload_n 0, 1) := by decide +kernel
theorem dX7_violate_9 : decode cX7_violate 9 = .ok (.iload_n 1, 1) := by decide +kernel
theorem dX7_violate_10 : decode cX7_violate 10 = .ok (.invokevirtual 263, 3) := by decide +kernel
theorem dX7_violate_13 : decode cX7_violate 13 = .ok (.aload_n 0, 1) := by decide +kernel
theorem dX7_violate_14 : decode cX7_violate 14 = .ok (.iconst 3, 1) := by decide +kernel
theorem dX7_violate_15 : decode cX7_violate 15 = .ok (.putfield 217, 3) := by decide +kernel
theorem dX7_violate_18 : decode cX7_violate 18 = .ok (.aload_n 0, 1) := by decide +kernel
theorem dX7_violate_19 : decode cX7_violate 19 = .ok (.iload_n 1, 1) := by decide +kernel
theorem dX7_violate_20 : decode cX7_violate 20 = .ok (.putfield 266, 3) := by decide +kernel
theorem dX7_violate_23 : decode cX7_violate 23 = .ok (.return_, 1) := by decide +kernel
theorem dX7_first_0 : decode cX7_first 0 = .ok (.aload_n 0, 1) := by decide +kernel
theorem dX7_first_1 : decode cX7_first 1 = .ok (.iload_n 1, 1) := by decide +kernel
theorem dX7_first_2 : decode cX7_first 2 = .ok (.bipush 127, 2) := by decide +kernel
theorem dX7_first_4 : decode cX7_first 4 = .ok (.if_icmp .le 7, 3) := by decide +kernel
theorem dX7_first_7 : decode cX7_first 7 = .ok (.iconst 1, 1) := by decide +kernel
theorem dX7_first_8 : decode cX7_first 8 = .ok (.goto 4, 3) := by decide +kernel
theorem dX7_first_11 : decode cX7_first 11 = .ok (.iconst 0, 1) := by decide +kernel
theorem dX7_first_12 : decode cX7_first 12 = .ok (.putfield 269, 3) := by decide +kernel
theorem dX7_first_15 : decode cX7_first 15 = .ok (.aload_n 0, 1) := by decide +kernel
theorem dX7_first_16 : decode cX7_first 16 = .ok (.iload_n 1, 1) := by decide +kernel
theorem dX7_first_17 : decode cX7_first 17 = .ok (.bipush 16, 2) := by decide +kernel
theorem dX7_first_19 : decode cX7_first 19 = .ok (.irem, 1) := by decide +kernel
theorem dX7_first_20 : decode cX7_first 20 = .ok (.putfield 273, 3) := by decide +kernel
theorem dX7_first_23 : decode cX7_first 23 = .ok (.aload_n 0, 1) := by decide +kernel
theorem dX7_first_24 : decode cX7_first 24 = .ok (.getfield 273, 3) := by decide +kernel
theorem dX7_first_27 : decode cX7_first 27 = .ok (.iconst 1, 1) := by decide +kernel
theorem dX7_first_28 : decode cX7_first 28 = .ok (.if_icmp .eq 11, 3) := by decide +kernel
theorem dX7_first_31 : decode cX7_first 31 = .ok (.aload_n 0, 1) := by decide +kernel
theorem dX7_first_32 : decode cX7_first 32 = .ok (.getfield 273, 3) := by decide +kernel
theorem dX7_first_35 : decode cX7_first 35 = .ok (.iconst 2, 1) := by decide +kernel
theorem dX7_first_36 : decode cX7_first 36 = .ok (.if_icmp .ne 7, 3) := by decide +kernel
theorem dX7_first_39 : decode cX7_first 39 = .ok (.iconst 1, 1) := by decide +kernel
theorem dX7_first_40 : decode cX7_first 40 = .ok (.goto 4, 3) := by decide +kernel
theorem dX7_first_43 : decode cX7_first 43 = .ok (.iconst 0, 1) := by decide +kernel
theorem dX7_first_44 : decode cX7_first 44 = .ok (.istore_n 2, 1) := by decide +kernel
theorem dX7_first_45 : decode cX7_first 45 = .ok (.aload_n 0, 1) := by decide +kernel
theorem dX7_first_46 : decode cX7_first 46 = .ok (.getfield 273, 3) := by decide +kernel
theorem dX7_first_49 : decode cX7_first 49 = .ok (.bipush 8, 2) := by decide +kernel
theorem dX7_first_51 : decode cX7_first 51 = .ok (.if_icmp .lt 16, 3) := by decide +kernel
theorem dX7_first_54 : decode cX7_first 54 = .ok (.aload_n 0, 1) := by decide +kernel
theorem dX7_first_55 : decode cX7_first 55 = .ok (.getfield 273, 3) := by decide +kernel
theorem dX7_first_58 : decode cX7_first 58 = .ok (.bipush 10, 2) := by decide +kernel
theorem dX7_first_60 : decode cX7_first 60 = .ok (.if_icmp .gt 7, 3) := by decide +kernel
theorem dX7_first_63 : decode cX7_first 63 = .ok (.iconst 1, 1) := by decide +kernel
theorem dX7_first_64 : decode cX7_first 64 = .ok (.goto 4, 3) := by decide +kernel
theorem dX7_first_67 : decode cX7_first 67 = .ok (.iconst 0, 1) := by decide +kernel
theorem dX7_first_68 : decode cX7_first 68 = .ok (.istore_n 3, 1) := by decide +kernel
theorem dX7_first_69 : decode cX7_first 69 = .ok (.iload_n 1, 1) := by decide +kernel
theorem dX7_first_70 : decode cX7_first 70 = .ok (.bipush 16, 2) := by decide +kernel
theorem dX7_first_72 : decode cX7_first 72 = .ok (.idiv, 1) := by decide +kernel
theorem dX7_first_73 : decode cX7_first 73 = .ok (.bipush 8, 2) := by decide +kernel
theorem dX7_first_75 : decode cX7_first 75 = .ok (.irem, 1) := by decide +kernel
theorem dX7_first_76 : decode cX7_first 76 = .ok (.ifCond .ne 49, 3) := by decide +kernel
theorem dX7_first_79 : decode cX7_first 79 = .ok (.iload_n 3, 1) := by decide +kernel
theorem dX7_first_80 : decode cX7_first 80 = .ok (.ifCond .eq 13, 3) := by decide +kernel
theorem dX7_first_83 : decode cX7_first 83 = .ok (.aload_n 0, 1) := by decide +kernel
theorem dX7_first_84 : decode cX7_first 84 = .ok (.getfield 269, 3) := by decide +kernel
theorem dX7_first_87 : decode cX7_first 87 = .ok (.ifCond .eq 38, 3) := by decide +kernel
theorem dX7_first_90 : decode cX7_first 90 = .ok (.goto 31, 3) := by decide +kernel
theorem dX7_first_93 : decode cX7_first 93 = .ok (.aload_n 0, 1) := by decide +kernel
theorem dX7_first_94 : decode cX7_first 94 = .ok (.getfield 273, 3) := by decide +kernel
theorem dX7_first_97 : decode cX7_first 97 = .ok (.ifCond .ne 13, 3) := by decide +kernel
theorem dX7_first_100 : decode cX7_first 100 = .ok (.aload_n 0, 1) := by decide +kernel
theorem dX7_first_101 : decode cX7_first 101 = .ok (.getfield 276, 3) := by decide +kernel
theorem dX7_first_104 : decode cX7_first 104 = .ok (.ifCond .eq 21, 3) := by decide +kernel
theorem dX7_first_107 : decode cX7_first 107 = .ok (.goto 14, 3) := by decide +kernel
theorem dX7_first_110 : decode cX7_first 110 = .ok (.iload_n 2, 1) := by decide +kernel
theorem dX7_first_111 : decode cX7_first 111 = .ok (.ifCond .eq 14, 3) := by decide +kernel
theorem dX7_first_114 : decode cX7_first 114 = .ok (.aload_n 0, 1) := by decide +kernel
theorem dX7_first_115 : decode cX7_first 115 = .ok (.getfield 276, 3) := by decide +kernel
theorem dX7_first_118 : decode cX7_first 118 = .ok (.ifCond .ne 7, 3) := by decide +kernel
theorem dX7_first_121 : decode cX7_first 121 = .ok (.iconst 1, 1) := by decide +kernel
theorem dX7_first_122 : decode cX7_first 122 = .ok (.goto 4, 3) := by decide +kernel
theorem dX7_first_125 : decode cX7_first 125 = .ok (.iconst 0, 1) := by decide +kernel
theorem dX7_first_126 : decode cX7_first 126 = .ok (.istore 4, 2) := by decide +kernel
theorem dX7_first_128 : decode cX7_first 128 = .ok (.iload 4, 2) := by decide +kernel
theorem dX7_first_130 : decode cX7_first 130 = .ok (.ifCond .ne 11, 3) := by decide +kernel
theorem dX7_first_133 : decode cX7_first 133 = .ok (.aload_n 0, 1) := by decide +kernel
theorem dX7_first_134 : decode cX7_first 134 = .ok (.sipush 1002, 3) := by decide +kernel
theorem dX7_first_137 : decode cX7_first 137 = .ok (.invokevirtual 279, 3) := by decide +kernel
theorem dX7_first_140 : decode cX7_first 140 = .ok (.return_, 1) := by decide +kernel
theorem dX7_first_141 : decode cX7_first 141 = .ok (.iload_n 2, 1) := by decide +kernel
theorem dX7_first_142 : decode cX7_first 142 = .ok (.ifCond .eq 25, 3) := by decide +kernel
theorem dX7_first_145 : decode cX7_first 145 = .ok (.aload_n 0, 1) := by decide +kernel
theorem dX7_first_146 : decode cX7_first 146 = .ok (.iconst 1, 1) := by decide +kernel
theorem dX7_first_147 : decode cX7_first 147 = .ok (.putfield 276, 3) := by decide +kernel
theorem dX7_first_150 : decode cX7_first 150 = .ok (.aload_n 0, 1) := by decide +kernel
theorem dX7_first_151 : decode cX7_first 151 = .ok (.aload_n 0, 1) := by decide +kernel
theorem dX7_first_152 : decode cX7_first 152 = .ok (.getfield 273, 3) := by decide +kernel
theorem dX7_first_155 : decode cX7_first 155 = .ok (.putfield 282, 3) := by decide +kernel
theorem dX7_first_158 : decode cX7_first 158 = .ok (.aload_n 0, 1) := by decide +kernel
theorem dX7_first_159 : decode cX7_first 159 = .ok (.iconst 0, 1) := by decide +kernel
theorem dX7_first_160 : decode cX7_first 160 = .ok (.putfield 285, 3) := by decide +kernel
theorem dX7_first_163 : decode cX7_first 163 = .ok (.aload_n 0, 1) := by decide +kernel
theorem dX7_first_164 : decode cX7_first 164 = .ok (.invokevirtual 81, 3) := by decide +kernel
theorem dX7_first_167 : decode cX7_first 167 = .ok (.aload_n 0, 1) := by decide +kernel
theorem dX7_first_168 : decode cX7_first 168 = .ok (.iconst 1, 1) := by decide +kernel
theorem dX7_first_169 : decode cX7_first 169 = .ok (.putfield 288, 3) := by decide +kernel
theorem dX7_first_172 : decode cX7_first 172 = .ok (.return_, 1) := by decide +kernel
theorem dX7_isBrief_0 : decode cX7_isBrief 0 = .ok (.aload_n 0, 1) := by decide +kernel
theorem dX7_isBrief_1 : decode cX7_isBrief 1 = .ok (.getfield 273, 3) := by decide +kernel
theorem dX7_isBrief_4 : decode cX7_isBrief 4 = .ok (.bipush 8, 2) := by decide +kernel
theorem dX7_isBrief_6 : decode cX7_isBrief 6 = .ok (.if_icmp .lt 7, 3) := by decide +kernel
theorem dX7_isBrief_9 : decode cX7_isBrief 9 = .ok (.iconst 1, 1) := by decide +kernel
theorem dX7_isBrief_10 : decode cX7_isBrief 10 = .ok (.goto 4, 3) := by decide +kernel
theorem dX7_isBrief_13 : decode cX7_isBrief 13 = .ok (.iconst 0, 1) := by decide +kernel
theorem dX7_isBrief_14 : decode cX7_isBrief 14 = .ok (.ireturn, 1) := by decide +kernel
theorem dX7_measured_0 : decode cX7_measured 0 = .ok (.aload_n 0, 1) := by decide +kernel
theorem dX7_measured_1 : decode cX7_measured 1 = .ok (.invokevirtual 291, 3) := by decide +kernel
theorem dX7_measured_4 : decode cX7_measured 4 = .ok (.ifCond .ne 28, 3) := by decide +kernel
theorem dX7_measured_7 : decode cX7_measured 7 = .ok (.aload_n 0, 1) := by decide +kernel
theorem dX7_measured_8 : decode cX7_measured 8 = .ok (.getfield 295, 3) := by decide +kernel
theorem dX7_measured_11 : decode cX7_measured 11 = .ok (.ldc2_w 299, 3) := by decide +kernel
theorem dX7_measured_14 : decode cX7_measured 14 = .ok (.aload_n 0, 1) := by decide +kernel
theorem dX7_measured_15 : decode cX7_measured 15 = .ok (.getfield 285, 3) := by decide +kernel
theorem dX7_measured_18 : decode cX7_measured 18 = .ok (.i2l, 1) := by decide +kernel
theorem dX7_measured_19 : decode cX7_measured 19 = .ok (.lsub, 1) := by decide +kernel
theorem dX7_measured_20 : decode cX7_measured 20 = .ok (.lcmp, 1) := by decide +kernel
theorem dX7_measured_21 : decode cX7_measured 21 = .ok (.ifCond .le 11, 3) := by decide +kernel
theorem dX7_measured_24 : decode cX7_measured 24 = .ok (.aload_n 0, 1) := by decide +kernel
theorem dX7_measured_25 : decode cX7_measured 25 = .ok (.sipush 1009, 3) := by decide +kernel
theorem dX7_measured_28 : decode cX7_measured 28 = .ok (.invokevirtual 279, 3) := by decide +kernel
theorem dX7_measured_31 : decode cX7_measured 31 = .ok (.return_, 1) := by decide +kernel
theorem dX7_measured_32 : decode cX7_measured 32 = .ok (.aload_n 0, 1) := by decide +kernel
theorem dX7_measured_33 : decode cX7_measured 33 = .ok (.iconst 3, 1) := by decide +kernel
theorem dX7_measured_34 : decode cX7_measured 34 = .ok (.putfield 288, 3) := by decide +kernel
theorem dX7_measured_37 : decode cX7_measured 37 = .ok (.aload_n 0, 1) := by decide +kernel
theorem dX7_measured_38 : decode cX7_measured 38 = .ok (.iconst 0, 1) := by decide +kernel
theorem dX7_measured_39 : decode cX7_measured 39 = .ok (.putfield 301, 3) := by decide +kernel
theorem dX7_measured_42 : decode cX7_measured 42 = .ok (.return_, 1) := by decide +kernel
theorem dX7_second_0 : decode cX7_second 0 = .ok (.iload_n 1, 1) := by decide +kernel
theorem dX7_second_1 : decode cX7_second 1 = .ok (.sipush 128, 3) := by decide +kernel
theorem dX7_second_4 : decode cX7_second 4 = .ok (.irem, 1) := by decide +kernel
theorem dX7_second_5 : decode cX7_second 5 = .ok (.istore_n 2, 1) := by decide +kernel
theorem dX7_second_6 : decode cX7_second 6 = .ok (.iload_n 1, 1) := by decide +kernel
theorem dX7_second_7 : decode cX7_second 7 = .ok (.sipush 128, 3) := by decide +kernel
theorem dX7_second_10 : decode cX7_second 10 = .ok (.if_icmp .lt 16, 3) := by decide +kernel
theorem dX7_second_13 : decode cX7_second 13 = .ok (.aload_n 0, 1) := by decide +kernel
theorem dX7_second_14 : decode cX7_second 14 = .ok (.invokevirtual 291, 3) := by decide +kernel
theorem dX7_second_17 : decode cX7_second 17 = .ok (.ifCond .eq 17, 3) := by decide +kernel
theorem dX7_second_20 : decode cX7_second 20 = .ok (.iload_n 2, 1) := by decide +kernel
theorem dX7_second_21 : decode cX7_second 21 = .ok (.bipush 125, 2) := by decide +kernel
theorem dX7_second_23 : decode cX7_second 23 = .ok (.if_icmp .le 11, 3) := by decide +kernel
theorem dX7_second_26 : decode cX7_second 26 = .ok (.aload_n 0, 1) := by decide +kernel
theorem dX7_second_27 : decode cX7_second 27 = .ok (.sipush 1002, 3) := by decide +kernel
theorem dX7_second_30 : decode cX7_second 30 = .ok (.invokevirtual 279, 3) := by decide +kernel
theorem dX7_second_33 : decode cX7_second 33 = .ok (.return_, 1) := by decide +kernel
theorem dX7_second_34 : decode cX7_second 34 = .ok (.aload_n 0, 1) := by decide +kernel
theorem dX7_second_35 : decode cX7_second 35 = .ok (.iload_n 2, 1) := by decide +kernel
theorem dX7_second_36 : decode cX7_second 36 = .ok (.i2l, 1) := by decide +kernel
theorem dX7_second_37 : decode cX7_second 37 = .ok (.putfield 295, 3) := by decide +kernel
theorem dX7_second_40 : decode cX7_second 40 = .ok (.aload_n 0, 1) := by decide +kernel
theorem dX7_second_41 : decode cX7_second 41 = .ok (.iload_n 2, 1) := by decide +kernel
theorem dX7_second_42 : decode cX7_second 42 = .ok (.bipush 126, 2) := by decide +kernel
theorem dX7_second_44 : decode cX7_second 44 = .ok (.if_icmp .ne 7, 3) := by decide +kernel
theorem dX7_second_47 : decode cX7_second 47 = .ok (.iconst 2, 1) := by decide +kernel
theorem dX7_second_48 : decode cX7_second 48 = .ok (.goto 15, 3) := by decide +kernel
theorem dX7_second_51 : decode cX7_second 51 = .ok (.iload_n 2, 1) := by decide +kernel
theorem dX7_second_52 : decode cX7_second 52 = .ok (.bipush 127, 2) := by decide +kernel
theorem dX7_second_54 : decode cX7_second 54 = .ok (.if_icmp .ne 8, 3) := by decide +kernel
theorem dX7_second_57 : decode cX7_second 57 = .ok (.bipush 8, 2) := by decide +kernel
theorem dX7_second_59 : decode cX7_second 59 = .ok (.goto 4, 3) := by decide +kernel
theorem dX7_second_62 : decode cX7_second 62 = .ok (.iconst 0, 1) := by decide +kernel
theorem dX7_second_63 : decode cX7_second 63 = .ok (.putfield 304, 3) := by decide +kernel
theorem dX7_second_66 : decode cX7_second 66 = .ok (.aload_n 0, 1) := by decide +kernel
theorem dX7_second_67 : decode cX7_second 67 = .ok (.getfield 304, 3) := by decide +kernel
theorem dX7_second_70 : decode cX7_second 70 = .ok (.ifCond .ne 8, 3) := by decide +kernel
theorem dX7_second_73 : decode cX7_second 73 = .ok (.aload_n 0, 1) := by decide +kernel
theorem dX7_second_74 : decode cX7_second 74 = .ok (.invokevirtual 307, 3) := by decide +kernel
theorem dX7_second_77 : decode cX7_second 77 = .ok (.return_, 1) := by decide +kernel
theorem dX7_second_78 : decode cX7_second 78 = .ok (.aload_n 0, 1) := by decide +kernel
theorem dX7_second_79 : decode cX7_second 79 = .ok (.lconst 0, 1) := by decide +kernel
theorem dX7_second_80 : decode cX7_second 80 = .ok (.putfield 295, 3) := by decide +kernel
theorem dX7_second_83 : decode cX7_second 83 = .ok (.aload_n 0, 1) := by decide +kernel
theorem dX7_second_84 : decode cX7_second 84 = .ok (.iconst 0, 1) := by decide +kernel
theorem dX7_second_85 : decode cX7_second 85 = .ok (.putfield 301, 3) := by decide +kernel
theorem dX7_second_88 : decode cX7_second 88 = .ok (.aload_n 0, 1) := by decide +kernel
theorem dX7_second_89 : decode cX7_second 89 = .ok (.iconst 2, 1) := by decide +kernel
theorem dX7_second_90 : decode cX7_second 90 = .ok (.putfield 288, 3) := by decide +kernel
theorem dX7_second_93 : decode cX7_second 93 = .ok (.return_, 1) := by decide +kernel
theorem dX7_lengthByte_0 : decode cX7_lengthByte 0 = .ok (.aload_n 0, 1) := by decide +kernel
theorem dX7_lengthByte_1 : decode cX7_lengthByte 1 = .ok (.aload_n 0, 1) := by decide +kernel
theorem dX7_lengthByte_2 : decode cX7_lengthByte 2 = .ok (.getfield 295, 3) := by decide +kernel
theorem dX7_lengthByte_5 : decode cX7_lengthByte 5 = .ok (.bipush 8, 2) := by decide +kernel
theorem dX7_lengthByte_7 : decode cX7_lengthByte 7 = .ok (.lshl, 1) := by decide +kernel
theorem dX7_lengthByte_8 : decode cX7_lengthByte 8 = .ok (.iload_n 1, 1) := by decide +kernel
theorem dX7_lengthByte_9 : decode cX7_lengthByte 9 = .ok (.i2l, 1) := by decide +kernel
theorem dX7_lengthByte_10 : decode cX7_lengthByte 10 = .ok (.lor, 1) := by decide +kernel
theorem dX7_lengthByte_11 : decode cX7_lengthByte 11 = .ok (.putfield 295, 3) := by decide +kernel
theorem dX7_lengthByte_14 : decode cX7_lengthByte 14 = .ok (.aload_n 0, 1) := by decide +kernel
theorem dX7_lengthByte_15 : decode cX7_lengthByte 15 = .ok (.dup, 1) := by decide +kernel
theorem dX7_lengthByte_16 : decode cX7_lengthByte 16 = .ok (.getfield 301, 3) := by decide +kernel
theorem dX7_lengthByte_19 : decode cX7_lengthByte 19 = .ok (.iconst 1, 1) := by decide +kernel
theorem dX7_lengthByte_20 : decode cX7_lengthByte 20 = .ok (.iadd, 1) := by decide +kernel
theorem dX7_lengthByte_21 : decode cX7_lengthByte 21 = .ok (.putfield 301, 3) := by decide +kernel
theorem dX7_lengthByte_24 : decode cX7_lengthByte 24 = .ok (.aload_n 0, 1) := by decide +kernel
theorem dX7_lengthByte_25 : decode cX7_lengthByte 25 = .ok (.getfield 301, 3) := by decide +kernel
theorem dX7_lengthByte_28 : decode cX7_lengthByte 28 = .ok (.aload_n 0, 1) := by decide +kernel
theorem dX7_lengthByte_29 : decode cX7_lengthByte 29 = .ok (.getfield 304, 3) := by decide +kernel
theorem dX7_lengthByte_32 : decode cX7_lengthByte 32 = .ok (.if_icmp .ge 4, 3) := by decide +kernel
theorem dX7_lengthByte_35 : decode cX7_lengthByte 35 = .ok (.return_, 1) := by decide +kernel
theorem dX7_lengthByte_36 : decode cX7_lengthByte 36 = .ok (.aload_n 0, 1) := by decide +kernel
theorem dX7_lengthByte_37 : decode cX7_lengthByte 37 = .ok (.getfield 304, 3) := by decide +kernel
theorem dX7_lengthByte_40 : decode cX7_lengthByte 40 = .ok (.iconst 2, 1) := by decide +kernel
theorem dX7_lengthByte_41 : decode cX7_lengthByte 41 = .ok (.if_icmp .ne 17, 3) := by decide +kernel
theorem dX7_lengthByte_44 : decode cX7_lengthByte 44 = .ok (.aload_n 0, 1) := by decide +kernel
theorem dX7_lengthByte_45 : decode cX7_lengthByte 45 = .ok (.getfield 295, 3) := by decide +kernel
theorem dX7_lengthByte_48 : decode cX7_lengthByte 48 = .ok (.ldc2_w 310, 3) := by decide +kernel
theorem dX7_lengthByte_51 : decode cX7_lengthByte 51 = .ok (.lcmp, 1) := by decide +kernel
theorem dX7_lengthByte_52 : decode cX7_lengthByte 52 = .ok (.ifCond .ge 27, 3) := by decide +kernel
theorem dX7_lengthByte_55 : decode cX7_lengthByte 55 = .ok (.goto 14, 3) := by decide +kernel
theorem dX7_lengthByte_58 : decode cX7_lengthByte 58 = .ok (.aload_n 0, 1) := by decide +kernel
theorem dX7_lengthByte_59 : decode cX7_lengthByte 59 = .ok (.getfield 295, 3) := by decide +kernel
theorem dX7_lengthByte_62 : decode cX7_lengthByte 62 = .ok (.ldc2_w 312, 3) := by decide +kernel
theorem dX7_lengthByte_65 : decode cX7_lengthByte 65 = .ok (.lcmp, 1) := by decide +kernel
theorem dX7_lengthByte_66 : decode cX7_lengthByte 66 = .ok (.ifCond .ge 13, 3) := by decide +kernel
theorem dX7_lengthByte_69 : decode cX7_lengthByte 69 = .ok (.aload_n 0, 1) := by decide +kernel
theorem dX7_lengthByte_70 : decode cX7_lengthByte 70 = .ok (.sipush 1002, 3) := by decide +kernel
theorem dX7_lengthByte_73 : decode cX7_lengthByte 73 = .ok (.invokevirtual 279, 3) := by decide +kernel
theorem dX7_lengthByte_76 : decode cX7_lengthByte 76 = .ok (.goto 7, 3) := by decide +kernel
theorem dX7_lengthByte_79 : decode cX7_lengthByte 79 = .ok (.aload_n 0, 1) := by decide +kernel
theorem dX7_lengthByte_80 : decode cX7_lengthByte 80 = .ok (.invokevirtual 307, 3) := by decide +kernel
theorem dX7_lengthByte_83 : decode cX7_lengthByte 83 = .ok (.return_, 1) := by decide +kernel
theorem dX7_maskByte_0 : decode cX7_maskByte 0 = .ok (.aload_n 0, 1) := by decide +kernel
theorem dX7_maskByte_1 : decode cX7_maskByte 1 = .ok (.getfield 28, 3) := by decide +kernel
theorem dX7_maskByte_4 : decode cX7_maskByte 4 = .ok (.aload_n 0, 1) := by decide +kernel
theorem dX7_maskByte_5 : decode cX7_maskByte 5 = .ok (.getfield 301, 3) := by decide +kernel
theorem dX7_maskByte_8 : decode cX7_maskByte 8 = .ok (.iload_n 1, 1) := by decide +kernel
theorem dX7_maskByte_9 : decode cX7_maskByte 9 = .ok (.iastore, 1) := by decide +kernel
theorem dX7_maskByte_10 : decode cX7_maskByte 10 = .ok (.aload_n 0, 1) := by decide +kernel
theorem dX7_maskByte_11 : decode cX7_maskByte 11 = .ok (.dup, 1) := by decide +kernel
theorem dX7_maskByte_12 : decode cX7_maskByte 12 = .ok (.getfield 301, 3) := by decide +kernel
theorem dX7_maskByte_15 : decode cX7_maskByte 15 = .ok (.iconst 1, 1) := by decide +kernel
theorem dX7_maskByte_16 : decode cX7_maskByte 16 = .ok (.iadd, 1) := by decide +kernel
theorem dX7_maskByte_17 : decode cX7_maskByte 17 = .ok (.putfield 301, 3) := by decide +kernel
theorem dX7_maskByte_20 : decode cX7_maskByte 20 = .ok (.aload_n 0, 1) := by decide +kernel
theorem dX7_maskByte_21 : decode cX7_maskByte 21 = .ok (.getfield 301, 3) := by decide +kernel
theorem dX7_maskByte_24 : decode cX7_maskByte 24 = .ok (.iconst 4, 1) := by decide +kernel
theorem dX7_maskByte_25 : decode cX7_maskByte 25 = .ok (.if_icmp .ge 4, 3) := by decide +kernel
theorem dX7_maskByte_28 : decode cX7_maskByte 28 = .ok (.return_, 1) := by decide +kernel
theorem dX7_maskByte_29 : decode cX7_maskByte 29 = .ok (.aload_n 0, 1) := by decide +kernel
theorem dX7_maskByte_30 : decode cX7_maskByte 30 = .ok (.iconst 0, 1) := by decide +kernel
theorem dX7_maskByte_31 : decode cX7_maskByte 31 = .ok (.putfield 301, 3) := by decide +kernel
theorem dX7_maskByte_34 : decode cX7_maskByte 34 = .ok (.aload_n 0, 1) := by decide +kernel
theorem dX7_maskByte_35 : decode cX7_maskByte 35 = .ok (.iconst 4, 1) := by decide +kernel
theorem dX7_maskByte_36 : decode cX7_maskByte 36 = .ok (.putfield 288, 3) := by decide +kernel
theorem dX7_maskByte_39 : decode cX7_maskByte 39 = .ok (.aload_n 0, 1) := by decide +kernel
theorem dX7_maskByte_40 : decode cX7_maskByte 40 = .ok (.getfield 295, 3) := by decide +kernel
theorem dX7_maskByte_43 : decode cX7_maskByte 43 = .ok (.lconst 0, 1) := by decide +kernel
theorem dX7_maskByte_44 : decode cX7_maskByte 44 = .ok (.lcmp, 1) := by decide +kernel
theorem dX7_maskByte_45 : decode cX7_maskByte 45 = .ok (.ifCond .ne 7, 3) := by decide +kernel
theorem dX7_maskByte_48 : decode cX7_maskByte 48 = .ok (.aload_n 0, 1) := by decide +kernel
theorem dX7_maskByte_49 : decode cX7_maskByte 49 = .ok (.invokevirtual 314, 3) := by decide +kernel
theorem dX7_maskByte_52 : decode cX7_maskByte 52 = .ok (.return_, 1) := by decide +kernel
theorem dX7_contentByte_0 : decode cX7_contentByte 0 = .ok (.iload_n 1, 1) := by decide +kernel
theorem dX7_contentByte_1 : decode cX7_contentByte 1 = .ok (.aload_n 0, 1) := by decide +kernel
theorem dX7_contentByte_2 : decode cX7_contentByte 2 = .ok (.getfield 28, 3) := by decide +kernel
theorem dX7_contentByte_5 : decode cX7_contentByte 5 = .ok (.aload_n 0, 1) := by decide +kernel
theorem dX7_contentByte_6 : decode cX7_contentByte 6 = .ok (.getfield 301, 3) := by decide +kernel
theorem dX7_contentByte_9 : decode cX7_contentByte 9 = .ok (.iconst 4, 1) := by decide +kernel
theorem dX7_contentByte_10 : decode cX7_contentByte 10 = .ok (.irem, 1) := by decide +kernel
theorem dX7_contentByte_11 : decode cX7_contentByte 11 = .ok (.iaload, 1) := by decide +kernel
theorem dX7_contentByte_12 : decode cX7_contentByte 12 = .ok (.ixor, 1) := by decide +kernel
theorem dX7_contentByte_13 : decode cX7_contentByte 13 = .ok (.istore_n 2, 1) := by decide +kernel
theorem dX7_contentByte_14 : decode cX7_contentByte 14 = .ok (.aload_n 0, 1) := by decide +kernel
theorem dX7_contentByte_15 : decode cX7_contentByte 15 = .ok (.dup, 1) := by decide +kernel
theorem dX7_contentByte_16 : decode cX7_contentByte 16 = .ok (.getfield 301, 3) := by decide +kernel
theorem dX7_contentByte_19 : decode cX7_contentByte 19 = .ok (.iconst 1, 1) := by decide +kernel
theorem dX7_contentByte_20 : decode cX7_contentByte 20 = .ok (.iadd, 1) := by decide +kernel
theorem dX7_contentByte_21 : decode cX7_contentByte 21 = .ok (.putfield 301, 3) := by decide +kernel
theorem dX7_contentByte_24 : decode cX7_contentByte 24 = .ok (.aload_n 0, 1) := by decide +kernel
theorem dX7_contentByte_25 : decode cX7_contentByte 25 = .ok (.invokevirtual 291, 3) := by decide +kernel
theorem dX7_contentByte_28 : decode cX7_contentByte 28 = .ok (.ifCond .eq 18, 3) := by decide +kernel
theorem dX7_contentByte_31 : decode cX7_contentByte 31 = .ok (.aload_n 0, 1) := by decide +kernel
theorem dX7_contentByte_32 : decode cX7_contentByte 32 = .ok (.getfield 31, 3) := by decide +kernel
theorem dX7_contentByte_35 : decode cX7_contentByte 35 = .ok (.aload_n 0, 1) := by decide +kernel
theorem dX7_contentByte_36 : decode cX7_contentByte 36 = .ok (.getfield 301, 3) := by decide +kernel
theorem dX7_contentByte_39 : decode cX7_contentByte 39 = .ok (.iconst 1, 1) := by decide +kernel
theorem dX7_contentByte_40 : decode cX7_contentByte 40 = .ok (.isub, 1) := by decide +kernel
theorem dX7_contentByte_41 : decode cX7_contentByte 41 = .ok (.iload_n 2, 1) := by decide +kernel
theorem dX7_contentByte_42 : decode cX7_contentByte 42 = .ok (.iastore, 1) := by decide +kernel
theorem dX7_contentByte_43 : decode cX7_contentByte 43 = .ok (.goto 47, 3) := by decide +kernel
theorem dX7_contentByte_46 : decode cX7_contentByte 46 = .ok (.aload_n 0, 1) := by decide +kernel
theorem dX7_contentByte_47 : decode cX7_contentByte 47 = .ok (.getfield 34, 3) := by decide +kernel
theorem dX7_contentByte_50 : decode cX7_contentByte 50 = .ok (.aload_n 0, 1) := by decide +kernel
theorem dX7_contentByte_51 : decode cX7_contentByte 51 = .ok (.getfield 285, 3) := by decide +kernel
theorem dX7_contentByte_54 : decode cX7_contentByte 54 = .ok (.iload_n 2, 1) := by decide +kernel
theorem dX7_contentByte_55 : decode cX7_contentByte 55 = .ok (.iastore, 1) := by decide +kernel
theorem dX7_contentByte_56 : decode cX7_contentByte 56 = .ok (.aload_n 0, 1) := by decide +kernel
theorem dX7_contentByte_57 : decode cX7_contentByte 57 = .ok (.dup, 1) := by decide +kernel
theorem dX7_contentByte_58 : decode cX7_contentByte 58 = .ok (.getfield 285, 3) := by decide +kernel
theorem dX7_contentByte_61 : decode cX7_contentByte 61 = .ok (.iconst 1, 1) := by decide +kernel
theorem dX7_contentByte_62 : decode cX7_contentByte 62 = .ok (.iadd, 1) := by decide +kernel
theorem dX7_contentByte_63 : decode cX7_contentByte 63 = .ok (.putfield 285, 3) := by decide +kernel
theorem dX7_contentByte_66 : decode cX7_contentByte 66 = .ok (.aload_n 0, 1) := by decide +kernel
theorem dX7_contentByte_67 : decode cX7_contentByte 67 = .ok (.getfield 282, 3) := by decide +kernel
theorem dX7_contentByte_70 : decode cX7_contentByte 70 = .ok (.iconst 1, 1) := by decide +kernel
theorem dX7_contentByte_71 : decode cX7_contentByte 71 = .ok (.if_icmp .ne 19, 3) := by decide +kernel
theorem dX7_contentByte_74 : decode cX7_contentByte 74 = .ok (.aload_n 0, 1) := by decide +kernel
theorem dX7_contentByte_75 : decode cX7_contentByte 75 = .ok (.iload_n 2, 1) := by decide +kernel
theorem dX7_contentByte_76 : decode cX7_contentByte 76 = .ok (.invokevirtual 87, 3) := by decide +kernel
theorem dX7_contentByte_79 : decode cX7_contentByte 79 = .ok (.ifCond .ne 11, 3) := by decide +kernel
theorem dX7_contentByte_82 : decode cX7_contentByte 82 = .ok (.aload_n 0, 1) := by decide +kernel
theorem dX7_contentByte_83 : decode cX7_contentByte 83 = .ok (.sipush 1007, 3) := by decide +kernel
theorem dX7_contentByte_86 : decode cX7_contentByte 86 = .ok (.invokevirtual 279, 3) := by decide +kernel
theorem dX7_contentByte_89 : decode cX7_contentByte 89 = .ok (.return_, 1) := by decide +kernel
theorem dX7_contentByte_90 : decode cX7_contentByte 90 = .ok (.aload_n 0, 1) := by decide +kernel
theorem dX7_contentByte_91 : decode cX7_contentByte 91 = .ok (.getfield 301, 3) := by decide +kernel
theorem dX7_contentByte_94 : decode cX7_contentByte 94 = .ok (.i2l, 1) := by decide +kernel
theorem dX7_contentByte_95 : decode cX7_contentByte 95 = .ok (.aload_n 0, 1) := by decide +kernel
theorem dX7_contentByte_96 : decode cX7_contentByte 96 = .ok (.getfield 295, 3) := by decide +kernel
theorem dX7_contentByte_99 : decode cX7_contentByte 99 = .ok (.lcmp, 1) := by decide +kernel
theorem dX7_contentByte_100 : decode cX7_contentByte 100 = .ok (.ifCond .ne 7, 3) := by decide +kernel
theorem dX7_contentByte_103 : decode cX7_contentByte 103 = .ok (.aload_n 0, 1) := by decide +kernel
theorem dX7_contentByte_104 : decode cX7_contentByte 104 = .ok (.invokevirtual 314, 3) := by decide +kernel
theorem dX7_contentByte_107 : decode cX7_contentByte 107 = .ok (.return_, 1) := by decide +kernel
theorem dX7_isCode_0 : decode cX7_isCode 0 = .ok (.iload_n 0, 1) := by decide +kernel
theorem dX7_isCode_1 : decode cX7_isCode 1 = .ok (.sipush 1000, 3) := by decide +kernel
theorem dX7_isCode_4 : decode cX7_isCode 4 = .ok (.if_icmp .lt 10, 3) := by decide +kernel
theorem dX7_isCode_7 : decode cX7_isCode 7 = .ok (.iload_n 0, 1) := by decide +kernel
theorem dX7_isCode_8 : decode cX7_isCode 8 = .ok (.sipush 1003, 3) := by decide +kernel
theorem dX7_isCode_11 : decode cX7_isCode 11 = .ok (.if_icmp .le 31, 3) := by decide +kernel
theorem dX7_isCode_14 : decode cX7_isCode 14 = .ok (.iload_n 0, 1) := by decide +kernel
theorem dX7_isCode_15 : decode cX7_isCode 15 = .ok (.sipush 1007, 3) := by decide +kernel
theorem dX7_isCode_18 : decode cX7_isCode 18 = .ok (.if_icmp .lt 10, 3) := by decide +kernel
theorem dX7_isCode_21 : decode cX7_isCode 21 = .ok (.iload_n 0, 1) := by decide +kernel
theorem dX7_isCode_22 : decode cX7_isCode 22 = .ok (.sipush 1011, 3) := by decide +kernel
theorem dX7_isCode_25 : decode cX7_isCode 25 = .ok (.if_icmp .le 17, 3) := by decide +kernel
theorem dX7_isCode_28 : decode cX7_isCode 28 = .ok (.iload_n 0, 1) := by decide +kernel
theorem dX7_isCode_29 : decode cX7_isCode 29 = .ok (.sipush 3000, 3) := by decide +kernel
theorem dX7_isCode_32 : decode cX7_isCode 32 = .ok (.if_icmp .lt 14, 3) := by decide +kernel
theorem dX7_isCode_35 : decode cX7_isCode 35 = .ok (.iload_n 0, 1) := by decide +kernel
theorem dX7_isCode_36 : decode cX7_isCode 36 = .ok (.sipush 4999, 3) := by decide +kernel
theorem dX7_isCode_39 : decode cX7_isCode 39 = .ok (.if_icmp .gt 7, 3) := by decide +kernel
theorem dX7_isCode_42 : decode cX7_isCode 42 = .ok (.iconst 1, 1) := by decide +kernel
theorem dX7_isCode_43 : decode cX7_isCode 43 = .ok (.goto 4, 3) := by decide +kernel
theorem dX7_isCode_46 : decode cX7_isCode 46 = .ok (.iconst 0, 1) := by decide +kernel
theorem dX7_isCode_47 : decode cX7_isCode 47 = .ok (.ireturn, 1) := by decide +kernel
theorem dX7_isReason_0 : decode cX7_isReason 0 = .ok (.aload_n 0, 1) := by decide +kernel
theorem dX7_isReason_1 : decode cX7_isReason 1 = .ok (.getfield 72, 3) := by decide +kernel
theorem dX7_isReason_4 : decode cX7_isReason 4 = .ok (.istore_n 1, 1) := by decide +kernel
theorem dX7_isReason_5 : decode cX7_isReason 5 = .ok (.aload_n 0, 1) := by decide +kernel
theorem dX7_isReason_6 : decode cX7_isReason 6 = .ok (.getfield 75, 3) := by decide +kernel
theorem dX7_isReason_9 : decode cX7_isReason 9 = .ok (.istore_n 2, 1) := by decide +kernel
theorem dX7_isReason_10 : decode cX7_isReason 10 = .ok (.aload_n 0, 1) := by decide +kernel
theorem dX7_isReason_11 : decode cX7_isReason 11 = .ok (.getfield 78, 3) := by decide +kernel
theorem dX7_isReason_14 : decode cX7_isReason 14 = .ok (.istore_n 3, 1) := by decide +kernel
theorem dX7_isReason_15 : decode cX7_isReason 15 = .ok (.iconst 1, 1) := by decide +kernel
theorem dX7_isReason_16 : decode cX7_isReason 16 = .ok (.istore 4, 2) := by decide +kernel
theorem dX7_isReason_18 : decode cX7_isReason 18 = .ok (.aload_n 0, 1) := by decide +kernel
theorem dX7_isReason_19 : decode cX7_isReason 19 = .ok (.invokevirtual 81, 3) := by decide +kernel
theorem dX7_isReason_22 : decode cX7_isReason 22 = .ok (.iconst 2, 1) := by decide +kernel
theorem dX7_isReason_23 : decode cX7_isReason 23 = .ok (.istore 5, 2) := by decide +kernel
theorem dX7_isReason_25 : decode cX7_isReason 25 = .ok (.iload 5, 2) := by decide +kernel
theorem dX7_isReason_27 : decode cX7_isReason 27 = .ok (.aload_n 0, 1) := by decide +kernel
theorem dX7_isReason_28 : decode cX7_isReason 28 = .ok (.getfield 301, 3) := by decide +kernel
theorem dX7_isReason_31 : decode cX7_isReason 31 = .ok (.if_icmp .ge 27, 3) := by decide +kernel
theorem dX7_isReason_34 : decode cX7_isReason 34 = .ok (.iload 4, 2) := by decide +kernel
theorem dX7_isReason_36 : decode cX7_isReason 36 = .ok (.ifCond .eq 22, 3) := by decide +kernel
theorem dX7_isReason_39 : decode cX7_isReason 39 = .ok (.aload_n 0, 1) := by decide +kernel
theorem dX7_isReason_40 : decode cX7_isReason 40 = .ok (.aload_n 0, 1) := by decide +kernel
theorem dX7_isReason_41 : decode cX7_isReason 41 = .ok (.getfield 31, 3) := by decide +kernel
theorem dX7_isReason_44 : decode cX7_isReason 44 = .ok (.iload 5, 2) := by decide +kernel
theorem dX7_isReason_46 : decode cX7_isReason 46 = .ok (.iaload, 1) := by decide +kernel
theorem dX7_isReason_47 : decode cX7_isReason 47 = .ok (.invokevirtual 87, 3) := by decide +kernel
theorem dX7_isReason_50 : decode cX7_isReason 50 = .ok (.istore 4, 2) := by decide +kernel
theorem dX7_isReason_52 : decode cX7_isReason 52 = .ok (.iinc 5 1, 3) := by decide +kernel
theorem dX7_isReason_55 : decode cX7_isReason 55 = .ok (.goto (-30), 3) := by decide +kernel
theorem dX7_isReason_58 : decode cX7_isReason 58 = .ok (.iload 4, 2) := by decide +kernel
theorem dX7_isReason_60 : decode cX7_isReason 60 = .ok (.ifCond .eq 14, 3) := by decide +kernel
theorem dX7_isReason_63 : decode cX7_isReason 63 = .ok (.aload_n 0, 1) := by decide +kernel
theorem dX7_isReason_64 : decode cX7_isReason 64 = .ok (.getfield 72, 3) := by decide +kernel
theorem dX7_isReason_67 : decode cX7_isReason 67 = .ok (.ifCond .ne 7, 3) := by decide +kernel
theorem dX7_isReason_70 : decode cX7_isReason 70 = .ok (.iconst 1, 1) := by decide +kernel
theorem dX7_isReason_71 : decode cX7_isReason 71 = .ok (.goto 4, 3) := by decide +kernel
theorem dX7_isReason_74 : decode cX7_isReason 74 = .ok (.iconst 0, 1) := by decide +kernel
theorem dX7_isReason_75 : decode cX7_isReason 75 = .ok (.istore 4, 2) := by decide +kernel
theorem dX7_isReason_77 : decode cX7_isReason 77 = .ok (.aload_n 0, 1) := by decide +kernel
theorem dX7_isReason_78 : decode cX7_isReason 78 = .ok (.iload_n 1, 1) := by decide +kernel
theorem dX7_isReason_79 : decode cX7_isReason 79 = .ok (.putfield 72, 3) := by decide +kernel
theorem dX7_isReason_82 : decode cX7_isReason 82 = .ok (.aload_n 0, 1) := by decide +kernel
theorem dX7_isReason_83 : decode cX7_isReason 83 = .ok (.iload_n 2, 1) := by decide +kernel
theorem dX7_isReason_84 : decode cX7_isReason 84 = .ok (.putfield 75, 3) := by decide +kernel
theorem dX7_isReason_87 : decode cX7_isReason 87 = .ok (.aload_n 0, 1) := by decide +kernel
theorem dX7_isReason_88 : decode cX7_isReason 88 = .ok (.iload_n 3, 1) := by decide +kernel
theorem dX7_isReason_89 : decode cX7_isReason 89 = .ok (.putfield 78, 3) := by decide +kernel
theorem dX7_isReason_92 : decode cX7_isReason 92 = .ok (.iload 4, 2) := by decide +kernel
theorem dX7_isReason_94 : decode cX7_isReason 94 = .ok (.ireturn, 1) := by decide +kernel
theorem dX7_closed_0 : decode cX7_closed 0 = .ok (.aload_n 0, 1) := by decide +kernel
theorem dX7_closed_1 : decode cX7_closed 1 = .ok (.getfield 301, 3) := by decide +kernel
theorem dX7_closed_4 : decode cX7_closed 4 = .ok (.iconst 2, 1) := by decide +kernel
theorem dX7_closed_5 : decode cX7_closed 5 = .ok (.if_icmp .ge 9, 3) := by decide +kernel
theorem dX7_closed_8 : decode cX7_closed 8 = .ok (.sipush 1005, 3) := by decide +kernel
theorem dX7_closed_11 : decode cX7_closed 11 = .ok (.goto 20, 3) := by decide +kernel
theorem dX7_closed_14 : decode cX7_closed 14 = .ok (.sipush 256, 3) := by decide +kernel
theorem dX7_closed_17 : decode cX7_closed 17 = .ok (.aload_n 0, 1) := by decide +kernel
theorem dX7_closed_18 : decode cX7_closed 18 = .ok (.getfield 31, 3) := by decide +kernel
theorem dX7_closed_21 : decode cX7_closed 21 = .ok (.iconst 0, 1) := by decide +kernel
theorem dX7_closed_22 : decode cX7_closed 22 = .ok (.iaload, 1) := by decide +kernel
theorem dX7_closed_23 : decode cX7_closed 23 = .ok (.imul, 1) := by decide +kernel
theorem dX7_closed_24 : decode cX7_closed 24 = .ok (.aload_n 0, 1) := by decide +kernel
theorem dX7_closed_25 : decode cX7_closed 25 = .ok (.getfield 31, 3) := by decide +kernel
theorem dX7_closed_28 : decode cX7_closed 28 = .ok (.iconst 1, 1) := by decide +kernel
theorem dX7_closed_29 : decode cX7_closed 29 = .ok (.iaload, 1) := by decide +kernel
theorem dX7_closed_30 : decode cX7_closed 30 = .ok (.iadd, 1) := by decide +kernel
theorem dX7_closed_31 : decode cX7_closed 31 = .ok (.istore_n 1, 1) := by decide +kernel
theorem dX7_closed_32 : decode cX7_closed 32 = .ok (.aload_n 0, 1) := by decide +kernel
theorem dX7_closed_33 : decode cX7_closed 33 = .ok (.getfield 301, 3) := by decide +kernel
theorem dX7_closed_36 : decode cX7_closed 36 = .ok (.iconst 1, 1) := by decide +kernel
theorem dX7_closed_37 : decode cX7_closed 37 = .ok (.if_icmp .eq 18, 3) := by decide +kernel
theorem dX7_closed_40 : decode cX7_closed 40 = .ok (.aload_n 0, 1) := by decide +kernel
theorem dX7_closed_41 : decode cX7_closed 41 = .ok (.getfield 301, 3) := by decide +kernel
theorem dX7_closed_44 : decode cX7_closed 44 = .ok (.iconst 1, 1) := by decide +kernel
theorem dX7_closed_45 : decode cX7_closed 45 = .ok (.if_icmp .le 18, 3) := by decide +kernel
theorem dX7_closed_48 : decode cX7_closed 48 = .ok (.iload_n 1, 1) := by decide +kernel
theorem dX7_closed_49 : decode cX7_closed 49 = .ok (.invokestatic 317, 3) := by decide +kernel
theorem dX7_closed_52 : decode cX7_closed 52 = .ok (.ifCond .ne 11, 3) := by decide +kernel
theorem dX7_closed_55 : decode cX7_closed 55 = .ok (.aload_n 0, 1) := by decide +kernel
theorem dX7_closed_56 : decode cX7_closed 56 = .ok (.sipush 1002, 3) := by decide +kernel
theorem dX7_closed_59 : decode cX7_closed 59 = .ok (.invokevirtual 279, 3) := by decide +kernel
theorem dX7_closed_62 : decode cX7_closed 62 = .ok (.return_, 1) := by decide +kernel
theorem dX7_closed_63 : decode cX7_closed 63 = .ok (.aload_n 0, 1) := by decide +kernel
theorem dX7_closed_64 : decode cX7_closed 64 = .ok (.invokevirtual 320, 3) := by decide +kernel
theorem dX7_closed_67 : decode cX7_closed 67 = .ok (.ifCond .ne 11, 3) := by decide +kernel
theorem dX7_closed_70 : decode cX7_closed 70 = .ok (.aload_n 0, 1) := by decide +kernel
theorem dX7_closed_71 : decode cX7_closed 71 = .ok (.sipush 1007, 3) := by decide +kernel
theorem dX7_closed_74 : decode cX7_closed 74 = .ok (.invokevirtual 279, 3) := by decide +kernel
theorem dX7_closed_77 : decode cX7_closed 77 = .ok (.return_, 1) := by decide +kernel
theorem dX7_closed_78 : decode cX7_closed 78 = .ok (.aload_n 0, 1) := by decide +kernel
theorem dX7_closed_79 : decode cX7_closed 79 = .ok (.getfield 217, 3) := by decide +kernel
theorem dX7_closed_82 : decode cX7_closed 82 = .ok (.iconst 1, 1) := by decide +kernel
theorem dX7_closed_83 : decode cX7_closed 83 = .ok (.if_icmp .ne 26, 3) := by decide +kernel
theorem dX7_closed_86 : decode cX7_closed 86 = .ok (.aload_n 0, 1) := by decide +kernel
theorem dX7_closed_87 : decode cX7_closed 87 = .ok (.getfield 301, 3) := by decide +kernel
theorem dX7_closed_90 : decode cX7_closed 90 = .ok (.ifCond .ne 14, 3) := by decide +kernel
theorem dX7_closed_93 : decode cX7_closed 93 = .ok (.aload_n 0, 1) := by decide +kernel
theorem dX7_closed_94 : decode cX7_closed 94 = .ok (.bipush 8, 2) := by decide +kernel
theorem dX7_closed_96 : decode cX7_closed 96 = .ok (.iconst 1, 1) := by decide +kernel
theorem dX7_closed_97 : decode cX7_closed 97 = .ok (.iconst 0, 1) := by decide +kernel
theorem dX7_closed_98 : decode cX7_closed 98 = .ok (.invokevirtual 68, 3) := by decide +kernel
theorem dX7_closed_101 : decode cX7_closed 101 = .ok (.goto 8, 3) := by decide +kernel
theorem dX7_closed_104 : decode cX7_closed 104 = .ok (.aload_n 0, 1) := by decide +kernel
theorem dX7_closed_105 : decode cX7_closed 105 = .ok (.iload_n 1, 1) := by decide +kernel
theorem dX7_closed_106 : decode cX7_closed 106 = .ok (.invokevirtual 263, 3) := by decide +kernel
theorem dX7_closed_109 : decode cX7_closed 109 = .ok (.aload_n 0, 1) := by decide +kernel
theorem dX7_closed_110 : decode cX7_closed 110 = .ok (.iconst 3, 1) := by decide +kernel
theorem dX7_closed_111 : decode cX7_closed 111 = .ok (.putfield 217, 3) := by decide +kernel
theorem dX7_closed_114 : decode cX7_closed 114 = .ok (.aload_n 0, 1) := by decide +kernel
theorem dX7_closed_115 : decode cX7_closed 115 = .ok (.iload_n 1, 1) := by decide +kernel
theorem dX7_closed_116 : decode cX7_closed 116 = .ok (.putfield 266, 3) := by decide +kernel
theorem dX7_closed_119 : decode cX7_closed 119 = .ok (.return_, 1) := by decide +kernel
theorem dX7_deliver_0 : decode cX7_deliver 0 = .ok (.aload_n 0, 1) := by decide +kernel
theorem dX7_deliver_1 : decode cX7_deliver 1 = .ok (.iconst 0, 1) := by decide +kernel
theorem dX7_deliver_2 : decode cX7_deliver 2 = .ok (.putfield 276, 3) := by decide +kernel
theorem dX7_deliver_5 : decode cX7_deliver 5 = .ok (.aload_n 0, 1) := by decide +kernel
theorem dX7_deliver_6 : decode cX7_deliver 6 = .ok (.dup, 1) := by decide +kernel
theorem dX7_deliver_7 : decode cX7_deliver 7 = .ok (.getfield 323, 3) := by decide +kernel
theorem dX7_deliver_10 : decode cX7_deliver 10 = .ok (.iconst 1, 1) := by decide +kernel
theorem dX7_deliver_11 : decode cX7_deliver 11 = .ok (.iadd, 1) := by decide +kernel
theorem dX7_deliver_12 : decode cX7_deliver 12 = .ok (.putfield 323, 3) := by decide +kernel
theorem dX7_deliver_15 : decode cX7_deliver 15 = .ok (.aload_n 0, 1) := by decide +kernel
theorem dX7_deliver_16 : decode cX7_deliver 16 = .ok (.getfield 326, 3) := by decide +kernel
theorem dX7_deliver_19 : decode cX7_deliver 19 = .ok (.iconst 4, 1) := by decide +kernel
theorem dX7_deliver_20 : decode cX7_deliver 20 = .ok (.if_icmp .ne 4, 3) := by decide +kernel
theorem dX7_deliver_23 : decode cX7_deliver 23 = .ok (.return_, 1) := by decide +kernel
theorem dX7_deliver_24 : decode cX7_deliver 24 = .ok (.aload_n 0, 1) := by decide +kernel
theorem dX7_deliver_25 : decode cX7_deliver 25 = .ok (.getfield 37, 3) := by decide +kernel
theorem dX7_deliver_28 : decode cX7_deliver 28 = .ok (.aload_n 0, 1) := by decide +kernel
theorem dX7_deliver_29 : decode cX7_deliver 29 = .ok (.getfield 326, 3) := by decide +kernel
theorem dX7_deliver_32 : decode cX7_deliver 32 = .ok (.aload_n 0, 1) := by decide +kernel
theorem dX7_deliver_33 : decode cX7_deliver 33 = .ok (.getfield 282, 3) := by decide +kernel
theorem dX7_deliver_36 : decode cX7_deliver 36 = .ok (.iastore, 1) := by decide +kernel
theorem dX7_deliver_37 : decode cX7_deliver 37 = .ok (.aload_n 0, 1) := by decide +kernel
theorem dX7_deliver_38 : decode cX7_deliver 38 = .ok (.getfield 40, 3) := by decide +kernel
theorem dX7_deliver_41 : decode cX7_deliver 41 = .ok (.aload_n 0, 1) := by decide +kernel
theorem dX7_deliver_42 : decode cX7_deliver 42 = .ok (.getfield 326, 3) := by decide +kernel
theorem dX7_deliver_45 : decode cX7_deliver 45 = .ok (.aload_n 0, 1) := by decide +kernel
theorem dX7_deliver_46 : decode cX7_deliver 46 = .ok (.getfield 285, 3) := by decide +kernel
theorem dX7_deliver_49 : decode cX7_deliver 49 = .ok (.iastore, 1) := by decide +kernel
theorem dX7_deliver_50 : decode cX7_deliver 50 = .ok (.iconst 0, 1) := by decide +kernel
theorem dX7_deliver_51 : decode cX7_deliver 51 = .ok (.istore_n 1, 1) := by decide +kernel
theorem dX7_deliver_52 : decode cX7_deliver 52 = .ok (.iload_n 1, 1) := by decide +kernel
theorem dX7_deliver_53 : decode cX7_deliver 53 = .ok (.aload_n 0, 1) := by decide +kernel
theorem dX7_deliver_54 : decode cX7_deliver 54 = .ok (.getfield 285, 3) := by decide +kernel
theorem dX7_deliver_57 : decode cX7_deliver 57 = .ok (.if_icmp .ge 30, 3) := by decide +kernel
theorem dX7_deliver_60 : decode cX7_deliver 60 = .ok (.aload_n 0, 1) := by decide +kernel
theorem dX7_deliver_61 : decode cX7_deliver 61 = .ok (.getfield 43, 3) := by decide +kernel
theorem dX7_deliver_64 : decode cX7_deliver 64 = .ok (.sipush 300, 3) := by decide +kernel
theorem dX7_deliver_67 : decode cX7_deliver 67 = .ok (.aload_n 0, 1) := by decide +kernel
theorem dX7_deliver_68 : decode cX7_deliver 68 = .ok (.getfield 326, 3) := by decide +kernel
theorem dX7_deliver_71 : decode cX7_deliver 71 = .ok (.imul, 1) := by decide +kernel
theorem dX7_deliver_72 : decode cX7_deliver 72 = .ok (.iload_n 1, 1) := by decide +kernel
theorem dX7_deliver_73 : decode cX7_deliver 73 = .ok (.iadd, 1) := by decide +kernel
theorem dX7_deliver_74 : decode cX7_deliver 74 = .ok (.aload_n 0, 1) := by decide +kernel
theorem dX7_deliver_75 : decode cX7_deliver 75 = .ok (.getfield 34, 3) := by decide +kernel
theorem dX7_deliver_78 : decode cX7_deliver 78 = .ok (.iload_n 1, 1) := by decide +kernel
theorem dX7_deliver_79 : decode cX7_deliver 79 = .ok (.iaload, 1) := by decide +kernel
theorem dX7_deliver_80 : decode cX7_deliver 80 = .ok (.iastore, 1) := by decide +kernel
theorem dX7_deliver_81 : decode cX7_deliver 81 = .ok (.iinc 1 1, 3) := by decide +kernel
theorem dX7_deliver_84 : decode cX7_deliver 84 = .ok (.goto (-32), 3) := by decide +kernel
theorem dX7_deliver_87 : decode cX7_deliver 87 = .ok (.aload_n 0, 1) := by decide +kernel
theorem dX7_deliver_88 : decode cX7_deliver 88 = .ok (.dup, 1) := by decide +kernel
theorem dX7_deliver_89 : decode cX7_deliver 89 = .ok (.getfield 326, 3) := by decide +kernel
theorem dX7_deliver_92 : decode cX7_deliver 92 = .ok (.iconst 1, 1) := by decide +kernel
theorem dX7_deliver_93 : decode cX7_deliver 93 = .ok (.iadd, 1) := by decide +kernel
theorem dX7_deliver_94 : decode cX7_deliver 94 = .ok (.putfield 326, 3) := by decide +kernel
theorem dX7_deliver_97 : decode cX7_deliver 97 = .ok (.return_, 1) := by decide +kernel
theorem dX7_whole_0 : decode cX7_whole 0 = .ok (.aload_n 0, 1) := by decide +kernel
theorem dX7_whole_1 : decode cX7_whole 1 = .ok (.iconst 0, 1) := by decide +kernel
theorem dX7_whole_2 : decode cX7_whole 2 = .ok (.putfield 288, 3) := by decide +kernel
theorem dX7_whole_5 : decode cX7_whole 5 = .ok (.aload_n 0, 1) := by decide +kernel
theorem dX7_whole_6 : decode cX7_whole 6 = .ok (.getfield 273, 3) := by decide +kernel
theorem dX7_whole_9 : decode cX7_whole 9 = .ok (.bipush 8, 2) := by decide +kernel
theorem dX7_whole_11 : decode cX7_whole 11 = .ok (.if_icmp .ne 10, 3) := by decide +kernel
theorem dX7_whole_14 : decode cX7_whole 14 = .ok (.aload_n 0, 1) := by decide +kernel
theorem dX7_whole_15 : decode cX7_whole 15 = .ok (.invokevirtual 329, 3) := by decide +kernel
theorem dX7_whole_18 : decode cX7_whole 18 = .ok (.goto 135, 3) := by decide +kernel
theorem dX7_whole_21 : decode cX7_whole 21 = .ok (.aload_n 0, 1) := by decide +kernel
theorem dX7_whole_22 : decode cX7_whole 22 = .ok (.getfield 273, 3) := by decide +kernel
theorem dX7_whole_25 : decode cX7_whole 25 = .ok (.bipush 9, 2) := by decide +kernel
theorem dX7_whole_27 : decode cX7_whole 27 = .ok (.if_icmp .ne 68, 3) := by decide +kernel
theorem dX7_whole_30 : decode cX7_whole 30 = .ok (.aload_n 0, 1) := by decide +kernel
theorem dX7_whole_31 : decode cX7_whole 31 = .ok (.getfield 217, 3) := by decide +kernel
theorem dX7_whole_34 : decode cX7_whole 34 = .ok (.iconst 1, 1) := by decide +kernel
theorem dX7_whole_35 : decode cX7_whole 35 = .ok (.if_icmp .ne 118, 3) := by decide +kernel
theorem dX7_whole_38 : decode cX7_whole 38 = .ok (.aload_n 0, 1) := by decide +kernel
theorem dX7_whole_39 : decode cX7_whole 39 = .ok (.getfield 59, 3) := by decide +kernel
theorem dX7_whole_42 : decode cX7_whole 42 = .ok (.iconst 2, 1) := by decide +kernel
theorem dX7_whole_43 : decode cX7_whole 43 = .ok (.iadd, 1) := by decide +kernel
theorem dX7_whole_44 : decode cX7_whole 44 = .ok (.aload_n 0, 1) := by decide +kernel
theorem dX7_whole_45 : decode cX7_whole 45 = .ok (.getfield 301, 3) := by decide +kernel
theorem dX7_whole_48 : decode cX7_whole 48 = .ok (.iadd, 1) := by decide +kernel
theorem dX7_whole_49 : decode cX7_whole 49 = .ok (.sipush 470, 3) := by decide +kernel
theorem dX7_whole_52 : decode cX7_whole 52 = .ok (.if_icmp .gt 101, 3) := by decide +kernel
theorem dX7_whole_55 : decode cX7_whole 55 = .ok (.aload_n 0, 1) := by decide +kernel
theorem dX7_whole_56 : decode cX7_whole 56 = .ok (.bipush 10, 2) := by decide +kernel
theorem dX7_whole_58 : decode cX7_whole 58 = .ok (.iconst 1, 1) := by decide +kernel
theorem dX7_whole_59 : decode cX7_whole 59 = .ok (.aload_n 0, 1) := by decide +kernel
theorem dX7_whole_60 : decode cX7_whole 60 = .ok (.getfield 301, 3) := by decide +kernel
theorem dX7_whole_63 : decode cX7_whole 63 = .ok (.invokevirtual 68, 3) := by decide +kernel
theorem dX7_whole_66 : decode cX7_whole 66 = .ok (.iconst 0, 1) := by decide +kernel
theorem dX7_whole_67 : decode cX7_whole 67 = .ok (.istore_n 1, 1) := by decide +kernel
theorem dX7_whole_68 : decode cX7_whole 68 = .ok (.iload_n 1, 1) := by decide +kernel
theorem dX7_whole_69 : decode cX7_whole 69 = .ok (.aload_n 0, 1) := by decide +kernel
theorem dX7_whole_70 : decode cX7_whole 70 = .ok (.getfield 301, 3) := by decide +kernel
theorem dX7_whole_73 : decode cX7_whole 73 = .ok (.if_icmp .ge 19, 3) := by decide +kernel
theorem dX7_whole_76 : decode cX7_whole 76 = .ok (.aload_n 0, 1) := by decide +kernel
theorem dX7_whole_77 : decode cX7_whole 77 = .ok (.aload_n 0, 1) := by decide +kernel
theorem dX7_whole_78 : decode cX7_whole 78 = .ok (.getfield 31, 3) := by decide +kernel
theorem dX7_whole_81 : decode cX7_whole 81 = .ok (.iload_n 1, 1) := by decide +kernel
theorem dX7_whole_82 : decode cX7_whole 82 = .ok (.iaload, 1) := by decide +kernel
theorem dX7_whole_83 : decode cX7_whole 83 = .ok (.invokevirtual 64, 3) := by decide +kernel
theorem dX7_whole_86 : decode cX7_whole 86 = .ok (.iinc 1 1, 3) := by decide +kernel
theorem dX7_whole_89 : decode cX7_whole 89 = .ok (.goto (-21), 3) := by decide +kernel
theorem dX7_whole_92 : decode cX7_whole 92 = .ok (.goto 61, 3) := by decide +kernel
theorem dX7_whole_95 : decode cX7_whole 95 = .ok (.aload_n 0, 1) := by decide +kernel
theorem dX7_whole_96 : decode cX7_whole 96 = .ok (.getfield 273, 3) := by decide +kernel
theorem dX7_whole_99 : decode cX7_whole 99 = .ok (.bipush 10, 2) := by decide +kernel
theorem dX7_whole_101 : decode cX7_whole 101 = .ok (.if_icmp .ne 16, 3) := by decide +kernel
theorem dX7_whole_104 : decode cX7_whole 104 = .ok (.aload_n 0, 1) := by decide +kernel
theorem dX7_whole_105 : decode cX7_whole 105 = .ok (.dup, 1) := by decide +kernel
theorem dX7_whole_106 : decode cX7_whole 106 = .ok (.getfield 332, 3) := by decide +kernel
theorem dX7_whole_109 : decode cX7_whole 109 = .ok (.iconst 1, 1) := by decide +kernel
theorem dX7_whole_110 : decode cX7_whole 110 = .ok (.iadd, 1) := by decide +kernel
theorem dX7_whole_111 : decode cX7_whole 111 = .ok (.putfield 332, 3) := by decide +kernel
theorem dX7_whole_114 : decode cX7_whole 114 = .ok (.goto 39, 3) := by decide +kernel
theorem dX7_whole_117 : decode cX7_whole 117 = .ok (.aload_n 0, 1) := by decide +kernel
theorem dX7_whole_118 : decode cX7_whole 118 = .ok (.getfield 269, 3) := by decide +kernel
theorem dX7_whole_121 : decode cX7_whole 121 = .ok (.ifCond .eq 32, 3) := by decide +kernel
theorem dX7_whole_124 : decode cX7_whole 124 = .ok (.aload_n 0, 1) := by decide +kernel
theorem dX7_whole_125 : decode cX7_whole 125 = .ok (.getfield 282, 3) := by decide +kernel
theorem dX7_whole_128 : decode cX7_whole 128 = .ok (.iconst 1, 1) := by decide +kernel
theorem dX7_whole_129 : decode cX7_whole 129 = .ok (.if_icmp .ne 20, 3) := by decide +kernel
theorem dX7_whole_132 : decode cX7_whole 132 = .ok (.aload_n 0, 1) := by decide +kernel
theorem dX7_whole_133 : decode cX7_whole 133 = .ok (.getfield 72, 3) := by decide +kernel
theorem dX7_whole_136 : decode cX7_whole 136 = .ok (.ifCond .le 13, 3) := by decide +kernel
theorem dX7_whole_139 : decode cX7_whole 139 = .ok (.aload_n 0, 1) := by decide +kernel
theorem dX7_whole_140 : decode cX7_whole 140 = .ok (.sipush 1007, 3) := by decide +kernel
theorem dX7_whole_143 : decode cX7_whole 143 = .ok (.invokevirtual 279, 3) := by decide +kernel
theorem dX7_whole_146 : decode cX7_whole 146 = .ok (.goto 7, 3) := by decide +kernel
theorem dX7_whole_149 : decode cX7_whole 149 = .ok (.aload_n 0, 1) := by decide +kernel
theorem dX7_whole_150 : decode cX7_whole 150 = .ok (.invokevirtual 335, 3) := by decide +kernel
theorem dX7_whole_153 : decode cX7_whole 153 = .ok (.return_, 1) := by decide +kernel
theorem dX7_come_0 : decode cX7_come 0 = .ok (.aload_n 0, 1) := by decide +kernel
theorem dX7_come_1 : decode cX7_come 1 = .ok (.getfield 217, 3) := by decide +kernel
theorem dX7_come_4 : decode cX7_come 4 = .ok (.ifCond .ne 11, 3) := by decide +kernel
theorem dX7_come_7 : decode cX7_come 7 = .ok (.aload_n 0, 1) := by decide +kernel
theorem dX7_come_8 : decode cX7_come 8 = .ok (.iload_n 1, 1) := by decide +kernel
theorem dX7_come_9 : decode cX7_come 9 = .ok (.invokevirtual 338, 3) := by decide +kernel
theorem dX7_come_12 : decode cX7_come 12 = .ok (.goto 71, 3) := by decide +kernel
theorem dX7_come_15 : decode cX7_come 15 = .ok (.aload_n 0, 1) := by decide +kernel
theorem dX7_come_16 : decode cX7_come 16 = .ok (.getfield 288, 3) := by decide +kernel
theorem dX7_come_19 : decode cX7_come 19 = .ok (.ifCond .ne 11, 3) := by decide +kernel
theorem dX7_come_22 : decode cX7_come 22 = .ok (.aload_n 0, 1) := by decide +kernel
theorem dX7_come_23 : decode cX7_come 23 = .ok (.iload_n 1, 1) := by decide +kernel
theorem dX7_come_24 : decode cX7_come 24 = .ok (.invokevirtual 341, 3) := by decide +kernel
theorem dX7_come_27 : decode cX7_come 27 = .ok (.goto 56, 3) := by decide +kernel
theorem dX7_come_30 : decode cX7_come 30 = .ok (.aload_n 0, 1) := by decide +kernel
theorem dX7_come_31 : decode cX7_come 31 = .ok (.getfield 288, 3) := by decide +kernel
theorem dX7_come_34 : decode cX7_come 34 = .ok (.iconst 1, 1) := by decide +kernel
theorem dX7_come_35 : decode cX7_come 35 = .ok (.if_icmp .ne 11, 3) := by decide +kernel
theorem dX7_come_38 : decode cX7_come 38 = .ok (.aload_n 0, 1) := by decide +kernel
theorem dX7_come_39 : decode cX7_come 39 = .ok (.iload_n 1, 1) := by decide +kernel
theorem dX7_come_40 : decode cX7_come 40 = .ok (.invokevirtual 344, 3) := by decide +kernel
theorem dX7_come_43 : decode cX7_come 43 = .ok (.goto 40, 3) := by decide +kernel
theorem dX7_come_46 : decode cX7_come 46 = .ok (.aload_n 0, 1) := by decide +kernel
theorem dX7_come_47 : decode cX7_come 47 = .ok (.getfield 288, 3) := by decide +kernel
theorem dX7_come_50 : decode cX7_come 50 = .ok (.iconst 2, 1) := by decide +kernel
theorem dX7_come_51 : decode cX7_come 51 = .ok (.if_icmp .ne 11, 3) := by decide +kernel
theorem dX7_come_54 : decode cX7_come 54 = .ok (.aload_n 0, 1) := by decide +kernel
theorem dX7_come_55 : decode cX7_come 55 = .ok (.iload_n 1, 1) := by decide +kernel
theorem dX7_come_56 : decode cX7_come 56 = .ok (.invokevirtual 347, 3) := by decide +kernel
theorem dX7_come_59 : decode cX7_come 59 = .ok (.goto 24, 3) := by decide +kernel
theorem dX7_come_62 : decode cX7_come 62 = .ok (.aload_n 0, 1) := by decide +kernel
theorem dX7_come_63 : decode cX7_come 63 = .ok (.getfield 288, 3) := by decide +kernel
theorem dX7_come_66 : decode cX7_come 66 = .ok (.iconst 3, 1) := by decide +kernel
theorem dX7_come_67 : decode cX7_come 67 = .ok (.if_icmp .ne 11, 3) := by decide +kernel
theorem dX7_come_70 : decode cX7_come 70 = .ok (.aload_n 0, 1) := by decide +kernel
theorem dX7_come_71 : decode cX7_come 71 = .ok (.iload_n 1, 1) := by decide +kernel
theorem dX7_come_72 : decode cX7_come 72 = .ok (.invokevirtual 350, 3) := by decide +kernel
theorem dX7_come_75 : decode cX7_come 75 = .ok (.goto 8, 3) := by decide +kernel
theorem dX7_come_78 : decode cX7_come 78 = .ok (.aload_n 0, 1) := by decide +kernel
theorem dX7_come_79 : decode cX7_come 79 = .ok (.iload_n 1, 1) := by decide +kernel
theorem dX7_come_80 : decode cX7_come 80 = .ok (.invokevirtual 353, 3) := by decide +kernel
theorem dX7_come_83 : decode cX7_come 83 = .ok (.return_, 1) := by decide +kernel
theorem dX7_feed_0 : decode cX7_feed 0 = .ok (.aload_n 0, 1) := by decide +kernel
theorem dX7_feed_1 : decode cX7_feed 1 = .ok (.iconst 0, 1) := by decide +kernel
theorem dX7_feed_2 : decode cX7_feed 2 = .ok (.putfield 55, 3) := by decide +kernel
theorem dX7_feed_5 : decode cX7_feed 5 = .ok (.iload_n 3, 1) := by decide +kernel
theorem dX7_feed_6 : decode cX7_feed 6 = .ok (.iconst 1, 1) := by decide +kernel
theorem dX7_feed_7 : decode cX7_feed 7 = .ok (.if_icmp .lt 9, 3) := by decide +kernel
theorem dX7_feed_10 : decode cX7_feed 10 = .ok (.iload_n 3, 1) := by decide +kernel
theorem dX7_feed_11 : decode cX7_feed 11 = .ok (.bipush 8, 2) := by decide +kernel
theorem dX7_feed_13 : decode cX7_feed 13 = .ok (.if_icmp .le 9, 3) := by decide +kernel
theorem dX7_feed_16 : decode cX7_feed 16 = .ok (.aload_n 0, 1) := by decide +kernel
theorem dX7_feed_17 : decode cX7_feed 17 = .ok (.iconst 1, 1) := by decide +kernel
theorem dX7_feed_18 : decode cX7_feed 18 = .ok (.invokevirtual 356, 3) := by decide +kernel
theorem dX7_feed_21 : decode cX7_feed 21 = .ok (.ireturn, 1) := by decide +kernel
theorem dX7_feed_22 : decode cX7_feed 22 = .ok (.aload_n 0, 1) := by decide +kernel
theorem dX7_feed_23 : decode cX7_feed 23 = .ok (.getfield 217, 3) := by decide +kernel
theorem dX7_feed_26 : decode cX7_feed 26 = .ok (.iconst 3, 1) := by decide +kernel
theorem dX7_feed_27 : decode cX7_feed 27 = .ok (.if_icmp .ne 9, 3) := by decide +kernel
theorem dX7_feed_30 : decode cX7_feed 30 = .ok (.aload_n 0, 1) := by decide +kernel
theorem dX7_feed_31 : decode cX7_feed 31 = .ok (.iconst 2, 1) := by decide +kernel
theorem dX7_feed_32 : decode cX7_feed 32 = .ok (.invokevirtual 356, 3) := by decide +kernel
theorem dX7_feed_35 : decode cX7_feed 35 = .ok (.ireturn, 1) := by decide +kernel
theorem dX7_feed_36 : decode cX7_feed 36 = .ok (.aload_n 0, 1) := by decide +kernel
theorem dX7_feed_37 : decode cX7_feed 37 = .ok (.getfield 323, 3) := by decide +kernel
theorem dX7_feed_40 : decode cX7_feed 40 = .ok (.istore 4, 2) := by decide +kernel
theorem dX7_feed_42 : decode cX7_feed 42 = .ok (.iconst 0, 1) := by decide +kernel
theorem dX7_feed_43 : decode cX7_feed 43 = .ok (.istore 5, 2) := by decide +kernel
theorem dX7_feed_45 : decode cX7_feed 45 = .ok (.iload 5, 2) := by decide +kernel
theorem dX7_feed_47 : decode cX7_feed 47 = .ok (.iload_n 3, 1) := by decide +kernel
theorem dX7_feed_48 : decode cX7_feed 48 = .ok (.if_icmp .ge 33, 3) := by decide +kernel
theorem dX7_feed_51 : decode cX7_feed 51 = .ok (.aload_n 0, 1) := by decide +kernel
theorem dX7_feed_52 : decode cX7_feed 52 = .ok (.getfield 217, 3) := by decide +kernel
theorem dX7_feed_55 : decode cX7_feed 55 = .ok (.iconst 3, 1) := by decide +kernel
theorem dX7_feed_56 : decode cX7_feed 56 = .ok (.if_icmp .eq 25, 3) := by decide +kernel
theorem dX7_feed_59 : decode cX7_feed 59 = .ok (.aload_n 0, 1) := by decide +kernel
theorem dX7_feed_60 : decode cX7_feed 60 = .ok (.lload_n 1, 1) := by decide +kernel
theorem dX7_feed_61 : decode cX7_feed 61 = .ok (.bipush 8, 2) := by decide +kernel
theorem dX7_feed_63 : decode cX7_feed 63 = .ok (.iload 5, 2) := by decide +kernel
theorem dX7_feed_65 : decode cX7_feed 65 = .ok (.imul, 1) := by decide +kernel
theorem dX7_feed_66 : decode cX7_feed 66 = .ok (.lshr, 1) := by decide +kernel
theorem dX7_feed_67 : decode cX7_feed 67 = .ok (.ldc2_w 62, 3) := by decide +kernel
theorem dX7_feed_70 : decode cX7_feed 70 = .ok (.land, 1) := by decide +kernel
theorem dX7_feed_71 : decode cX7_feed 71 = .ok (.l2i, 1) := by decide +kernel
theorem dX7_feed_72 : decode cX7_feed 72 = .ok (.invokevirtual 359, 3) := by decide +kernel
theorem dX7_feed_75 : decode cX7_feed 75 = .ok (.iinc 5 1, 3) := by decide +kernel
theorem dX7_feed_78 : decode cX7_feed 78 = .ok (.goto (-33), 3) := by decide +kernel
theorem dX7_feed_81 : decode cX7_feed 81 = .ok (.aload_n 0, 1) := by decide +kernel
theorem dX7_feed_82 : decode cX7_feed 82 = .ok (.getfield 323, 3) := by decide +kernel
theorem dX7_feed_85 : decode cX7_feed 85 = .ok (.iload 4, 2) := by decide +kernel
theorem dX7_feed_87 : decode cX7_feed 87 = .ok (.isub, 1) := by decide +kernel
theorem dX7_feed_88 : decode cX7_feed 88 = .ok (.ireturn, 1) := by decide +kernel
theorem dX7_state_0 : decode cX7_state 0 = .ok (.aload_n 0, 1) := by decide +kernel
theorem dX7_state_1 : decode cX7_state 1 = .ok (.iconst 0, 1) := by decide +kernel
theorem dX7_state_2 : decode cX7_state 2 = .ok (.putfield 55, 3) := by decide +kernel
theorem dX7_state_5 : decode cX7_state 5 = .ok (.aload_n 0, 1) := by decide +kernel
theorem dX7_state_6 : decode cX7_state 6 = .ok (.getfield 217, 3) := by decide +kernel
theorem dX7_state_9 : decode cX7_state 9 = .ok (.ireturn, 1) := by decide +kernel
theorem dX7_endCode_0 : decode cX7_endCode 0 = .ok (.aload_n 0, 1) := by decide +kernel
theorem dX7_endCode_1 : decode cX7_endCode 1 = .ok (.iconst 0, 1) := by decide +kernel
theorem dX7_endCode_2 : decode cX7_endCode 2 = .ok (.putfield 55, 3) := by decide +kernel
theorem dX7_endCode_5 : decode cX7_endCode 5 = .ok (.aload_n 0, 1) := by decide +kernel
theorem dX7_endCode_6 : decode cX7_endCode 6 = .ok (.getfield 266, 3) := by decide +kernel
theorem dX7_endCode_9 : decode cX7_endCode 9 = .ok (.ireturn, 1) := by decide +kernel
theorem dX7_outLength_0 : decode cX7_outLength 0 = .ok (.aload_n 0, 1) := by decide +kernel
theorem dX7_outLength_1 : decode cX7_outLength 1 = .ok (.iconst 0, 1) := by decide +kernel
theorem dX7_outLength_2 : decode cX7_outLength 2 = .ok (.putfield 55, 3) := by decide +kernel
theorem dX7_outLength_5 : decode cX7_outLength 5 = .ok (.aload_n 0, 1) := by decide +kernel
theorem dX7_outLength_6 : decode cX7_outLength 6 = .ok (.getfield 59, 3) := by decide +kernel
theorem dX7_outLength_9 : decode cX7_outLength 9 = .ok (.ireturn, 1) := by decide +kernel
theorem dX7_outAt_0 : decode cX7_outAt 0 = .ok (.aload_n 0, 1) := by decide +kernel
theorem dX7_outAt_1 : decode cX7_outAt 1 = .ok (.iload_n 1, 1) := by decide +kernel
theorem dX7_outAt_2 : decode cX7_outAt 2 = .ok (.ifCond .lt 11, 3) := by decide +kernel
theorem dX7_outAt_5 : decode cX7_outAt 5 = .ok (.iload_n 1, 1) := by decide +kernel
theorem dX7_outAt_6 : decode cX7_outAt 6 = .ok (.aload_n 0, 1) := by decide +kernel
theorem dX7_outAt_7 : decode cX7_outAt 7 = .ok (.getfield 59, 3) := by decide +kernel
theorem dX7_outAt_10 : decode cX7_outAt 10 = .ok (.if_icmp .lt 7, 3) := by decide +kernel
theorem dX7_outAt_13 : decode cX7_outAt 13 = .ok (.iconst 1, 1) := by decide +kernel
theorem dX7_outAt_14 : decode cX7_outAt 14 = .ok (.goto 4, 3) := by decide +kernel
theorem dX7_outAt_17 : decode cX7_outAt 17 = .ok (.iconst 0, 1) := by decide +kernel
theorem dX7_outAt_18 : decode cX7_outAt 18 = .ok (.putfield 55, 3) := by decide +kernel
theorem dX7_outAt_21 : decode cX7_outAt 21 = .ok (.aload_n 0, 1) := by decide +kernel
theorem dX7_outAt_22 : decode cX7_outAt 22 = .ok (.getfield 55, 3) := by decide +kernel
theorem dX7_outAt_25 : decode cX7_outAt 25 = .ok (.ifCond .ne 12, 3) := by decide +kernel
theorem dX7_outAt_28 : decode cX7_outAt 28 = .ok (.aload_n 0, 1) := by decide +kernel
theorem dX7_outAt_29 : decode cX7_outAt 29 = .ok (.getfield 22, 3) := by decide +kernel
theorem dX7_outAt_32 : decode cX7_outAt 32 = .ok (.iload_n 1, 1) := by decide +kernel
theorem dX7_outAt_33 : decode cX7_outAt 33 = .ok (.iaload, 1) := by decide +kernel
theorem dX7_outAt_34 : decode cX7_outAt 34 = .ok (.goto 4, 3) := by decide +kernel
theorem dX7_outAt_37 : decode cX7_outAt 37 = .ok (.iconst 0, 1) := by decide +kernel
theorem dX7_outAt_38 : decode cX7_outAt 38 = .ok (.ireturn, 1) := by decide +kernel
theorem dX7_drop_0 : decode cX7_drop 0 = .ok (.aload_n 0, 1) := by decide +kernel
theorem dX7_drop_1 : decode cX7_drop 1 = .ok (.iconst 0, 1) := by decide +kernel
theorem dX7_drop_2 : decode cX7_drop 2 = .ok (.putfield 55, 3) := by decide +kernel
theorem dX7_drop_5 : decode cX7_drop 5 = .ok (.iload_n 1, 1) := by decide +kernel
theorem dX7_drop_6 : decode cX7_drop 6 = .ok (.ifCond .lt 11, 3) := by decide +kernel
theorem dX7_drop_9 : decode cX7_drop 9 = .ok (.iload_n 1, 1) := by decide +kernel
theorem dX7_drop_10 : decode cX7_drop 10 = .ok (.aload_n 0, 1) := by decide +kernel
theorem dX7_drop_11 : decode cX7_drop 11 = .ok (.getfield 59, 3) := by decide +kernel
theorem dX7_drop_14 : decode cX7_drop 14 = .ok (.if_icmp .le 5, 3) := by decide +kernel
theorem dX7_drop_17 : decode cX7_drop 17 = .ok (.iconst 0, 1) := by decide +kernel
theorem dX7_drop_18 : decode cX7_drop 18 = .ok (.ireturn, 1) := by decide +kernel
theorem dX7_drop_19 : decode cX7_drop 19 = .ok (.aload_n 0, 1) := by decide +kernel
theorem dX7_drop_20 : decode cX7_drop 20 = .ok (.aload_n 0, 1) := by decide +kernel
theorem dX7_drop_21 : decode cX7_drop 21 = .ok (.getfield 59, 3) := by decide +kernel
theorem dX7_drop_24 : decode cX7_drop 24 = .ok (.iload_n 1, 1) := by decide +kernel
theorem dX7_drop_25 : decode cX7_drop 25 = .ok (.isub, 1) := by decide +kernel
theorem dX7_drop_26 : decode cX7_drop 26 = .ok (.putfield 59, 3) := by decide +kernel
theorem dX7_drop_29 : decode cX7_drop 29 = .ok (.iconst 0, 1) := by decide +kernel
theorem dX7_drop_30 : decode cX7_drop 30 = .ok (.istore_n 2, 1) := by decide +kernel
theorem dX7_drop_31 : decode cX7_drop 31 = .ok (.iload_n 2, 1) := by decide +kernel
theorem dX7_drop_32 : decode cX7_drop 32 = .ok (.aload_n 0, 1) := by decide +kernel
theorem dX7_drop_33 : decode cX7_drop 33 = .ok (.getfield 59, 3) := by decide +kernel
theorem dX7_drop_36 : decode cX7_drop 36 = .ok (.if_icmp .ge 23, 3) := by decide +kernel
theorem dX7_drop_39 : decode cX7_drop 39 = .ok (.aload_n 0, 1) := by decide +kernel
theorem dX7_drop_40 : decode cX7_drop 40 = .ok (.getfield 22, 3) := by decide +kernel
theorem dX7_drop_43 : decode cX7_drop 43 = .ok (.iload_n 2, 1) := by decide +kernel
theorem dX7_drop_44 : decode cX7_drop 44 = .ok (.aload_n 0, 1) := by decide +kernel
theorem dX7_drop_45 : decode cX7_drop 45 = .ok (.getfield 22, 3) := by decide +kernel
theorem dX7_drop_48 : decode cX7_drop 48 = .ok (.iload_n 2, 1) := by decide +kernel
theorem dX7_drop_49 : decode cX7_drop 49 = .ok (.iload_n 1, 1) := by decide +kernel
theorem dX7_drop_50 : decode cX7_drop 50 = .ok (.iadd, 1) := by decide +kernel
theorem dX7_drop_51 : decode cX7_drop 51 = .ok (.iaload, 1) := by decide +kernel
theorem dX7_drop_52 : decode cX7_drop 52 = .ok (.iastore, 1) := by decide +kernel
theorem dX7_drop_53 : decode cX7_drop 53 = .ok (.iinc 2 1, 3) := by decide +kernel
theorem dX7_drop_56 : decode cX7_drop 56 = .ok (.goto (-25), 3) := by decide +kernel
theorem dX7_drop_59 : decode cX7_drop 59 = .ok (.iconst 1, 1) := by decide +kernel
theorem dX7_drop_60 : decode cX7_drop 60 = .ok (.ireturn, 1) := by decide +kernel
theorem dX7_messages_0 : decode cX7_messages 0 = .ok (.aload_n 0, 1) := by decide +kernel
theorem dX7_messages_1 : decode cX7_messages 1 = .ok (.iconst 0, 1) := by decide +kernel
theorem dX7_messages_2 : decode cX7_messages 2 = .ok (.putfield 55, 3) := by decide +kernel
theorem dX7_messages_5 : decode cX7_messages 5 = .ok (.aload_n 0, 1) := by decide +kernel
theorem dX7_messages_6 : decode cX7_messages 6 = .ok (.getfield 326, 3) := by decide +kernel
theorem dX7_messages_9 : decode cX7_messages 9 = .ok (.ireturn, 1) := by decide +kernel
theorem dX7_delivered_0 : decode cX7_delivered 0 = .ok (.aload_n 0, 1) := by decide +kernel
theorem dX7_delivered_1 : decode cX7_delivered 1 = .ok (.iconst 0, 1) := by decide +kernel
theorem dX7_delivered_2 : decode cX7_delivered 2 = .ok (.putfield 55, 3) := by decide +kernel
theorem dX7_delivered_5 : decode cX7_delivered 5 = .ok (.aload_n 0, 1) := by decide +kernel
theorem dX7_delivered_6 : decode cX7_delivered 6 = .ok (.getfield 323, 3) := by decide +kernel
theorem dX7_delivered_9 : decode cX7_delivered 9 = .ok (.ireturn, 1) := by decide +kernel
theorem dX7_isMessage_0 : decode cX7_isMessage 0 = .ok (.iload_n 1, 1) := by decide +kernel
theorem dX7_isMessage_1 : decode cX7_isMessage 1 = .ok (.ifCond .lt 15, 3) := by decide +kernel
theorem dX7_isMessage_4 : decode cX7_isMessage 4 = .ok (.iload_n 1, 1) := by decide +kernel
theorem dX7_isMessage_5 : decode cX7_isMessage 5 = .ok (.aload_n 0, 1) := by decide +kernel
theorem dX7_isMessage_6 : decode cX7_isMessage 6 = .ok (.getfield 326, 3) := by decide +kernel
theorem dX7_isMessage_9 : decode cX7_isMessage 9 = .ok (.if_icmp .ge 7, 3) := by decide +kernel
theorem dX7_isMessage_12 : decode cX7_isMessage 12 = .ok (.iconst 1, 1) := by decide +kernel
theorem dX7_isMessage_13 : decode cX7_isMessage 13 = .ok (.goto 4, 3) := by decide +kernel
theorem dX7_isMessage_16 : decode cX7_isMessage 16 = .ok (.iconst 0, 1) := by decide +kernel
theorem dX7_isMessage_17 : decode cX7_isMessage 17 = .ok (.ireturn, 1) := by decide +kernel
theorem dX7_kind_0 : decode cX7_kind 0 = .ok (.aload_n 0, 1) := by decide +kernel
theorem dX7_kind_1 : decode cX7_kind 1 = .ok (.aload_n 0, 1) := by decide +kernel
theorem dX7_kind_2 : decode cX7_kind 2 = .ok (.iload_n 1, 1) := by decide +kernel
theorem dX7_kind_3 : decode cX7_kind 3 = .ok (.invokevirtual 362, 3) := by decide +kernel
theorem dX7_kind_6 : decode cX7_kind 6 = .ok (.ifCond .eq 7, 3) := by decide +kernel
theorem dX7_kind_9 : decode cX7_kind 9 = .ok (.iconst 0, 1) := by decide +kernel
theorem dX7_kind_10 : decode cX7_kind 10 = .ok (.goto 4, 3) := by decide +kernel
theorem dX7_kind_13 : decode cX7_kind 13 = .ok (.iconst 1, 1) := by decide +kernel
theorem dX7_kind_14 : decode cX7_kind 14 = .ok (.putfield 55, 3) := by decide +kernel
theorem dX7_kind_17 : decode cX7_kind 17 = .ok (.aload_n 0, 1) := by decide +kernel
theorem dX7_kind_18 : decode cX7_kind 18 = .ok (.getfield 55, 3) := by decide +kernel
theorem dX7_kind_21 : decode cX7_kind 21 = .ok (.ifCond .ne 12, 3) := by decide +kernel
theorem dX7_kind_24 : decode cX7_kind 24 = .ok (.aload_n 0, 1) := by decide +kernel
theorem dX7_kind_25 : decode cX7_kind 25 = .ok (.getfield 37, 3) := by decide +kernel
theorem dX7_kind_28 : decode cX7_kind 28 = .ok (.iload_n 1, 1) := by decide +kernel
theorem dX7_kind_29 : decode cX7_kind 29 = .ok (.iaload, 1) := by decide +kernel
theorem dX7_kind_30 : decode cX7_kind 30 = .ok (.goto 4, 3) := by decide +kernel
theorem dX7_kind_33 : decode cX7_kind 33 = .ok (.iconst 0, 1) := by decide +kernel
theorem dX7_kind_34 : decode cX7_kind 34 = .ok (.ireturn, 1) := by decide +kernel
theorem dX7_length_0 : decode cX7_length 0 = .ok (.aload_n 0, 1) := by decide +kernel
theorem dX7_length_1 : decode cX7_length 1 = .ok (.aload_n 0, 1) := by decide +kernel
theorem dX7_length_2 : decode cX7_length 2 = .ok (.iload_n 1, 1) := by decide +kernel
theorem dX7_length_3 : decode cX7_length 3 = .ok (.invokevirtual 362, 3) := by decide +kernel
theorem dX7_length_6 : decode cX7_length 6 = .ok (.ifCond .eq 7, 3) := by decide +kernel
theorem dX7_length_9 : decode cX7_length 9 = .ok (.iconst 0, 1) := by decide +kernel
theorem dX7_length_10 : decode cX7_length 10 = .ok (.goto 4, 3) := by decide +kernel
theorem dX7_length_13 : decode cX7_length 13 = .ok (.iconst 1, 1) := by decide +kernel
theorem dX7_length_14 : decode cX7_length 14 = .ok (.putfield 55, 3) := by decide +kernel
theorem dX7_length_17 : decode cX7_length 17 = .ok (.aload_n 0, 1) := by decide +kernel
theorem dX7_length_18 : decode cX7_length 18 = .ok (.getfield 55, 3) := by decide +kernel
theorem dX7_length_21 : decode cX7_length 21 = .ok (.ifCond .ne 12, 3) := by decide +kernel
theorem dX7_length_24 : decode cX7_length 24 = .ok (.aload_n 0, 1) := by decide +kernel
theorem dX7_length_25 : decode cX7_length 25 = .ok (.getfield 40, 3) := by decide +kernel
theorem dX7_length_28 : decode cX7_length 28 = .ok (.iload_n 1, 1) := by decide +kernel
theorem dX7_length_29 : decode cX7_length 29 = .ok (.iaload, 1) := by decide +kernel
theorem dX7_length_30 : decode cX7_length 30 = .ok (.goto 4, 3) := by decide +kernel
theorem dX7_length_33 : decode cX7_length 33 = .ok (.iconst 0, 1) := by decide +kernel
theorem dX7_length_34 : decode cX7_length 34 = .ok (.ireturn, 1) := by decide +kernel
theorem dX7_byteAt_0 : decode cX7_byteAt 0 = .ok (.aload_n 0, 1) := by decide +kernel
theorem dX7_byteAt_1 : decode cX7_byteAt 1 = .ok (.aload_n 0, 1) := by decide +kernel
theorem dX7_byteAt_2 : decode cX7_byteAt 2 = .ok (.iload_n 1, 1) := by decide +kernel
theorem dX7_byteAt_3 : decode cX7_byteAt 3 = .ok (.invokevirtual 362, 3) := by decide +kernel
theorem dX7_byteAt_6 : decode cX7_byteAt 6 = .ok (.ifCond .ne 7, 3) := by decide +kernel
theorem dX7_byteAt_9 : decode cX7_byteAt 9 = .ok (.iconst 1, 1) := by decide +kernel
theorem dX7_byteAt_10 : decode cX7_byteAt 10 = .ok (.goto 22, 3) := by decide +kernel
theorem dX7_byteAt_13 : decode cX7_byteAt 13 = .ok (.iload_n 2, 1) := by decide +kernel
theorem dX7_byteAt_14 : decode cX7_byteAt 14 = .ok (.ifCond .lt 13, 3) := by decide +kernel
theorem dX7_byteAt_17 : decode cX7_byteAt 17 = .ok (.iload_n 2, 1) := by decide +kernel
theorem dX7_byteAt_18 : decode cX7_byteAt 18 = .ok (.aload_n 0, 1) := by decide +kernel
theorem dX7_byteAt_19 : decode cX7_byteAt 19 = .ok (.getfield 40, 3) := by decide +kernel
theorem dX7_byteAt_22 : decode cX7_byteAt 22 = .ok (.iload_n 1, 1) := by decide +kernel
theorem dX7_byteAt_23 : decode cX7_byteAt 23 = .ok (.iaload, 1) := by decide +kernel
theorem dX7_byteAt_24 : decode cX7_byteAt 24 = .ok (.if_icmp .lt 7, 3) := by decide +kernel
theorem dX7_byteAt_27 : decode cX7_byteAt 27 = .ok (.iconst 2, 1) := by decide +kernel
theorem dX7_byteAt_28 : decode cX7_byteAt 28 = .ok (.goto 4, 3) := by decide +kernel
theorem dX7_byteAt_31 : decode cX7_byteAt 31 = .ok (.iconst 0, 1) := by decide +kernel
theorem dX7_byteAt_32 : decode cX7_byteAt 32 = .ok (.putfield 55, 3) := by decide +kernel
theorem dX7_byteAt_35 : decode cX7_byteAt 35 = .ok (.aload_n 0, 1) := by decide +kernel
theorem dX7_byteAt_36 : decode cX7_byteAt 36 = .ok (.getfield 55, 3) := by decide +kernel
theorem dX7_byteAt_39 : decode cX7_byteAt 39 = .ok (.ifCond .ne 18, 3) := by decide +kernel
theorem dX7_byteAt_42 : decode cX7_byteAt 42 = .ok (.aload_n 0, 1) := by decide +kernel
theorem dX7_byteAt_43 : decode cX7_byteAt 43 = .ok (.getfield 43, 3) := by decide +kernel
theorem dX7_byteAt_46 : decode cX7_byteAt 46 = .ok (.sipush 300, 3) := by decide +kernel
theorem dX7_byteAt_49 : decode cX7_byteAt 49 = .ok (.iload_n 1, 1) := by decide +kernel
theorem dX7_byteAt_50 : decode cX7_byteAt 50 = .ok (.imul, 1) := by decide +kernel
theorem dX7_byteAt_51 : decode cX7_byteAt 51 = .ok (.iload_n 2, 1) := by decide +kernel
theorem dX7_byteAt_52 : decode cX7_byteAt 52 = .ok (.iadd, 1) := by decide +kernel
theorem dX7_byteAt_53 : decode cX7_byteAt 53 = .ok (.iaload, 1) := by decide +kernel
theorem dX7_byteAt_54 : decode cX7_byteAt 54 = .ok (.goto 4, 3) := by decide +kernel
theorem dX7_byteAt_57 : decode cX7_byteAt 57 = .ok (.iconst 0, 1) := by decide +kernel
theorem dX7_byteAt_58 : decode cX7_byteAt 58 = .ok (.ireturn, 1) := by decide +kernel
theorem dX7_take_0 : decode cX7_take 0 = .ok (.aload_n 0, 1) := by decide +kernel
theorem dX7_take_1 : decode cX7_take 1 = .ok (.aload_n 0, 1) := by decide +kernel
theorem dX7_take_2 : decode cX7_take 2 = .ok (.getfield 326, 3) := by decide +kernel
theorem dX7_take_5 : decode cX7_take 5 = .ok (.ifCond .ne 7, 3) := by decide +kernel
theorem dX7_take_8 : decode cX7_take 8 = .ok (.iconst 1, 1) := by decide +kernel
theorem dX7_take_9 : decode cX7_take 9 = .ok (.goto 4, 3) := by decide +kernel
theorem dX7_take_12 : decode cX7_take 12 = .ok (.iconst 0, 1) := by decide +kernel
theorem dX7_take_13 : decode cX7_take 13 = .ok (.putfield 55, 3) := by decide +kernel
theorem dX7_take_16 : decode cX7_take 16 = .ok (.aload_n 0, 1) := by decide +kernel
theorem dX7_take_17 : decode cX7_take 17 = .ok (.getfield 326, 3) := by decide +kernel
theorem dX7_take_20 : decode cX7_take 20 = .ok (.ifCond .ne 5, 3) := by decide +kernel
theorem dX7_take_23 : decode cX7_take 23 = .ok (.iconst 0, 1) := by decide +kernel
theorem dX7_take_24 : decode cX7_take 24 = .ok (.ireturn, 1) := by decide +kernel
theorem dX7_take_25 : decode cX7_take 25 = .ok (.aload_n 0, 1) := by decide +kernel
theorem dX7_take_26 : decode cX7_take 26 = .ok (.getfield 40, 3) := by decide +kernel
theorem dX7_take_29 : decode cX7_take 29 = .ok (.iconst 0, 1) := by decide +kernel
theorem dX7_take_30 : decode cX7_take 30 = .ok (.iaload, 1) := by decide +kernel
theorem dX7_take_31 : decode cX7_take 31 = .ok (.istore_n 1, 1) := by decide +kernel
theorem dX7_take_32 : decode cX7_take 32 = .ok (.aload_n 0, 1) := by decide +kernel
theorem dX7_take_33 : decode cX7_take 33 = .ok (.dup, 1) := by decide +kernel
theorem dX7_take_34 : decode cX7_take 34 = .ok (.getfield 326, 3) := by decide +kernel
theorem dX7_take_37 : decode cX7_take 37 = .ok (.iconst 1, 1) := by decide +kernel
theorem dX7_take_38 : decode cX7_take 38 = .ok (.isub, 1) := by decide +kernel
theorem dX7_take_39 : decode cX7_take 39 = .ok (.putfield 326, 3) := by decide +kernel
theorem dX7_take_42 : decode cX7_take 42 = .ok (.iconst 0, 1) := by decide +kernel
theorem dX7_take_43 : decode cX7_take 43 = .ok (.istore_n 2, 1) := by decide +kernel
theorem dX7_take_44 : decode cX7_take 44 = .ok (.iload_n 2, 1) := by decide +kernel
theorem dX7_take_45 : decode cX7_take 45 = .ok (.aload_n 0, 1) := by decide +kernel
theorem dX7_take_46 : decode cX7_take 46 = .ok (.getfield 326, 3) := by decide +kernel
theorem dX7_take_49 : decode cX7_take 49 = .ok (.if_icmp .ge 83, 3) := by decide +kernel
theorem dX7_take_52 : decode cX7_take 52 = .ok (.aload_n 0, 1) := by decide +kernel
theorem dX7_take_53 : decode cX7_take 53 = .ok (.getfield 37, 3) := by decide +kernel
theorem dX7_take_56 : decode cX7_take 56 = .ok (.iload_n 2, 1) := by decide +kernel
theorem dX7_take_57 : decode cX7_take 57 = .ok (.aload_n 0, 1) := by decide +kernel
theorem dX7_take_58 : decode cX7_take 58 = .ok (.getfield 37, 3) := by decide +kernel
theorem dX7_take_61 : decode cX7_take 61 = .ok (.iload_n 2, 1) := by decide +kernel
theorem dX7_take_62 : decode cX7_take 62 = .ok (.iconst 1, 1) := by decide +kernel
theorem dX7_take_63 : decode cX7_take 63 = .ok (.iadd, 1) := by decide +kernel
theorem dX7_take_64 : decode cX7_take 64 = .ok (.iaload, 1) := by decide +kernel
theorem dX7_take_65 : decode cX7_take 65 = .ok (.iastore, 1) := by decide +kernel
theorem dX7_take_66 : decode cX7_take 66 = .ok (.aload_n 0, 1) := by decide +kernel
theorem dX7_take_67 : decode cX7_take 67 = .ok (.getfield 40, 3) := by decide +kernel
theorem dX7_take_70 : decode cX7_take 70 = .ok (.iload_n 2, 1) := by decide +kernel
theorem dX7_take_71 : decode cX7_take 71 = .ok (.aload_n 0, 1) := by decide +kernel
theorem dX7_take_72 : decode cX7_take 72 = .ok (.getfield 40, 3) := by decide +kernel
theorem dX7_take_75 : decode cX7_take 75 = .ok (.iload_n 2, 1) := by decide +kernel
theorem dX7_take_76 : decode cX7_take 76 = .ok (.iconst 1, 1) := by decide +kernel
theorem dX7_take_77 : decode cX7_take 77 = .ok (.iadd, 1) := by decide +kernel
theorem dX7_take_78 : decode cX7_take 78 = .ok (.iaload, 1) := by decide +kernel
theorem dX7_take_79 : decode cX7_take 79 = .ok (.iastore, 1) := by decide +kernel
theorem dX7_take_80 : decode cX7_take 80 = .ok (.iconst 0, 1) := by decide +kernel
theorem dX7_take_81 : decode cX7_take 81 = .ok (.istore_n 3, 1) := by decide +kernel
theorem dX7_take_82 : decode cX7_take 82 = .ok (.iload_n 3, 1) := by decide +kernel
theorem dX7_take_83 : decode cX7_take 83 = .ok (.aload_n 0, 1) := by decide +kernel
theorem dX7_take_84 : decode cX7_take 84 = .ok (.getfield 40, 3) := by decide +kernel
theorem dX7_take_87 : decode cX7_take 87 = .ok (.iload_n 2, 1) := by decide +kernel
theorem dX7_take_88 : decode cX7_take 88 = .ok (.iaload, 1) := by decide +kernel
theorem dX7_take_89 : decode cX7_take 89 = .ok (.if_icmp .ge 37, 3) := by decide +kernel
theorem dX7_take_92 : decode cX7_take 92 = .ok (.aload_n 0, 1) := by decide +kernel
theorem dX7_take_93 : decode cX7_take 93 = .ok (.getfield 43, 3) := by decide +kernel
theorem dX7_take_96 : decode cX7_take 96 = .ok (.sipush 300, 3) := by decide +kernel
theorem dX7_take_99 : decode cX7_take 99 = .ok (.iload_n 2, 1) := by decide +kernel
theorem dX7_take_100 : decode cX7_take 100 = .ok (.imul, 1) := by decide +kernel
theorem dX7_take_101 : decode cX7_take 101 = .ok (.iload_n 3, 1) := by decide +kernel
