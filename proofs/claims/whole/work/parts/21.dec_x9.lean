theorem dX9_init_0 : decode cX9_init 0 = .ok (.aload_n 0, 1) := by decide +kernel
theorem dX9_init_1 : decode cX9_init 1 = .ok (.invokespecial 1, 3) := by decide +kernel
theorem dX9_init_4 : decode cX9_init 4 = .ok (.aload_n 0, 1) := by decide +kernel
theorem dX9_init_5 : decode cX9_init 5 = .ok (.bipush 30, 2) := by decide +kernel
theorem dX9_init_7 : decode cX9_init 7 = .ok (.newarray .int, 2) := by decide +kernel
theorem dX9_init_9 : decode cX9_init 9 = .ok (.putfield 7, 3) := by decide +kernel
theorem dX9_init_12 : decode cX9_init 12 = .ok (.aload_n 0, 1) := by decide +kernel
theorem dX9_init_13 : decode cX9_init 13 = .ok (.bipush 10, 2) := by decide +kernel
theorem dX9_init_15 : decode cX9_init 15 = .ok (.newarray .int, 2) := by decide +kernel
theorem dX9_init_17 : decode cX9_init 17 = .ok (.putfield 13, 3) := by decide +kernel
theorem dX9_init_20 : decode cX9_init 20 = .ok (.aload_n 0, 1) := by decide +kernel
theorem dX9_init_21 : decode cX9_init 21 = .ok (.bipush 10, 2) := by decide +kernel
theorem dX9_init_23 : decode cX9_init 23 = .ok (.newarray .int, 2) := by decide +kernel
theorem dX9_init_25 : decode cX9_init 25 = .ok (.putfield 16, 3) := by decide +kernel
theorem dX9_init_28 : decode cX9_init 28 = .ok (.aload_n 0, 1) := by decide +kernel
theorem dX9_init_29 : decode cX9_init 29 = .ok (.bipush 33, 2) := by decide +kernel
theorem dX9_init_31 : decode cX9_init 31 = .ok (.newarray .int, 2) := by decide +kernel
theorem dX9_init_33 : decode cX9_init 33 = .ok (.putfield 19, 3) := by decide +kernel
theorem dX9_init_36 : decode cX9_init 36 = .ok (.aload_n 0, 1) := by decide +kernel
theorem dX9_init_37 : decode cX9_init 37 = .ok (.sipush 240, 3) := by decide +kernel
theorem dX9_init_40 : decode cX9_init 40 = .ok (.newarray .int, 2) := by decide +kernel
theorem dX9_init_42 : decode cX9_init 42 = .ok (.putfield 22, 3) := by decide +kernel
theorem dX9_init_45 : decode cX9_init 45 = .ok (.aload_n 0, 1) := by decide +kernel
theorem dX9_init_46 : decode cX9_init 46 = .ok (.iconst (-1), 1) := by decide +kernel
theorem dX9_init_47 : decode cX9_init 47 = .ok (.putfield 25, 3) := by decide +kernel
theorem dX9_init_50 : decode cX9_init 50 = .ok (.aload_n 0, 1) := by decide +kernel
theorem dX9_init_51 : decode cX9_init 51 = .ok (.bipush 30, 2) := by decide +kernel
theorem dX9_init_53 : decode cX9_init 53 = .ok (.newarray .int, 2) := by decide +kernel
theorem dX9_init_55 : decode cX9_init 55 = .ok (.putfield 29, 3) := by decide +kernel
theorem dX9_init_58 : decode cX9_init 58 = .ok (.aload_n 0, 1) := by decide +kernel
theorem dX9_init_59 : decode cX9_init 59 = .ok (.bipush 10, 2) := by decide +kernel
theorem dX9_init_61 : decode cX9_init 61 = .ok (.newarray .int, 2) := by decide +kernel
theorem dX9_init_63 : decode cX9_init 63 = .ok (.putfield 32, 3) := by decide +kernel
theorem dX9_init_66 : decode cX9_init 66 = .ok (.aload_n 0, 1) := by decide +kernel
theorem dX9_init_67 : decode cX9_init 67 = .ok (.bipush 10, 2) := by decide +kernel
theorem dX9_init_69 : decode cX9_init 69 = .ok (.newarray .int, 2) := by decide +kernel
theorem dX9_init_71 : decode cX9_init 71 = .ok (.putfield 35, 3) := by decide +kernel
theorem dX9_init_74 : decode cX9_init 74 = .ok (.aload_n 0, 1) := by decide +kernel
theorem dX9_init_75 : decode cX9_init 75 = .ok (.bipush 10, 2) := by decide +kernel
theorem dX9_init_77 : decode cX9_init 77 = .ok (.newarray .int, 2) := by decide +kernel
theorem dX9_init_79 : decode cX9_init 79 = .ok (.putfield 38, 3) := by decide +kernel
theorem dX9_init_82 : decode cX9_init 82 = .ok (.aload_n 0, 1) := by decide +kernel
theorem dX9_init_83 : decode cX9_init 83 = .ok (.sipush 660, 3) := by decide +kernel
theorem dX9_init_86 : decode cX9_init 86 = .ok (.newarray .int, 2) := by decide +kernel
theorem dX9_init_88 : decode cX9_init 88 = .ok (.putfield 41, 3) := by decide +kernel
theorem dX9_init_91 : decode cX9_init 91 = .ok (.aload_n 0, 1) := by decide +kernel
theorem dX9_init_92 : decode cX9_init 92 = .ok (.iconst 5, 1) := by decide +kernel
theorem dX9_init_93 : decode cX9_init 93 = .ok (.newarray .int, 2) := by decide +kernel
theorem dX9_init_95 : decode cX9_init 95 = .ok (.putfield 44, 3) := by decide +kernel
theorem dX9_init_98 : decode cX9_init 98 = .ok (.aload_n 0, 1) := by decide +kernel
theorem dX9_init_99 : decode cX9_init 99 = .ok (.bipush 30, 2) := by decide +kernel
theorem dX9_init_101 : decode cX9_init 101 = .ok (.newarray .int, 2) := by decide +kernel
theorem dX9_init_103 : decode cX9_init 103 = .ok (.putfield 47, 3) := by decide +kernel
theorem dX9_init_106 : decode cX9_init 106 = .ok (.aload_n 0, 1) := by decide +kernel
theorem dX9_init_107 : decode cX9_init 107 = .ok (.bipush 30, 2) := by decide +kernel
theorem dX9_init_109 : decode cX9_init 109 = .ok (.newarray .int, 2) := by decide +kernel
theorem dX9_init_111 : decode cX9_init 111 = .ok (.putfield 50, 3) := by decide +kernel
theorem dX9_init_114 : decode cX9_init 114 = .ok (.aload_n 0, 1) := by decide +kernel
theorem dX9_init_115 : decode cX9_init 115 = .ok (.bipush 8, 2) := by decide +kernel
theorem dX9_init_117 : decode cX9_init 117 = .ok (.newarray .int, 2) := by decide +kernel
theorem dX9_init_119 : decode cX9_init 119 = .ok (.putfield 53, 3) := by decide +kernel
theorem dX9_init_122 : decode cX9_init 122 = .ok (.aload_n 0, 1) := by decide +kernel
theorem dX9_init_123 : decode cX9_init 123 = .ok (.bipush 8, 2) := by decide +kernel
theorem dX9_init_125 : decode cX9_init 125 = .ok (.newarray .int, 2) := by decide +kernel
theorem dX9_init_127 : decode cX9_init 127 = .ok (.putfield 56, 3) := by decide +kernel
theorem dX9_init_130 : decode cX9_init 130 = .ok (.aload_n 0, 1) := by decide +kernel
theorem dX9_init_131 : decode cX9_init 131 = .ok (.sipush 330, 3) := by decide +kernel
theorem dX9_init_134 : decode cX9_init 134 = .ok (.newarray .int, 2) := by decide +kernel
theorem dX9_init_136 : decode cX9_init 136 = .ok (.putfield 59, 3) := by decide +kernel
theorem dX9_init_139 : decode cX9_init 139 = .ok (.aload_n 0, 1) := by decide +kernel
theorem dX9_init_140 : decode cX9_init 140 = .ok (.bipush 15, 2) := by decide +kernel
theorem dX9_init_142 : decode cX9_init 142 = .ok (.newarray .int, 2) := by decide +kernel
theorem dX9_init_144 : decode cX9_init 144 = .ok (.putfield 62, 3) := by decide +kernel
theorem dX9_init_147 : decode cX9_init 147 = .ok (.aload_n 0, 1) := by decide +kernel
theorem dX9_init_148 : decode cX9_init 148 = .ok (.bipush 15, 2) := by decide +kernel
theorem dX9_init_150 : decode cX9_init 150 = .ok (.newarray .int, 2) := by decide +kernel
theorem dX9_init_152 : decode cX9_init 152 = .ok (.putfield 65, 3) := by decide +kernel
theorem dX9_init_155 : decode cX9_init 155 = .ok (.aload_n 0, 1) := by decide +kernel
theorem dX9_init_156 : decode cX9_init 156 = .ok (.bipush 68, 2) := by decide +kernel
theorem dX9_init_158 : decode cX9_init 158 = .ok (.newarray .int, 2) := by decide +kernel
theorem dX9_init_160 : decode cX9_init 160 = .ok (.putfield 68, 3) := by decide +kernel
theorem dX9_init_163 : decode cX9_init 163 = .ok (.aload_n 0, 1) := by decide +kernel
theorem dX9_init_164 : decode cX9_init 164 = .ok (.iconst 2, 1) := by decide +kernel
theorem dX9_init_165 : decode cX9_init 165 = .ok (.newarray .boolean, 2) := by decide +kernel
theorem dX9_init_167 : decode cX9_init 167 = .ok (.putfield 71, 3) := by decide +kernel
theorem dX9_init_170 : decode cX9_init 170 = .ok (.aload_n 0, 1) := by decide +kernel
theorem dX9_init_171 : decode cX9_init 171 = .ok (.iconst 0, 1) := by decide +kernel
theorem dX9_init_172 : decode cX9_init 172 = .ok (.putfield 75, 3) := by decide +kernel
theorem dX9_init_175 : decode cX9_init 175 = .ok (.return_, 1) := by decide +kernel
theorem dX9_in_0 : decode cX9_in 0 = .ok (.lload_n 0, 1) := by decide +kernel
theorem dX9_in_1 : decode cX9_in 1 = .ok (.lload_n 2, 1) := by decide +kernel
theorem dX9_in_2 : decode cX9_in 2 = .ok (.lcmp, 1) := by decide +kernel
theorem dX9_in_3 : decode cX9_in 3 = .ok (.ifCond .lt 14, 3) := by decide +kernel
theorem dX9_in_6 : decode cX9_in 6 = .ok (.lload_n 0, 1) := by decide +kernel
theorem dX9_in_7 : decode cX9_in 7 = .ok (.lload 4, 2) := by decide +kernel
theorem dX9_in_9 : decode cX9_in 9 = .ok (.lcmp, 1) := by decide +kernel
theorem dX9_in_10 : decode cX9_in 10 = .ok (.ifCond .gt 7, 3) := by decide +kernel
theorem dX9_in_13 : decode cX9_in 13 = .ok (.iconst 1, 1) := by decide +kernel
theorem dX9_in_14 : decode cX9_in 14 = .ok (.goto 4, 3) := by decide +kernel
theorem dX9_in_17 : decode cX9_in 17 = .ok (.iconst 0, 1) := by decide +kernel
theorem dX9_in_18 : decode cX9_in 18 = .ok (.ireturn, 1) := by decide +kernel
theorem dX9_has_0 : decode cX9_has 0 = .ok (.iload_n 0, 1) := by decide +kernel
theorem dX9_has_1 : decode cX9_has 1 = .ok (.iload_n 1, 1) := by decide +kernel
theorem dX9_has_2 : decode cX9_has 2 = .ok (.ishr, 1) := by decide +kernel
theorem dX9_has_3 : decode cX9_has 3 = .ok (.iconst 1, 1) := by decide +kernel
theorem dX9_has_4 : decode cX9_has 4 = .ok (.iand, 1) := by decide +kernel
theorem dX9_has_5 : decode cX9_has 5 = .ok (.iconst 1, 1) := by decide +kernel
theorem dX9_has_6 : decode cX9_has 6 = .ok (.if_icmp .ne 7, 3) := by decide +kernel
theorem dX9_has_9 : decode cX9_has 9 = .ok (.iconst 1, 1) := by decide +kernel
theorem dX9_has_10 : decode cX9_has 10 = .ok (.goto 4, 3) := by decide +kernel
theorem dX9_has_13 : decode cX9_has 13 = .ok (.iconst 0, 1) := by decide +kernel
theorem dX9_has_14 : decode cX9_has 14 = .ok (.ireturn, 1) := by decide +kernel
theorem dX9_bits_0 : decode cX9_bits 0 = .ok (.iconst 0, 1) := by decide +kernel
theorem dX9_bits_1 : decode cX9_bits 1 = .ok (.istore_n 1, 1) := by decide +kernel
theorem dX9_bits_2 : decode cX9_bits 2 = .ok (.iconst 0, 1) := by decide +kernel
theorem dX9_bits_3 : decode cX9_bits 3 = .ok (.istore_n 2, 1) := by decide +kernel
theorem dX9_bits_4 : decode cX9_bits 4 = .ok (.iload_n 2, 1) := by decide +kernel
theorem dX9_bits_5 : decode cX9_bits 5 = .ok (.bipush 12, 2) := by decide +kernel
theorem dX9_bits_7 : decode cX9_bits 7 = .ok (.if_icmp .ge 17, 3) := by decide +kernel
theorem dX9_bits_10 : decode cX9_bits 10 = .ok (.iload_n 1, 1) := by decide +kernel
theorem dX9_bits_11 : decode cX9_bits 11 = .ok (.iload_n 0, 1) := by decide +kernel
theorem dX9_bits_12 : decode cX9_bits 12 = .ok (.iload_n 2, 1) := by decide +kernel
theorem dX9_bits_13 : decode cX9_bits 13 = .ok (.ishr, 1) := by decide +kernel
theorem dX9_bits_14 : decode cX9_bits 14 = .ok (.iconst 1, 1) := by decide +kernel
theorem dX9_bits_15 : decode cX9_bits 15 = .ok (.iand, 1) := by decide +kernel
theorem dX9_bits_16 : decode cX9_bits 16 = .ok (.iadd, 1) := by decide +kernel
theorem dX9_bits_17 : decode cX9_bits 17 = .ok (.istore_n 1, 1) := by decide +kernel
theorem dX9_bits_18 : decode cX9_bits 18 = .ok (.iinc 2 1, 3) := by decide +kernel
theorem dX9_bits_21 : decode cX9_bits 21 = .ok (.goto (-17), 3) := by decide +kernel
theorem dX9_bits_24 : decode cX9_bits 24 = .ok (.iload_n 1, 1) := by decide +kernel
theorem dX9_bits_25 : decode cX9_bits 25 = .ok (.ireturn, 1) := by decide +kernel
theorem dX9_isCoat_0 : decode cX9_isCoat 0 = .ok (.iload_n 1, 1) := by decide +kernel
theorem dX9_isCoat_1 : decode cX9_isCoat 1 = .ok (.i2l, 1) := by decide +kernel
theorem dX9_isCoat_2 : decode cX9_isCoat 2 = .ok (.lconst 0, 1) := by decide +kernel
theorem dX9_isCoat_3 : decode cX9_isCoat 3 = .ok (.aload_n 0, 1) := by decide +kernel
theorem dX9_isCoat_4 : decode cX9_isCoat 4 = .ok (.getfield 78, 3) := by decide +kernel
theorem dX9_isCoat_7 : decode cX9_isCoat 7 = .ok (.iconst 1, 1) := by decide +kernel
theorem dX9_isCoat_8 : decode cX9_isCoat 8 = .ok (.isub, 1) := by decide +kernel
theorem dX9_isCoat_9 : decode cX9_isCoat 9 = .ok (.i2l, 1) := by decide +kernel
theorem dX9_isCoat_10 : decode cX9_isCoat 10 = .ok (.invokestatic 81, 3) := by decide +kernel
theorem dX9_isCoat_13 : decode cX9_isCoat 13 = .ok (.ireturn, 1) := by decide +kernel
theorem dX9_isColour_0 : decode cX9_isColour 0 = .ok (.iload_n 1, 1) := by decide +kernel
theorem dX9_isColour_1 : decode cX9_isColour 1 = .ok (.i2l, 1) := by decide +kernel
theorem dX9_isColour_2 : decode cX9_isColour 2 = .ok (.lconst 0, 1) := by decide +kernel
theorem dX9_isColour_3 : decode cX9_isColour 3 = .ok (.aload_n 0, 1) := by decide +kernel
theorem dX9_isColour_4 : decode cX9_isColour 4 = .ok (.getfield 75, 3) := by decide +kernel
theorem dX9_isColour_7 : decode cX9_isColour 7 = .ok (.iconst 1, 1) := by decide +kernel
theorem dX9_isColour_8 : decode cX9_isColour 8 = .ok (.isub, 1) := by decide +kernel
theorem dX9_isColour_9 : decode cX9_isColour 9 = .ok (.i2l, 1) := by decide +kernel
theorem dX9_isColour_10 : decode cX9_isColour 10 = .ok (.invokestatic 81, 3) := by decide +kernel
theorem dX9_isColour_13 : decode cX9_isColour 13 = .ok (.ireturn, 1) := by decide +kernel
theorem dX9_isParts_0 : decode cX9_isParts 0 = .ok (.iload_n 0, 1) := by decide +kernel
theorem dX9_isParts_1 : decode cX9_isParts 1 = .ok (.i2l, 1) := by decide +kernel
theorem dX9_isParts_2 : decode cX9_isParts 2 = .ok (.lconst 0, 1) := by decide +kernel
theorem dX9_isParts_3 : decode cX9_isParts 3 = .ok (.ldc2_w 85, 3) := by decide +kernel
theorem dX9_isParts_6 : decode cX9_isParts 6 = .ok (.invokestatic 81, 3) := by decide +kernel
theorem dX9_isParts_9 : decode cX9_isParts 9 = .ok (.ireturn, 1) := by decide +kernel
theorem dX9_feed_0 : decode cX9_feed 0 = .ok (.iload_n 1, 1) := by decide +kernel
theorem dX9_feed_1 : decode cX9_feed 1 = .ok (.i2l, 1) := by decide +kernel
theorem dX9_feed_2 : decode cX9_feed 2 = .ok (.lconst 0, 1) := by decide +kernel
theorem dX9_feed_3 : decode cX9_feed 3 = .ok (.ldc2_w 87, 3) := by decide +kernel
theorem dX9_feed_6 : decode cX9_feed 6 = .ok (.invokestatic 81, 3) := by decide +kernel
theorem dX9_feed_9 : decode cX9_feed 9 = .ok (.ifCond .ne 6, 3) := by decide +kernel
theorem dX9_feed_12 : decode cX9_feed 12 = .ok (.ldc 89, 2) := by decide +kernel
theorem dX9_feed_14 : decode cX9_feed 14 = .ok (.ireturn, 1) := by decide +kernel
theorem dX9_feed_15 : decode cX9_feed 15 = .ok (.aload_n 0, 1) := by decide +kernel
theorem dX9_feed_16 : decode cX9_feed 16 = .ok (.getfield 90, 3) := by decide +kernel
theorem dX9_feed_19 : decode cX9_feed 19 = .ok (.sipush 240, 3) := by decide +kernel
theorem dX9_feed_22 : decode cX9_feed 22 = .ok (.if_icmp .ne 6, 3) := by decide +kernel
theorem dX9_feed_25 : decode cX9_feed 25 = .ok (.ldc 93, 2) := by decide +kernel
theorem dX9_feed_27 : decode cX9_feed 27 = .ok (.ireturn, 1) := by decide +kernel
theorem dX9_feed_28 : decode cX9_feed 28 = .ok (.aload_n 0, 1) := by decide +kernel
theorem dX9_feed_29 : decode cX9_feed 29 = .ok (.getfield 22, 3) := by decide +kernel
theorem dX9_feed_32 : decode cX9_feed 32 = .ok (.aload_n 0, 1) := by decide +kernel
theorem dX9_feed_33 : decode cX9_feed 33 = .ok (.getfield 90, 3) := by decide +kernel
theorem dX9_feed_36 : decode cX9_feed 36 = .ok (.iload_n 1, 1) := by decide +kernel
theorem dX9_feed_37 : decode cX9_feed 37 = .ok (.iastore, 1) := by decide +kernel
theorem dX9_feed_38 : decode cX9_feed 38 = .ok (.aload_n 0, 1) := by decide +kernel
theorem dX9_feed_39 : decode cX9_feed 39 = .ok (.dup, 1) := by decide +kernel
theorem dX9_feed_40 : decode cX9_feed 40 = .ok (.getfield 90, 3) := by decide +kernel
theorem dX9_feed_43 : decode cX9_feed 43 = .ok (.iconst 1, 1) := by decide +kernel
theorem dX9_feed_44 : decode cX9_feed 44 = .ok (.iadd, 1) := by decide +kernel
theorem dX9_feed_45 : decode cX9_feed 45 = .ok (.putfield 90, 3) := by decide +kernel
theorem dX9_feed_48 : decode cX9_feed 48 = .ok (.aload_n 0, 1) := by decide +kernel
theorem dX9_feed_49 : decode cX9_feed 49 = .ok (.getfield 90, 3) := by decide +kernel
theorem dX9_feed_52 : decode cX9_feed 52 = .ok (.ireturn, 1) := by decide +kernel
theorem dX9_here_0 : decode cX9_here 0 = .ok (.aload_n 0, 1) := by decide +kernel
theorem dX9_here_1 : decode cX9_here 1 = .ok (.getfield 94, 3) := by decide +kernel
theorem dX9_here_4 : decode cX9_here 4 = .ok (.aload_n 0, 1) := by decide +kernel
theorem dX9_here_5 : decode cX9_here 5 = .ok (.getfield 90, 3) := by decide +kernel
theorem dX9_here_8 : decode cX9_here 8 = .ok (.if_icmp .ge 30, 3) := by decide +kernel
theorem dX9_here_11 : decode cX9_here 11 = .ok (.aload_n 0, 1) := by decide +kernel
theorem dX9_here_12 : decode cX9_here 12 = .ok (.getfield 22, 3) := by decide +kernel
theorem dX9_here_15 : decode cX9_here 15 = .ok (.aload_n 0, 1) := by decide +kernel
theorem dX9_here_16 : decode cX9_here 16 = .ok (.getfield 94, 3) := by decide +kernel
theorem dX9_here_19 : decode cX9_here 19 = .ok (.iaload, 1) := by decide +kernel
theorem dX9_here_20 : decode cX9_here 20 = .ok (.bipush 32, 2) := by decide +kernel
theorem dX9_here_22 : decode cX9_here 22 = .ok (.if_icmp .ne 16, 3) := by decide +kernel
theorem dX9_here_25 : decode cX9_here 25 = .ok (.aload_n 0, 1) := by decide +kernel
theorem dX9_here_26 : decode cX9_here 26 = .ok (.dup, 1) := by decide +kernel
theorem dX9_here_27 : decode cX9_here 27 = .ok (.getfield 94, 3) := by decide +kernel
theorem dX9_here_30 : decode cX9_here 30 = .ok (.iconst 1, 1) := by decide +kernel
theorem dX9_here_31 : decode cX9_here 31 = .ok (.iadd, 1) := by decide +kernel
theorem dX9_here_32 : decode cX9_here 32 = .ok (.putfield 94, 3) := by decide +kernel
theorem dX9_here_35 : decode cX9_here 35 = .ok (.goto (-35), 3) := by decide +kernel
theorem dX9_here_38 : decode cX9_here 38 = .ok (.aload_n 0, 1) := by decide +kernel
theorem dX9_here_39 : decode cX9_here 39 = .ok (.getfield 94, 3) := by decide +kernel
theorem dX9_here_42 : decode cX9_here 42 = .ok (.aload_n 0, 1) := by decide +kernel
theorem dX9_here_43 : decode cX9_here 43 = .ok (.getfield 90, 3) := by decide +kernel
theorem dX9_here_46 : decode cX9_here 46 = .ok (.if_icmp .ge 15, 3) := by decide +kernel
theorem dX9_here_49 : decode cX9_here 49 = .ok (.aload_n 0, 1) := by decide +kernel
theorem dX9_here_50 : decode cX9_here 50 = .ok (.getfield 22, 3) := by decide +kernel
theorem dX9_here_53 : decode cX9_here 53 = .ok (.aload_n 0, 1) := by decide +kernel
theorem dX9_here_54 : decode cX9_here 54 = .ok (.getfield 94, 3) := by decide +kernel
theorem dX9_here_57 : decode cX9_here 57 = .ok (.iaload, 1) := by decide +kernel
theorem dX9_here_58 : decode cX9_here 58 = .ok (.goto 4, 3) := by decide +kernel
theorem dX9_here_61 : decode cX9_here 61 = .ok (.iconst (-1), 1) := by decide +kernel
theorem dX9_here_62 : decode cX9_here 62 = .ok (.ireturn, 1) := by decide +kernel
theorem dX9_fails_0 : decode cX9_fails 0 = .ok (.aload_n 0, 1) := by decide +kernel
theorem dX9_fails_1 : decode cX9_fails 1 = .ok (.iload_n 2, 1) := by decide +kernel
theorem dX9_fails_2 : decode cX9_fails 2 = .ok (.putfield 25, 3) := by decide +kernel
theorem dX9_fails_5 : decode cX9_fails 5 = .ok (.iload_n 1, 1) := by decide +kernel
theorem dX9_fails_6 : decode cX9_fails 6 = .ok (.ireturn, 1) := by decide +kernel
theorem dX9_takeNumber_0 : decode cX9_takeNumber 0 = .ok (.aload_n 0, 1) := by decide +kernel
theorem dX9_takeNumber_1 : decode cX9_takeNumber 1 = .ok (.invokevirtual 97, 3) := by decide +kernel
theorem dX9_takeNumber_4 : decode cX9_takeNumber 4 = .ok (.istore_n 3, 1) := by decide +kernel
theorem dX9_takeNumber_5 : decode cX9_takeNumber 5 = .ok (.iload_n 3, 1) := by decide +kernel
theorem dX9_takeNumber_6 : decode cX9_takeNumber 6 = .ok (.i2l, 1) := by decide +kernel
theorem dX9_takeNumber_7 : decode cX9_takeNumber 7 = .ok (.ldc2_w 101, 3) := by decide +kernel
theorem dX9_takeNumber_10 : decode cX9_takeNumber 10 = .ok (.ldc2_w 103, 3) := by decide +kernel
theorem dX9_takeNumber_13 : decode cX9_takeNumber 13 = .ok (.invokestatic 81, 3) := by decide +kernel
theorem dX9_takeNumber_16 : decode cX9_takeNumber 16 = .ok (.ifCond .ne 13, 3) := by decide +kernel
theorem dX9_takeNumber_19 : decode cX9_takeNumber 19 = .ok (.aload_n 0, 1) := by decide +kernel
theorem dX9_takeNumber_20 : decode cX9_takeNumber 20 = .ok (.iconst 1, 1) := by decide +kernel
theorem dX9_takeNumber_21 : decode cX9_takeNumber 21 = .ok (.aload_n 0, 1) := by decide +kernel
theorem dX9_takeNumber_22 : decode cX9_takeNumber 22 = .ok (.getfield 94, 3) := by decide +kernel
theorem dX9_takeNumber_25 : decode cX9_takeNumber 25 = .ok (.invokevirtual 105, 3) := by decide +kernel
theorem dX9_takeNumber_28 : decode cX9_takeNumber 28 = .ok (.ireturn, 1) := by decide +kernel
theorem dX9_takeNumber_29 : decode cX9_takeNumber 29 = .ok (.aload_n 0, 1) := by decide +kernel
theorem dX9_takeNumber_30 : decode cX9_takeNumber 30 = .ok (.aload_n 0, 1) := by decide +kernel
theorem dX9_takeNumber_31 : decode cX9_takeNumber 31 = .ok (.getfield 94, 3) := by decide +kernel
theorem dX9_takeNumber_34 : decode cX9_takeNumber 34 = .ok (.putfield 109, 3) := by decide +kernel
theorem dX9_takeNumber_37 : decode cX9_takeNumber 37 = .ok (.aload_n 0, 1) := by decide +kernel
theorem dX9_takeNumber_38 : decode cX9_takeNumber 38 = .ok (.iconst 0, 1) := by decide +kernel
theorem dX9_takeNumber_39 : decode cX9_takeNumber 39 = .ok (.putfield 112, 3) := by decide +kernel
theorem dX9_takeNumber_42 : decode cX9_takeNumber 42 = .ok (.aload_n 0, 1) := by decide +kernel
theorem dX9_takeNumber_43 : decode cX9_takeNumber 43 = .ok (.getfield 94, 3) := by decide +kernel
theorem dX9_takeNumber_46 : decode cX9_takeNumber 46 = .ok (.aload_n 0, 1) := by decide +kernel
theorem dX9_takeNumber_47 : decode cX9_takeNumber 47 = .ok (.getfield 90, 3) := by decide +kernel
theorem dX9_takeNumber_50 : decode cX9_takeNumber 50 = .ok (.if_icmp .ge 79, 3) := by decide +kernel
theorem dX9_takeNumber_53 : decode cX9_takeNumber 53 = .ok (.aload_n 0, 1) := by decide +kernel
theorem dX9_takeNumber_54 : decode cX9_takeNumber 54 = .ok (.getfield 22, 3) := by decide +kernel
theorem dX9_takeNumber_57 : decode cX9_takeNumber 57 = .ok (.aload_n 0, 1) := by decide +kernel
theorem dX9_takeNumber_58 : decode cX9_takeNumber 58 = .ok (.getfield 94, 3) := by decide +kernel
theorem dX9_takeNumber_61 : decode cX9_takeNumber 61 = .ok (.iaload, 1) := by decide +kernel
theorem dX9_takeNumber_62 : decode cX9_takeNumber 62 = .ok (.i2l, 1) := by decide +kernel
theorem dX9_takeNumber_63 : decode cX9_takeNumber 63 = .ok (.ldc2_w 101, 3) := by decide +kernel
theorem dX9_takeNumber_66 : decode cX9_takeNumber 66 = .ok (.ldc2_w 103, 3) := by decide +kernel
theorem dX9_takeNumber_69 : decode cX9_takeNumber 69 = .ok (.invokestatic 81, 3) := by decide +kernel
theorem dX9_takeNumber_72 : decode cX9_takeNumber 72 = .ok (.ifCond .eq 57, 3) := by decide +kernel
theorem dX9_takeNumber_75 : decode cX9_takeNumber 75 = .ok (.aload_n 0, 1) := by decide +kernel
theorem dX9_takeNumber_76 : decode cX9_takeNumber 76 = .ok (.aload_n 0, 1) := by decide +kernel
theorem dX9_takeNumber_77 : decode cX9_takeNumber 77 = .ok (.getfield 112, 3) := by decide +kernel
theorem dX9_takeNumber_80 : decode cX9_takeNumber 80 = .ok (.sipush 10000, 3) := by decide +kernel
theorem dX9_takeNumber_83 : decode cX9_takeNumber 83 = .ok (.if_icmp .le 10, 3) := by decide +kernel
theorem dX9_takeNumber_86 : decode cX9_takeNumber 86 = .ok (.aload_n 0, 1) := by decide +kernel
theorem dX9_takeNumber_87 : decode cX9_takeNumber 87 = .ok (.getfield 112, 3) := by decide +kernel
theorem dX9_takeNumber_90 : decode cX9_takeNumber 90 = .ok (.goto 23, 3) := by decide +kernel
theorem dX9_takeNumber_93 : decode cX9_takeNumber 93 = .ok (.bipush 10, 2) := by decide +kernel
theorem dX9_takeNumber_95 : decode cX9_takeNumber 95 = .ok (.aload_n 0, 1) := by decide +kernel
theorem dX9_takeNumber_96 : decode cX9_takeNumber 96 = .ok (.getfield 112, 3) := by decide +kernel
theorem dX9_takeNumber_99 : decode cX9_takeNumber 99 = .ok (.imul, 1) := by decide +kernel
theorem dX9_takeNumber_100 : decode cX9_takeNumber 100 = .ok (.aload_n 0, 1) := by decide +kernel
theorem dX9_takeNumber_101 : decode cX9_takeNumber 101 = .ok (.getfield 22, 3) := by decide +kernel
theorem dX9_takeNumber_104 : decode cX9_takeNumber 104 = .ok (.aload_n 0, 1) := by decide +kernel
theorem dX9_takeNumber_105 : decode cX9_takeNumber 105 = .ok (.getfield 94, 3) := by decide +kernel
theorem dX9_takeNumber_108 : decode cX9_takeNumber 108 = .ok (.iaload, 1) := by decide +kernel
theorem dX9_takeNumber_109 : decode cX9_takeNumber 109 = .ok (.iadd, 1) := by decide +kernel
theorem dX9_takeNumber_110 : decode cX9_takeNumber 110 = .ok (.bipush 48, 2) := by decide +kernel
theorem dX9_takeNumber_112 : decode cX9_takeNumber 112 = .ok (.isub, 1) := by decide +kernel
theorem dX9_takeNumber_113 : decode cX9_takeNumber 113 = .ok (.putfield 112, 3) := by decide +kernel
theorem dX9_takeNumber_116 : decode cX9_takeNumber 116 = .ok (.aload_n 0, 1) := by decide +kernel
theorem dX9_takeNumber_117 : decode cX9_takeNumber 117 = .ok (.dup, 1) := by decide +kernel
theorem dX9_takeNumber_118 : decode cX9_takeNumber 118 = .ok (.getfield 94, 3) := by decide +kernel
theorem dX9_takeNumber_121 : decode cX9_takeNumber 121 = .ok (.iconst 1, 1) := by decide +kernel
theorem dX9_takeNumber_122 : decode cX9_takeNumber 122 = .ok (.iadd, 1) := by decide +kernel
theorem dX9_takeNumber_123 : decode cX9_takeNumber 123 = .ok (.putfield 94, 3) := by decide +kernel
theorem dX9_takeNumber_126 : decode cX9_takeNumber 126 = .ok (.goto (-84), 3) := by decide +kernel
theorem dX9_takeNumber_129 : decode cX9_takeNumber 129 = .ok (.aload_n 0, 1) := by decide +kernel
theorem dX9_takeNumber_130 : decode cX9_takeNumber 130 = .ok (.getfield 94, 3) := by decide +kernel
theorem dX9_takeNumber_133 : decode cX9_takeNumber 133 = .ok (.aload_n 0, 1) := by decide +kernel
theorem dX9_takeNumber_134 : decode cX9_takeNumber 134 = .ok (.getfield 109, 3) := by decide +kernel
theorem dX9_takeNumber_137 : decode cX9_takeNumber 137 = .ok (.isub, 1) := by decide +kernel
theorem dX9_takeNumber_138 : decode cX9_takeNumber 138 = .ok (.iconst 3, 1) := by decide +kernel
theorem dX9_takeNumber_139 : decode cX9_takeNumber 139 = .ok (.if_icmp .gt 18, 3) := by decide +kernel
theorem dX9_takeNumber_142 : decode cX9_takeNumber 142 = .ok (.aload_n 0, 1) := by decide +kernel
theorem dX9_takeNumber_143 : decode cX9_takeNumber 143 = .ok (.getfield 112, 3) := by decide +kernel
theorem dX9_takeNumber_146 : decode cX9_takeNumber 146 = .ok (.i2l, 1) := by decide +kernel
theorem dX9_takeNumber_147 : decode cX9_takeNumber 147 = .ok (.iload_n 1, 1) := by decide +kernel
theorem dX9_takeNumber_148 : decode cX9_takeNumber 148 = .ok (.i2l, 1) := by decide +kernel
theorem dX9_takeNumber_149 : decode cX9_takeNumber 149 = .ok (.iload_n 2, 1) := by decide +kernel
theorem dX9_takeNumber_150 : decode cX9_takeNumber 150 = .ok (.i2l, 1) := by decide +kernel
theorem dX9_takeNumber_151 : decode cX9_takeNumber 151 = .ok (.invokestatic 81, 3) := by decide +kernel
theorem dX9_takeNumber_154 : decode cX9_takeNumber 154 = .ok (.ifCond .ne 15, 3) := by decide +kernel
theorem dX9_takeNumber_157 : decode cX9_takeNumber 157 = .ok (.aload_n 0, 1) := by decide +kernel
theorem dX9_takeNumber_158 : decode cX9_takeNumber 158 = .ok (.iconst 2, 1) := by decide +kernel
theorem dX9_takeNumber_159 : decode cX9_takeNumber 159 = .ok (.aload_n 0, 1) := by decide +kernel
theorem dX9_takeNumber_160 : decode cX9_takeNumber 160 = .ok (.getfield 109, 3) := by decide +kernel
theorem dX9_takeNumber_163 : decode cX9_takeNumber 163 = .ok (.invokevirtual 105, 3) := by decide +kernel
theorem dX9_takeNumber_166 : decode cX9_takeNumber 166 = .ok (.goto 4, 3) := by decide +kernel
theorem dX9_takeNumber_169 : decode cX9_takeNumber 169 = .ok (.iconst 0, 1) := by decide +kernel
theorem dX9_takeNumber_170 : decode cX9_takeNumber 170 = .ok (.ireturn, 1) := by decide +kernel
theorem dX9_sign_0 : decode cX9_sign 0 = .ok (.aload_n 0, 1) := by decide +kernel
theorem dX9_sign_1 : decode cX9_sign 1 = .ok (.invokevirtual 97, 3) := by decide +kernel
theorem dX9_sign_4 : decode cX9_sign 4 = .ok (.iload_n 1, 1) := by decide +kernel
theorem dX9_sign_5 : decode cX9_sign 5 = .ok (.if_icmp .eq 13, 3) := by decide +kernel
theorem dX9_sign_8 : decode cX9_sign 8 = .ok (.aload_n 0, 1) := by decide +kernel
theorem dX9_sign_9 : decode cX9_sign 9 = .ok (.iconst 1, 1) := by decide +kernel
theorem dX9_sign_10 : decode cX9_sign 10 = .ok (.aload_n 0, 1) := by decide +kernel
theorem dX9_sign_11 : decode cX9_sign 11 = .ok (.getfield 94, 3) := by decide +kernel
theorem dX9_sign_14 : decode cX9_sign 14 = .ok (.invokevirtual 105, 3) := by decide +kernel
theorem dX9_sign_17 : decode cX9_sign 17 = .ok (.ireturn, 1) := by decide +kernel
theorem dX9_sign_18 : decode cX9_sign 18 = .ok (.aload_n 0, 1) := by decide +kernel
theorem dX9_sign_19 : decode cX9_sign 19 = .ok (.dup, 1) := by decide +kernel
theorem dX9_sign_20 : decode cX9_sign 20 = .ok (.getfield 94, 3) := by decide +kernel
theorem dX9_sign_23 : decode cX9_sign 23 = .ok (.iconst 1, 1) := by decide +kernel
theorem dX9_sign_24 : decode cX9_sign 24 = .ok (.iadd, 1) := by decide +kernel
theorem dX9_sign_25 : decode cX9_sign 25 = .ok (.putfield 94, 3) := by decide +kernel
theorem dX9_sign_28 : decode cX9_sign 28 = .ok (.iconst 0, 1) := by decide +kernel
theorem dX9_sign_29 : decode cX9_sign 29 = .ok (.ireturn, 1) := by decide +kernel
theorem dX9_takeColours_0 : decode cX9_takeColours 0 = .ok (.aload_n 0, 1) := by decide +kernel
theorem dX9_takeColours_1 : decode cX9_takeColours 1 = .ok (.iconst 2, 1) := by decide +kernel
theorem dX9_takeColours_2 : decode cX9_takeColours 2 = .ok (.iconst 5, 1) := by decide +kernel
theorem dX9_takeColours_3 : decode cX9_takeColours 3 = .ok (.invokevirtual 115, 3) := by decide +kernel
theorem dX9_takeColours_6 : decode cX9_takeColours 6 = .ok (.istore_n 1, 1) := by decide +kernel
theorem dX9_takeColours_7 : decode cX9_takeColours 7 = .ok (.aload_n 0, 1) := by decide +kernel
theorem dX9_takeColours_8 : decode cX9_takeColours 8 = .ok (.aload_n 0, 1) := by decide +kernel
theorem dX9_takeColours_9 : decode cX9_takeColours 9 = .ok (.getfield 112, 3) := by decide +kernel
theorem dX9_takeColours_12 : decode cX9_takeColours 12 = .ok (.putfield 118, 3) := by decide +kernel
theorem dX9_takeColours_15 : decode cX9_takeColours 15 = .ok (.iload_n 1, 1) := by decide +kernel
theorem dX9_takeColours_16 : decode cX9_takeColours 16 = .ok (.ifCond .le 7, 3) := by decide +kernel
theorem dX9_takeColours_19 : decode cX9_takeColours 19 = .ok (.iload_n 1, 1) := by decide +kernel
theorem dX9_takeColours_20 : decode cX9_takeColours 20 = .ok (.goto 10, 3) := by decide +kernel
theorem dX9_takeColours_23 : decode cX9_takeColours 23 = .ok (.aload_n 0, 1) := by decide +kernel
theorem dX9_takeColours_24 : decode cX9_takeColours 24 = .ok (.iconst 1, 1) := by decide +kernel
theorem dX9_takeColours_25 : decode cX9_takeColours 25 = .ok (.bipush 30, 2) := by decide +kernel
theorem dX9_takeColours_27 : decode cX9_takeColours 27 = .ok (.invokevirtual 115, 3) := by decide +kernel
theorem dX9_takeColours_30 : decode cX9_takeColours 30 = .ok (.istore_n 1, 1) := by decide +kernel
theorem dX9_takeColours_31 : decode cX9_takeColours 31 = .ok (.aload_n 0, 1) := by decide +kernel
theorem dX9_takeColours_32 : decode cX9_takeColours 32 = .ok (.aload_n 0, 1) := by decide +kernel
theorem dX9_takeColours_33 : decode cX9_takeColours 33 = .ok (.getfield 112, 3) := by decide +kernel
theorem dX9_takeColours_36 : decode cX9_takeColours 36 = .ok (.putfield 121, 3) := by decide +kernel
theorem dX9_takeColours_39 : decode cX9_takeColours 39 = .ok (.iload_n 1, 1) := by decide +kernel
theorem dX9_takeColours_40 : decode cX9_takeColours 40 = .ok (.ireturn, 1) := by decide +kernel
theorem dX9_takeCoat_0 : decode cX9_takeCoat 0 = .ok (.iconst 0, 1) := by decide +kernel
theorem dX9_takeCoat_1 : decode cX9_takeCoat 1 = .ok (.istore_n 1, 1) := by decide +kernel
theorem dX9_takeCoat_2 : decode cX9_takeCoat 2 = .ok (.iconst 0, 1) := by decide +kernel
theorem dX9_takeCoat_3 : decode cX9_takeCoat 3 = .ok (.istore_n 2, 1) := by decide +kernel
theorem dX9_takeCoat_4 : decode cX9_takeCoat 4 = .ok (.iconst 0, 1) := by decide +kernel
theorem dX9_takeCoat_5 : decode cX9_takeCoat 5 = .ok (.istore_n 3, 1) := by decide +kernel
theorem dX9_takeCoat_6 : decode cX9_takeCoat 6 = .ok (.iload_n 3, 1) := by decide +kernel
theorem dX9_takeCoat_7 : decode cX9_takeCoat 7 = .ok (.aload_n 0, 1) := by decide +kernel
theorem dX9_takeCoat_8 : decode cX9_takeCoat 8 = .ok (.getfield 118, 3) := by decide +kernel
theorem dX9_takeCoat_11 : decode cX9_takeCoat 11 = .ok (.if_icmp .ge 68, 3) := by decide +kernel
theorem dX9_takeCoat_14 : decode cX9_takeCoat 14 = .ok (.iload_n 2, 1) := by decide +kernel
theorem dX9_takeCoat_15 : decode cX9_takeCoat 15 = .ok (.ifCond .ne 64, 3) := by decide +kernel
theorem dX9_takeCoat_18 : decode cX9_takeCoat 18 = .ok (.iload_n 3, 1) := by decide +kernel
theorem dX9_takeCoat_19 : decode cX9_takeCoat 19 = .ok (.ifCond .le 12, 3) := by decide +kernel
theorem dX9_takeCoat_22 : decode cX9_takeCoat 22 = .ok (.aload_n 0, 1) := by decide +kernel
theorem dX9_takeCoat_23 : decode cX9_takeCoat 23 = .ok (.bipush 44, 2) := by decide +kernel
theorem dX9_takeCoat_25 : decode cX9_takeCoat 25 = .ok (.invokevirtual 124, 3) := by decide +kernel
theorem dX9_takeCoat_28 : decode cX9_takeCoat 28 = .ok (.goto 4, 3) := by decide +kernel
theorem dX9_takeCoat_31 : decode cX9_takeCoat 31 = .ok (.iconst 0, 1) := by decide +kernel
theorem dX9_takeCoat_32 : decode cX9_takeCoat 32 = .ok (.istore_n 2, 1) := by decide +kernel
theorem dX9_takeCoat_33 : decode cX9_takeCoat 33 = .ok (.iload_n 2, 1) := by decide +kernel
theorem dX9_takeCoat_34 : decode cX9_takeCoat 34 = .ok (.ifCond .le 7, 3) := by decide +kernel
theorem dX9_takeCoat_37 : decode cX9_takeCoat 37 = .ok (.iload_n 2, 1) := by decide +kernel
theorem dX9_takeCoat_38 : decode cX9_takeCoat 38 = .ok (.goto 10, 3) := by decide +kernel
theorem dX9_takeCoat_41 : decode cX9_takeCoat 41 = .ok (.aload_n 0, 1) := by decide +kernel
theorem dX9_takeCoat_42 : decode cX9_takeCoat 42 = .ok (.iconst 0, 1) := by decide +kernel
theorem dX9_takeCoat_43 : decode cX9_takeCoat 43 = .ok (.bipush 60, 2) := by decide +kernel
theorem dX9_takeCoat_45 : decode cX9_takeCoat 45 = .ok (.invokevirtual 115, 3) := by decide +kernel
theorem dX9_takeCoat_48 : decode cX9_takeCoat 48 = .ok (.istore_n 2, 1) := by decide +kernel
theorem dX9_takeCoat_49 : decode cX9_takeCoat 49 = .ok (.aload_n 0, 1) := by decide +kernel
theorem dX9_takeCoat_50 : decode cX9_takeCoat 50 = .ok (.getfield 29, 3) := by decide +kernel
theorem dX9_takeCoat_53 : decode cX9_takeCoat 53 = .ok (.iconst 5, 1) := by decide +kernel
theorem dX9_takeCoat_54 : decode cX9_takeCoat 54 = .ok (.aload_n 0, 1) := by decide +kernel
theorem dX9_takeCoat_55 : decode cX9_takeCoat 55 = .ok (.getfield 128, 3) := by decide +kernel
theorem dX9_takeCoat_58 : decode cX9_takeCoat 58 = .ok (.imul, 1) := by decide +kernel
theorem dX9_takeCoat_59 : decode cX9_takeCoat 59 = .ok (.iload_n 3, 1) := by decide +kernel
theorem dX9_takeCoat_60 : decode cX9_takeCoat 60 = .ok (.iadd, 1) := by decide +kernel
theorem dX9_takeCoat_61 : decode cX9_takeCoat 61 = .ok (.aload_n 0, 1) := by decide +kernel
theorem dX9_takeCoat_62 : decode cX9_takeCoat 62 = .ok (.getfield 112, 3) := by decide +kernel
theorem dX9_takeCoat_65 : decode cX9_takeCoat 65 = .ok (.iastore, 1) := by decide +kernel
theorem dX9_takeCoat_66 : decode cX9_takeCoat 66 = .ok (.iload_n 1, 1) := by decide +kernel
theorem dX9_takeCoat_67 : decode cX9_takeCoat 67 = .ok (.aload_n 0, 1) := by decide +kernel
theorem dX9_takeCoat_68 : decode cX9_takeCoat 68 = .ok (.getfield 112, 3) := by decide +kernel
theorem dX9_takeCoat_71 : decode cX9_takeCoat 71 = .ok (.iadd, 1) := by decide +kernel
theorem dX9_takeCoat_72 : decode cX9_takeCoat 72 = .ok (.istore_n 1, 1) := by decide +kernel
theorem dX9_takeCoat_73 : decode cX9_takeCoat 73 = .ok (.iinc 3 1, 3) := by decide +kernel
theorem dX9_takeCoat_76 : decode cX9_takeCoat 76 = .ok (.goto (-70), 3) := by decide +kernel
theorem dX9_takeCoat_79 : decode cX9_takeCoat 79 = .ok (.aload_n 0, 1) := by decide +kernel
theorem dX9_takeCoat_80 : decode cX9_takeCoat 80 = .ok (.dup, 1) := by decide +kernel
theorem dX9_takeCoat_81 : decode cX9_takeCoat 81 = .ok (.getfield 128, 3) := by decide +kernel
theorem dX9_takeCoat_84 : decode cX9_takeCoat 84 = .ok (.iconst 1, 1) := by decide +kernel
theorem dX9_takeCoat_85 : decode cX9_takeCoat 85 = .ok (.iadd, 1) := by decide +kernel
theorem dX9_takeCoat_86 : decode cX9_takeCoat 86 = .ok (.putfield 128, 3) := by decide +kernel
theorem dX9_takeCoat_89 : decode cX9_takeCoat 89 = .ok (.iload_n 2, 1) := by decide +kernel
theorem dX9_takeCoat_90 : decode cX9_takeCoat 90 = .ok (.ifCond .le 7, 3) := by decide +kernel
theorem dX9_takeCoat_93 : decode cX9_takeCoat 93 = .ok (.iload_n 2, 1) := by decide +kernel
theorem dX9_takeCoat_94 : decode cX9_takeCoat 94 = .ok (.goto 22, 3) := by decide +kernel
theorem dX9_takeCoat_97 : decode cX9_takeCoat 97 = .ok (.iload_n 1, 1) := by decide +kernel
theorem dX9_takeCoat_98 : decode cX9_takeCoat 98 = .ok (.bipush 60, 2) := by decide +kernel
theorem dX9_takeCoat_100 : decode cX9_takeCoat 100 = .ok (.if_icmp .eq 15, 3) := by decide +kernel
theorem dX9_takeCoat_103 : decode cX9_takeCoat 103 = .ok (.aload_n 0, 1) := by decide +kernel
theorem dX9_takeCoat_104 : decode cX9_takeCoat 104 = .ok (.iconst 4, 1) := by decide +kernel
theorem dX9_takeCoat_105 : decode cX9_takeCoat 105 = .ok (.aload_n 0, 1) := by decide +kernel
theorem dX9_takeCoat_106 : decode cX9_takeCoat 106 = .ok (.getfield 109, 3) := by decide +kernel
theorem dX9_takeCoat_109 : decode cX9_takeCoat 109 = .ok (.invokevirtual 105, 3) := by decide +kernel
theorem dX9_takeCoat_112 : decode cX9_takeCoat 112 = .ok (.goto 4, 3) := by decide +kernel
theorem dX9_takeCoat_115 : decode cX9_takeCoat 115 = .ok (.iconst 0, 1) := by decide +kernel
theorem dX9_takeCoat_116 : decode cX9_takeCoat 116 = .ok (.ireturn, 1) := by decide +kernel
theorem dX9_takeTold_0 : decode cX9_takeTold 0 = .ok (.aload_n 0, 1) := by decide +kernel
theorem dX9_takeTold_1 : decode cX9_takeTold 1 = .ok (.iconst 0, 1) := by decide +kernel
theorem dX9_takeTold_2 : decode cX9_takeTold 2 = .ok (.aload_n 0, 1) := by decide +kernel
theorem dX9_takeTold_3 : decode cX9_takeTold 3 = .ok (.getfield 128, 3) := by decide +kernel
theorem dX9_takeTold_6 : decode cX9_takeTold 6 = .ok (.iconst 1, 1) := by decide +kernel
theorem dX9_takeTold_7 : decode cX9_takeTold 7 = .ok (.isub, 1) := by decide +kernel
theorem dX9_takeTold_8 : decode cX9_takeTold 8 = .ok (.invokevirtual 115, 3) := by decide +kernel
theorem dX9_takeTold_11 : decode cX9_takeTold 11 = .ok (.ireturn, 1) := by decide +kernel
theorem dX9_takeKind_0 : decode cX9_takeKind 0 = .ok (.aload_n 0, 1) := by decide +kernel
theorem dX9_takeKind_1 : decode cX9_takeKind 1 = .ok (.invokevirtual 131, 3) := by decide +kernel
theorem dX9_takeKind_4 : decode cX9_takeKind 4 = .ok (.istore_n 2, 1) := by decide +kernel
theorem dX9_takeKind_5 : decode cX9_takeKind 5 = .ok (.iload_n 2, 1) := by decide +kernel
theorem dX9_takeKind_6 : decode cX9_takeKind 6 = .ok (.ifCond .ne 32, 3) := by decide +kernel
theorem dX9_takeKind_9 : decode cX9_takeKind 9 = .ok (.aload_n 0, 1) := by decide +kernel
theorem dX9_takeKind_10 : decode cX9_takeKind 10 = .ok (.getfield 134, 3) := by decide +kernel
theorem dX9_takeKind_13 : decode cX9_takeKind 13 = .ok (.aload_n 0, 1) := by decide +kernel
theorem dX9_takeKind_14 : decode cX9_takeKind 14 = .ok (.getfield 137, 3) := by decide +kernel
theorem dX9_takeKind_17 : decode cX9_takeKind 17 = .ok (.ior, 1) := by decide +kernel
theorem dX9_takeKind_18 : decode cX9_takeKind 18 = .ok (.aload_n 0, 1) := by decide +kernel
theorem dX9_takeKind_19 : decode cX9_takeKind 19 = .ok (.getfield 112, 3) := by decide +kernel
theorem dX9_takeKind_22 : decode cX9_takeKind 22 = .ok (.invokestatic 140, 3) := by decide +kernel
theorem dX9_takeKind_25 : decode cX9_takeKind 25 = .ok (.ifCond .eq 13, 3) := by decide +kernel
theorem dX9_takeKind_28 : decode cX9_takeKind 28 = .ok (.aload_n 0, 1) := by decide +kernel
theorem dX9_takeKind_29 : decode cX9_takeKind 29 = .ok (.iconst 4, 1) := by decide +kernel
theorem dX9_takeKind_30 : decode cX9_takeKind 30 = .ok (.aload_n 0, 1) := by decide +kernel
theorem dX9_takeKind_31 : decode cX9_takeKind 31 = .ok (.getfield 109, 3) := by decide +kernel
theorem dX9_takeKind_34 : decode cX9_takeKind 34 = .ok (.invokevirtual 105, 3) := by decide +kernel
theorem dX9_takeKind_37 : decode cX9_takeKind 37 = .ok (.ireturn, 1) := by decide +kernel
theorem dX9_takeKind_38 : decode cX9_takeKind 38 = .ok (.iload_n 2, 1) := by decide +kernel
theorem dX9_takeKind_39 : decode cX9_takeKind 39 = .ok (.ifCond .ne 49, 3) := by decide +kernel
theorem dX9_takeKind_42 : decode cX9_takeKind 42 = .ok (.aload_n 0, 1) := by decide +kernel
theorem dX9_takeKind_43 : decode cX9_takeKind 43 = .ok (.dup, 1) := by decide +kernel
theorem dX9_takeKind_44 : decode cX9_takeKind 44 = .ok (.getfield 134, 3) := by decide +kernel
theorem dX9_takeKind_47 : decode cX9_takeKind 47 = .ok (.iload_n 1, 1) := by decide +kernel
theorem dX9_takeKind_48 : decode cX9_takeKind 48 = .ok (.ifCond .eq 7, 3) := by decide +kernel
theorem dX9_takeKind_51 : decode cX9_takeKind 51 = .ok (.iconst 0, 1) := by decide +kernel
theorem dX9_takeKind_52 : decode cX9_takeKind 52 = .ok (.goto 9, 3) := by decide +kernel
theorem dX9_takeKind_55 : decode cX9_takeKind 55 = .ok (.iconst 1, 1) := by decide +kernel
theorem dX9_takeKind_56 : decode cX9_takeKind 56 = .ok (.aload_n 0, 1) := by decide +kernel
theorem dX9_takeKind_57 : decode cX9_takeKind 57 = .ok (.getfield 112, 3) := by decide +kernel
theorem dX9_takeKind_60 : decode cX9_takeKind 60 = .ok (.ishl, 1) := by decide +kernel
theorem dX9_takeKind_61 : decode cX9_takeKind 61 = .ok (.ior, 1) := by decide +kernel
theorem dX9_takeKind_62 : decode cX9_takeKind 62 = .ok (.putfield 134, 3) := by decide +kernel
theorem dX9_takeKind_65 : decode cX9_takeKind 65 = .ok (.aload_n 0, 1) := by decide +kernel
theorem dX9_takeKind_66 : decode cX9_takeKind 66 = .ok (.dup, 1) := by decide +kernel
theorem dX9_takeKind_67 : decode cX9_takeKind 67 = .ok (.getfield 137, 3) := by decide +kernel
theorem dX9_takeKind_70 : decode cX9_takeKind 70 = .ok (.iload_n 1, 1) := by decide +kernel
theorem dX9_takeKind_71 : decode cX9_takeKind 71 = .ok (.ifCond .eq 12, 3) := by decide +kernel
theorem dX9_takeKind_74 : decode cX9_takeKind 74 = .ok (.iconst 1, 1) := by decide +kernel
theorem dX9_takeKind_75 : decode cX9_takeKind 75 = .ok (.aload_n 0, 1) := by decide +kernel
theorem dX9_takeKind_76 : decode cX9_takeKind 76 = .ok (.getfield 112, 3) := by decide +kernel
theorem dX9_takeKind_79 : decode cX9_takeKind 79 = .ok (.ishl, 1) := by decide +kernel
theorem dX9_takeKind_80 : decode cX9_takeKind 80 = .ok (.goto 4, 3) := by decide +kernel
theorem dX9_takeKind_83 : decode cX9_takeKind 83 = .ok (.iconst 0, 1) := by decide +kernel
theorem dX9_takeKind_84 : decode cX9_takeKind 84 = .ok (.ior, 1) := by decide +kernel
theorem dX9_takeKind_85 : decode cX9_takeKind 85 = .ok (.putfield 137, 3) := by decide +kernel
theorem dX9_takeKind_88 : decode cX9_takeKind 88 = .ok (.iload_n 2, 1) := by decide +kernel
theorem dX9_takeKind_89 : decode cX9_takeKind 89 = .ok (.ireturn, 1) := by decide +kernel
theorem dX9_takeTouch_0 : decode cX9_takeTouch 0 = .ok (.aload_n 0, 1) := by decide +kernel
theorem dX9_takeTouch_1 : decode cX9_takeTouch 1 = .ok (.invokevirtual 131, 3) := by decide +kernel
theorem dX9_takeTouch_4 : decode cX9_takeTouch 4 = .ok (.istore_n 1, 1) := by decide +kernel
theorem dX9_takeTouch_5 : decode cX9_takeTouch 5 = .ok (.aload_n 0, 1) := by decide +kernel
theorem dX9_takeTouch_6 : decode cX9_takeTouch 6 = .ok (.getfield 32, 3) := by decide +kernel
theorem dX9_takeTouch_9 : decode cX9_takeTouch 9 = .ok (.aload_n 0, 1) := by decide +kernel
theorem dX9_takeTouch_10 : decode cX9_takeTouch 10 = .ok (.getfield 144, 3) := by decide +kernel
theorem dX9_takeTouch_13 : decode cX9_takeTouch 13 = .ok (.aload_n 0, 1) := by decide +kernel
theorem dX9_takeTouch_14 : decode cX9_takeTouch 14 = .ok (.getfield 112, 3) := by decide +kernel
theorem dX9_takeTouch_17 : decode cX9_takeTouch 17 = .ok (.iastore, 1) := by decide +kernel
theorem dX9_takeTouch_18 : decode cX9_takeTouch 18 = .ok (.iload_n 1, 1) := by decide +kernel
theorem dX9_takeTouch_19 : decode cX9_takeTouch 19 = .ok (.ifCond .le 7, 3) := by decide +kernel
theorem dX9_takeTouch_22 : decode cX9_takeTouch 22 = .ok (.iload_n 1, 1) := by decide +kernel
theorem dX9_takeTouch_23 : decode cX9_takeTouch 23 = .ok (.goto 7, 3) := by decide +kernel
theorem dX9_takeTouch_26 : decode cX9_takeTouch 26 = .ok (.aload_n 0, 1) := by decide +kernel
theorem dX9_takeTouch_27 : decode cX9_takeTouch 27 = .ok (.invokevirtual 131, 3) := by decide +kernel
theorem dX9_takeTouch_30 : decode cX9_takeTouch 30 = .ok (.istore_n 1, 1) := by decide +kernel
theorem dX9_takeTouch_31 : decode cX9_takeTouch 31 = .ok (.aload_n 0, 1) := by decide +kernel
theorem dX9_takeTouch_32 : decode cX9_takeTouch 32 = .ok (.getfield 35, 3) := by decide +kernel
theorem dX9_takeTouch_35 : decode cX9_takeTouch 35 = .ok (.aload_n 0, 1) := by decide +kernel
theorem dX9_takeTouch_36 : decode cX9_takeTouch 36 = .ok (.getfield 144, 3) := by decide +kernel
theorem dX9_takeTouch_39 : decode cX9_takeTouch 39 = .ok (.aload_n 0, 1) := by decide +kernel
theorem dX9_takeTouch_40 : decode cX9_takeTouch 40 = .ok (.getfield 112, 3) := by decide +kernel
theorem dX9_takeTouch_43 : decode cX9_takeTouch 43 = .ok (.iastore, 1) := by decide +kernel
theorem dX9_takeTouch_44 : decode cX9_takeTouch 44 = .ok (.iload_n 1, 1) := by decide +kernel
theorem dX9_takeTouch_45 : decode cX9_takeTouch 45 = .ok (.ifCond .ne 29, 3) := by decide +kernel
theorem dX9_takeTouch_48 : decode cX9_takeTouch 48 = .ok (.aload_n 0, 1) := by decide +kernel
theorem dX9_takeTouch_49 : decode cX9_takeTouch 49 = .ok (.getfield 32, 3) := by decide +kernel
theorem dX9_takeTouch_52 : decode cX9_takeTouch 52 = .ok (.aload_n 0, 1) := by decide +kernel
theorem dX9_takeTouch_53 : decode cX9_takeTouch 53 = .ok (.getfield 144, 3) := by decide +kernel
theorem dX9_takeTouch_56 : decode cX9_takeTouch 56 = .ok (.iaload, 1) := by decide +kernel
theorem dX9_takeTouch_57 : decode cX9_takeTouch 57 = .ok (.aload_n 0, 1) := by decide +kernel
theorem dX9_takeTouch_58 : decode cX9_takeTouch 58 = .ok (.getfield 112, 3) := by decide +kernel
theorem dX9_takeTouch_61 : decode cX9_takeTouch 61 = .ok (.if_icmp .ne 13, 3) := by decide +kernel
theorem dX9_takeTouch_64 : decode cX9_takeTouch 64 = .ok (.aload_n 0, 1) := by decide +kernel
theorem dX9_takeTouch_65 : decode cX9_takeTouch 65 = .ok (.iconst 4, 1) := by decide +kernel
theorem dX9_takeTouch_66 : decode cX9_takeTouch 66 = .ok (.aload_n 0, 1) := by decide +kernel
theorem dX9_takeTouch_67 : decode cX9_takeTouch 67 = .ok (.getfield 109, 3) := by decide +kernel
theorem dX9_takeTouch_70 : decode cX9_takeTouch 70 = .ok (.invokevirtual 105, 3) := by decide +kernel
theorem dX9_takeTouch_73 : decode cX9_takeTouch 73 = .ok (.ireturn, 1) := by decide +kernel
theorem dX9_takeTouch_74 : decode cX9_takeTouch 74 = .ok (.aload_n 0, 1) := by decide +kernel
theorem dX9_takeTouch_75 : decode cX9_takeTouch 75 = .ok (.dup, 1) := by decide +kernel
theorem dX9_takeTouch_76 : decode cX9_takeTouch 76 = .ok (.getfield 144, 3) := by decide +kernel
theorem dX9_takeTouch_79 : decode cX9_takeTouch 79 = .ok (.iconst 1, 1) := by decide +kernel
theorem dX9_takeTouch_80 : decode cX9_takeTouch 80 = .ok (.iadd, 1) := by decide +kernel
theorem dX9_takeTouch_81 : decode cX9_takeTouch 81 = .ok (.putfield 144, 3) := by decide +kernel
theorem dX9_takeTouch_84 : decode cX9_takeTouch 84 = .ok (.iload_n 1, 1) := by decide +kernel
theorem dX9_takeTouch_85 : decode cX9_takeTouch 85 = .ok (.ireturn, 1) := by decide +kernel
theorem dX9_takeDay_0 : decode cX9_takeDay 0 = .ok (.aload_n 0, 1) := by decide +kernel
theorem dX9_takeDay_1 : decode cX9_takeDay 1 = .ok (.invokevirtual 147, 3) := by decide +kernel
theorem dX9_takeDay_4 : decode cX9_takeDay 4 = .ok (.istore_n 1, 1) := by decide +kernel
theorem dX9_takeDay_5 : decode cX9_takeDay 5 = .ok (.iload_n 1, 1) := by decide +kernel
theorem dX9_takeDay_6 : decode cX9_takeDay 6 = .ok (.ifCond .ne 49, 3) := by decide +kernel
theorem dX9_takeDay_9 : decode cX9_takeDay 9 = .ok (.aload_n 0, 1) := by decide +kernel
theorem dX9_takeDay_10 : decode cX9_takeDay 10 = .ok (.invokevirtual 97, 3) := by decide +kernel
theorem dX9_takeDay_13 : decode cX9_takeDay 13 = .ok (.bipush 44, 2) := by decide +kernel
theorem dX9_takeDay_15 : decode cX9_takeDay 15 = .ok (.if_icmp .ne 40, 3) := by decide +kernel
theorem dX9_takeDay_18 : decode cX9_takeDay 18 = .ok (.aload_n 0, 1) := by decide +kernel
theorem dX9_takeDay_19 : decode cX9_takeDay 19 = .ok (.getfield 144, 3) := by decide +kernel
theorem dX9_takeDay_22 : decode cX9_takeDay 22 = .ok (.bipush 10, 2) := by decide +kernel
theorem dX9_takeDay_24 : decode cX9_takeDay 24 = .ok (.if_icmp .ne 13, 3) := by decide +kernel
theorem dX9_takeDay_27 : decode cX9_takeDay 27 = .ok (.aload_n 0, 1) := by decide +kernel
theorem dX9_takeDay_28 : decode cX9_takeDay 28 = .ok (.iconst 1, 1) := by decide +kernel
theorem dX9_takeDay_29 : decode cX9_takeDay 29 = .ok (.aload_n 0, 1) := by decide +kernel
theorem dX9_takeDay_30 : decode cX9_takeDay 30 = .ok (.getfield 94, 3) := by decide +kernel
theorem dX9_takeDay_33 : decode cX9_takeDay 33 = .ok (.invokevirtual 105, 3) := by decide +kernel
theorem dX9_takeDay_36 : decode cX9_takeDay 36 = .ok (.ireturn, 1) := by decide +kernel
theorem dX9_takeDay_37 : decode cX9_takeDay 37 = .ok (.aload_n 0, 1) := by decide +kernel
theorem dX9_takeDay_38 : decode cX9_takeDay 38 = .ok (.dup, 1) := by decide +kernel
theorem dX9_takeDay_39 : decode cX9_takeDay 39 = .ok (.getfield 94, 3) := by decide +kernel
theorem dX9_takeDay_42 : decode cX9_takeDay 42 = .ok (.iconst 1, 1) := by decide +kernel
theorem dX9_takeDay_43 : decode cX9_takeDay 43 = .ok (.iadd, 1) := by decide +kernel
theorem dX9_takeDay_44 : decode cX9_takeDay 44 = .ok (.putfield 94, 3) := by decide +kernel
theorem dX9_takeDay_47 : decode cX9_takeDay 47 = .ok (.aload_n 0, 1) := by decide +kernel
theorem dX9_takeDay_48 : decode cX9_takeDay 48 = .ok (.invokevirtual 147, 3) := by decide +kernel
theorem dX9_takeDay_51 : decode cX9_takeDay 51 = .ok (.istore_n 1, 1) := by decide +kernel
theorem dX9_takeDay_52 : decode cX9_takeDay 52 = .ok (.goto (-47), 3) := by decide +kernel
theorem dX9_takeDay_55 : decode cX9_takeDay 55 = .ok (.iload_n 1, 1) := by decide +kernel
theorem dX9_takeDay_56 : decode cX9_takeDay 56 = .ok (.ireturn, 1) := by decide +kernel
theorem dX9_takeClause_0 : decode cX9_takeClause 0 = .ok (.aload_n 0, 1) := by decide +kernel
theorem dX9_takeClause_1 : decode cX9_takeClause 1 = .ok (.invokevirtual 97, 3) := by decide +kernel
theorem dX9_takeClause_4 : decode cX9_takeClause 4 = .ok (.istore_n 1, 1) := by decide +kernel
theorem dX9_takeClause_5 : decode cX9_takeClause 5 = .ok (.iload_n 1, 1) := by decide +kernel
theorem dX9_takeClause_6 : decode cX9_takeClause 6 = .ok (.bipush 99, 2) := by decide +kernel
theorem dX9_takeClause_8 : decode cX9_takeClause 8 = .ok (.if_icmp .ne 7, 3) := by decide +kernel
theorem dX9_takeClause_11 : decode cX9_takeClause 11 = .ok (.iconst 0, 1) := by decide +kernel
theorem dX9_takeClause_12 : decode cX9_takeClause 12 = .ok (.goto 44, 3) := by decide +kernel
theorem dX9_takeClause_15 : decode cX9_takeClause 15 = .ok (.iload_n 1, 1) := by decide +kernel
theorem dX9_takeClause_16 : decode cX9_takeClause 16 = .ok (.bipush 112, 2) := by decide +kernel
theorem dX9_takeClause_18 : decode cX9_takeClause 18 = .ok (.if_icmp .ne 7, 3) := by decide +kernel
theorem dX9_takeClause_21 : decode cX9_takeClause 21 = .ok (.iconst 1, 1) := by decide +kernel
theorem dX9_takeClause_22 : decode cX9_takeClause 22 = .ok (.goto 34, 3) := by decide +kernel
theorem dX9_takeClause_25 : decode cX9_takeClause 25 = .ok (.iload_n 1, 1) := by decide +kernel
theorem dX9_takeClause_26 : decode cX9_takeClause 26 = .ok (.bipush 103, 2) := by decide +kernel
theorem dX9_takeClause_28 : decode cX9_takeClause 28 = .ok (.if_icmp .ne 7, 3) := by decide +kernel
theorem dX9_takeClause_31 : decode cX9_takeClause 31 = .ok (.iconst 2, 1) := by decide +kernel
theorem dX9_takeClause_32 : decode cX9_takeClause 32 = .ok (.goto 24, 3) := by decide +kernel
theorem dX9_takeClause_35 : decode cX9_takeClause 35 = .ok (.iload_n 1, 1) := by decide +kernel
theorem dX9_takeClause_36 : decode cX9_takeClause 36 = .ok (.bipush 116, 2) := by decide +kernel
theorem dX9_takeClause_38 : decode cX9_takeClause 38 = .ok (.if_icmp .ne 7, 3) := by decide +kernel
theorem dX9_takeClause_41 : decode cX9_takeClause 41 = .ok (.iconst 3, 1) := by decide +kernel
theorem dX9_takeClause_42 : decode cX9_takeClause 42 = .ok (.goto 14, 3) := by decide +kernel
theorem dX9_takeClause_45 : decode cX9_takeClause 45 = .ok (.iload_n 1, 1) := by decide +kernel
theorem dX9_takeClause_46 : decode cX9_takeClause 46 = .ok (.bipush 104, 2) := by decide +kernel
theorem dX9_takeClause_48 : decode cX9_takeClause 48 = .ok (.if_icmp .ne 7, 3) := by decide +kernel
theorem dX9_takeClause_51 : decode cX9_takeClause 51 = .ok (.iconst 4, 1) := by decide +kernel
theorem dX9_takeClause_52 : decode cX9_takeClause 52 = .ok (.goto 4, 3) := by decide +kernel
theorem dX9_takeClause_55 : decode cX9_takeClause 55 = .ok (.iconst (-1), 1) := by decide +kernel
theorem dX9_takeClause_56 : decode cX9_takeClause 56 = .ok (.istore_n 2, 1) := by decide +kernel
theorem dX9_takeClause_57 : decode cX9_takeClause 57 = .ok (.iload_n 2, 1) := by decide +kernel
theorem dX9_takeClause_58 : decode cX9_takeClause 58 = .ok (.ifCond .lt 14, 3) := by decide +kernel
theorem dX9_takeClause_61 : decode cX9_takeClause 61 = .ok (.iload_n 2, 1) := by decide +kernel
theorem dX9_takeClause_62 : decode cX9_takeClause 62 = .ok (.ifCond .le 20, 3) := by decide +kernel
theorem dX9_takeClause_65 : decode cX9_takeClause 65 = .ok (.aload_n 0, 1) := by decide +kernel
theorem dX9_takeClause_66 : decode cX9_takeClause 66 = .ok (.getfield 118, 3) := by decide +kernel
theorem dX9_takeClause_69 : decode cX9_takeClause 69 = .ok (.ifCond .ne 13, 3) := by decide +kernel
theorem dX9_takeClause_72 : decode cX9_takeClause 72 = .ok (.aload_n 0, 1) := by decide +kernel
theorem dX9_takeClause_73 : decode cX9_takeClause 73 = .ok (.iconst 1, 1) := by decide +kernel
theorem dX9_takeClause_74 : decode cX9_takeClause 74 = .ok (.aload_n 0, 1) := by decide +kernel
theorem dX9_takeClause_75 : decode cX9_takeClause 75 = .ok (.getfield 94, 3) := by decide +kernel
theorem dX9_takeClause_78 : decode cX9_takeClause 78 = .ok (.invokevirtual 105, 3) := by decide +kernel
theorem dX9_takeClause_81 : decode cX9_takeClause 81 = .ok (.ireturn, 1) := by decide +kernel
theorem dX9_takeClause_82 : decode cX9_takeClause 82 = .ok (.iload_n 2, 1) := by decide +kernel
theorem dX9_takeClause_83 : decode cX9_takeClause 83 = .ok (.ifCond .ne 18, 3) := by decide +kernel
theorem dX9_takeClause_86 : decode cX9_takeClause 86 = .ok (.aload_n 0, 1) := by decide +kernel
theorem dX9_takeClause_87 : decode cX9_takeClause 87 = .ok (.getfield 118, 3) := by decide +kernel
theorem dX9_takeClause_90 : decode cX9_takeClause 90 = .ok (.ifCond .le 7, 3) := by decide +kernel
theorem dX9_takeClause_93 : decode cX9_takeClause 93 = .ok (.iconst 1, 1) := by decide +kernel
theorem dX9_takeClause_94 : decode cX9_takeClause 94 = .ok (.goto 46, 3) := by decide +kernel
theorem dX9_takeClause_97 : decode cX9_takeClause 97 = .ok (.iconst 0, 1) := by decide +kernel
theorem dX9_takeClause_98 : decode cX9_takeClause 98 = .ok (.goto 42, 3) := by decide +kernel
theorem dX9_takeClause_101 : decode cX9_takeClause 101 = .ok (.iload_n 2, 1) := by decide +kernel
theorem dX9_takeClause_102 : decode cX9_takeClause 102 = .ok (.iconst 1, 1) := by decide +kernel
theorem dX9_takeClause_103 : decode cX9_takeClause 103 = .ok (.if_icmp .ne 20, 3) := by decide +kernel
theorem dX9_takeClause_106 : decode cX9_takeClause 106 = .ok (.aload_n 0, 1) := by decide +kernel
theorem dX9_takeClause_107 : decode cX9_takeClause 107 = .ok (.getfield 128, 3) := by decide +kernel
theorem dX9_takeClause_110 : decode cX9_takeClause 110 = .ok (.bipush 6, 2) := by decide +kernel
theorem dX9_takeClause_112 : decode cX9_takeClause 112 = .ok (.if_icmp .ne 7, 3) := by decide +kernel
theorem dX9_takeClause_115 : decode cX9_takeClause 115 = .ok (.iconst 1, 1) := by decide +kernel
theorem dX9_takeClause_116 : decode cX9_takeClause 116 = .ok (.goto 24, 3) := by decide +kernel
theorem dX9_takeClause_119 : decode cX9_takeClause 119 = .ok (.iconst 0, 1) := by decide +kernel
theorem dX9_takeClause_120 : decode cX9_takeClause 120 = .ok (.goto 20, 3) := by decide +kernel
theorem dX9_takeClause_123 : decode cX9_takeClause 123 = .ok (.iload_n 2, 1) := by decide +kernel
theorem dX9_takeClause_124 : decode cX9_takeClause 124 = .ok (.iconst 3, 1) := by decide +kernel
theorem dX9_takeClause_125 : decode cX9_takeClause 125 = .ok (.if_icmp .ne 14, 3) := by decide +kernel
theorem dX9_takeClause_128 : decode cX9_takeClause 128 = .ok (.aload_n 0, 1) := by decide +kernel
theorem dX9_takeClause_129 : decode cX9_takeClause 129 = .ok (.getfield 144, 3) := by decide +kernel
theorem dX9_takeClause_132 : decode cX9_takeClause 132 = .ok (.ifCond .le 7, 3) := by decide +kernel
theorem dX9_takeClause_135 : decode cX9_takeClause 135 = .ok (.iconst 1, 1) := by decide +kernel
theorem dX9_takeClause_136 : decode cX9_takeClause 136 = .ok (.goto 4, 3) := by decide +kernel
theorem dX9_takeClause_139 : decode cX9_takeClause 139 = .ok (.iconst 0, 1) := by decide +kernel
theorem dX9_takeClause_140 : decode cX9_takeClause 140 = .ok (.istore_n 3, 1) := by decide +kernel
theorem dX9_takeClause_141 : decode cX9_takeClause 141 = .ok (.iload_n 3, 1) := by decide +kernel
theorem dX9_takeClause_142 : decode cX9_takeClause 142 = .ok (.ifCond .eq 13, 3) := by decide +kernel
theorem dX9_takeClause_145 : decode cX9_takeClause 145 = .ok (.aload_n 0, 1) := by decide +kernel
theorem dX9_takeClause_146 : decode cX9_takeClause 146 = .ok (.iconst 3, 1) := by decide +kernel
theorem dX9_takeClause_147 : decode cX9_takeClause 147 = .ok (.aload_n 0, 1) := by decide +kernel
theorem dX9_takeClause_148 : decode cX9_takeClause 148 = .ok (.getfield 94, 3) := by decide +kernel
theorem dX9_takeClause_151 : decode cX9_takeClause 151 = .ok (.invokevirtual 105, 3) := by decide +kernel
theorem dX9_takeClause_154 : decode cX9_takeClause 154 = .ok (.ireturn, 1) := by decide +kernel
theorem dX9_takeClause_155 : decode cX9_takeClause 155 = .ok (.aload_n 0, 1) := by decide +kernel
theorem dX9_takeClause_156 : decode cX9_takeClause 156 = .ok (.dup, 1) := by decide +kernel
theorem dX9_takeClause_157 : decode cX9_takeClause 157 = .ok (.getfield 94, 3) := by decide +kernel
theorem dX9_takeClause_160 : decode cX9_takeClause 160 = .ok (.iconst 1, 1) := by decide +kernel
theorem dX9_takeClause_161 : decode cX9_takeClause 161 = .ok (.iadd, 1) := by decide +kernel
theorem dX9_takeClause_162 : decode cX9_takeClause 162 = .ok (.putfield 94, 3) := by decide +kernel
theorem dX9_takeClause_165 : decode cX9_takeClause 165 = .ok (.iload_n 2, 1) := by decide +kernel
theorem dX9_takeClause_166 : decode cX9_takeClause 166 = .ok (.ifCond .ne 10, 3) := by decide +kernel
theorem dX9_takeClause_169 : decode cX9_takeClause 169 = .ok (.aload_n 0, 1) := by decide +kernel
theorem dX9_takeClause_170 : decode cX9_takeClause 170 = .ok (.invokevirtual 150, 3) := by decide +kernel
theorem dX9_takeClause_173 : decode cX9_takeClause 173 = .ok (.goto 41, 3) := by decide +kernel
theorem dX9_takeClause_176 : decode cX9_takeClause 176 = .ok (.iload_n 2, 1) := by decide +kernel
theorem dX9_takeClause_177 : decode cX9_takeClause 177 = .ok (.iconst 1, 1) := by decide +kernel
theorem dX9_takeClause_178 : decode cX9_takeClause 178 = .ok (.if_icmp .ne 10, 3) := by decide +kernel
theorem dX9_takeClause_181 : decode cX9_takeClause 181 = .ok (.aload_n 0, 1) := by decide +kernel
theorem dX9_takeClause_182 : decode cX9_takeClause 182 = .ok (.invokevirtual 153, 3) := by decide +kernel
theorem dX9_takeClause_185 : decode cX9_takeClause 185 = .ok (.goto 29, 3) := by decide +kernel
theorem dX9_takeClause_188 : decode cX9_takeClause 188 = .ok (.iload_n 2, 1) := by decide +kernel
theorem dX9_takeClause_189 : decode cX9_takeClause 189 = .ok (.iconst 3, 1) := by decide +kernel
theorem dX9_takeClause_190 : decode cX9_takeClause 190 = .ok (.if_icmp .ne 10, 3) := by decide +kernel
theorem dX9_takeClause_193 : decode cX9_takeClause 193 = .ok (.aload_n 0, 1) := by decide +kernel
theorem dX9_takeClause_194 : decode cX9_takeClause 194 = .ok (.invokevirtual 156, 3) := by decide +kernel
theorem dX9_takeClause_197 : decode cX9_takeClause 197 = .ok (.goto 17, 3) := by decide +kernel
theorem dX9_takeClause_200 : decode cX9_takeClause 200 = .ok (.aload_n 0, 1) := by decide +kernel
theorem dX9_takeClause_201 : decode cX9_takeClause 201 = .ok (.iload_n 2, 1) := by decide +kernel
theorem dX9_takeClause_202 : decode cX9_takeClause 202 = .ok (.iconst 4, 1) := by decide +kernel
theorem dX9_takeClause_203 : decode cX9_takeClause 203 = .ok (.if_icmp .ne 7, 3) := by decide +kernel
theorem dX9_takeClause_206 : decode cX9_takeClause 206 = .ok (.iconst 1, 1) := by decide +kernel
theorem dX9_takeClause_207 : decode cX9_takeClause 207 = .ok (.goto 4, 3) := by decide +kernel
theorem dX9_takeClause_210 : decode cX9_takeClause 210 = .ok (.iconst 0, 1) := by decide +kernel
theorem dX9_takeClause_211 : decode cX9_takeClause 211 = .ok (.invokevirtual 159, 3) := by decide +kernel
theorem dX9_takeClause_214 : decode cX9_takeClause 214 = .ok (.istore 4, 2) := by decide +kernel
theorem dX9_takeClause_216 : decode cX9_takeClause 216 = .ok (.iload 4, 2) := by decide +kernel
theorem dX9_takeClause_218 : decode cX9_takeClause 218 = .ok (.ifCond .le 8, 3) := by decide +kernel
theorem dX9_takeClause_221 : decode cX9_takeClause 221 = .ok (.iload 4, 2) := by decide +kernel
theorem dX9_takeClause_223 : decode cX9_takeClause 223 = .ok (.goto 9, 3) := by decide +kernel
theorem dX9_takeClause_226 : decode cX9_takeClause 226 = .ok (.aload_n 0, 1) := by decide +kernel
theorem dX9_takeClause_227 : decode cX9_takeClause 227 = .ok (.bipush 59, 2) := by decide +kernel
theorem dX9_takeClause_229 : decode cX9_takeClause 229 = .ok (.invokevirtual 124, 3) := by decide +kernel
theorem dX9_takeClause_232 : decode cX9_takeClause 232 = .ok (.ireturn, 1) := by decide +kernel
theorem dX9_takeRead_0 : decode cX9_takeRead 0 = .ok (.aload_n 0, 1) := by decide +kernel
theorem dX9_takeRead_1 : decode cX9_takeRead 1 = .ok (.aload_n 0, 1) := by decide +kernel
theorem dX9_takeRead_2 : decode cX9_takeRead 2 = .ok (.getfield 118, 3) := by decide +kernel
theorem dX9_takeRead_5 : decode cX9_takeRead 5 = .ok (.putfield 75, 3) := by decide +kernel
theorem dX9_takeRead_8 : decode cX9_takeRead 8 = .ok (.aload_n 0, 1) := by decide +kernel
theorem dX9_takeRead_9 : decode cX9_takeRead 9 = .ok (.aload_n 0, 1) := by decide +kernel
theorem dX9_takeRead_10 : decode cX9_takeRead 10 = .ok (.getfield 121, 3) := by decide +kernel
theorem dX9_takeRead_13 : decode cX9_takeRead 13 = .ok (.putfield 163, 3) := by decide +kernel
theorem dX9_takeRead_16 : decode cX9_takeRead 16 = .ok (.aload_n 0, 1) := by decide +kernel
theorem dX9_takeRead_17 : decode cX9_takeRead 17 = .ok (.aload_n 0, 1) := by decide +kernel
theorem dX9_takeRead_18 : decode cX9_takeRead 18 = .ok (.getfield 128, 3) := by decide +kernel
theorem dX9_takeRead_21 : decode cX9_takeRead 21 = .ok (.putfield 78, 3) := by decide +kernel
theorem dX9_takeRead_24 : decode cX9_takeRead 24 = .ok (.aload_n 0, 1) := by decide +kernel
theorem dX9_takeRead_25 : decode cX9_takeRead 25 = .ok (.aload_n 0, 1) := by decide +kernel
theorem dX9_takeRead_26 : decode cX9_takeRead 26 = .ok (.getfield 137, 3) := by decide +kernel
theorem dX9_takeRead_29 : decode cX9_takeRead 29 = .ok (.putfield 166, 3) := by decide +kernel
theorem dX9_takeRead_32 : decode cX9_takeRead 32 = .ok (.aload_n 0, 1) := by decide +kernel
theorem dX9_takeRead_33 : decode cX9_takeRead 33 = .ok (.aload_n 0, 1) := by decide +kernel
theorem dX9_takeRead_34 : decode cX9_takeRead 34 = .ok (.getfield 144, 3) := by decide +kernel
theorem dX9_takeRead_37 : decode cX9_takeRead 37 = .ok (.putfield 169, 3) := by decide +kernel
theorem dX9_takeRead_40 : decode cX9_takeRead 40 = .ok (.iconst 0, 1) := by decide +kernel
theorem dX9_takeRead_41 : decode cX9_takeRead 41 = .ok (.istore_n 1, 1) := by decide +kernel
theorem dX9_takeRead_42 : decode cX9_takeRead 42 = .ok (.iload_n 1, 1) := by decide +kernel
theorem dX9_takeRead_43 : decode cX9_takeRead 43 = .ok (.bipush 30, 2) := by decide +kernel
theorem dX9_takeRead_45 : decode cX9_takeRead 45 = .ok (.if_icmp .ge 33, 3) := by decide +kernel
theorem dX9_takeRead_48 : decode cX9_takeRead 48 = .ok (.aload_n 0, 1) := by decide +kernel
theorem dX9_takeRead_49 : decode cX9_takeRead 49 = .ok (.getfield 7, 3) := by decide +kernel
theorem dX9_takeRead_52 : decode cX9_takeRead 52 = .ok (.iload_n 1, 1) := by decide +kernel
theorem dX9_takeRead_53 : decode cX9_takeRead 53 = .ok (.aload_n 0, 1) := by decide +kernel
theorem dX9_takeRead_54 : decode cX9_takeRead 54 = .ok (.getfield 29, 3) := by decide +kernel
theorem dX9_takeRead_57 : decode cX9_takeRead 57 = .ok (.iload_n 1, 1) := by decide +kernel
theorem dX9_takeRead_58 : decode cX9_takeRead 58 = .ok (.iaload, 1) := by decide +kernel
theorem dX9_takeRead_59 : decode cX9_takeRead 59 = .ok (.iastore, 1) := by decide +kernel
theorem dX9_takeRead_60 : decode cX9_takeRead 60 = .ok (.aload_n 0, 1) := by decide +kernel
theorem dX9_takeRead_61 : decode cX9_takeRead 61 = .ok (.getfield 19, 3) := by decide +kernel
theorem dX9_takeRead_64 : decode cX9_takeRead 64 = .ok (.iload_n 1, 1) := by decide +kernel
theorem dX9_takeRead_65 : decode cX9_takeRead 65 = .ok (.aload_n 0, 1) := by decide +kernel
theorem dX9_takeRead_66 : decode cX9_takeRead 66 = .ok (.getfield 29, 3) := by decide +kernel
theorem dX9_takeRead_69 : decode cX9_takeRead 69 = .ok (.iload_n 1, 1) := by decide +kernel
theorem dX9_takeRead_70 : decode cX9_takeRead 70 = .ok (.iaload, 1) := by decide +kernel
theorem dX9_takeRead_71 : decode cX9_takeRead 71 = .ok (.iastore, 1) := by decide +kernel
theorem dX9_takeRead_72 : decode cX9_takeRead 72 = .ok (.iinc 1 1, 3) := by decide +kernel
theorem dX9_takeRead_75 : decode cX9_takeRead 75 = .ok (.goto (-33), 3) := by decide +kernel
theorem dX9_takeRead_78 : decode cX9_takeRead 78 = .ok (.iconst 0, 1) := by decide +kernel
theorem dX9_takeRead_79 : decode cX9_takeRead 79 = .ok (.istore_n 1, 1) := by decide +kernel
theorem dX9_takeRead_80 : decode cX9_takeRead 80 = .ok (.iload_n 1, 1) := by decide +kernel
theorem dX9_takeRead_81 : decode cX9_takeRead 81 = .ok (.bipush 10, 2) := by decide +kernel
theorem dX9_takeRead_83 : decode cX9_takeRead 83 = .ok (.if_icmp .ge 33, 3) := by decide +kernel
theorem dX9_takeRead_86 : decode cX9_takeRead 86 = .ok (.aload_n 0, 1) := by decide +kernel
theorem dX9_takeRead_87 : decode cX9_takeRead 87 = .ok (.getfield 13, 3) := by decide +kernel
theorem dX9_takeRead_90 : decode cX9_takeRead 90 = .ok (.iload_n 1, 1) := by decide +kernel
theorem dX9_takeRead_91 : decode cX9_takeRead 91 = .ok (.aload_n 0, 1) := by decide +kernel
theorem dX9_takeRead_92 : decode cX9_takeRead 92 = .ok (.getfield 32, 3) := by decide +kernel
theorem dX9_takeRead_95 : decode cX9_takeRead 95 = .ok (.iload_n 1, 1) := by decide +kernel
theorem dX9_takeRead_96 : decode cX9_takeRead 96 = .ok (.iaload, 1) := by decide +kernel
theorem dX9_takeRead_97 : decode cX9_takeRead 97 = .ok (.iastore, 1) := by decide +kernel
theorem dX9_takeRead_98 : decode cX9_takeRead 98 = .ok (.aload_n 0, 1) := by decide +kernel
theorem dX9_takeRead_99 : decode cX9_takeRead 99 = .ok (.getfield 16, 3) := by decide +kernel
theorem dX9_takeRead_102 : decode cX9_takeRead 102 = .ok (.iload_n 1, 1) := by decide +kernel
theorem dX9_takeRead_103 : decode cX9_takeRead 103 = .ok (.aload_n 0, 1) := by decide +kernel
theorem dX9_takeRead_104 : decode cX9_takeRead 104 = .ok (.getfield 35, 3) := by decide +kernel
theorem dX9_takeRead_107 : decode cX9_takeRead 107 = .ok (.iload_n 1, 1) := by decide +kernel
theorem dX9_takeRead_108 : decode cX9_takeRead 108 = .ok (.iaload, 1) := by decide +kernel
theorem dX9_takeRead_109 : decode cX9_takeRead 109 = .ok (.iastore, 1) := by decide +kernel
theorem dX9_takeRead_110 : decode cX9_takeRead 110 = .ok (.iinc 1 1, 3) := by decide +kernel
theorem dX9_takeRead_113 : decode cX9_takeRead 113 = .ok (.goto (-33), 3) := by decide +kernel
theorem dX9_takeRead_116 : decode cX9_takeRead 116 = .ok (.aload_n 0, 1) := by decide +kernel
theorem dX9_takeRead_117 : decode cX9_takeRead 117 = .ok (.getfield 19, 3) := by decide +kernel
theorem dX9_takeRead_120 : decode cX9_takeRead 120 = .ok (.bipush 30, 2) := by decide +kernel
theorem dX9_takeRead_122 : decode cX9_takeRead 122 = .ok (.aload_n 0, 1) := by decide +kernel
theorem dX9_takeRead_123 : decode cX9_takeRead 123 = .ok (.getfield 134, 3) := by decide +kernel
theorem dX9_takeRead_126 : decode cX9_takeRead 126 = .ok (.iastore, 1) := by decide +kernel
theorem dX9_takeRead_127 : decode cX9_takeRead 127 = .ok (.aload_n 0, 1) := by decide +kernel
theorem dX9_takeRead_128 : decode cX9_takeRead 128 = .ok (.getfield 19, 3) := by decide +kernel
theorem dX9_takeRead_131 : decode cX9_takeRead 131 = .ok (.bipush 31, 2) := by decide +kernel
theorem dX9_takeRead_133 : decode cX9_takeRead 133 = .ok (.iconst 0, 1) := by decide +kernel
theorem dX9_takeRead_134 : decode cX9_takeRead 134 = .ok (.iastore, 1) := by decide +kernel
theorem dX9_takeRead_135 : decode cX9_takeRead 135 = .ok (.aload_n 0, 1) := by decide +kernel
theorem dX9_takeRead_136 : decode cX9_takeRead 136 = .ok (.getfield 19, 3) := by decide +kernel
theorem dX9_takeRead_139 : decode cX9_takeRead 139 = .ok (.bipush 32, 2) := by decide +kernel
theorem dX9_takeRead_141 : decode cX9_takeRead 141 = .ok (.iconst 0, 1) := by decide +kernel
theorem dX9_takeRead_142 : decode cX9_takeRead 142 = .ok (.iastore, 1) := by decide +kernel
theorem dX9_takeRead_143 : decode cX9_takeRead 143 = .ok (.return_, 1) := by decide +kernel
theorem dX9_house_0 : decode cX9_house 0 = .ok (.aload_n 0, 1) := by decide +kernel
theorem dX9_house_1 : decode cX9_house 1 = .ok (.iconst (-1), 1) := by decide +kernel
theorem dX9_house_2 : decode cX9_house 2 = .ok (.putfield 25, 3) := by decide +kernel
theorem dX9_house_5 : decode cX9_house 5 = .ok (.aload_n 0, 1) := by decide +kernel
theorem dX9_house_6 : decode cX9_house 6 = .ok (.iconst 0, 1) := by decide +kernel
theorem dX9_house_7 : decode cX9_house 7 = .ok (.putfield 94, 3) := by decide +kernel
theorem dX9_house_10 : decode cX9_house 10 = .ok (.aload_n 0, 1) := by decide +kernel
theorem dX9_house_11 : decode cX9_house 11 = .ok (.iconst 0, 1) := by decide +kernel
theorem dX9_house_12 : decode cX9_house 12 = .ok (.putfield 118, 3) := by decide +kernel
theorem dX9_house_15 : decode cX9_house 15 = .ok (.aload_n 0, 1) := by decide +kernel
theorem dX9_house_16 : decode cX9_house 16 = .ok (.iconst 0, 1) := by decide +kernel
theorem dX9_house_17 : decode cX9_house 17 = .ok (.putfield 121, 3) := by decide +kernel
theorem dX9_house_20 : decode cX9_house 20 = .ok (.aload_n 0, 1) := by decide +kernel
theorem dX9_house_21 : decode cX9_house 21 = .ok (.iconst 0, 1) := by decide +kernel
theorem dX9_house_22 : decode cX9_house 22 = .ok (.putfield 128, 3) := by decide +kernel
theorem dX9_house_25 : decode cX9_house 25 = .ok (.aload_n 0, 1) := by decide +kernel
theorem dX9_house_26 : decode cX9_house 26 = .ok (.iconst 0, 1) := by decide +kernel
theorem dX9_house_27 : decode cX9_house 27 = .ok (.putfield 134, 3) := by decide +kernel
theorem dX9_house_30 : decode cX9_house 30 = .ok (.aload_n 0, 1) := by decide +kernel
theorem dX9_house_31 : decode cX9_house 31 = .ok (.iconst 0, 1) := by decide +kernel
theorem dX9_house_32 : decode cX9_house 32 = .ok (.putfield 137, 3) := by decide +kernel
theorem dX9_house_35 : decode cX9_house 35 = .ok (.aload_n 0, 1) := by decide +kernel
theorem dX9_house_36 : decode cX9_house 36 = .ok (.iconst 0, 1) := by decide +kernel
theorem dX9_house_37 : decode cX9_house 37 = .ok (.putfield 144, 3) := by decide +kernel
theorem dX9_house_40 : decode cX9_house 40 = .ok (.iconst 0, 1) := by decide +kernel
theorem dX9_house_41 : decode cX9_house 41 = .ok (.istore_n 1, 1) := by decide +kernel
theorem dX9_house_42 : decode cX9_house 42 = .ok (.iload_n 1, 1) := by decide +kernel
theorem dX9_house_43 : decode cX9_house 43 = .ok (.bipush 30, 2) := by decide +kernel
theorem dX9_house_45 : decode cX9_house 45 = .ok (.if_icmp .ge 16, 3) := by decide +kernel
theorem dX9_house_48 : decode cX9_house 48 = .ok (.aload_n 0, 1) := by decide +kernel
theorem dX9_house_49 : decode cX9_house 49 = .ok (.getfield 29, 3) := by decide +kernel
theorem dX9_house_52 : decode cX9_house 52 = .ok (.iload_n 1, 1) := by decide +kernel
theorem dX9_house_53 : decode cX9_house 53 = .ok (.iconst 0, 1) := by decide +kernel
theorem dX9_house_54 : decode cX9_house 54 = .ok (.iastore, 1) := by decide +kernel
theorem dX9_house_55 : decode cX9_house 55 = .ok (.iinc 1 1, 3) := by decide +kernel
theorem dX9_house_58 : decode cX9_house 58 = .ok (.goto (-16), 3) := by decide +kernel
theorem dX9_house_61 : decode cX9_house 61 = .ok (.iconst 0, 1) := by decide +kernel
theorem dX9_house_62 : decode cX9_house 62 = .ok (.istore_n 1, 1) := by decide +kernel
theorem dX9_house_63 : decode cX9_house 63 = .ok (.iload_n 1, 1) := by decide +kernel
theorem dX9_house_64 : decode cX9_house 64 = .ok (.ifCond .ne 18, 3) := by decide +kernel
theorem dX9_house_67 : decode cX9_house 67 = .ok (.aload_n 0, 1) := by decide +kernel
theorem dX9_house_68 : decode cX9_house 68 = .ok (.invokevirtual 97, 3) := by decide +kernel
theorem dX9_house_71 : decode cX9_house 71 = .ok (.ifCond .lt 11, 3) := by decide +kernel
theorem dX9_house_74 : decode cX9_house 74 = .ok (.aload_n 0, 1) := by decide +kernel
theorem dX9_house_75 : decode cX9_house 75 = .ok (.invokevirtual 172, 3) := by decide +kernel
theorem dX9_house_78 : decode cX9_house 78 = .ok (.istore_n 1, 1) := by decide +kernel
theorem dX9_house_79 : decode cX9_house 79 = .ok (.goto (-16), 3) := by decide +kernel
theorem dX9_house_82 : decode cX9_house 82 = .ok (.aload_n 0, 1) := by decide +kernel
theorem dX9_house_83 : decode cX9_house 83 = .ok (.iconst 0, 1) := by decide +kernel
theorem dX9_house_84 : decode cX9_house 84 = .ok (.putfield 90, 3) := by decide +kernel
theorem dX9_house_87 : decode cX9_house 87 = .ok (.iload_n 1, 1) := by decide +kernel
theorem dX9_house_88 : decode cX9_house 88 = .ok (.ifCond .le 8, 3) := by decide +kernel
theorem dX9_house_91 : decode cX9_house 91 = .ok (.bipush (-10), 2) := by decide +kernel
theorem dX9_house_93 : decode cX9_house 93 = .ok (.iload_n 1, 1) := by decide +kernel
theorem dX9_house_94 : decode cX9_house 94 = .ok (.isub, 1) := by decide +kernel
theorem dX9_house_95 : decode cX9_house 95 = .ok (.ireturn, 1) := by decide +kernel
theorem dX9_house_96 : decode cX9_house 96 = .ok (.aload_n 0, 1) := by decide +kernel
theorem dX9_house_97 : decode cX9_house 97 = .ok (.invokevirtual 175, 3) := by decide +kernel
theorem dX9_house_100 : decode cX9_house 100 = .ok (.aload_n 0, 1) := by decide +kernel
theorem dX9_house_101 : decode cX9_house 101 = .ok (.iconst 0, 1) := by decide +kernel
theorem dX9_house_102 : decode cX9_house 102 = .ok (.putfield 178, 3) := by decide +kernel
theorem dX9_house_105 : decode cX9_house 105 = .ok (.aload_n 0, 1) := by decide +kernel
theorem dX9_house_106 : decode cX9_house 106 = .ok (.iconst 0, 1) := by decide +kernel
theorem dX9_house_107 : decode cX9_house 107 = .ok (.putfield 181, 3) := by decide +kernel
theorem dX9_house_110 : decode cX9_house 110 = .ok (.aload_n 0, 1) := by decide +kernel
theorem dX9_house_111 : decode cX9_house 111 = .ok (.iconst 0, 1) := by decide +kernel
theorem dX9_house_112 : decode cX9_house 112 = .ok (.putfield 184, 3) := by decide +kernel
theorem dX9_house_115 : decode cX9_house 115 = .ok (.aload_n 0, 1) := by decide +kernel
theorem dX9_house_116 : decode cX9_house 116 = .ok (.getfield 71, 3) := by decide +kernel
theorem dX9_house_119 : decode cX9_house 119 = .ok (.iconst 0, 1) := by decide +kernel
theorem dX9_house_120 : decode cX9_house 120 = .ok (.iconst 0, 1) := by decide +kernel
theorem dX9_house_121 : decode cX9_house 121 = .ok (.bastore, 1) := by decide +kernel
theorem dX9_house_122 : decode cX9_house 122 = .ok (.aload_n 0, 1) := by decide +kernel
theorem dX9_house_123 : decode cX9_house 123 = .ok (.getfield 71, 3) := by decide +kernel
theorem dX9_house_126 : decode cX9_house 126 = .ok (.iconst 1, 1) := by decide +kernel
theorem dX9_house_127 : decode cX9_house 127 = .ok (.iconst 0, 1) := by decide +kernel
theorem dX9_house_128 : decode cX9_house 128 = .ok (.bastore, 1) := by decide +kernel
theorem dX9_house_129 : decode cX9_house 129 = .ok (.aload_n 0, 1) := by decide +kernel
theorem dX9_house_130 : decode cX9_house 130 = .ok (.getfield 78, 3) := by decide +kernel
theorem dX9_house_133 : decode cX9_house 133 = .ok (.ireturn, 1) := by decide +kernel
theorem dX9_fault_0 : decode cX9_fault 0 = .ok (.aload_n 0, 1) := by decide +kernel
theorem dX9_fault_1 : decode cX9_fault 1 = .ok (.getfield 25, 3) := by decide +kernel
theorem dX9_fault_4 : decode cX9_fault 4 = .ok (.ireturn, 1) := by decide +kernel
theorem dX9_told_0 : decode cX9_told 0 = .ok (.iload_n 1, 1) := by decide +kernel
theorem dX9_told_1 : decode cX9_told 1 = .ok (.tableswitch 132 0 11 #[63, 68, 73, 78, 83, 88, 96, 101, 109, 117, 122, 127], 63) := by decide +kernel
theorem dX9_told_64 : decode cX9_told 64 = .ok (.aload_n 0, 1) := by decide +kernel
theorem dX9_told_65 : decode cX9_told 65 = .ok (.getfield 75, 3) := by decide +kernel
theorem dX9_told_68 : decode cX9_told 68 = .ok (.ireturn, 1) := by decide +kernel
theorem dX9_told_69 : decode cX9_told 69 = .ok (.aload_n 0, 1) := by decide +kernel
theorem dX9_told_70 : decode cX9_told 70 = .ok (.getfield 163, 3) := by decide +kernel
theorem dX9_told_73 : decode cX9_told 73 = .ok (.ireturn, 1) := by decide +kernel
theorem dX9_told_74 : decode cX9_told 74 = .ok (.aload_n 0, 1) := by decide +kernel
theorem dX9_told_75 : decode cX9_told 75 = .ok (.getfield 78, 3) := by decide +kernel
theorem dX9_told_78 : decode cX9_told 78 = .ok (.ireturn, 1) := by decide +kernel
theorem dX9_told_79 : decode cX9_told 79 = .ok (.aload_n 0, 1) := by decide +kernel
theorem dX9_told_80 : decode cX9_told 80 = .ok (.getfield 169, 3) := by decide +kernel
theorem dX9_told_83 : decode cX9_told 83 = .ok (.ireturn, 1) := by decide +kernel
theorem dX9_told_84 : decode cX9_told 84 = .ok (.aload_n 0, 1) := by decide +kernel
theorem dX9_told_85 : decode cX9_told 85 = .ok (.getfield 90, 3) := by decide +kernel
theorem dX9_told_88 : decode cX9_told 88 = .ok (.ireturn, 1) := by decide +kernel
theorem dX9_told_89 : decode cX9_told 89 = .ok (.aload_n 0, 1) := by decide +kernel
theorem dX9_told_90 : decode cX9_told 90 = .ok (.getfield 19, 3) := by decide +kernel
theorem dX9_told_93 : decode cX9_told 93 = .ok (.bipush 30, 2) := by decide +kernel
theorem dX9_told_95 : decode cX9_told 95 = .ok (.iaload, 1) := by decide +kernel
theorem dX9_told_96 : decode cX9_told 96 = .ok (.ireturn, 1) := by decide +kernel
theorem dX9_told_97 : decode cX9_told 97 = .ok (.aload_n 0, 1) := by decide +kernel
theorem dX9_told_98 : decode cX9_told 98 = .ok (.getfield 166, 3) := by decide +kernel
theorem dX9_told_101 : decode cX9_told 101 = .ok (.ireturn, 1) := by decide +kernel
theorem dX9_told_102 : decode cX9_told 102 = .ok (.aload_n 0, 1) := by decide +kernel
theorem dX9_told_103 : decode cX9_told 103 = .ok (.getfield 19, 3) := by decide +kernel
theorem dX9_told_106 : decode cX9_told 106 = .ok (.bipush 31, 2) := by decide +kernel
theorem dX9_told_108 : decode cX9_told 108 = .ok (.iaload, 1) := by decide +kernel
theorem dX9_told_109 : decode cX9_told 109 = .ok (.ireturn, 1) := by decide +kernel
theorem dX9_told_110 : decode cX9_told 110 = .ok (.aload_n 0, 1) := by decide +kernel
theorem dX9_told_111 : decode cX9_told 111 = .ok (.getfield 19, 3) := by decide +kernel
theorem dX9_told_114 : decode cX9_told 114 = .ok (.bipush 32, 2) := by decide +kernel
theorem dX9_told_116 : decode cX9_told 116 = .ok (.iaload, 1) := by decide +kernel
theorem dX9_told_117 : decode cX9_told 117 = .ok (.ireturn, 1) := by decide +kernel
theorem dX9_told_118 : decode cX9_told 118 = .ok (.aload_n 0, 1) := by decide +kernel
theorem dX9_told_119 : decode cX9_told 119 = .ok (.getfield 178, 3) := by decide +kernel
theorem dX9_told_122 : decode cX9_told 122 = .ok (.ireturn, 1) := by decide +kernel
theorem dX9_told_123 : decode cX9_told 123 = .ok (.aload_n 0, 1) := by decide +kernel
theorem dX9_told_124 : decode cX9_told 124 = .ok (.getfield 181, 3) := by decide +kernel
theorem dX9_told_127 : decode cX9_told 127 = .ok (.ireturn, 1) := by decide +kernel
theorem dX9_told_128 : decode cX9_told 128 = .ok (.aload_n 0, 1) := by decide +kernel
theorem dX9_told_129 : decode cX9_told 129 = .ok (.getfield 184, 3) := by decide +kernel
theorem dX9_told_132 : decode cX9_told 132 = .ok (.ireturn, 1) := by decide +kernel
theorem dX9_told_133 : decode cX9_told 133 = .ok (.ldc 89, 2) := by decide +kernel
theorem dX9_told_135 : decode cX9_told 135 = .ok (.ireturn, 1) := by decide +kernel
theorem dX9_parts_0 : decode cX9_parts 0 = .ok (.aload_n 0, 1) := by decide +kernel
theorem dX9_parts_1 : decode cX9_parts 1 = .ok (.iload_n 1, 1) := by decide +kernel
theorem dX9_parts_2 : decode cX9_parts 2 = .ok (.invokevirtual 187, 3) := by decide +kernel
theorem dX9_parts_5 : decode cX9_parts 5 = .ok (.ifCond .eq 24, 3) := by decide +kernel
theorem dX9_parts_8 : decode cX9_parts 8 = .ok (.aload_n 0, 1) := by decide +kernel
theorem dX9_parts_9 : decode cX9_parts 9 = .ok (.iload_n 2, 1) := by decide +kernel
theorem dX9_parts_10 : decode cX9_parts 10 = .ok (.invokevirtual 191, 3) := by decide +kernel
theorem dX9_parts_13 : decode cX9_parts 13 = .ok (.ifCond .eq 16, 3) := by decide +kernel
theorem dX9_parts_16 : decode cX9_parts 16 = .ok (.aload_n 0, 1) := by decide +kernel
theorem dX9_parts_17 : decode cX9_parts 17 = .ok (.getfield 19, 3) := by decide +kernel
theorem dX9_parts_20 : decode cX9_parts 20 = .ok (.iconst 5, 1) := by decide +kernel
theorem dX9_parts_21 : decode cX9_parts 21 = .ok (.iload_n 1, 1) := by decide +kernel
theorem dX9_parts_22 : decode cX9_parts 22 = .ok (.imul, 1) := by decide +kernel
theorem dX9_parts_23 : decode cX9_parts 23 = .ok (.iload_n 2, 1) := by decide +kernel
theorem dX9_parts_24 : decode cX9_parts 24 = .ok (.iadd, 1) := by decide +kernel
theorem dX9_parts_25 : decode cX9_parts 25 = .ok (.iaload, 1) := by decide +kernel
theorem dX9_parts_26 : decode cX9_parts 26 = .ok (.goto 5, 3) := by decide +kernel
theorem dX9_parts_29 : decode cX9_parts 29 = .ok (.ldc 194, 2) := by decide +kernel
theorem dX9_parts_31 : decode cX9_parts 31 = .ok (.ireturn, 1) := by decide +kernel
theorem dX9_own_0 : decode cX9_own 0 = .ok (.aload_n 0, 1) := by decide +kernel
theorem dX9_own_1 : decode cX9_own 1 = .ok (.iload_n 1, 1) := by decide +kernel
theorem dX9_own_2 : decode cX9_own 2 = .ok (.invokevirtual 187, 3) := by decide +kernel
theorem dX9_own_5 : decode cX9_own 5 = .ok (.ifCond .eq 24, 3) := by decide +kernel
theorem dX9_own_8 : decode cX9_own 8 = .ok (.aload_n 0, 1) := by decide +kernel
theorem dX9_own_9 : decode cX9_own 9 = .ok (.iload_n 2, 1) := by decide +kernel
theorem dX9_own_10 : decode cX9_own 10 = .ok (.invokevirtual 191, 3) := by decide +kernel
theorem dX9_own_13 : decode cX9_own 13 = .ok (.ifCond .eq 16, 3) := by decide +kernel
theorem dX9_own_16 : decode cX9_own 16 = .ok (.aload_n 0, 1) := by decide +kernel
theorem dX9_own_17 : decode cX9_own 17 = .ok (.getfield 7, 3) := by decide +kernel
theorem dX9_own_20 : decode cX9_own 20 = .ok (.iconst 5, 1) := by decide +kernel
theorem dX9_own_21 : decode cX9_own 21 = .ok (.iload_n 1, 1) := by decide +kernel
theorem dX9_own_22 : decode cX9_own 22 = .ok (.imul, 1) := by decide +kernel
theorem dX9_own_23 : decode cX9_own 23 = .ok (.iload_n 2, 1) := by decide +kernel
theorem dX9_own_24 : decode cX9_own 24 = .ok (.iadd, 1) := by decide +kernel
theorem dX9_own_25 : decode cX9_own 25 = .ok (.iaload, 1) := by decide +kernel
theorem dX9_own_26 : decode cX9_own 26 = .ok (.goto 5, 3) := by decide +kernel
theorem dX9_own_29 : decode cX9_own 29 = .ok (.ldc 194, 2) := by decide +kernel
theorem dX9_own_31 : decode cX9_own 31 = .ok (.ireturn, 1) := by decide +kernel
theorem dX9_giveOf_0 : decode cX9_giveOf 0 = .ok (.aload_n 0, 1) := by decide +kernel
theorem dX9_giveOf_1 : decode cX9_giveOf 1 = .ok (.getfield 163, 3) := by decide +kernel
theorem dX9_giveOf_4 : decode cX9_giveOf 4 = .ok (.istore 4, 2) := by decide +kernel
theorem dX9_giveOf_6 : decode cX9_giveOf 6 = .ok (.iconst 0, 1) := by decide +kernel
theorem dX9_giveOf_7 : decode cX9_giveOf 7 = .ok (.istore 5, 2) := by decide +kernel
theorem dX9_giveOf_9 : decode cX9_giveOf 9 = .ok (.iconst 0, 1) := by decide +kernel
theorem dX9_giveOf_10 : decode cX9_giveOf 10 = .ok (.istore 6, 2) := by decide +kernel
theorem dX9_giveOf_12 : decode cX9_giveOf 12 = .ok (.iload 6, 2) := by decide +kernel
theorem dX9_giveOf_14 : decode cX9_giveOf 14 = .ok (.aload_n 0, 1) := by decide +kernel
theorem dX9_giveOf_15 : decode cX9_giveOf 15 = .ok (.getfield 75, 3) := by decide +kernel
theorem dX9_giveOf_18 : decode cX9_giveOf 18 = .ok (.if_icmp .ge 48, 3) := by decide +kernel
theorem dX9_giveOf_21 : decode cX9_giveOf 21 = .ok (.aload_n 0, 1) := by decide +kernel
theorem dX9_giveOf_22 : decode cX9_giveOf 22 = .ok (.getfield 38, 3) := by decide +kernel
theorem dX9_giveOf_25 : decode cX9_giveOf 25 = .ok (.iload_n 3, 1) := by decide +kernel
theorem dX9_giveOf_26 : decode cX9_giveOf 26 = .ok (.iload 6, 2) := by decide +kernel
theorem dX9_giveOf_28 : decode cX9_giveOf 28 = .ok (.iadd, 1) := by decide +kernel
theorem dX9_giveOf_29 : decode cX9_giveOf 29 = .ok (.aload_n 0, 1) := by decide +kernel
theorem dX9_giveOf_30 : decode cX9_giveOf 30 = .ok (.getfield 163, 3) := by decide +kernel
theorem dX9_giveOf_33 : decode cX9_giveOf 33 = .ok (.aload_n 1, 1) := by decide +kernel
theorem dX9_giveOf_34 : decode cX9_giveOf 34 = .ok (.iconst 5, 1) := by decide +kernel
theorem dX9_giveOf_35 : decode cX9_giveOf 35 = .ok (.iload_n 2, 1) := by decide +kernel
theorem dX9_giveOf_36 : decode cX9_giveOf 36 = .ok (.imul, 1) := by decide +kernel
theorem dX9_giveOf_37 : decode cX9_giveOf 37 = .ok (.iload 6, 2) := by decide +kernel
theorem dX9_giveOf_39 : decode cX9_giveOf 39 = .ok (.iadd, 1) := by decide +kernel
theorem dX9_giveOf_40 : decode cX9_giveOf 40 = .ok (.iaload, 1) := by decide +kernel
theorem dX9_giveOf_41 : decode cX9_giveOf 41 = .ok (.imul, 1) := by decide +kernel
theorem dX9_giveOf_42 : decode cX9_giveOf 42 = .ok (.bipush 60, 2) := by decide +kernel
theorem dX9_giveOf_44 : decode cX9_giveOf 44 = .ok (.idiv, 1) := by decide +kernel
theorem dX9_giveOf_45 : decode cX9_giveOf 45 = .ok (.iastore, 1) := by decide +kernel
theorem dX9_giveOf_46 : decode cX9_giveOf 46 = .ok (.iload 4, 2) := by decide +kernel
theorem dX9_giveOf_48 : decode cX9_giveOf 48 = .ok (.aload_n 0, 1) := by decide +kernel
theorem dX9_giveOf_49 : decode cX9_giveOf 49 = .ok (.getfield 38, 3) := by decide +kernel
theorem dX9_giveOf_52 : decode cX9_giveOf 52 = .ok (.iload_n 3, 1) := by decide +kernel
theorem dX9_giveOf_53 : decode cX9_giveOf 53 = .ok (.iload 6, 2) := by decide +kernel
theorem dX9_giveOf_55 : decode cX9_giveOf 55 = .ok (.iadd, 1) := by decide +kernel
theorem dX9_giveOf_56 : decode cX9_giveOf 56 = .ok (.iaload, 1) := by decide +kernel
theorem dX9_giveOf_57 : decode cX9_giveOf 57 = .ok (.isub, 1) := by decide +kernel
theorem dX9_giveOf_58 : decode cX9_giveOf 58 = .ok (.istore 4, 2) := by decide +kernel
theorem dX9_giveOf_60 : decode cX9_giveOf 60 = .ok (.iinc 6 1, 3) := by decide +kernel
theorem dX9_giveOf_63 : decode cX9_giveOf 63 = .ok (.goto (-51), 3) := by decide +kernel
theorem dX9_giveOf_66 : decode cX9_giveOf 66 = .ok (.iload 4, 2) := by decide +kernel
theorem dX9_giveOf_68 : decode cX9_giveOf 68 = .ok (.ifCond .le 123, 3) := by decide +kernel
theorem dX9_giveOf_71 : decode cX9_giveOf 71 = .ok (.iconst (-1), 1) := by decide +kernel
theorem dX9_giveOf_72 : decode cX9_giveOf 72 = .ok (.istore 6, 2) := by decide +kernel
theorem dX9_giveOf_74 : decode cX9_giveOf 74 = .ok (.iconst 0, 1) := by decide +kernel
theorem dX9_giveOf_75 : decode cX9_giveOf 75 = .ok (.istore 7, 2) := by decide +kernel
theorem dX9_giveOf_77 : decode cX9_giveOf 77 = .ok (.iload 7, 2) := by decide +kernel
theorem dX9_giveOf_79 : decode cX9_giveOf 79 = .ok (.aload_n 0, 1) := by decide +kernel
theorem dX9_giveOf_80 : decode cX9_giveOf 80 = .ok (.getfield 75, 3) := by decide +kernel
theorem dX9_giveOf_83 : decode cX9_giveOf 83 = .ok (.if_icmp .ge 80, 3) := by decide +kernel
theorem dX9_giveOf_86 : decode cX9_giveOf 86 = .ok (.iload 5, 2) := by decide +kernel
theorem dX9_giveOf_88 : decode cX9_giveOf 88 = .ok (.iload 7, 2) := by decide +kernel
theorem dX9_giveOf_90 : decode cX9_giveOf 90 = .ok (.invokestatic 140, 3) := by decide +kernel
theorem dX9_giveOf_93 : decode cX9_giveOf 93 = .ok (.ifCond .ne 47, 3) := by decide +kernel
theorem dX9_giveOf_96 : decode cX9_giveOf 96 = .ok (.iload 6, 2) := by decide +kernel
theorem dX9_giveOf_98 : decode cX9_giveOf 98 = .ok (.ifCond .lt 38, 3) := by decide +kernel
theorem dX9_giveOf_101 : decode cX9_giveOf 101 = .ok (.aload_n 0, 1) := by decide +kernel
theorem dX9_giveOf_102 : decode cX9_giveOf 102 = .ok (.getfield 163, 3) := by decide +kernel
theorem dX9_giveOf_105 : decode cX9_giveOf 105 = .ok (.aload_n 1, 1) := by decide +kernel
theorem dX9_giveOf_106 : decode cX9_giveOf 106 = .ok (.iconst 5, 1) := by decide +kernel
theorem dX9_giveOf_107 : decode cX9_giveOf 107 = .ok (.iload_n 2, 1) := by decide +kernel
theorem dX9_giveOf_108 : decode cX9_giveOf 108 = .ok (.imul, 1) := by decide +kernel
theorem dX9_giveOf_109 : decode cX9_giveOf 109 = .ok (.iload 7, 2) := by decide +kernel
theorem dX9_giveOf_111 : decode cX9_giveOf 111 = .ok (.iadd, 1) := by decide +kernel
theorem dX9_giveOf_112 : decode cX9_giveOf 112 = .ok (.iaload, 1) := by decide +kernel
theorem dX9_giveOf_113 : decode cX9_giveOf 113 = .ok (.imul, 1) := by decide +kernel
theorem dX9_giveOf_114 : decode cX9_giveOf 114 = .ok (.bipush 60, 2) := by decide +kernel
theorem dX9_giveOf_116 : decode cX9_giveOf 116 = .ok (.irem, 1) := by decide +kernel
theorem dX9_giveOf_117 : decode cX9_giveOf 117 = .ok (.aload_n 0, 1) := by decide +kernel
theorem dX9_giveOf_118 : decode cX9_giveOf 118 = .ok (.getfield 163, 3) := by decide +kernel
theorem dX9_giveOf_121 : decode cX9_giveOf 121 = .ok (.aload_n 1, 1) := by decide +kernel
theorem dX9_giveOf_122 : decode cX9_giveOf 122 = .ok (.iconst 5, 1) := by decide +kernel
theorem dX9_giveOf_123 : decode cX9_giveOf 123 = .ok (.iload_n 2, 1) := by decide +kernel
theorem dX9_giveOf_124 : decode cX9_giveOf 124 = .ok (.imul, 1) := by decide +kernel
theorem dX9_giveOf_125 : decode cX9_giveOf 125 = .ok (.iload 6, 2) := by decide +kernel
theorem dX9_giveOf_127 : decode cX9_giveOf 127 = .ok (.iadd, 1) := by decide +kernel
theorem dX9_giveOf_128 : decode cX9_giveOf 128 = .ok (.iaload, 1) := by decide +kernel
theorem dX9_giveOf_129 : decode cX9_giveOf 129 = .ok (.imul, 1) := by decide +kernel
theorem dX9_giveOf_130 : decode cX9_giveOf 130 = .ok (.bipush 60, 2) := by decide +kernel
theorem dX9_giveOf_132 : decode cX9_giveOf 132 = .ok (.irem, 1) := by decide +kernel
theorem dX9_giveOf_133 : decode cX9_giveOf 133 = .ok (.if_icmp .le 7, 3) := by decide +kernel
theorem dX9_giveOf_136 : decode cX9_giveOf 136 = .ok (.iconst 1, 1) := by decide +kernel
theorem dX9_giveOf_137 : decode cX9_giveOf 137 = .ok (.goto 4, 3) := by decide +kernel
theorem dX9_giveOf_140 : decode cX9_giveOf 140 = .ok (.iconst 0, 1) := by decide +kernel
theorem dX9_giveOf_141 : decode cX9_giveOf 141 = .ok (.istore 8, 2) := by decide +kernel
theorem dX9_giveOf_143 : decode cX9_giveOf 143 = .ok (.iload 8, 2) := by decide +kernel
theorem dX9_giveOf_145 : decode cX9_giveOf 145 = .ok (.ifCond .eq 8, 3) := by decide +kernel
theorem dX9_giveOf_148 : decode cX9_giveOf 148 = .ok (.iload 7, 2) := by decide +kernel
theorem dX9_giveOf_150 : decode cX9_giveOf 150 = .ok (.goto 5, 3) := by decide +kernel
theorem dX9_giveOf_153 : decode cX9_giveOf 153 = .ok (.iload 6, 2) := by decide +kernel
theorem dX9_giveOf_155 : decode cX9_giveOf 155 = .ok (.istore 6, 2) := by decide +kernel
theorem dX9_giveOf_157 : decode cX9_giveOf 157 = .ok (.iinc 7 1, 3) := by decide +kernel
theorem dX9_giveOf_160 : decode cX9_giveOf 160 = .ok (.goto (-83), 3) := by decide +kernel
theorem dX9_giveOf_163 : decode cX9_giveOf 163 = .ok (.iload 5, 2) := by decide +kernel
theorem dX9_giveOf_165 : decode cX9_giveOf 165 = .ok (.iconst 1, 1) := by decide +kernel
theorem dX9_giveOf_166 : decode cX9_giveOf 166 = .ok (.iload 6, 2) := by decide +kernel
theorem dX9_giveOf_168 : decode cX9_giveOf 168 = .ok (.ishl, 1) := by decide +kernel
theorem dX9_giveOf_169 : decode cX9_giveOf 169 = .ok (.ior, 1) := by decide +kernel
theorem dX9_giveOf_170 : decode cX9_giveOf 170 = .ok (.istore 5, 2) := by decide +kernel
theorem dX9_giveOf_172 : decode cX9_giveOf 172 = .ok (.aload_n 0, 1) := by decide +kernel
theorem dX9_giveOf_173 : decode cX9_giveOf 173 = .ok (.getfield 38, 3) := by decide +kernel
theorem dX9_giveOf_176 : decode cX9_giveOf 176 = .ok (.iload_n 3, 1) := by decide +kernel
theorem dX9_giveOf_177 : decode cX9_giveOf 177 = .ok (.iload 6, 2) := by decide +kernel
theorem dX9_giveOf_179 : decode cX9_giveOf 179 = .ok (.iadd, 1) := by decide +kernel
theorem dX9_giveOf_180 : decode cX9_giveOf 180 = .ok (.dup2, 1) := by decide +kernel
theorem dX9_giveOf_181 : decode cX9_giveOf 181 = .ok (.iaload, 1) := by decide +kernel
theorem dX9_giveOf_182 : decode cX9_giveOf 182 = .ok (.iconst 1, 1) := by decide +kernel
theorem dX9_giveOf_183 : decode cX9_giveOf 183 = .ok (.iadd, 1) := by decide +kernel
theorem dX9_giveOf_184 : decode cX9_giveOf 184 = .ok (.iastore, 1) := by decide +kernel
theorem dX9_giveOf_185 : decode cX9_giveOf 185 = .ok (.iinc 4 (-1), 3) := by decide +kernel
theorem dX9_giveOf_188 : decode cX9_giveOf 188 = .ok (.goto (-122), 3) := by decide +kernel
theorem dX9_giveOf_191 : decode cX9_giveOf 191 = .ok (.return_, 1) := by decide +kernel
theorem dX9_gives_0 : decode cX9_gives 0 = .ok (.aload_n 0, 1) := by decide +kernel
theorem dX9_gives_1 : decode cX9_gives 1 = .ok (.iload_n 1, 1) := by decide +kernel
theorem dX9_gives_2 : decode cX9_gives 2 = .ok (.invokevirtual 187, 3) := by decide +kernel
theorem dX9_gives_5 : decode cX9_gives 5 = .ok (.ifCond .eq 11, 3) := by decide +kernel
theorem dX9_gives_8 : decode cX9_gives 8 = .ok (.aload_n 0, 1) := by decide +kernel
theorem dX9_gives_9 : decode cX9_gives 9 = .ok (.iload_n 2, 1) := by decide +kernel
theorem dX9_gives_10 : decode cX9_gives 10 = .ok (.invokevirtual 191, 3) := by decide +kernel
theorem dX9_gives_13 : decode cX9_gives 13 = .ok (.ifCond .ne 6, 3) := by decide +kernel
theorem dX9_gives_16 : decode cX9_gives 16 = .ok (.ldc 194, 2) := by decide +kernel
theorem dX9_gives_18 : decode cX9_gives 18 = .ok (.ireturn, 1) := by decide +kernel
theorem dX9_gives_19 : decode cX9_gives 19 = .ok (.aload_n 0, 1) := by decide +kernel
theorem dX9_gives_20 : decode cX9_gives 20 = .ok (.aload_n 0, 1) := by decide +kernel
theorem dX9_gives_21 : decode cX9_gives 21 = .ok (.getfield 19, 3) := by decide +kernel
theorem dX9_gives_24 : decode cX9_gives 24 = .ok (.iload_n 1, 1) := by decide +kernel
theorem dX9_gives_25 : decode cX9_gives 25 = .ok (.iconst 0, 1) := by decide +kernel
theorem dX9_gives_26 : decode cX9_gives 26 = .ok (.invokevirtual 195, 3) := by decide +kernel
theorem dX9_gives_29 : decode cX9_gives 29 = .ok (.aload_n 0, 1) := by decide +kernel
theorem dX9_gives_30 : decode cX9_gives 30 = .ok (.getfield 38, 3) := by decide +kernel
theorem dX9_gives_33 : decode cX9_gives 33 = .ok (.iload_n 2, 1) := by decide +kernel
theorem dX9_gives_34 : decode cX9_gives 34 = .ok (.iaload, 1) := by decide +kernel
theorem dX9_gives_35 : decode cX9_gives 35 = .ok (.ireturn, 1) := by decide +kernel
theorem dX9_planned_0 : decode cX9_planned 0 = .ok (.iload_n 1, 1) := by decide +kernel
theorem dX9_planned_1 : decode cX9_planned 1 = .ok (.i2l, 1) := by decide +kernel
theorem dX9_planned_2 : decode cX9_planned 2 = .ok (.lconst 0, 1) := by decide +kernel
theorem dX9_planned_3 : decode cX9_planned 3 = .ok (.aload_n 0, 1) := by decide +kernel
theorem dX9_planned_4 : decode cX9_planned 4 = .ok (.getfield 169, 3) := by decide +kernel
theorem dX9_planned_7 : decode cX9_planned 7 = .ok (.iconst 1, 1) := by decide +kernel
theorem dX9_planned_8 : decode cX9_planned 8 = .ok (.isub, 1) := by decide +kernel
theorem dX9_planned_9 : decode cX9_planned 9 = .ok (.i2l, 1) := by decide +kernel
theorem dX9_planned_10 : decode cX9_planned 10 = .ok (.invokestatic 81, 3) := by decide +kernel
theorem dX9_planned_13 : decode cX9_planned 13 = .ok (.ifCond .eq 22, 3) := by decide +kernel
theorem dX9_planned_16 : decode cX9_planned 16 = .ok (.bipush 10, 2) := by decide +kernel
theorem dX9_planned_18 : decode cX9_planned 18 = .ok (.aload_n 0, 1) := by decide +kernel
theorem dX9_planned_19 : decode cX9_planned 19 = .ok (.getfield 13, 3) := by decide +kernel
theorem dX9_planned_22 : decode cX9_planned 22 = .ok (.iload_n 1, 1) := by decide +kernel
theorem dX9_planned_23 : decode cX9_planned 23 = .ok (.iaload, 1) := by decide +kernel
theorem dX9_planned_24 : decode cX9_planned 24 = .ok (.imul, 1) := by decide +kernel
theorem dX9_planned_25 : decode cX9_planned 25 = .ok (.aload_n 0, 1) := by decide +kernel
theorem dX9_planned_26 : decode cX9_planned 26 = .ok (.getfield 16, 3) := by decide +kernel
theorem dX9_planned_29 : decode cX9_planned 29 = .ok (.iload_n 1, 1) := by decide +kernel
theorem dX9_planned_30 : decode cX9_planned 30 = .ok (.iaload, 1) := by decide +kernel
theorem dX9_planned_31 : decode cX9_planned 31 = .ok (.iadd, 1) := by decide +kernel
theorem dX9_planned_32 : decode cX9_planned 32 = .ok (.goto 5, 3) := by decide +kernel
theorem dX9_planned_35 : decode cX9_planned 35 = .ok (.ldc 194, 2) := by decide +kernel
theorem dX9_planned_37 : decode cX9_planned 37 = .ok (.ireturn, 1) := by decide +kernel
theorem dX9_rubIn_0 : decode cX9_rubIn 0 = .ok (.aload_n 0, 1) := by decide +kernel
theorem dX9_rubIn_1 : decode cX9_rubIn 1 = .ok (.getfield 19, 3) := by decide +kernel
theorem dX9_rubIn_4 : decode cX9_rubIn 4 = .ok (.bipush 30, 2) := by decide +kernel
theorem dX9_rubIn_6 : decode cX9_rubIn 6 = .ok (.iaload, 1) := by decide +kernel
theorem dX9_rubIn_7 : decode cX9_rubIn 7 = .ok (.iload_n 2, 1) := by decide +kernel
theorem dX9_rubIn_8 : decode cX9_rubIn 8 = .ok (.invokestatic 140, 3) := by decide +kernel
theorem dX9_rubIn_11 : decode cX9_rubIn 11 = .ok (.ifCond .ne 17, 3) := by decide +kernel
theorem dX9_rubIn_14 : decode cX9_rubIn 14 = .ok (.aload_n 0, 1) := by decide +kernel
theorem dX9_rubIn_15 : decode cX9_rubIn 15 = .ok (.getfield 19, 3) := by decide +kernel
theorem dX9_rubIn_18 : decode cX9_rubIn 18 = .ok (.bipush 30, 2) := by decide +kernel
theorem dX9_rubIn_20 : decode cX9_rubIn 20 = .ok (.iaload, 1) := by decide +kernel
theorem dX9_rubIn_21 : decode cX9_rubIn 21 = .ok (.iload_n 3, 1) := by decide +kernel
theorem dX9_rubIn_22 : decode cX9_rubIn 22 = .ok (.invokestatic 140, 3) := by decide +kernel
theorem dX9_rubIn_25 : decode cX9_rubIn 25 = .ok (.ifCond .eq 4, 3) := by decide +kernel
theorem dX9_rubIn_28 : decode cX9_rubIn 28 = .ok (.return_, 1) := by decide +kernel
theorem dX9_rubIn_29 : decode cX9_rubIn 29 = .ok (.aload_n 0, 1) := by decide +kernel
theorem dX9_rubIn_30 : decode cX9_rubIn 30 = .ok (.aload_n 1, 1) := by decide +kernel
theorem dX9_rubIn_31 : decode cX9_rubIn 31 = .ok (.iload_n 2, 1) := by decide +kernel
theorem dX9_rubIn_32 : decode cX9_rubIn 32 = .ok (.iconst 0, 1) := by decide +kernel
theorem dX9_rubIn_33 : decode cX9_rubIn 33 = .ok (.invokevirtual 195, 3) := by decide +kernel
theorem dX9_rubIn_36 : decode cX9_rubIn 36 = .ok (.aload_n 0, 1) := by decide +kernel
theorem dX9_rubIn_37 : decode cX9_rubIn 37 = .ok (.aload_n 1, 1) := by decide +kernel
theorem dX9_rubIn_38 : decode cX9_rubIn 38 = .ok (.iload_n 3, 1) := by decide +kernel
theorem dX9_rubIn_39 : decode cX9_rubIn 39 = .ok (.iconst 5, 1) := by decide +kernel
theorem dX9_rubIn_40 : decode cX9_rubIn 40 = .ok (.invokevirtual 195, 3) := by decide +kernel
theorem dX9_rubIn_43 : decode cX9_rubIn 43 = .ok (.iconst 0, 1) := by decide +kernel
theorem dX9_rubIn_44 : decode cX9_rubIn 44 = .ok (.istore 4, 2) := by decide +kernel
theorem dX9_rubIn_46 : decode cX9_rubIn 46 = .ok (.iload 4, 2) := by decide +kernel
theorem dX9_rubIn_48 : decode cX9_rubIn 48 = .ok (.aload_n 0, 1) := by decide +kernel
theorem dX9_rubIn_49 : decode cX9_rubIn 49 = .ok (.getfield 75, 3) := by decide +kernel
theorem dX9_rubIn_52 : decode cX9_rubIn 52 = .ok (.if_icmp .ge 65, 3) := by decide +kernel
theorem dX9_rubIn_55 : decode cX9_rubIn 55 = .ok (.aload_n 1, 1) := by decide +kernel
theorem dX9_rubIn_56 : decode cX9_rubIn 56 = .ok (.iconst 5, 1) := by decide +kernel
theorem dX9_rubIn_57 : decode cX9_rubIn 57 = .ok (.iload_n 2, 1) := by decide +kernel
theorem dX9_rubIn_58 : decode cX9_rubIn 58 = .ok (.imul, 1) := by decide +kernel
theorem dX9_rubIn_59 : decode cX9_rubIn 59 = .ok (.iload 4, 2) := by decide +kernel
theorem dX9_rubIn_61 : decode cX9_rubIn 61 = .ok (.iadd, 1) := by decide +kernel
theorem dX9_rubIn_62 : decode cX9_rubIn 62 = .ok (.dup2, 1) := by decide +kernel
theorem dX9_rubIn_63 : decode cX9_rubIn 63 = .ok (.iaload, 1) := by decide +kernel
theorem dX9_rubIn_64 : decode cX9_rubIn 64 = .ok (.aload_n 0, 1) := by decide +kernel
theorem dX9_rubIn_65 : decode cX9_rubIn 65 = .ok (.getfield 38, 3) := by decide +kernel
theorem dX9_rubIn_68 : decode cX9_rubIn 68 = .ok (.iconst 5, 1) := by decide +kernel
theorem dX9_rubIn_69 : decode cX9_rubIn 69 = .ok (.iload 4, 2) := by decide +kernel
theorem dX9_rubIn_71 : decode cX9_rubIn 71 = .ok (.iadd, 1) := by decide +kernel
theorem dX9_rubIn_72 : decode cX9_rubIn 72 = .ok (.iaload, 1) := by decide +kernel
theorem dX9_rubIn_73 : decode cX9_rubIn 73 = .ok (.aload_n 0, 1) := by decide +kernel
theorem dX9_rubIn_74 : decode cX9_rubIn 74 = .ok (.getfield 38, 3) := by decide +kernel
theorem dX9_rubIn_77 : decode cX9_rubIn 77 = .ok (.iload 4, 2) := by decide +kernel
theorem dX9_rubIn_79 : decode cX9_rubIn 79 = .ok (.iaload, 1) := by decide +kernel
theorem dX9_rubIn_80 : decode cX9_rubIn 80 = .ok (.isub, 1) := by decide +kernel
theorem dX9_rubIn_81 : decode cX9_rubIn 81 = .ok (.iadd, 1) := by decide +kernel
theorem dX9_rubIn_82 : decode cX9_rubIn 82 = .ok (.iastore, 1) := by decide +kernel
theorem dX9_rubIn_83 : decode cX9_rubIn 83 = .ok (.aload_n 1, 1) := by decide +kernel
theorem dX9_rubIn_84 : decode cX9_rubIn 84 = .ok (.iconst 5, 1) := by decide +kernel
theorem dX9_rubIn_85 : decode cX9_rubIn 85 = .ok (.iload_n 3, 1) := by decide +kernel
theorem dX9_rubIn_86 : decode cX9_rubIn 86 = .ok (.imul, 1) := by decide +kernel
theorem dX9_rubIn_87 : decode cX9_rubIn 87 = .ok (.iload 4, 2) := by decide +kernel
theorem dX9_rubIn_89 : decode cX9_rubIn 89 = .ok (.iadd, 1) := by decide +kernel
theorem dX9_rubIn_90 : decode cX9_rubIn 90 = .ok (.dup2, 1) := by decide +kernel
theorem dX9_rubIn_91 : decode cX9_rubIn 91 = .ok (.iaload, 1) := by decide +kernel
theorem dX9_rubIn_92 : decode cX9_rubIn 92 = .ok (.aload_n 0, 1) := by decide +kernel
theorem dX9_rubIn_93 : decode cX9_rubIn 93 = .ok (.getfield 38, 3) := by decide +kernel
theorem dX9_rubIn_96 : decode cX9_rubIn 96 = .ok (.iload 4, 2) := by decide +kernel
theorem dX9_rubIn_98 : decode cX9_rubIn 98 = .ok (.iaload, 1) := by decide +kernel
theorem dX9_rubIn_99 : decode cX9_rubIn 99 = .ok (.aload_n 0, 1) := by decide +kernel
theorem dX9_rubIn_100 : decode cX9_rubIn 100 = .ok (.getfield 38, 3) := by decide +kernel
theorem dX9_rubIn_103 : decode cX9_rubIn 103 = .ok (.iconst 5, 1) := by decide +kernel
theorem dX9_rubIn_104 : decode cX9_rubIn 104 = .ok (.iload 4, 2) := by decide +kernel
theorem dX9_rubIn_106 : decode cX9_rubIn 106 = .ok (.iadd, 1) := by decide +kernel
theorem dX9_rubIn_107 : decode cX9_rubIn 107 = .ok (.iaload, 1) := by decide +kernel
theorem dX9_rubIn_108 : decode cX9_rubIn 108 = .ok (.isub, 1) := by decide +kernel
theorem dX9_rubIn_109 : decode cX9_rubIn 109 = .ok (.iadd, 1) := by decide +kernel
theorem dX9_rubIn_110 : decode cX9_rubIn 110 = .ok (.iastore, 1) := by decide +kernel
theorem dX9_rubIn_111 : decode cX9_rubIn 111 = .ok (.iinc 4 1, 3) := by decide +kernel
theorem dX9_rubIn_114 : decode cX9_rubIn 114 = .ok (.goto (-68), 3) := by decide +kernel
theorem dX9_rubIn_117 : decode cX9_rubIn 117 = .ok (.return_, 1) := by decide +kernel
theorem dX9_remember_0 : decode cX9_remember 0 = .ok (.aload_n 0, 1) := by decide +kernel
theorem dX9_remember_1 : decode cX9_remember 1 = .ok (.getfield 184, 3) := by decide +kernel
theorem dX9_remember_4 : decode cX9_remember 4 = .ok (.bipush 20, 2) := by decide +kernel
theorem dX9_remember_6 : decode cX9_remember 6 = .ok (.if_icmp .ne 44, 3) := by decide +kernel
theorem dX9_remember_9 : decode cX9_remember 9 = .ok (.bipush 33, 2) := by decide +kernel
theorem dX9_remember_11 : decode cX9_remember 11 = .ok (.istore_n 1, 1) := by decide +kernel
theorem dX9_remember_12 : decode cX9_remember 12 = .ok (.iload_n 1, 1) := by decide +kernel
theorem dX9_remember_13 : decode cX9_remember 13 = .ok (.sipush 660, 3) := by decide +kernel
theorem dX9_remember_16 : decode cX9_remember 16 = .ok (.if_icmp .ge 24, 3) := by decide +kernel
theorem dX9_remember_19 : decode cX9_remember 19 = .ok (.aload_n 0, 1) := by decide +kernel
theorem dX9_remember_20 : decode cX9_remember 20 = .ok (.getfield 41, 3) := by decide +kernel
theorem dX9_remember_23 : decode cX9_remember 23 = .ok (.iload_n 1, 1) := by decide +kernel
theorem dX9_remember_24 : decode cX9_remember 24 = .ok (.bipush 33, 2) := by decide +kernel
theorem dX9_remember_26 : decode cX9_remember 26 = .ok (.isub, 1) := by decide +kernel
theorem dX9_remember_27 : decode cX9_remember 27 = .ok (.aload_n 0, 1) := by decide +kernel
theorem dX9_remember_28 : decode cX9_remember 28 = .ok (.getfield 41, 3) := by decide +kernel
theorem dX9_remember_31 : decode cX9_remember 31 = .ok (.iload_n 1, 1) := by decide +kernel
theorem dX9_remember_32 : decode cX9_remember 32 = .ok (.iaload, 1) := by decide +kernel
theorem dX9_remember_33 : decode cX9_remember 33 = .ok (.iastore, 1) := by decide +kernel
theorem dX9_remember_34 : decode cX9_remember 34 = .ok (.iinc 1 1, 3) := by decide +kernel
theorem dX9_remember_37 : decode cX9_remember 37 = .ok (.goto (-25), 3) := by decide +kernel
theorem dX9_remember_40 : decode cX9_remember 40 = .ok (.aload_n 0, 1) := by decide +kernel
theorem dX9_remember_41 : decode cX9_remember 41 = .ok (.dup, 1) := by decide +kernel
theorem dX9_remember_42 : decode cX9_remember 42 = .ok (.getfield 184, 3) := by decide +kernel
theorem dX9_remember_45 : decode cX9_remember 45 = .ok (.iconst 1, 1) := by decide +kernel
theorem dX9_remember_46 : decode cX9_remember 46 = .ok (.isub, 1) := by decide +kernel
theorem dX9_remember_47 : decode cX9_remember 47 = .ok (.putfield 184, 3) := by decide +kernel
theorem dX9_remember_50 : decode cX9_remember 50 = .ok (.iconst 0, 1) := by decide +kernel
theorem dX9_remember_51 : decode cX9_remember 51 = .ok (.istore_n 1, 1) := by decide +kernel
theorem dX9_remember_52 : decode cX9_remember 52 = .ok (.iload_n 1, 1) := by decide +kernel
theorem dX9_remember_53 : decode cX9_remember 53 = .ok (.bipush 33, 2) := by decide +kernel
theorem dX9_remember_55 : decode cX9_remember 55 = .ok (.if_icmp .ge 29, 3) := by decide +kernel
theorem dX9_remember_58 : decode cX9_remember 58 = .ok (.aload_n 0, 1) := by decide +kernel
theorem dX9_remember_59 : decode cX9_remember 59 = .ok (.getfield 41, 3) := by decide +kernel
theorem dX9_remember_62 : decode cX9_remember 62 = .ok (.bipush 33, 2) := by decide +kernel
theorem dX9_remember_64 : decode cX9_remember 64 = .ok (.aload_n 0, 1) := by decide +kernel
theorem dX9_remember_65 : decode cX9_remember 65 = .ok (.getfield 184, 3) := by decide +kernel
theorem dX9_remember_68 : decode cX9_remember 68 = .ok (.imul, 1) := by decide +kernel
theorem dX9_remember_69 : decode cX9_remember 69 = .ok (.iload_n 1, 1) := by decide +kernel
theorem dX9_remember_70 : decode cX9_remember 70 = .ok (.iadd, 1) := by decide +kernel
theorem dX9_remember_71 : decode cX9_remember 71 = .ok (.aload_n 0, 1) := by decide +kernel
theorem dX9_remember_72 : decode cX9_remember 72 = .ok (.getfield 19, 3) := by decide +kernel
theorem dX9_remember_75 : decode cX9_remember 75 = .ok (.iload_n 1, 1) := by decide +kernel
theorem dX9_remember_76 : decode cX9_remember 76 = .ok (.iaload, 1) := by decide +kernel
theorem dX9_remember_77 : decode cX9_remember 77 = .ok (.iastore, 1) := by decide +kernel
theorem dX9_remember_78 : decode cX9_remember 78 = .ok (.iinc 1 1, 3) := by decide +kernel
theorem dX9_remember_81 : decode cX9_remember 81 = .ok (.goto (-29), 3) := by decide +kernel
theorem dX9_remember_84 : decode cX9_remember 84 = .ok (.aload_n 0, 1) := by decide +kernel
theorem dX9_remember_85 : decode cX9_remember 85 = .ok (.dup, 1) := by decide +kernel
theorem dX9_remember_86 : decode cX9_remember 86 = .ok (.getfield 184, 3) := by decide +kernel
theorem dX9_remember_89 : decode cX9_remember 89 = .ok (.iconst 1, 1) := by decide +kernel
theorem dX9_remember_90 : decode cX9_remember 90 = .ok (.iadd, 1) := by decide +kernel
theorem dX9_remember_91 : decode cX9_remember 91 = .ok (.putfield 184, 3) := by decide +kernel
theorem dX9_remember_94 : decode cX9_remember 94 = .ok (.return_, 1) := by decide +kernel
theorem dX9_touch_0 : decode cX9_touch 0 = .ok (.aload_n 0, 1) := by decide +kernel
theorem dX9_touch_1 : decode cX9_touch 1 = .ok (.iload_n 1, 1) := by decide +kernel
theorem dX9_touch_2 : decode cX9_touch 2 = .ok (.invokevirtual 187, 3) := by decide +kernel
theorem dX9_touch_5 : decode cX9_touch 5 = .ok (.ifCond .eq 16, 3) := by decide +kernel
theorem dX9_touch_8 : decode cX9_touch 8 = .ok (.aload_n 0, 1) := by decide +kernel
theorem dX9_touch_9 : decode cX9_touch 9 = .ok (.iload_n 2, 1) := by decide +kernel
theorem dX9_touch_10 : decode cX9_touch 10 = .ok (.invokevirtual 187, 3) := by decide +kernel
theorem dX9_touch_13 : decode cX9_touch 13 = .ok (.ifCond .eq 8, 3) := by decide +kernel
theorem dX9_touch_16 : decode cX9_touch 16 = .ok (.iload_n 1, 1) := by decide +kernel
theorem dX9_touch_17 : decode cX9_touch 17 = .ok (.iload_n 2, 1) := by decide +kernel
theorem dX9_touch_18 : decode cX9_touch 18 = .ok (.if_icmp .ne 6, 3) := by decide +kernel
theorem dX9_touch_21 : decode cX9_touch 21 = .ok (.ldc 194, 2) := by decide +kernel
theorem dX9_touch_23 : decode cX9_touch 23 = .ok (.ireturn, 1) := by decide +kernel
theorem dX9_touch_24 : decode cX9_touch 24 = .ok (.aload_n 0, 1) := by decide +kernel
theorem dX9_touch_25 : decode cX9_touch 25 = .ok (.invokevirtual 199, 3) := by decide +kernel
theorem dX9_touch_28 : decode cX9_touch 28 = .ok (.iconst 0, 1) := by decide +kernel
theorem dX9_touch_29 : decode cX9_touch 29 = .ok (.istore_n 3, 1) := by decide +kernel
theorem dX9_touch_30 : decode cX9_touch 30 = .ok (.iload_n 3, 1) := by decide +kernel
theorem dX9_touch_31 : decode cX9_touch 31 = .ok (.aload_n 0, 1) := by decide +kernel
theorem dX9_touch_32 : decode cX9_touch 32 = .ok (.getfield 75, 3) := by decide +kernel
theorem dX9_touch_35 : decode cX9_touch 35 = .ok (.if_icmp .ge 25, 3) := by decide +kernel
theorem dX9_touch_38 : decode cX9_touch 38 = .ok (.aload_n 0, 1) := by decide +kernel
theorem dX9_touch_39 : decode cX9_touch 39 = .ok (.getfield 44, 3) := by decide +kernel
theorem dX9_touch_42 : decode cX9_touch 42 = .ok (.iload_n 3, 1) := by decide +kernel
theorem dX9_touch_43 : decode cX9_touch 43 = .ok (.aload_n 0, 1) := by decide +kernel
theorem dX9_touch_44 : decode cX9_touch 44 = .ok (.getfield 19, 3) := by decide +kernel
theorem dX9_touch_47 : decode cX9_touch 47 = .ok (.iconst 5, 1) := by decide +kernel
theorem dX9_touch_48 : decode cX9_touch 48 = .ok (.iload_n 1, 1) := by decide +kernel
theorem dX9_touch_49 : decode cX9_touch 49 = .ok (.imul, 1) := by decide +kernel
theorem dX9_touch_50 : decode cX9_touch 50 = .ok (.iload_n 3, 1) := by decide +kernel
theorem dX9_touch_51 : decode cX9_touch 51 = .ok (.iadd, 1) := by decide +kernel
theorem dX9_touch_52 : decode cX9_touch 52 = .ok (.iaload, 1) := by decide +kernel
theorem dX9_touch_53 : decode cX9_touch 53 = .ok (.iastore, 1) := by decide +kernel
theorem dX9_touch_54 : decode cX9_touch 54 = .ok (.iinc 3 1, 3) := by decide +kernel
theorem dX9_touch_57 : decode cX9_touch 57 = .ok (.goto (-27), 3) := by decide +kernel
theorem dX9_touch_60 : decode cX9_touch 60 = .ok (.aload_n 0, 1) := by decide +kernel
theorem dX9_touch_61 : decode cX9_touch 61 = .ok (.aload_n 0, 1) := by decide +kernel
theorem dX9_touch_62 : decode cX9_touch 62 = .ok (.getfield 19, 3) := by decide +kernel
theorem dX9_touch_65 : decode cX9_touch 65 = .ok (.iload_n 1, 1) := by decide +kernel
theorem dX9_touch_66 : decode cX9_touch 66 = .ok (.iload_n 2, 1) := by decide +kernel
theorem dX9_touch_67 : decode cX9_touch 67 = .ok (.invokevirtual 202, 3) := by decide +kernel
theorem dX9_touch_70 : decode cX9_touch 70 = .ok (.aload_n 0, 1) := by decide +kernel
theorem dX9_touch_71 : decode cX9_touch 71 = .ok (.getfield 19, 3) := by decide +kernel
theorem dX9_touch_74 : decode cX9_touch 74 = .ok (.bipush 32, 2) := by decide +kernel
theorem dX9_touch_76 : decode cX9_touch 76 = .ok (.dup2, 1) := by decide +kernel
theorem dX9_touch_77 : decode cX9_touch 77 = .ok (.iaload, 1) := by decide +kernel
theorem dX9_touch_78 : decode cX9_touch 78 = .ok (.iconst 1, 1) := by decide +kernel
theorem dX9_touch_79 : decode cX9_touch 79 = .ok (.iadd, 1) := by decide +kernel
theorem dX9_touch_80 : decode cX9_touch 80 = .ok (.iastore, 1) := by decide +kernel
theorem dX9_touch_81 : decode cX9_touch 81 = .ok (.iconst 0, 1) := by decide +kernel
theorem dX9_touch_82 : decode cX9_touch 82 = .ok (.istore_n 3, 1) := by decide +kernel
theorem dX9_touch_83 : decode cX9_touch 83 = .ok (.iconst 0, 1) := by decide +kernel
theorem dX9_touch_84 : decode cX9_touch 84 = .ok (.istore 4, 2) := by decide +kernel
theorem dX9_touch_86 : decode cX9_touch 86 = .ok (.iload 4, 2) := by decide +kernel
theorem dX9_touch_88 : decode cX9_touch 88 = .ok (.aload_n 0, 1) := by decide +kernel
theorem dX9_touch_89 : decode cX9_touch 89 = .ok (.getfield 75, 3) := by decide +kernel
theorem dX9_touch_92 : decode cX9_touch 92 = .ok (.if_icmp .ge 44, 3) := by decide +kernel
theorem dX9_touch_95 : decode cX9_touch 95 = .ok (.aload_n 0, 1) := by decide +kernel
theorem dX9_touch_96 : decode cX9_touch 96 = .ok (.getfield 19, 3) := by decide +kernel
theorem dX9_touch_99 : decode cX9_touch 99 = .ok (.iconst 5, 1) := by decide +kernel
theorem dX9_touch_100 : decode cX9_touch 100 = .ok (.iload_n 1, 1) := by decide +kernel
theorem dX9_touch_101 : decode cX9_touch 101 = .ok (.imul, 1) := by decide +kernel
theorem dX9_touch_102 : decode cX9_touch 102 = .ok (.iload 4, 2) := by decide +kernel
theorem dX9_touch_104 : decode cX9_touch 104 = .ok (.iadd, 1) := by decide +kernel
theorem dX9_touch_105 : decode cX9_touch 105 = .ok (.iaload, 1) := by decide +kernel
theorem dX9_touch_106 : decode cX9_touch 106 = .ok (.aload_n 0, 1) := by decide +kernel
theorem dX9_touch_107 : decode cX9_touch 107 = .ok (.getfield 44, 3) := by decide +kernel
theorem dX9_touch_110 : decode cX9_touch 110 = .ok (.iload 4, 2) := by decide +kernel
theorem dX9_touch_112 : decode cX9_touch 112 = .ok (.iaload, 1) := by decide +kernel
theorem dX9_touch_113 : decode cX9_touch 113 = .ok (.isub, 1) := by decide +kernel
theorem dX9_touch_114 : decode cX9_touch 114 = .ok (.istore 5, 2) := by decide +kernel
theorem dX9_touch_116 : decode cX9_touch 116 = .ok (.iload_n 3, 1) := by decide +kernel
theorem dX9_touch_117 : decode cX9_touch 117 = .ok (.iload 5, 2) := by decide +kernel
theorem dX9_touch_119 : decode cX9_touch 119 = .ok (.ifCond .le 8, 3) := by decide +kernel
theorem dX9_touch_122 : decode cX9_touch 122 = .ok (.iload 5, 2) := by decide +kernel
theorem dX9_touch_124 : decode cX9_touch 124 = .ok (.goto 4, 3) := by decide +kernel
theorem dX9_touch_127 : decode cX9_touch 127 = .ok (.iconst 0, 1) := by decide +kernel
theorem dX9_touch_128 : decode cX9_touch 128 = .ok (.iadd, 1) := by decide +kernel
theorem dX9_touch_129 : decode cX9_touch 129 = .ok (.istore_n 3, 1) := by decide +kernel
theorem dX9_touch_130 : decode cX9_touch 130 = .ok (.iinc 4 1, 3) := by decide +kernel
theorem dX9_touch_133 : decode cX9_touch 133 = .ok (.goto (-47), 3) := by decide +kernel
theorem dX9_touch_136 : decode cX9_touch 136 = .ok (.iload_n 3, 1) := by decide +kernel
theorem dX9_touch_137 : decode cX9_touch 137 = .ok (.ireturn, 1) := by decide +kernel
theorem dX9_glove_0 : decode cX9_glove 0 = .ok (.aload_n 0, 1) := by decide +kernel
theorem dX9_glove_1 : decode cX9_glove 1 = .ok (.iload_n 1, 1) := by decide +kernel
theorem dX9_glove_2 : decode cX9_glove 2 = .ok (.invokevirtual 187, 3) := by decide +kernel
theorem dX9_glove_5 : decode cX9_glove 5 = .ok (.ifCond .ne 6, 3) := by decide +kernel
theorem dX9_glove_8 : decode cX9_glove 8 = .ok (.ldc 194, 2) := by decide +kernel
theorem dX9_glove_10 : decode cX9_glove 10 = .ok (.ireturn, 1) := by decide +kernel
theorem dX9_glove_11 : decode cX9_glove 11 = .ok (.aload_n 0, 1) := by decide +kernel
theorem dX9_glove_12 : decode cX9_glove 12 = .ok (.getfield 166, 3) := by decide +kernel
theorem dX9_glove_15 : decode cX9_glove 15 = .ok (.iload_n 1, 1) := by decide +kernel
theorem dX9_glove_16 : decode cX9_glove 16 = .ok (.invokestatic 140, 3) := by decide +kernel
theorem dX9_glove_19 : decode cX9_glove 19 = .ok (.ifCond .eq 6, 3) := by decide +kernel
theorem dX9_glove_22 : decode cX9_glove 22 = .ok (.ldc 205, 2) := by decide +kernel
theorem dX9_glove_24 : decode cX9_glove 24 = .ok (.ireturn, 1) := by decide +kernel
theorem dX9_glove_25 : decode cX9_glove 25 = .ok (.aload_n 0, 1) := by decide +kernel
theorem dX9_glove_26 : decode cX9_glove 26 = .ok (.invokevirtual 199, 3) := by decide +kernel
theorem dX9_glove_29 : decode cX9_glove 29 = .ok (.aload_n 0, 1) := by decide +kernel
theorem dX9_glove_30 : decode cX9_glove 30 = .ok (.getfield 19, 3) := by decide +kernel
theorem dX9_glove_33 : decode cX9_glove 33 = .ok (.bipush 30, 2) := by decide +kernel
theorem dX9_glove_35 : decode cX9_glove 35 = .ok (.iaload, 1) := by decide +kernel
theorem dX9_glove_36 : decode cX9_glove 36 = .ok (.iload_n 1, 1) := by decide +kernel
theorem dX9_glove_37 : decode cX9_glove 37 = .ok (.ishr, 1) := by decide +kernel
theorem dX9_glove_38 : decode cX9_glove 38 = .ok (.iconst 1, 1) := by decide +kernel
theorem dX9_glove_39 : decode cX9_glove 39 = .ok (.iand, 1) := by decide +kernel
theorem dX9_glove_40 : decode cX9_glove 40 = .ok (.istore_n 3, 1) := by decide +kernel
theorem dX9_glove_41 : decode cX9_glove 41 = .ok (.aload_n 0, 1) := by decide +kernel
theorem dX9_glove_42 : decode cX9_glove 42 = .ok (.getfield 19, 3) := by decide +kernel
theorem dX9_glove_45 : decode cX9_glove 45 = .ok (.bipush 30, 2) := by decide +kernel
theorem dX9_glove_47 : decode cX9_glove 47 = .ok (.iload_n 2, 1) := by decide +kernel
theorem dX9_glove_48 : decode cX9_glove 48 = .ok (.ifCond .eq 17, 3) := by decide +kernel
theorem dX9_glove_51 : decode cX9_glove 51 = .ok (.aload_n 0, 1) := by decide +kernel
theorem dX9_glove_52 : decode cX9_glove 52 = .ok (.getfield 19, 3) := by decide +kernel
theorem dX9_glove_55 : decode cX9_glove 55 = .ok (.bipush 30, 2) := by decide +kernel
theorem dX9_glove_57 : decode cX9_glove 57 = .ok (.iaload, 1) := by decide +kernel
theorem dX9_glove_58 : decode cX9_glove 58 = .ok (.iconst 1, 1) := by decide +kernel
theorem dX9_glove_59 : decode cX9_glove 59 = .ok (.iload_n 1, 1) := by decide +kernel
theorem dX9_glove_60 : decode cX9_glove 60 = .ok (.ishl, 1) := by decide +kernel
theorem dX9_glove_61 : decode cX9_glove 61 = .ok (.ior, 1) := by decide +kernel
theorem dX9_glove_62 : decode cX9_glove 62 = .ok (.goto 16, 3) := by decide +kernel
theorem dX9_glove_65 : decode cX9_glove 65 = .ok (.aload_n 0, 1) := by decide +kernel
theorem dX9_glove_66 : decode cX9_glove 66 = .ok (.getfield 19, 3) := by decide +kernel
theorem dX9_glove_69 : decode cX9_glove 69 = .ok (.bipush 30, 2) := by decide +kernel
theorem dX9_glove_71 : decode cX9_glove 71 = .ok (.iaload, 1) := by decide +kernel
theorem dX9_glove_72 : decode cX9_glove 72 = .ok (.iconst 1, 1) := by decide +kernel
theorem dX9_glove_73 : decode cX9_glove 73 = .ok (.iload_n 1, 1) := by decide +kernel
theorem dX9_glove_74 : decode cX9_glove 74 = .ok (.ishl, 1) := by decide +kernel
theorem dX9_glove_75 : decode cX9_glove 75 = .ok (.iconst (-1), 1) := by decide +kernel
theorem dX9_glove_76 : decode cX9_glove 76 = .ok (.ixor, 1) := by decide +kernel
theorem dX9_glove_77 : decode cX9_glove 77 = .ok (.iand, 1) := by decide +kernel
theorem dX9_glove_78 : decode cX9_glove 78 = .ok (.iastore, 1) := by decide +kernel
theorem dX9_glove_79 : decode cX9_glove 79 = .ok (.iload_n 3, 1) := by decide +kernel
theorem dX9_glove_80 : decode cX9_glove 80 = .ok (.ireturn, 1) := by decide +kernel
theorem dX9_washNow_0 : decode cX9_washNow 0 = .ok (.iconst 0, 1) := by decide +kernel
theorem dX9_washNow_1 : decode cX9_washNow 1 = .ok (.istore_n 2, 1) := by decide +kernel
theorem dX9_washNow_2 : decode cX9_washNow 2 = .ok (.iload_n 2, 1) := by decide +kernel
theorem dX9_washNow_3 : decode cX9_washNow 3 = .ok (.iconst 5, 1) := by decide +kernel
theorem dX9_washNow_4 : decode cX9_washNow 4 = .ok (.if_icmp .ge 29, 3) := by decide +kernel
theorem dX9_washNow_7 : decode cX9_washNow 7 = .ok (.aload_n 0, 1) := by decide +kernel
theorem dX9_washNow_8 : decode cX9_washNow 8 = .ok (.getfield 19, 3) := by decide +kernel
theorem dX9_washNow_11 : decode cX9_washNow 11 = .ok (.iconst 5, 1) := by decide +kernel
theorem dX9_washNow_12 : decode cX9_washNow 12 = .ok (.iload_n 1, 1) := by decide +kernel
theorem dX9_washNow_13 : decode cX9_washNow 13 = .ok (.imul, 1) := by decide +kernel
theorem dX9_washNow_14 : decode cX9_washNow 14 = .ok (.iload_n 2, 1) := by decide +kernel
theorem dX9_washNow_15 : decode cX9_washNow 15 = .ok (.iadd, 1) := by decide +kernel
theorem dX9_washNow_16 : decode cX9_washNow 16 = .ok (.aload_n 0, 1) := by decide +kernel
theorem dX9_washNow_17 : decode cX9_washNow 17 = .ok (.getfield 7, 3) := by decide +kernel
theorem dX9_washNow_20 : decode cX9_washNow 20 = .ok (.iconst 5, 1) := by decide +kernel
theorem dX9_washNow_21 : decode cX9_washNow 21 = .ok (.iload_n 1, 1) := by decide +kernel
theorem dX9_washNow_22 : decode cX9_washNow 22 = .ok (.imul, 1) := by decide +kernel
theorem dX9_washNow_23 : decode cX9_washNow 23 = .ok (.iload_n 2, 1) := by decide +kernel
theorem dX9_washNow_24 : decode cX9_washNow 24 = .ok (.iadd, 1) := by decide +kernel
theorem dX9_washNow_25 : decode cX9_washNow 25 = .ok (.iaload, 1) := by decide +kernel
theorem dX9_washNow_26 : decode cX9_washNow 26 = .ok (.iastore, 1) := by decide +kernel
theorem dX9_washNow_27 : decode cX9_washNow 27 = .ok (.iinc 2 1, 3) := by decide +kernel
theorem dX9_washNow_30 : decode cX9_washNow 30 = .ok (.goto (-28), 3) := by decide +kernel
theorem dX9_washNow_33 : decode cX9_washNow 33 = .ok (.aload_n 0, 1) := by decide +kernel
theorem dX9_washNow_34 : decode cX9_washNow 34 = .ok (.getfield 19, 3) := by decide +kernel
theorem dX9_washNow_37 : decode cX9_washNow 37 = .ok (.bipush 31, 2) := by decide +kernel
theorem dX9_washNow_39 : decode cX9_washNow 39 = .ok (.dup2, 1) := by decide +kernel
theorem dX9_washNow_40 : decode cX9_washNow 40 = .ok (.iaload, 1) := by decide +kernel
theorem dX9_washNow_41 : decode cX9_washNow 41 = .ok (.iconst 1, 1) := by decide +kernel
theorem dX9_washNow_42 : decode cX9_washNow 42 = .ok (.iadd, 1) := by decide +kernel
theorem dX9_washNow_43 : decode cX9_washNow 43 = .ok (.iastore, 1) := by decide +kernel
theorem dX9_washNow_44 : decode cX9_washNow 44 = .ok (.return_, 1) := by decide +kernel
theorem dX9_wash_0 : decode cX9_wash 0 = .ok (.aload_n 0, 1) := by decide +kernel
theorem dX9_wash_1 : decode cX9_wash 1 = .ok (.iload_n 1, 1) := by decide +kernel
theorem dX9_wash_2 : decode cX9_wash 2 = .ok (.invokevirtual 187, 3) := by decide +kernel
theorem dX9_wash_5 : decode cX9_wash 5 = .ok (.ifCond .ne 6, 3) := by decide +kernel
theorem dX9_wash_8 : decode cX9_wash 8 = .ok (.ldc 194, 2) := by decide +kernel
theorem dX9_wash_10 : decode cX9_wash 10 = .ok (.ireturn, 1) := by decide +kernel
theorem dX9_wash_11 : decode cX9_wash 11 = .ok (.aload_n 0, 1) := by decide +kernel
theorem dX9_wash_12 : decode cX9_wash 12 = .ok (.getfield 166, 3) := by decide +kernel
theorem dX9_wash_15 : decode cX9_wash 15 = .ok (.iload_n 1, 1) := by decide +kernel
theorem dX9_wash_16 : decode cX9_wash 16 = .ok (.invokestatic 140, 3) := by decide +kernel
theorem dX9_wash_19 : decode cX9_wash 19 = .ok (.ifCond .eq 6, 3) := by decide +kernel
theorem dX9_wash_22 : decode cX9_wash 22 = .ok (.ldc 205, 2) := by decide +kernel
theorem dX9_wash_24 : decode cX9_wash 24 = .ok (.ireturn, 1) := by decide +kernel
theorem dX9_wash_25 : decode cX9_wash 25 = .ok (.aload_n 0, 1) := by decide +kernel
theorem dX9_wash_26 : decode cX9_wash 26 = .ok (.invokevirtual 199, 3) := by decide +kernel
theorem dX9_wash_29 : decode cX9_wash 29 = .ok (.aload_n 0, 1) := by decide +kernel
theorem dX9_wash_30 : decode cX9_wash 30 = .ok (.iload_n 1, 1) := by decide +kernel
theorem dX9_wash_31 : decode cX9_wash 31 = .ok (.invokevirtual 206, 3) := by decide +kernel
theorem dX9_wash_34 : decode cX9_wash 34 = .ok (.aload_n 0, 1) := by decide +kernel
theorem dX9_wash_35 : decode cX9_wash 35 = .ok (.getfield 19, 3) := by decide +kernel
theorem dX9_wash_38 : decode cX9_wash 38 = .ok (.bipush 31, 2) := by decide +kernel
theorem dX9_wash_40 : decode cX9_wash 40 = .ok (.iaload, 1) := by decide +kernel
theorem dX9_wash_41 : decode cX9_wash 41 = .ok (.ireturn, 1) := by decide +kernel
theorem dX9_day_0 : decode cX9_day 0 = .ok (.aload_n 0, 1) := by decide +kernel
theorem dX9_day_1 : decode cX9_day 1 = .ok (.getfield 169, 3) := by decide +kernel
theorem dX9_day_4 : decode cX9_day 4 = .ok (.ifCond .ne 6, 3) := by decide +kernel
theorem dX9_day_7 : decode cX9_day 7 = .ok (.ldc 205, 2) := by decide +kernel
theorem dX9_day_9 : decode cX9_day 9 = .ok (.ireturn, 1) := by decide +kernel
theorem dX9_day_10 : decode cX9_day 10 = .ok (.aload_n 0, 1) := by decide +kernel
theorem dX9_day_11 : decode cX9_day 11 = .ok (.invokevirtual 199, 3) := by decide +kernel
theorem dX9_day_14 : decode cX9_day 14 = .ok (.iconst 0, 1) := by decide +kernel
theorem dX9_day_15 : decode cX9_day 15 = .ok (.istore_n 1, 1) := by decide +kernel
theorem dX9_day_16 : decode cX9_day 16 = .ok (.iload_n 1, 1) := by decide +kernel
theorem dX9_day_17 : decode cX9_day 17 = .ok (.aload_n 0, 1) := by decide +kernel
theorem dX9_day_18 : decode cX9_day 18 = .ok (.getfield 169, 3) := by decide +kernel
theorem dX9_day_21 : decode cX9_day 21 = .ok (.if_icmp .ge 29, 3) := by decide +kernel
theorem dX9_day_24 : decode cX9_day 24 = .ok (.aload_n 0, 1) := by decide +kernel
theorem dX9_day_25 : decode cX9_day 25 = .ok (.aload_n 0, 1) := by decide +kernel
theorem dX9_day_26 : decode cX9_day 26 = .ok (.getfield 19, 3) := by decide +kernel
theorem dX9_day_29 : decode cX9_day 29 = .ok (.aload_n 0, 1) := by decide +kernel
theorem dX9_day_30 : decode cX9_day 30 = .ok (.getfield 13, 3) := by decide +kernel
theorem dX9_day_33 : decode cX9_day 33 = .ok (.iload_n 1, 1) := by decide +kernel
theorem dX9_day_34 : decode cX9_day 34 = .ok (.iaload, 1) := by decide +kernel
theorem dX9_day_35 : decode cX9_day 35 = .ok (.aload_n 0, 1) := by decide +kernel
theorem dX9_day_36 : decode cX9_day 36 = .ok (.getfield 16, 3) := by decide +kernel
theorem dX9_day_39 : decode cX9_day 39 = .ok (.iload_n 1, 1) := by decide +kernel
theorem dX9_day_40 : decode cX9_day 40 = .ok (.iaload, 1) := by decide +kernel
theorem dX9_day_41 : decode cX9_day 41 = .ok (.invokevirtual 202, 3) := by decide +kernel
theorem dX9_day_44 : decode cX9_day 44 = .ok (.iinc 1 1, 3) := by decide +kernel
theorem dX9_day_47 : decode cX9_day 47 = .ok (.goto (-31), 3) := by decide +kernel
theorem dX9_day_50 : decode cX9_day 50 = .ok (.aload_n 0, 1) := by decide +kernel
theorem dX9_day_51 : decode cX9_day 51 = .ok (.getfield 19, 3) := by decide +kernel
theorem dX9_day_54 : decode cX9_day 54 = .ok (.bipush 32, 2) := by decide +kernel
theorem dX9_day_56 : decode cX9_day 56 = .ok (.dup2, 1) := by decide +kernel
theorem dX9_day_57 : decode cX9_day 57 = .ok (.iaload, 1) := by decide +kernel
theorem dX9_day_58 : decode cX9_day 58 = .ok (.aload_n 0, 1) := by decide +kernel
theorem dX9_day_59 : decode cX9_day 59 = .ok (.getfield 169, 3) := by decide +kernel
theorem dX9_day_62 : decode cX9_day 62 = .ok (.iadd, 1) := by decide +kernel
theorem dX9_day_63 : decode cX9_day 63 = .ok (.iastore, 1) := by decide +kernel
theorem dX9_day_64 : decode cX9_day 64 = .ok (.aload_n 0, 1) := by decide +kernel
theorem dX9_day_65 : decode cX9_day 65 = .ok (.getfield 19, 3) := by decide +kernel
theorem dX9_day_68 : decode cX9_day 68 = .ok (.bipush 32, 2) := by decide +kernel
theorem dX9_day_70 : decode cX9_day 70 = .ok (.iaload, 1) := by decide +kernel
theorem dX9_day_71 : decode cX9_day 71 = .ok (.ireturn, 1) := by decide +kernel
theorem dX9_draw_0 : decode cX9_draw 0 = .ok (.aload_n 0, 1) := by decide +kernel
theorem dX9_draw_1 : decode cX9_draw 1 = .ok (.aload_n 0, 1) := by decide +kernel
theorem dX9_draw_2 : decode cX9_draw 2 = .ok (.getfield 210, 3) := by decide +kernel
theorem dX9_draw_5 : decode cX9_draw 5 = .ok (.i2l, 1) := by decide +kernel
theorem dX9_draw_6 : decode cX9_draw 6 = .ok (.ldc2_w 213, 3) := by decide +kernel
theorem dX9_draw_9 : decode cX9_draw 9 = .ok (.lmul, 1) := by decide +kernel
theorem dX9_draw_10 : decode cX9_draw 10 = .ok (.ldc2_w 215, 3) := by decide +kernel
theorem dX9_draw_13 : decode cX9_draw 13 = .ok (.ladd, 1) := by decide +kernel
theorem dX9_draw_14 : decode cX9_draw 14 = .ok (.ldc2_w 217, 3) := by decide +kernel
theorem dX9_draw_17 : decode cX9_draw 17 = .ok (.lrem, 1) := by decide +kernel
theorem dX9_draw_18 : decode cX9_draw 18 = .ok (.l2i, 1) := by decide +kernel
theorem dX9_draw_19 : decode cX9_draw 19 = .ok (.putfield 210, 3) := by decide +kernel
theorem dX9_draw_22 : decode cX9_draw 22 = .ok (.aload_n 0, 1) := by decide +kernel
theorem dX9_draw_23 : decode cX9_draw 23 = .ok (.getfield 210, 3) := by decide +kernel
theorem dX9_draw_26 : decode cX9_draw 26 = .ok (.ldc 219, 2) := by decide +kernel
theorem dX9_draw_28 : decode cX9_draw 28 = .ok (.idiv, 1) := by decide +kernel
theorem dX9_draw_29 : decode cX9_draw 29 = .ok (.iload_n 1, 1) := by decide +kernel
theorem dX9_draw_30 : decode cX9_draw 30 = .ok (.irem, 1) := by decide +kernel
theorem dX9_draw_31 : decode cX9_draw 31 = .ok (.ireturn, 1) := by decide +kernel
theorem dX9_drift_0 : decode cX9_drift 0 = .ok (.iload_n 1, 1) := by decide +kernel
theorem dX9_drift_1 : decode cX9_drift 1 = .ok (.i2l, 1) := by decide +kernel
theorem dX9_drift_2 : decode cX9_drift 2 = .ok (.lconst 1, 1) := by decide +kernel
theorem dX9_drift_3 : decode cX9_drift 3 = .ok (.ldc2_w 220, 3) := by decide +kernel
theorem dX9_drift_6 : decode cX9_drift 6 = .ok (.invokestatic 81, 3) := by decide +kernel
theorem dX9_drift_9 : decode cX9_drift 9 = .ok (.ifCond .ne 6, 3) := by decide +kernel
theorem dX9_drift_12 : decode cX9_drift 12 = .ok (.ldc 89, 2) := by decide +kernel
theorem dX9_drift_14 : decode cX9_drift 14 = .ok (.ireturn, 1) := by decide +kernel
theorem dX9_drift_15 : decode cX9_drift 15 = .ok (.aload_n 0, 1) := by decide +kernel
theorem dX9_drift_16 : decode cX9_drift 16 = .ok (.getfield 78, 3) := by decide +kernel
theorem dX9_drift_19 : decode cX9_drift 19 = .ok (.iconst 2, 1) := by decide +kernel
theorem dX9_drift_20 : decode cX9_drift 20 = .ok (.if_icmp .ge 6, 3) := by decide +kernel
theorem dX9_drift_23 : decode cX9_drift 23 = .ok (.ldc 205, 2) := by decide +kernel
theorem dX9_drift_25 : decode cX9_drift 25 = .ok (.ireturn, 1) := by decide +kernel
theorem dX9_drift_26 : decode cX9_drift 26 = .ok (.aload_n 0, 1) := by decide +kernel
theorem dX9_drift_27 : decode cX9_drift 27 = .ok (.invokevirtual 199, 3) := by decide +kernel
theorem dX9_drift_30 : decode cX9_drift 30 = .ok (.iconst 0, 1) := by decide +kernel
theorem dX9_drift_31 : decode cX9_drift 31 = .ok (.istore_n 2, 1) := by decide +kernel
theorem dX9_drift_32 : decode cX9_drift 32 = .ok (.iload_n 2, 1) := by decide +kernel
theorem dX9_drift_33 : decode cX9_drift 33 = .ok (.iload_n 1, 1) := by decide +kernel
theorem dX9_drift_34 : decode cX9_drift 34 = .ok (.if_icmp .ge 98, 3) := by decide +kernel
theorem dX9_drift_37 : decode cX9_drift 37 = .ok (.aload_n 0, 1) := by decide +kernel
theorem dX9_drift_38 : decode cX9_drift 38 = .ok (.aload_n 0, 1) := by decide +kernel
theorem dX9_drift_39 : decode cX9_drift 39 = .ok (.getfield 78, 3) := by decide +kernel
theorem dX9_drift_42 : decode cX9_drift 42 = .ok (.invokevirtual 222, 3) := by decide +kernel
theorem dX9_drift_45 : decode cX9_drift 45 = .ok (.istore_n 3, 1) := by decide +kernel
theorem dX9_drift_46 : decode cX9_drift 46 = .ok (.iload_n 3, 1) := by decide +kernel
theorem dX9_drift_47 : decode cX9_drift 47 = .ok (.iconst 1, 1) := by decide +kernel
theorem dX9_drift_48 : decode cX9_drift 48 = .ok (.iadd, 1) := by decide +kernel
theorem dX9_drift_49 : decode cX9_drift 49 = .ok (.aload_n 0, 1) := by decide +kernel
theorem dX9_drift_50 : decode cX9_drift 50 = .ok (.aload_n 0, 1) := by decide +kernel
theorem dX9_drift_51 : decode cX9_drift 51 = .ok (.getfield 78, 3) := by decide +kernel
theorem dX9_drift_54 : decode cX9_drift 54 = .ok (.iconst 1, 1) := by decide +kernel
theorem dX9_drift_55 : decode cX9_drift 55 = .ok (.isub, 1) := by decide +kernel
theorem dX9_drift_56 : decode cX9_drift 56 = .ok (.invokevirtual 222, 3) := by decide +kernel
theorem dX9_drift_59 : decode cX9_drift 59 = .ok (.iadd, 1) := by decide +kernel
theorem dX9_drift_60 : decode cX9_drift 60 = .ok (.aload_n 0, 1) := by decide +kernel
theorem dX9_drift_61 : decode cX9_drift 61 = .ok (.getfield 78, 3) := by decide +kernel
theorem dX9_drift_64 : decode cX9_drift 64 = .ok (.irem, 1) := by decide +kernel
theorem dX9_drift_65 : decode cX9_drift 65 = .ok (.istore 4, 2) := by decide +kernel
theorem dX9_drift_67 : decode cX9_drift 67 = .ok (.aload_n 0, 1) := by decide +kernel
theorem dX9_drift_68 : decode cX9_drift 68 = .ok (.aload_n 0, 1) := by decide +kernel
theorem dX9_drift_69 : decode cX9_drift 69 = .ok (.getfield 19, 3) := by decide +kernel
theorem dX9_drift_72 : decode cX9_drift 72 = .ok (.iload_n 3, 1) := by decide +kernel
theorem dX9_drift_73 : decode cX9_drift 73 = .ok (.iload 4, 2) := by decide +kernel
theorem dX9_drift_75 : decode cX9_drift 75 = .ok (.invokevirtual 202, 3) := by decide +kernel
theorem dX9_drift_78 : decode cX9_drift 78 = .ok (.aload_n 0, 1) := by decide +kernel
theorem dX9_drift_79 : decode cX9_drift 79 = .ok (.getfield 19, 3) := by decide +kernel
theorem dX9_drift_82 : decode cX9_drift 82 = .ok (.bipush 32, 2) := by decide +kernel
theorem dX9_drift_84 : decode cX9_drift 84 = .ok (.dup2, 1) := by decide +kernel
theorem dX9_drift_85 : decode cX9_drift 85 = .ok (.iaload, 1) := by decide +kernel
theorem dX9_drift_86 : decode cX9_drift 86 = .ok (.iconst 1, 1) := by decide +kernel
theorem dX9_drift_87 : decode cX9_drift 87 = .ok (.iadd, 1) := by decide +kernel
theorem dX9_drift_88 : decode cX9_drift 88 = .ok (.iastore, 1) := by decide +kernel
theorem dX9_drift_89 : decode cX9_drift 89 = .ok (.aload_n 0, 1) := by decide +kernel
theorem dX9_drift_90 : decode cX9_drift 90 = .ok (.bipush 9, 2) := by decide +kernel
theorem dX9_drift_92 : decode cX9_drift 92 = .ok (.invokevirtual 222, 3) := by decide +kernel
theorem dX9_drift_95 : decode cX9_drift 95 = .ok (.ifCond .ne 31, 3) := by decide +kernel
theorem dX9_drift_98 : decode cX9_drift 98 = .ok (.aload_n 0, 1) := by decide +kernel
theorem dX9_drift_99 : decode cX9_drift 99 = .ok (.aload_n 0, 1) := by decide +kernel
theorem dX9_drift_100 : decode cX9_drift 100 = .ok (.getfield 78, 3) := by decide +kernel
theorem dX9_drift_103 : decode cX9_drift 103 = .ok (.invokevirtual 222, 3) := by decide +kernel
theorem dX9_drift_106 : decode cX9_drift 106 = .ok (.istore 5, 2) := by decide +kernel
theorem dX9_drift_108 : decode cX9_drift 108 = .ok (.aload_n 0, 1) := by decide +kernel
theorem dX9_drift_109 : decode cX9_drift 109 = .ok (.getfield 166, 3) := by decide +kernel
theorem dX9_drift_112 : decode cX9_drift 112 = .ok (.iload 5, 2) := by decide +kernel
theorem dX9_drift_114 : decode cX9_drift 114 = .ok (.invokestatic 140, 3) := by decide +kernel
theorem dX9_drift_117 : decode cX9_drift 117 = .ok (.ifCond .ne 9, 3) := by decide +kernel
theorem dX9_drift_120 : decode cX9_drift 120 = .ok (.aload_n 0, 1) := by decide +kernel
theorem dX9_drift_121 : decode cX9_drift 121 = .ok (.iload 5, 2) := by decide +kernel
theorem dX9_drift_123 : decode cX9_drift 123 = .ok (.invokevirtual 206, 3) := by decide +kernel
theorem dX9_drift_126 : decode cX9_drift 126 = .ok (.iinc 2 1, 3) := by decide +kernel
theorem dX9_drift_129 : decode cX9_drift 129 = .ok (.goto (-97), 3) := by decide +kernel
theorem dX9_drift_132 : decode cX9_drift 132 = .ok (.aload_n 0, 1) := by decide +kernel
theorem dX9_drift_133 : decode cX9_drift 133 = .ok (.getfield 19, 3) := by decide +kernel
theorem dX9_drift_136 : decode cX9_drift 136 = .ok (.bipush 32, 2) := by decide +kernel
theorem dX9_drift_138 : decode cX9_drift 138 = .ok (.iaload, 1) := by decide +kernel
theorem dX9_drift_139 : decode cX9_drift 139 = .ok (.ireturn, 1) := by decide +kernel
theorem dX9_undo_0 : decode cX9_undo 0 = .ok (.aload_n 0, 1) := by decide +kernel
theorem dX9_undo_1 : decode cX9_undo 1 = .ok (.getfield 184, 3) := by decide +kernel
theorem dX9_undo_4 : decode cX9_undo 4 = .ok (.ifCond .ne 6, 3) := by decide +kernel
theorem dX9_undo_7 : decode cX9_undo 7 = .ok (.ldc 205, 2) := by decide +kernel
theorem dX9_undo_9 : decode cX9_undo 9 = .ok (.ireturn, 1) := by decide +kernel
theorem dX9_undo_10 : decode cX9_undo 10 = .ok (.aload_n 0, 1) := by decide +kernel
theorem dX9_undo_11 : decode cX9_undo 11 = .ok (.dup, 1) := by decide +kernel
theorem dX9_undo_12 : decode cX9_undo 12 = .ok (.getfield 184, 3) := by decide +kernel
theorem dX9_undo_15 : decode cX9_undo 15 = .ok (.iconst 1, 1) := by decide +kernel
theorem dX9_undo_16 : decode cX9_undo 16 = .ok (.isub, 1) := by decide +kernel
theorem dX9_undo_17 : decode cX9_undo 17 = .ok (.putfield 184, 3) := by decide +kernel
theorem dX9_undo_20 : decode cX9_undo 20 = .ok (.iconst 0, 1) := by decide +kernel
theorem dX9_undo_21 : decode cX9_undo 21 = .ok (.istore_n 1, 1) := by decide +kernel
theorem dX9_undo_22 : decode cX9_undo 22 = .ok (.iload_n 1, 1) := by decide +kernel
theorem dX9_undo_23 : decode cX9_undo 23 = .ok (.bipush 33, 2) := by decide +kernel
theorem dX9_undo_25 : decode cX9_undo 25 = .ok (.if_icmp .ge 29, 3) := by decide +kernel
theorem dX9_undo_28 : decode cX9_undo 28 = .ok (.aload_n 0, 1) := by decide +kernel
theorem dX9_undo_29 : decode cX9_undo 29 = .ok (.getfield 19, 3) := by decide +kernel
theorem dX9_undo_32 : decode cX9_undo 32 = .ok (.iload_n 1, 1) := by decide +kernel
theorem dX9_undo_33 : decode cX9_undo 33 = .ok (.aload_n 0, 1) := by decide +kernel
theorem dX9_undo_34 : decode cX9_undo 34 = .ok (.getfield 41, 3) := by decide +kernel
theorem dX9_undo_37 : decode cX9_undo 37 = .ok (.bipush 33, 2) := by decide +kernel
theorem dX9_undo_39 : decode cX9_undo 39 = .ok (.aload_n 0, 1) := by decide +kernel
theorem dX9_undo_40 : decode cX9_undo 40 = .ok (.getfield 184, 3) := by decide +kernel
theorem dX9_undo_43 : decode cX9_undo 43 = .ok (.imul, 1) := by decide +kernel
theorem dX9_undo_44 : decode cX9_undo 44 = .ok (.iload_n 1, 1) := by decide +kernel
theorem dX9_undo_45 : decode cX9_undo 45 = .ok (.iadd, 1) := by decide +kernel
theorem dX9_undo_46 : decode cX9_undo 46 = .ok (.iaload, 1) := by decide +kernel
theorem dX9_undo_47 : decode cX9_undo 47 = .ok (.iastore, 1) := by decide +kernel
theorem dX9_undo_48 : decode cX9_undo 48 = .ok (.iinc 1 1, 3) := by decide +kernel
theorem dX9_undo_51 : decode cX9_undo 51 = .ok (.goto (-29), 3) := by decide +kernel
theorem dX9_undo_54 : decode cX9_undo 54 = .ok (.aload_n 0, 1) := by decide +kernel
theorem dX9_undo_55 : decode cX9_undo 55 = .ok (.getfield 184, 3) := by decide +kernel
theorem dX9_undo_58 : decode cX9_undo 58 = .ok (.ireturn, 1) := by decide +kernel
theorem dX9_begin_0 : decode cX9_begin 0 = .ok (.iconst 0, 1) := by decide +kernel
theorem dX9_begin_1 : decode cX9_begin 1 = .ok (.istore_n 1, 1) := by decide +kernel
theorem dX9_begin_2 : decode cX9_begin 2 = .ok (.iload_n 1, 1) := by decide +kernel
theorem dX9_begin_3 : decode cX9_begin 3 = .ok (.bipush 30, 2) := by decide +kernel
theorem dX9_begin_5 : decode cX9_begin 5 = .ok (.if_icmp .ge 21, 3) := by decide +kernel
theorem dX9_begin_8 : decode cX9_begin 8 = .ok (.aload_n 0, 1) := by decide +kernel
theorem dX9_begin_9 : decode cX9_begin 9 = .ok (.getfield 47, 3) := by decide +kernel
theorem dX9_begin_12 : decode cX9_begin 12 = .ok (.iload_n 1, 1) := by decide +kernel
theorem dX9_begin_13 : decode cX9_begin 13 = .ok (.aload_n 0, 1) := by decide +kernel
theorem dX9_begin_14 : decode cX9_begin 14 = .ok (.getfield 19, 3) := by decide +kernel
theorem dX9_begin_17 : decode cX9_begin 17 = .ok (.iload_n 1, 1) := by decide +kernel
theorem dX9_begin_18 : decode cX9_begin 18 = .ok (.iaload, 1) := by decide +kernel
theorem dX9_begin_19 : decode cX9_begin 19 = .ok (.iastore, 1) := by decide +kernel
theorem dX9_begin_20 : decode cX9_begin 20 = .ok (.iinc 1 1, 3) := by decide +kernel
theorem dX9_begin_23 : decode cX9_begin 23 = .ok (.goto (-21), 3) := by decide +kernel
theorem dX9_begin_26 : decode cX9_begin 26 = .ok (.return_, 1) := by decide +kernel
theorem dX9_goOn_0 : decode cX9_goOn 0 = .ok (.iload_n 1, 1) := by decide +kernel
theorem dX9_goOn_1 : decode cX9_goOn 1 = .ok (.istore 4, 2) := by decide +kernel
theorem dX9_goOn_3 : decode cX9_goOn 3 = .ok (.iload 4, 2) := by decide +kernel
theorem dX9_goOn_5 : decode cX9_goOn 5 = .ok (.iload_n 2, 1) := by decide +kernel
theorem dX9_goOn_6 : decode cX9_goOn 6 = .ok (.if_icmp .ge 40, 3) := by decide +kernel
theorem dX9_goOn_9 : decode cX9_goOn 9 = .ok (.iload_n 3, 1) := by decide +kernel
theorem dX9_goOn_10 : decode cX9_goOn 10 = .ok (.iload 4, 2) := by decide +kernel
theorem dX9_goOn_12 : decode cX9_goOn 12 = .ok (.invokestatic 140, 3) := by decide +kernel
theorem dX9_goOn_15 : decode cX9_goOn 15 = .ok (.ifCond .ne 25, 3) := by decide +kernel
theorem dX9_goOn_18 : decode cX9_goOn 18 = .ok (.aload_n 0, 1) := by decide +kernel
theorem dX9_goOn_19 : decode cX9_goOn 19 = .ok (.aload_n 0, 1) := by decide +kernel
theorem dX9_goOn_20 : decode cX9_goOn 20 = .ok (.getfield 47, 3) := by decide +kernel
theorem dX9_goOn_23 : decode cX9_goOn 23 = .ok (.aload_n 0, 1) := by decide +kernel
theorem dX9_goOn_24 : decode cX9_goOn 24 = .ok (.getfield 13, 3) := by decide +kernel
theorem dX9_goOn_27 : decode cX9_goOn 27 = .ok (.iload 4, 2) := by decide +kernel
theorem dX9_goOn_29 : decode cX9_goOn 29 = .ok (.iaload, 1) := by decide +kernel
theorem dX9_goOn_30 : decode cX9_goOn 30 = .ok (.aload_n 0, 1) := by decide +kernel
theorem dX9_goOn_31 : decode cX9_goOn 31 = .ok (.getfield 16, 3) := by decide +kernel
theorem dX9_goOn_34 : decode cX9_goOn 34 = .ok (.iload 4, 2) := by decide +kernel
theorem dX9_goOn_36 : decode cX9_goOn 36 = .ok (.iaload, 1) := by decide +kernel
theorem dX9_goOn_37 : decode cX9_goOn 37 = .ok (.invokevirtual 202, 3) := by decide +kernel
theorem dX9_goOn_40 : decode cX9_goOn 40 = .ok (.iinc 4 1, 3) := by decide +kernel
theorem dX9_goOn_43 : decode cX9_goOn 43 = .ok (.goto (-40), 3) := by decide +kernel
theorem dX9_goOn_46 : decode cX9_goOn 46 = .ok (.return_, 1) := by decide +kernel
theorem dX9_shows_0 : decode cX9_shows 0 = .ok (.aload_n 0, 1) := by decide +kernel
theorem dX9_shows_1 : decode cX9_shows 1 = .ok (.iload_n 1, 1) := by decide +kernel
theorem dX9_shows_2 : decode cX9_shows 2 = .ok (.invokevirtual 187, 3) := by decide +kernel
theorem dX9_shows_5 : decode cX9_shows 5 = .ok (.ifCond .eq 11, 3) := by decide +kernel
theorem dX9_shows_8 : decode cX9_shows 8 = .ok (.aload_n 0, 1) := by decide +kernel
theorem dX9_shows_9 : decode cX9_shows 9 = .ok (.iload_n 2, 1) := by decide +kernel
theorem dX9_shows_10 : decode cX9_shows 10 = .ok (.invokevirtual 191, 3) := by decide +kernel
theorem dX9_shows_13 : decode cX9_shows 13 = .ok (.ifCond .ne 6, 3) := by decide +kernel
theorem dX9_shows_16 : decode cX9_shows 16 = .ok (.ldc 194, 2) := by decide +kernel
theorem dX9_shows_18 : decode cX9_shows 18 = .ok (.ireturn, 1) := by decide +kernel
theorem dX9_shows_19 : decode cX9_shows 19 = .ok (.iload_n 3, 1) := by decide +kernel
theorem dX9_shows_20 : decode cX9_shows 20 = .ok (.i2l, 1) := by decide +kernel
theorem dX9_shows_21 : decode cX9_shows 21 = .ok (.lconst 0, 1) := by decide +kernel
theorem dX9_shows_22 : decode cX9_shows 22 = .ok (.aload_n 0, 1) := by decide +kernel
theorem dX9_shows_23 : decode cX9_shows 23 = .ok (.getfield 169, 3) := by decide +kernel
theorem dX9_shows_26 : decode cX9_shows 26 = .ok (.i2l, 1) := by decide +kernel
theorem dX9_shows_27 : decode cX9_shows 27 = .ok (.invokestatic 81, 3) := by decide +kernel
theorem dX9_shows_30 : decode cX9_shows 30 = .ok (.ifCond .ne 6, 3) := by decide +kernel
theorem dX9_shows_33 : decode cX9_shows 33 = .ok (.ldc 89, 2) := by decide +kernel
theorem dX9_shows_35 : decode cX9_shows 35 = .ok (.ireturn, 1) := by decide +kernel
theorem dX9_shows_36 : decode cX9_shows 36 = .ok (.aload_n 0, 1) := by decide +kernel
theorem dX9_shows_37 : decode cX9_shows 37 = .ok (.invokevirtual 225, 3) := by decide +kernel
theorem dX9_shows_40 : decode cX9_shows 40 = .ok (.aload_n 0, 1) := by decide +kernel
theorem dX9_shows_41 : decode cX9_shows 41 = .ok (.iconst 0, 1) := by decide +kernel
theorem dX9_shows_42 : decode cX9_shows 42 = .ok (.iload_n 3, 1) := by decide +kernel
theorem dX9_shows_43 : decode cX9_shows 43 = .ok (.iconst 0, 1) := by decide +kernel
theorem dX9_shows_44 : decode cX9_shows 44 = .ok (.invokevirtual 228, 3) := by decide +kernel
theorem dX9_shows_47 : decode cX9_shows 47 = .ok (.aload_n 0, 1) := by decide +kernel
theorem dX9_shows_48 : decode cX9_shows 48 = .ok (.getfield 47, 3) := by decide +kernel
theorem dX9_shows_51 : decode cX9_shows 51 = .ok (.iconst 5, 1) := by decide +kernel
theorem dX9_shows_52 : decode cX9_shows 52 = .ok (.iload_n 1, 1) := by decide +kernel
theorem dX9_shows_53 : decode cX9_shows 53 = .ok (.imul, 1) := by decide +kernel
theorem dX9_shows_54 : decode cX9_shows 54 = .ok (.iload_n 2, 1) := by decide +kernel
theorem dX9_shows_55 : decode cX9_shows 55 = .ok (.iadd, 1) := by decide +kernel
theorem dX9_shows_56 : decode cX9_shows 56 = .ok (.iaload, 1) := by decide +kernel
theorem dX9_shows_57 : decode cX9_shows 57 = .ok (.ireturn, 1) := by decide +kernel
theorem dX9_areAlike_0 : decode cX9_areAlike 0 = .ok (.iconst 1, 1) := by decide +kernel
theorem dX9_areAlike_1 : decode cX9_areAlike 1 = .ok (.istore_n 3, 1) := by decide +kernel
theorem dX9_areAlike_2 : decode cX9_areAlike 2 = .ok (.iconst 0, 1) := by decide +kernel
theorem dX9_areAlike_3 : decode cX9_areAlike 3 = .ok (.istore 4, 2) := by decide +kernel
theorem dX9_areAlike_5 : decode cX9_areAlike 5 = .ok (.iload 4, 2) := by decide +kernel
theorem dX9_areAlike_7 : decode cX9_areAlike 7 = .ok (.aload_n 0, 1) := by decide +kernel
theorem dX9_areAlike_8 : decode cX9_areAlike 8 = .ok (.getfield 75, 3) := by decide +kernel
theorem dX9_areAlike_11 : decode cX9_areAlike 11 = .ok (.if_icmp .ge 44, 3) := by decide +kernel
theorem dX9_areAlike_14 : decode cX9_areAlike 14 = .ok (.iload_n 3, 1) := by decide +kernel
theorem dX9_areAlike_15 : decode cX9_areAlike 15 = .ok (.ifCond .eq 32, 3) := by decide +kernel
theorem dX9_areAlike_18 : decode cX9_areAlike 18 = .ok (.aload_n 0, 1) := by decide +kernel
theorem dX9_areAlike_19 : decode cX9_areAlike 19 = .ok (.getfield 47, 3) := by decide +kernel
theorem dX9_areAlike_22 : decode cX9_areAlike 22 = .ok (.iconst 5, 1) := by decide +kernel
theorem dX9_areAlike_23 : decode cX9_areAlike 23 = .ok (.iload_n 1, 1) := by decide +kernel
theorem dX9_areAlike_24 : decode cX9_areAlike 24 = .ok (.imul, 1) := by decide +kernel
theorem dX9_areAlike_25 : decode cX9_areAlike 25 = .ok (.iload 4, 2) := by decide +kernel
theorem dX9_areAlike_27 : decode cX9_areAlike 27 = .ok (.iadd, 1) := by decide +kernel
theorem dX9_areAlike_28 : decode cX9_areAlike 28 = .ok (.iaload, 1) := by decide +kernel
theorem dX9_areAlike_29 : decode cX9_areAlike 29 = .ok (.aload_n 0, 1) := by decide +kernel
theorem dX9_areAlike_30 : decode cX9_areAlike 30 = .ok (.getfield 47, 3) := by decide +kernel
theorem dX9_areAlike_33 : decode cX9_areAlike 33 = .ok (.iconst 5, 1) := by decide +kernel
theorem dX9_areAlike_34 : decode cX9_areAlike 34 = .ok (.iload_n 2, 1) := by decide +kernel
theorem dX9_areAlike_35 : decode cX9_areAlike 35 = .ok (.imul, 1) := by decide +kernel
theorem dX9_areAlike_36 : decode cX9_areAlike 36 = .ok (.iload 4, 2) := by decide +kernel
theorem dX9_areAlike_38 : decode cX9_areAlike 38 = .ok (.iadd, 1) := by decide +kernel
theorem dX9_areAlike_39 : decode cX9_areAlike 39 = .ok (.iaload, 1) := by decide +kernel
theorem dX9_areAlike_40 : decode cX9_areAlike 40 = .ok (.if_icmp .ne 7, 3) := by decide +kernel
theorem dX9_areAlike_43 : decode cX9_areAlike 43 = .ok (.iconst 1, 1) := by decide +kernel
theorem dX9_areAlike_44 : decode cX9_areAlike 44 = .ok (.goto 4, 3) := by decide +kernel
theorem dX9_areAlike_47 : decode cX9_areAlike 47 = .ok (.iconst 0, 1) := by decide +kernel
theorem dX9_areAlike_48 : decode cX9_areAlike 48 = .ok (.istore_n 3, 1) := by decide +kernel
theorem dX9_areAlike_49 : decode cX9_areAlike 49 = .ok (.iinc 4 1, 3) := by decide +kernel
theorem dX9_areAlike_52 : decode cX9_areAlike 52 = .ok (.goto (-47), 3) := by decide +kernel
theorem dX9_areAlike_55 : decode cX9_areAlike 55 = .ok (.iload_n 3, 1) := by decide +kernel
theorem dX9_areAlike_56 : decode cX9_areAlike 56 = .ok (.ireturn, 1) := by decide +kernel
theorem dX9_alike_0 : decode cX9_alike 0 = .ok (.aload_n 0, 1) := by decide +kernel
theorem dX9_alike_1 : decode cX9_alike 1 = .ok (.iload_n 1, 1) := by decide +kernel
theorem dX9_alike_2 : decode cX9_alike 2 = .ok (.invokevirtual 187, 3) := by decide +kernel
theorem dX9_alike_5 : decode cX9_alike 5 = .ok (.ifCond .eq 16, 3) := by decide +kernel
theorem dX9_alike_8 : decode cX9_alike 8 = .ok (.aload_n 0, 1) := by decide +kernel
theorem dX9_alike_9 : decode cX9_alike 9 = .ok (.iload_n 2, 1) := by decide +kernel
theorem dX9_alike_10 : decode cX9_alike 10 = .ok (.invokevirtual 187, 3) := by decide +kernel
theorem dX9_alike_13 : decode cX9_alike 13 = .ok (.ifCond .eq 8, 3) := by decide +kernel
theorem dX9_alike_16 : decode cX9_alike 16 = .ok (.iload_n 1, 1) := by decide +kernel
theorem dX9_alike_17 : decode cX9_alike 17 = .ok (.iload_n 2, 1) := by decide +kernel
theorem dX9_alike_18 : decode cX9_alike 18 = .ok (.if_icmp .ne 6, 3) := by decide +kernel
theorem dX9_alike_21 : decode cX9_alike 21 = .ok (.ldc 194, 2) := by decide +kernel
theorem dX9_alike_23 : decode cX9_alike 23 = .ok (.ireturn, 1) := by decide +kernel
theorem dX9_alike_24 : decode cX9_alike 24 = .ok (.aload_n 0, 1) := by decide +kernel
theorem dX9_alike_25 : decode cX9_alike 25 = .ok (.invokevirtual 225, 3) := by decide +kernel
theorem dX9_alike_28 : decode cX9_alike 28 = .ok (.iconst 0, 1) := by decide +kernel
theorem dX9_alike_29 : decode cX9_alike 29 = .ok (.istore_n 3, 1) := by decide +kernel
theorem dX9_alike_30 : decode cX9_alike 30 = .ok (.iload_n 3, 1) := by decide +kernel
theorem dX9_alike_31 : decode cX9_alike 31 = .ok (.aload_n 0, 1) := by decide +kernel
theorem dX9_alike_32 : decode cX9_alike 32 = .ok (.getfield 169, 3) := by decide +kernel
theorem dX9_alike_35 : decode cX9_alike 35 = .ok (.if_icmp .gt 41, 3) := by decide +kernel
theorem dX9_alike_38 : decode cX9_alike 38 = .ok (.aload_n 0, 1) := by decide +kernel
theorem dX9_alike_39 : decode cX9_alike 39 = .ok (.iload_n 1, 1) := by decide +kernel
theorem dX9_alike_40 : decode cX9_alike 40 = .ok (.iload_n 2, 1) := by decide +kernel
theorem dX9_alike_41 : decode cX9_alike 41 = .ok (.invokevirtual 232, 3) := by decide +kernel
theorem dX9_alike_44 : decode cX9_alike 44 = .ok (.ifCond .eq 5, 3) := by decide +kernel
theorem dX9_alike_47 : decode cX9_alike 47 = .ok (.iload_n 3, 1) := by decide +kernel
theorem dX9_alike_48 : decode cX9_alike 48 = .ok (.ireturn, 1) := by decide +kernel
theorem dX9_alike_49 : decode cX9_alike 49 = .ok (.aload_n 0, 1) := by decide +kernel
theorem dX9_alike_50 : decode cX9_alike 50 = .ok (.iload_n 3, 1) := by decide +kernel
theorem dX9_alike_51 : decode cX9_alike 51 = .ok (.iload_n 3, 1) := by decide +kernel
theorem dX9_alike_52 : decode cX9_alike 52 = .ok (.aload_n 0, 1) := by decide +kernel
theorem dX9_alike_53 : decode cX9_alike 53 = .ok (.getfield 169, 3) := by decide +kernel
theorem dX9_alike_56 : decode cX9_alike 56 = .ok (.if_icmp .ge 9, 3) := by decide +kernel
theorem dX9_alike_59 : decode cX9_alike 59 = .ok (.iload_n 3, 1) := by decide +kernel
theorem dX9_alike_60 : decode cX9_alike 60 = .ok (.iconst 1, 1) := by decide +kernel
theorem dX9_alike_61 : decode cX9_alike 61 = .ok (.iadd, 1) := by decide +kernel
theorem dX9_alike_62 : decode cX9_alike 62 = .ok (.goto 4, 3) := by decide +kernel
theorem dX9_alike_65 : decode cX9_alike 65 = .ok (.iload_n 3, 1) := by decide +kernel
theorem dX9_alike_66 : decode cX9_alike 66 = .ok (.iconst 0, 1) := by decide +kernel
theorem dX9_alike_67 : decode cX9_alike 67 = .ok (.invokevirtual 228, 3) := by decide +kernel
theorem dX9_alike_70 : decode cX9_alike 70 = .ok (.iinc 3 1, 3) := by decide +kernel
theorem dX9_alike_73 : decode cX9_alike 73 = .ok (.goto (-43), 3) := by decide +kernel
theorem dX9_alike_76 : decode cX9_alike 76 = .ok (.iconst (-1), 1) := by decide +kernel
theorem dX9_alike_77 : decode cX9_alike 77 = .ok (.ireturn, 1) := by decide +kernel
theorem dX9_trail_0 : decode cX9_trail 0 = .ok (.aload_n 0, 1) := by decide +kernel
theorem dX9_trail_1 : decode cX9_trail 1 = .ok (.iload_n 1, 1) := by decide +kernel
theorem dX9_trail_2 : decode cX9_trail 2 = .ok (.invokevirtual 191, 3) := by decide +kernel
theorem dX9_trail_5 : decode cX9_trail 5 = .ok (.ifCond .eq 11, 3) := by decide +kernel
theorem dX9_trail_8 : decode cX9_trail 8 = .ok (.aload_n 0, 1) := by decide +kernel
theorem dX9_trail_9 : decode cX9_trail 9 = .ok (.iload_n 2, 1) := by decide +kernel
theorem dX9_trail_10 : decode cX9_trail 10 = .ok (.invokevirtual 187, 3) := by decide +kernel
theorem dX9_trail_13 : decode cX9_trail 13 = .ok (.ifCond .ne 6, 3) := by decide +kernel
theorem dX9_trail_16 : decode cX9_trail 16 = .ok (.ldc 194, 2) := by decide +kernel
theorem dX9_trail_18 : decode cX9_trail 18 = .ok (.ireturn, 1) := by decide +kernel
theorem dX9_trail_19 : decode cX9_trail 19 = .ok (.iload_n 3, 1) := by decide +kernel
theorem dX9_trail_20 : decode cX9_trail 20 = .ok (.i2l, 1) := by decide +kernel
theorem dX9_trail_21 : decode cX9_trail 21 = .ok (.lconst 0, 1) := by decide +kernel
theorem dX9_trail_22 : decode cX9_trail 22 = .ok (.lconst 1, 1) := by decide +kernel
theorem dX9_trail_23 : decode cX9_trail 23 = .ok (.invokestatic 81, 3) := by decide +kernel
theorem dX9_trail_26 : decode cX9_trail 26 = .ok (.ifCond .ne 6, 3) := by decide +kernel
theorem dX9_trail_29 : decode cX9_trail 29 = .ok (.ldc 89, 2) := by decide +kernel
theorem dX9_trail_31 : decode cX9_trail 31 = .ok (.ireturn, 1) := by decide +kernel
theorem dX9_trail_32 : decode cX9_trail 32 = .ok (.aload_n 0, 1) := by decide +kernel
theorem dX9_trail_33 : decode cX9_trail 33 = .ok (.invokevirtual 225, 3) := by decide +kernel
theorem dX9_trail_36 : decode cX9_trail 36 = .ok (.iconst 0, 1) := by decide +kernel
theorem dX9_trail_37 : decode cX9_trail 37 = .ok (.istore 4, 2) := by decide +kernel
theorem dX9_trail_39 : decode cX9_trail 39 = .ok (.iload 4, 2) := by decide +kernel
theorem dX9_trail_41 : decode cX9_trail 41 = .ok (.aload_n 0, 1) := by decide +kernel
theorem dX9_trail_42 : decode cX9_trail 42 = .ok (.getfield 169, 3) := by decide +kernel
theorem dX9_trail_45 : decode cX9_trail 45 = .ok (.if_icmp .ge 85, 3) := by decide +kernel
theorem dX9_trail_48 : decode cX9_trail 48 = .ok (.aload_n 0, 1) := by decide +kernel
theorem dX9_trail_49 : decode cX9_trail 49 = .ok (.getfield 47, 3) := by decide +kernel
theorem dX9_trail_52 : decode cX9_trail 52 = .ok (.iconst 5, 1) := by decide +kernel
theorem dX9_trail_53 : decode cX9_trail 53 = .ok (.iload_n 2, 1) := by decide +kernel
theorem dX9_trail_54 : decode cX9_trail 54 = .ok (.imul, 1) := by decide +kernel
theorem dX9_trail_55 : decode cX9_trail 55 = .ok (.iload_n 1, 1) := by decide +kernel
theorem dX9_trail_56 : decode cX9_trail 56 = .ok (.iadd, 1) := by decide +kernel
theorem dX9_trail_57 : decode cX9_trail 57 = .ok (.iaload, 1) := by decide +kernel
theorem dX9_trail_58 : decode cX9_trail 58 = .ok (.istore 5, 2) := by decide +kernel
theorem dX9_trail_60 : decode cX9_trail 60 = .ok (.aload_n 0, 1) := by decide +kernel
theorem dX9_trail_61 : decode cX9_trail 61 = .ok (.iload 4, 2) := by decide +kernel
theorem dX9_trail_63 : decode cX9_trail 63 = .ok (.iload 4, 2) := by decide +kernel
theorem dX9_trail_65 : decode cX9_trail 65 = .ok (.iconst 1, 1) := by decide +kernel
theorem dX9_trail_66 : decode cX9_trail 66 = .ok (.iadd, 1) := by decide +kernel
theorem dX9_trail_67 : decode cX9_trail 67 = .ok (.iconst 0, 1) := by decide +kernel
theorem dX9_trail_68 : decode cX9_trail 68 = .ok (.invokevirtual 228, 3) := by decide +kernel
theorem dX9_trail_71 : decode cX9_trail 71 = .ok (.aload_n 0, 1) := by decide +kernel
theorem dX9_trail_72 : decode cX9_trail 72 = .ok (.getfield 47, 3) := by decide +kernel
theorem dX9_trail_75 : decode cX9_trail 75 = .ok (.iconst 5, 1) := by decide +kernel
theorem dX9_trail_76 : decode cX9_trail 76 = .ok (.iload_n 2, 1) := by decide +kernel
theorem dX9_trail_77 : decode cX9_trail 77 = .ok (.imul, 1) := by decide +kernel
theorem dX9_trail_78 : decode cX9_trail 78 = .ok (.iload_n 1, 1) := by decide +kernel
theorem dX9_trail_79 : decode cX9_trail 79 = .ok (.iadd, 1) := by decide +kernel
theorem dX9_trail_80 : decode cX9_trail 80 = .ok (.iaload, 1) := by decide +kernel
theorem dX9_trail_81 : decode cX9_trail 81 = .ok (.iload 5, 2) := by decide +kernel
theorem dX9_trail_83 : decode cX9_trail 83 = .ok (.if_icmp .le 41, 3) := by decide +kernel
theorem dX9_trail_86 : decode cX9_trail 86 = .ok (.iload_n 3, 1) := by decide +kernel
theorem dX9_trail_87 : decode cX9_trail 87 = .ok (.ifCond .ne 8, 3) := by decide +kernel
theorem dX9_trail_90 : decode cX9_trail 90 = .ok (.iload 4, 2) := by decide +kernel
theorem dX9_trail_92 : decode cX9_trail 92 = .ok (.goto 31, 3) := by decide +kernel
theorem dX9_trail_95 : decode cX9_trail 95 = .ok (.aload_n 0, 1) := by decide +kernel
theorem dX9_trail_96 : decode cX9_trail 96 = .ok (.getfield 13, 3) := by decide +kernel
theorem dX9_trail_99 : decode cX9_trail 99 = .ok (.iload 4, 2) := by decide +kernel
theorem dX9_trail_101 : decode cX9_trail 101 = .ok (.iaload, 1) := by decide +kernel
theorem dX9_trail_102 : decode cX9_trail 102 = .ok (.iload_n 2, 1) := by decide +kernel
theorem dX9_trail_103 : decode cX9_trail 103 = .ok (.if_icmp .ne 13, 3) := by decide +kernel
theorem dX9_trail_106 : decode cX9_trail 106 = .ok (.aload_n 0, 1) := by decide +kernel
theorem dX9_trail_107 : decode cX9_trail 107 = .ok (.getfield 16, 3) := by decide +kernel
theorem dX9_trail_110 : decode cX9_trail 110 = .ok (.iload 4, 2) := by decide +kernel
theorem dX9_trail_112 : decode cX9_trail 112 = .ok (.iaload, 1) := by decide +kernel
theorem dX9_trail_113 : decode cX9_trail 113 = .ok (.goto 10, 3) := by decide +kernel
theorem dX9_trail_116 : decode cX9_trail 116 = .ok (.aload_n 0, 1) := by decide +kernel
theorem dX9_trail_117 : decode cX9_trail 117 = .ok (.getfield 13, 3) := by decide +kernel
theorem dX9_trail_120 : decode cX9_trail 120 = .ok (.iload 4, 2) := by decide +kernel
theorem dX9_trail_122 : decode cX9_trail 122 = .ok (.iaload, 1) := by decide +kernel
theorem dX9_trail_123 : decode cX9_trail 123 = .ok (.ireturn, 1) := by decide +kernel
theorem dX9_trail_124 : decode cX9_trail 124 = .ok (.iinc 4 1, 3) := by decide +kernel
theorem dX9_trail_127 : decode cX9_trail 127 = .ok (.goto (-88), 3) := by decide +kernel
theorem dX9_trail_130 : decode cX9_trail 130 = .ok (.iconst (-1), 1) := by decide +kernel
theorem dX9_trail_131 : decode cX9_trail 131 = .ok (.ireturn, 1) := by decide +kernel
theorem dX9_figure_0 : decode cX9_figure 0 = .ok (.iload_n 0, 1) := by decide +kernel
theorem dX9_figure_1 : decode cX9_figure 1 = .ok (.istore_n 3, 1) := by decide +kernel
theorem dX9_figure_2 : decode cX9_figure 2 = .ok (.iload_n 1, 1) := by decide +kernel
theorem dX9_figure_3 : decode cX9_figure 3 = .ok (.iconst 1, 1) := by decide +kernel
theorem dX9_figure_4 : decode cX9_figure 4 = .ok (.isub, 1) := by decide +kernel
theorem dX9_figure_5 : decode cX9_figure 5 = .ok (.istore 4, 2) := by decide +kernel
theorem dX9_figure_7 : decode cX9_figure 7 = .ok (.iload 4, 2) := by decide +kernel
theorem dX9_figure_9 : decode cX9_figure 9 = .ok (.iload_n 2, 1) := by decide +kernel
theorem dX9_figure_10 : decode cX9_figure 10 = .ok (.if_icmp .le 14, 3) := by decide +kernel
theorem dX9_figure_13 : decode cX9_figure 13 = .ok (.iload_n 3, 1) := by decide +kernel
theorem dX9_figure_14 : decode cX9_figure 14 = .ok (.bipush 36, 2) := by decide +kernel
theorem dX9_figure_16 : decode cX9_figure 16 = .ok (.idiv, 1) := by decide +kernel
theorem dX9_figure_17 : decode cX9_figure 17 = .ok (.istore_n 3, 1) := by decide +kernel
theorem dX9_figure_18 : decode cX9_figure 18 = .ok (.iinc 4 (-1), 3) := by decide +kernel
theorem dX9_figure_21 : decode cX9_figure 21 = .ok (.goto (-14), 3) := by decide +kernel
theorem dX9_figure_24 : decode cX9_figure 24 = .ok (.iload_n 3, 1) := by decide +kernel
theorem dX9_figure_25 : decode cX9_figure 25 = .ok (.bipush 36, 2) := by decide +kernel
theorem dX9_figure_27 : decode cX9_figure 27 = .ok (.irem, 1) := by decide +kernel
theorem dX9_figure_28 : decode cX9_figure 28 = .ok (.ireturn, 1) := by decide +kernel
theorem dX9_makes_0 : decode cX9_makes 0 = .ok (.aload_n 0, 1) := by decide +kernel
theorem dX9_makes_1 : decode cX9_makes 1 = .ok (.invokevirtual 225, 3) := by decide +kernel
theorem dX9_makes_4 : decode cX9_makes 4 = .ok (.iconst 0, 1) := by decide +kernel
theorem dX9_makes_5 : decode cX9_makes 5 = .ok (.istore 7, 2) := by decide +kernel
theorem dX9_makes_7 : decode cX9_makes 7 = .ok (.iload 7, 2) := by decide +kernel
theorem dX9_makes_9 : decode cX9_makes 9 = .ok (.iload_n 2, 1) := by decide +kernel
theorem dX9_makes_10 : decode cX9_makes 10 = .ok (.if_icmp .ge 62, 3) := by decide +kernel
theorem dX9_makes_13 : decode cX9_makes 13 = .ok (.iload_n 1, 1) := by decide +kernel
theorem dX9_makes_14 : decode cX9_makes 14 = .ok (.iload_n 2, 1) := by decide +kernel
theorem dX9_makes_15 : decode cX9_makes 15 = .ok (.iload 7, 2) := by decide +kernel
theorem dX9_makes_17 : decode cX9_makes 17 = .ok (.invokestatic 235, 3) := by decide +kernel
theorem dX9_makes_20 : decode cX9_makes 20 = .ok (.istore 8, 2) := by decide +kernel
theorem dX9_makes_22 : decode cX9_makes 22 = .ok (.iload 8, 2) := by decide +kernel
theorem dX9_makes_24 : decode cX9_makes 24 = .ok (.bipush 6, 2) := by decide +kernel
theorem dX9_makes_26 : decode cX9_makes 26 = .ok (.idiv, 1) := by decide +kernel
theorem dX9_makes_27 : decode cX9_makes 27 = .ok (.istore 9, 2) := by decide +kernel
theorem dX9_makes_29 : decode cX9_makes 29 = .ok (.iload 8, 2) := by decide +kernel
theorem dX9_makes_31 : decode cX9_makes 31 = .ok (.bipush 6, 2) := by decide +kernel
theorem dX9_makes_33 : decode cX9_makes 33 = .ok (.irem, 1) := by decide +kernel
theorem dX9_makes_34 : decode cX9_makes 34 = .ok (.istore 10, 2) := by decide +kernel
theorem dX9_makes_36 : decode cX9_makes 36 = .ok (.iload 9, 2) := by decide +kernel
theorem dX9_makes_38 : decode cX9_makes 38 = .ok (.iload 10, 2) := by decide +kernel
theorem dX9_makes_40 : decode cX9_makes 40 = .ok (.if_icmp .ge 12, 3) := by decide +kernel
theorem dX9_makes_43 : decode cX9_makes 43 = .ok (.iload 10, 2) := by decide +kernel
theorem dX9_makes_45 : decode cX9_makes 45 = .ok (.aload_n 0, 1) := by decide +kernel
theorem dX9_makes_46 : decode cX9_makes 46 = .ok (.getfield 78, 3) := by decide +kernel
theorem dX9_makes_49 : decode cX9_makes 49 = .ok (.if_icmp .lt 5, 3) := by decide +kernel
theorem dX9_makes_52 : decode cX9_makes 52 = .ok (.iconst 0, 1) := by decide +kernel
theorem dX9_makes_53 : decode cX9_makes 53 = .ok (.ireturn, 1) := by decide +kernel
theorem dX9_makes_54 : decode cX9_makes 54 = .ok (.aload_n 0, 1) := by decide +kernel
theorem dX9_makes_55 : decode cX9_makes 55 = .ok (.aload_n 0, 1) := by decide +kernel
theorem dX9_makes_56 : decode cX9_makes 56 = .ok (.getfield 47, 3) := by decide +kernel
theorem dX9_makes_59 : decode cX9_makes 59 = .ok (.iload 9, 2) := by decide +kernel
theorem dX9_makes_61 : decode cX9_makes 61 = .ok (.iload 10, 2) := by decide +kernel
theorem dX9_makes_63 : decode cX9_makes 63 = .ok (.invokevirtual 202, 3) := by decide +kernel
theorem dX9_makes_66 : decode cX9_makes 66 = .ok (.iinc 7 1, 3) := by decide +kernel
theorem dX9_makes_69 : decode cX9_makes 69 = .ok (.goto (-62), 3) := by decide +kernel
theorem dX9_makes_72 : decode cX9_makes 72 = .ok (.aload_n 0, 1) := by decide +kernel
theorem dX9_makes_73 : decode cX9_makes 73 = .ok (.getfield 47, 3) := by decide +kernel
theorem dX9_makes_76 : decode cX9_makes 76 = .ok (.iload_n 3, 1) := by decide +kernel
theorem dX9_makes_77 : decode cX9_makes 77 = .ok (.iaload, 1) := by decide +kernel
theorem dX9_makes_78 : decode cX9_makes 78 = .ok (.iload 4, 2) := by decide +kernel
theorem dX9_makes_80 : decode cX9_makes 80 = .ok (.if_icmp .ne 19, 3) := by decide +kernel
theorem dX9_makes_83 : decode cX9_makes 83 = .ok (.aload_n 0, 1) := by decide +kernel
theorem dX9_makes_84 : decode cX9_makes 84 = .ok (.getfield 47, 3) := by decide +kernel
theorem dX9_makes_87 : decode cX9_makes 87 = .ok (.iload 5, 2) := by decide +kernel
theorem dX9_makes_89 : decode cX9_makes 89 = .ok (.iaload, 1) := by decide +kernel
theorem dX9_makes_90 : decode cX9_makes 90 = .ok (.iload 6, 2) := by decide +kernel
theorem dX9_makes_92 : decode cX9_makes 92 = .ok (.if_icmp .ne 7, 3) := by decide +kernel
theorem dX9_makes_95 : decode cX9_makes 95 = .ok (.iconst 1, 1) := by decide +kernel
theorem dX9_makes_96 : decode cX9_makes 96 = .ok (.goto 4, 3) := by decide +kernel
theorem dX9_makes_99 : decode cX9_makes 99 = .ok (.iconst 0, 1) := by decide +kernel
theorem dX9_makes_100 : decode cX9_makes 100 = .ok (.ireturn, 1) := by decide +kernel
theorem dX9_findRows_0 : decode cX9_findRows 0 = .ok (.iconst 1, 1) := by decide +kernel
theorem dX9_findRows_1 : decode cX9_findRows 1 = .ok (.istore 6, 2) := by decide +kernel
theorem dX9_findRows_3 : decode cX9_findRows 3 = .ok (.iconst 0, 1) := by decide +kernel
theorem dX9_findRows_4 : decode cX9_findRows 4 = .ok (.istore 7, 2) := by decide +kernel
theorem dX9_findRows_6 : decode cX9_findRows 6 = .ok (.iload 7, 2) := by decide +kernel
theorem dX9_findRows_8 : decode cX9_findRows 8 = .ok (.iload_n 1, 1) := by decide +kernel
theorem dX9_findRows_9 : decode cX9_findRows 9 = .ok (.if_icmp .ge 16, 3) := by decide +kernel
theorem dX9_findRows_12 : decode cX9_findRows 12 = .ok (.iload 6, 2) := by decide +kernel
theorem dX9_findRows_14 : decode cX9_findRows 14 = .ok (.bipush 36, 2) := by decide +kernel
theorem dX9_findRows_16 : decode cX9_findRows 16 = .ok (.imul, 1) := by decide +kernel
theorem dX9_findRows_17 : decode cX9_findRows 17 = .ok (.istore 6, 2) := by decide +kernel
theorem dX9_findRows_19 : decode cX9_findRows 19 = .ok (.iinc 7 1, 3) := by decide +kernel
theorem dX9_findRows_22 : decode cX9_findRows 22 = .ok (.goto (-16), 3) := by decide +kernel
theorem dX9_findRows_25 : decode cX9_findRows 25 = .ok (.aload_n 0, 1) := by decide +kernel
theorem dX9_findRows_26 : decode cX9_findRows 26 = .ok (.iconst 0, 1) := by decide +kernel
theorem dX9_findRows_27 : decode cX9_findRows 27 = .ok (.putfield 239, 3) := by decide +kernel
theorem dX9_findRows_30 : decode cX9_findRows 30 = .ok (.aload_n 0, 1) := by decide +kernel
theorem dX9_findRows_31 : decode cX9_findRows 31 = .ok (.iconst (-1), 1) := by decide +kernel
theorem dX9_findRows_32 : decode cX9_findRows 32 = .ok (.putfield 242, 3) := by decide +kernel
theorem dX9_findRows_35 : decode cX9_findRows 35 = .ok (.iconst 0, 1) := by decide +kernel
theorem dX9_findRows_36 : decode cX9_findRows 36 = .ok (.istore 7, 2) := by decide +kernel
theorem dX9_findRows_38 : decode cX9_findRows 38 = .ok (.iload 7, 2) := by decide +kernel
theorem dX9_findRows_40 : decode cX9_findRows 40 = .ok (.iload 6, 2) := by decide +kernel
theorem dX9_findRows_42 : decode cX9_findRows 42 = .ok (.if_icmp .ge 55, 3) := by decide +kernel
theorem dX9_findRows_45 : decode cX9_findRows 45 = .ok (.aload_n 0, 1) := by decide +kernel
theorem dX9_findRows_46 : decode cX9_findRows 46 = .ok (.iload 7, 2) := by decide +kernel
theorem dX9_findRows_48 : decode cX9_findRows 48 = .ok (.iload_n 1, 1) := by decide +kernel
theorem dX9_findRows_49 : decode cX9_findRows 49 = .ok (.iload_n 2, 1) := by decide +kernel
theorem dX9_findRows_50 : decode cX9_findRows 50 = .ok (.iload_n 3, 1) := by decide +kernel
theorem dX9_findRows_51 : decode cX9_findRows 51 = .ok (.iload 4, 2) := by decide +kernel
theorem dX9_findRows_53 : decode cX9_findRows 53 = .ok (.iload 5, 2) := by decide +kernel
theorem dX9_findRows_55 : decode cX9_findRows 55 = .ok (.invokevirtual 245, 3) := by decide +kernel
theorem dX9_findRows_58 : decode cX9_findRows 58 = .ok (.ifCond .eq 33, 3) := by decide +kernel
theorem dX9_findRows_61 : decode cX9_findRows 61 = .ok (.aload_n 0, 1) := by decide +kernel
theorem dX9_findRows_62 : decode cX9_findRows 62 = .ok (.aload_n 0, 1) := by decide +kernel
theorem dX9_findRows_63 : decode cX9_findRows 63 = .ok (.getfield 239, 3) := by decide +kernel
theorem dX9_findRows_66 : decode cX9_findRows 66 = .ok (.ifCond .ne 8, 3) := by decide +kernel
theorem dX9_findRows_69 : decode cX9_findRows 69 = .ok (.iload 7, 2) := by decide +kernel
theorem dX9_findRows_71 : decode cX9_findRows 71 = .ok (.goto 7, 3) := by decide +kernel
theorem dX9_findRows_74 : decode cX9_findRows 74 = .ok (.aload_n 0, 1) := by decide +kernel
theorem dX9_findRows_75 : decode cX9_findRows 75 = .ok (.getfield 242, 3) := by decide +kernel
theorem dX9_findRows_78 : decode cX9_findRows 78 = .ok (.putfield 242, 3) := by decide +kernel
theorem dX9_findRows_81 : decode cX9_findRows 81 = .ok (.aload_n 0, 1) := by decide +kernel
theorem dX9_findRows_82 : decode cX9_findRows 82 = .ok (.dup, 1) := by decide +kernel
theorem dX9_findRows_83 : decode cX9_findRows 83 = .ok (.getfield 239, 3) := by decide +kernel
theorem dX9_findRows_86 : decode cX9_findRows 86 = .ok (.iconst 1, 1) := by decide +kernel
theorem dX9_findRows_87 : decode cX9_findRows 87 = .ok (.iadd, 1) := by decide +kernel
theorem dX9_findRows_88 : decode cX9_findRows 88 = .ok (.putfield 239, 3) := by decide +kernel
theorem dX9_findRows_91 : decode cX9_findRows 91 = .ok (.iinc 7 1, 3) := by decide +kernel
theorem dX9_findRows_94 : decode cX9_findRows 94 = .ok (.goto (-56), 3) := by decide +kernel
theorem dX9_findRows_97 : decode cX9_findRows 97 = .ok (.return_, 1) := by decide +kernel
theorem dX9_came_0 : decode cX9_came 0 = .ok (.aload_n 0, 1) := by decide +kernel
theorem dX9_came_1 : decode cX9_came 1 = .ok (.iload_n 1, 1) := by decide +kernel
theorem dX9_came_2 : decode cX9_came 2 = .ok (.invokevirtual 187, 3) := by decide +kernel
theorem dX9_came_5 : decode cX9_came 5 = .ok (.ifCond .eq 26, 3) := by decide +kernel
theorem dX9_came_8 : decode cX9_came 8 = .ok (.aload_n 0, 1) := by decide +kernel
theorem dX9_came_9 : decode cX9_came 9 = .ok (.iload_n 2, 1) := by decide +kernel
theorem dX9_came_10 : decode cX9_came 10 = .ok (.invokevirtual 191, 3) := by decide +kernel
theorem dX9_came_13 : decode cX9_came 13 = .ok (.ifCond .eq 18, 3) := by decide +kernel
theorem dX9_came_16 : decode cX9_came 16 = .ok (.aload_n 0, 1) := by decide +kernel
theorem dX9_came_17 : decode cX9_came 17 = .ok (.iload 4, 2) := by decide +kernel
theorem dX9_came_19 : decode cX9_came 19 = .ok (.invokevirtual 191, 3) := by decide +kernel
theorem dX9_came_22 : decode cX9_came 22 = .ok (.ifCond .eq 9, 3) := by decide +kernel
theorem dX9_came_25 : decode cX9_came 25 = .ok (.iload_n 2, 1) := by decide +kernel
theorem dX9_came_26 : decode cX9_came 26 = .ok (.iload 4, 2) := by decide +kernel
theorem dX9_came_28 : decode cX9_came 28 = .ok (.if_icmp .ne 6, 3) := by decide +kernel
theorem dX9_came_31 : decode cX9_came 31 = .ok (.ldc 194, 2) := by decide +kernel
theorem dX9_came_33 : decode cX9_came 33 = .ok (.ireturn, 1) := by decide +kernel
theorem dX9_came_34 : decode cX9_came 34 = .ok (.iload_n 3, 1) := by decide +kernel
theorem dX9_came_35 : decode cX9_came 35 = .ok (.invokestatic 249, 3) := by decide +kernel
theorem dX9_came_38 : decode cX9_came 38 = .ok (.ifCond .eq 11, 3) := by decide +kernel
theorem dX9_came_41 : decode cX9_came 41 = .ok (.iload 5, 2) := by decide +kernel
theorem dX9_came_43 : decode cX9_came 43 = .ok (.invokestatic 249, 3) := by decide +kernel
theorem dX9_came_46 : decode cX9_came 46 = .ok (.ifCond .ne 6, 3) := by decide +kernel
theorem dX9_came_49 : decode cX9_came 49 = .ok (.ldc 89, 2) := by decide +kernel
theorem dX9_came_51 : decode cX9_came 51 = .ok (.ireturn, 1) := by decide +kernel
theorem dX9_came_52 : decode cX9_came 52 = .ok (.iconst 0, 1) := by decide +kernel
theorem dX9_came_53 : decode cX9_came 53 = .ok (.istore 7, 2) := by decide +kernel
theorem dX9_came_55 : decode cX9_came 55 = .ok (.aload_n 0, 1) := by decide +kernel
theorem dX9_came_56 : decode cX9_came 56 = .ok (.iconst 0, 1) := by decide +kernel
theorem dX9_came_57 : decode cX9_came 57 = .ok (.iconst 5, 1) := by decide +kernel
theorem dX9_came_58 : decode cX9_came 58 = .ok (.iload_n 1, 1) := by decide +kernel
theorem dX9_came_59 : decode cX9_came 59 = .ok (.imul, 1) := by decide +kernel
theorem dX9_came_60 : decode cX9_came 60 = .ok (.iload_n 2, 1) := by decide +kernel
theorem dX9_came_61 : decode cX9_came 61 = .ok (.iadd, 1) := by decide +kernel
theorem dX9_came_62 : decode cX9_came 62 = .ok (.iload_n 3, 1) := by decide +kernel
theorem dX9_came_63 : decode cX9_came 63 = .ok (.iconst 5, 1) := by decide +kernel
theorem dX9_came_64 : decode cX9_came 64 = .ok (.iload_n 1, 1) := by decide +kernel
theorem dX9_came_65 : decode cX9_came 65 = .ok (.imul, 1) := by decide +kernel
theorem dX9_came_66 : decode cX9_came 66 = .ok (.iload 4, 2) := by decide +kernel
theorem dX9_came_68 : decode cX9_came 68 = .ok (.iadd, 1) := by decide +kernel
theorem dX9_came_69 : decode cX9_came 69 = .ok (.iload 5, 2) := by decide +kernel
theorem dX9_came_71 : decode cX9_came 71 = .ok (.invokevirtual 252, 3) := by decide +kernel
theorem dX9_came_74 : decode cX9_came 74 = .ok (.aload_n 0, 1) := by decide +kernel
theorem dX9_came_75 : decode cX9_came 75 = .ok (.getfield 239, 3) := by decide +kernel
theorem dX9_came_78 : decode cX9_came 78 = .ok (.ifCond .ne 35, 3) := by decide +kernel
theorem dX9_came_81 : decode cX9_came 81 = .ok (.iload 7, 2) := by decide +kernel
theorem dX9_came_83 : decode cX9_came 83 = .ok (.iconst 3, 1) := by decide +kernel
theorem dX9_came_84 : decode cX9_came 84 = .ok (.if_icmp .ge 29, 3) := by decide +kernel
theorem dX9_came_87 : decode cX9_came 87 = .ok (.iinc 7 1, 3) := by decide +kernel
theorem dX9_came_90 : decode cX9_came 90 = .ok (.aload_n 0, 1) := by decide +kernel
theorem dX9_came_91 : decode cX9_came 91 = .ok (.iload 7, 2) := by decide +kernel
theorem dX9_came_93 : decode cX9_came 93 = .ok (.iconst 5, 1) := by decide +kernel
theorem dX9_came_94 : decode cX9_came 94 = .ok (.iload_n 1, 1) := by decide +kernel
theorem dX9_came_95 : decode cX9_came 95 = .ok (.imul, 1) := by decide +kernel
theorem dX9_came_96 : decode cX9_came 96 = .ok (.iload_n 2, 1) := by decide +kernel
theorem dX9_came_97 : decode cX9_came 97 = .ok (.iadd, 1) := by decide +kernel
theorem dX9_came_98 : decode cX9_came 98 = .ok (.iload_n 3, 1) := by decide +kernel
theorem dX9_came_99 : decode cX9_came 99 = .ok (.iconst 5, 1) := by decide +kernel
theorem dX9_came_100 : decode cX9_came 100 = .ok (.iload_n 1, 1) := by decide +kernel
theorem dX9_came_101 : decode cX9_came 101 = .ok (.imul, 1) := by decide +kernel
theorem dX9_came_102 : decode cX9_came 102 = .ok (.iload 4, 2) := by decide +kernel
theorem dX9_came_104 : decode cX9_came 104 = .ok (.iadd, 1) := by decide +kernel
theorem dX9_came_105 : decode cX9_came 105 = .ok (.iload 5, 2) := by decide +kernel
theorem dX9_came_107 : decode cX9_came 107 = .ok (.invokevirtual 252, 3) := by decide +kernel
theorem dX9_came_110 : decode cX9_came 110 = .ok (.goto (-36), 3) := by decide +kernel
theorem dX9_came_113 : decode cX9_came 113 = .ok (.aload_n 0, 1) := by decide +kernel
theorem dX9_came_114 : decode cX9_came 114 = .ok (.getfield 239, 3) := by decide +kernel
theorem dX9_came_117 : decode cX9_came 117 = .ok (.ifCond .ne 5, 3) := by decide +kernel
theorem dX9_came_120 : decode cX9_came 120 = .ok (.iconst (-1), 1) := by decide +kernel
theorem dX9_came_121 : decode cX9_came 121 = .ok (.ireturn, 1) := by decide +kernel
theorem dX9_came_122 : decode cX9_came 122 = .ok (.iload 6, 2) := by decide +kernel
theorem dX9_came_124 : decode cX9_came 124 = .ok (.iconst (-1), 1) := by decide +kernel
theorem dX9_came_125 : decode cX9_came 125 = .ok (.if_icmp .eq 10, 3) := by decide +kernel
theorem dX9_came_128 : decode cX9_came 128 = .ok (.iload 6, 2) := by decide +kernel
theorem dX9_came_130 : decode cX9_came 130 = .ok (.bipush (-2), 2) := by decide +kernel
theorem dX9_came_132 : decode cX9_came 132 = .ok (.if_icmp .ne 19, 3) := by decide +kernel
theorem dX9_came_135 : decode cX9_came 135 = .ok (.iload 6, 2) := by decide +kernel
theorem dX9_came_137 : decode cX9_came 137 = .ok (.iconst (-1), 1) := by decide +kernel
theorem dX9_came_138 : decode cX9_came 138 = .ok (.if_icmp .ne 8, 3) := by decide +kernel
theorem dX9_came_141 : decode cX9_came 141 = .ok (.iload 7, 2) := by decide +kernel
theorem dX9_came_143 : decode cX9_came 143 = .ok (.goto 7, 3) := by decide +kernel
theorem dX9_came_146 : decode cX9_came 146 = .ok (.aload_n 0, 1) := by decide +kernel
theorem dX9_came_147 : decode cX9_came 147 = .ok (.getfield 239, 3) := by decide +kernel
theorem dX9_came_150 : decode cX9_came 150 = .ok (.ireturn, 1) := by decide +kernel
theorem dX9_came_151 : decode cX9_came 151 = .ok (.iload 6, 2) := by decide +kernel
theorem dX9_came_153 : decode cX9_came 153 = .ok (.i2l, 1) := by decide +kernel
theorem dX9_came_154 : decode cX9_came 154 = .ok (.lconst 0, 1) := by decide +kernel
theorem dX9_came_155 : decode cX9_came 155 = .ok (.iload 7, 2) := by decide +kernel
theorem dX9_came_157 : decode cX9_came 157 = .ok (.iconst 1, 1) := by decide +kernel
theorem dX9_came_158 : decode cX9_came 158 = .ok (.isub, 1) := by decide +kernel
theorem dX9_came_159 : decode cX9_came 159 = .ok (.i2l, 1) := by decide +kernel
theorem dX9_came_160 : decode cX9_came 160 = .ok (.invokestatic 81, 3) := by decide +kernel
theorem dX9_came_163 : decode cX9_came 163 = .ok (.ifCond .eq 17, 3) := by decide +kernel
theorem dX9_came_166 : decode cX9_came 166 = .ok (.aload_n 0, 1) := by decide +kernel
theorem dX9_came_167 : decode cX9_came 167 = .ok (.getfield 242, 3) := by decide +kernel
theorem dX9_came_170 : decode cX9_came 170 = .ok (.iload 7, 2) := by decide +kernel
theorem dX9_came_172 : decode cX9_came 172 = .ok (.iload 6, 2) := by decide +kernel
theorem dX9_came_174 : decode cX9_came 174 = .ok (.invokestatic 235, 3) := by decide +kernel
theorem dX9_came_177 : decode cX9_came 177 = .ok (.goto 4, 3) := by decide +kernel
theorem dX9_came_180 : decode cX9_came 180 = .ok (.iconst (-1), 1) := by decide +kernel
theorem dX9_came_181 : decode cX9_came 181 = .ok (.istore 8, 2) := by decide +kernel
theorem dX9_came_183 : decode cX9_came 183 = .ok (.iload 8, 2) := by decide +kernel
theorem dX9_came_185 : decode cX9_came 185 = .ok (.ifCond .ge 7, 3) := by decide +kernel
theorem dX9_came_188 : decode cX9_came 188 = .ok (.iconst (-1), 1) := by decide +kernel
theorem dX9_came_189 : decode cX9_came 189 = .ok (.goto 17, 3) := by decide +kernel
theorem dX9_came_192 : decode cX9_came 192 = .ok (.bipush 10, 2) := by decide +kernel
theorem dX9_came_194 : decode cX9_came 194 = .ok (.iload 8, 2) := by decide +kernel
theorem dX9_came_196 : decode cX9_came 196 = .ok (.bipush 6, 2) := by decide +kernel
theorem dX9_came_198 : decode cX9_came 198 = .ok (.idiv, 1) := by decide +kernel
theorem dX9_came_199 : decode cX9_came 199 = .ok (.imul, 1) := by decide +kernel
theorem dX9_came_200 : decode cX9_came 200 = .ok (.iload 8, 2) := by decide +kernel
theorem dX9_came_202 : decode cX9_came 202 = .ok (.bipush 6, 2) := by decide +kernel
theorem dX9_came_204 : decode cX9_came 204 = .ok (.irem, 1) := by decide +kernel
theorem dX9_came_205 : decode cX9_came 205 = .ok (.iadd, 1) := by decide +kernel
theorem dX9_came_206 : decode cX9_came 206 = .ok (.ireturn, 1) := by decide +kernel
theorem dX9_met_0 : decode cX9_met 0 = .ok (.aload_n 0, 1) := by decide +kernel
theorem dX9_met_1 : decode cX9_met 1 = .ok (.iload_n 1, 1) := by decide +kernel
theorem dX9_met_2 : decode cX9_met 2 = .ok (.invokevirtual 191, 3) := by decide +kernel
theorem dX9_met_5 : decode cX9_met 5 = .ok (.ifCond .ne 6, 3) := by decide +kernel
theorem dX9_met_8 : decode cX9_met 8 = .ok (.ldc 194, 2) := by decide +kernel
theorem dX9_met_10 : decode cX9_met 10 = .ok (.ireturn, 1) := by decide +kernel
theorem dX9_met_11 : decode cX9_met 11 = .ok (.iload_n 2, 1) := by decide +kernel
theorem dX9_met_12 : decode cX9_met 12 = .ok (.invokestatic 249, 3) := by decide +kernel
theorem dX9_met_15 : decode cX9_met 15 = .ok (.ifCond .eq 21, 3) := by decide +kernel
theorem dX9_met_18 : decode cX9_met 18 = .ok (.iload_n 3, 1) := by decide +kernel
theorem dX9_met_19 : decode cX9_met 19 = .ok (.invokestatic 249, 3) := by decide +kernel
theorem dX9_met_22 : decode cX9_met 22 = .ok (.ifCond .eq 14, 3) := by decide +kernel
theorem dX9_met_25 : decode cX9_met 25 = .ok (.iload 4, 2) := by decide +kernel
theorem dX9_met_27 : decode cX9_met 27 = .ok (.i2l, 1) := by decide +kernel
theorem dX9_met_28 : decode cX9_met 28 = .ok (.lconst 0, 1) := by decide +kernel
theorem dX9_met_29 : decode cX9_met 29 = .ok (.lconst 1, 1) := by decide +kernel
theorem dX9_met_30 : decode cX9_met 30 = .ok (.invokestatic 81, 3) := by decide +kernel
theorem dX9_met_33 : decode cX9_met 33 = .ok (.ifCond .ne 6, 3) := by decide +kernel
theorem dX9_met_36 : decode cX9_met 36 = .ok (.ldc 89, 2) := by decide +kernel
theorem dX9_met_38 : decode cX9_met 38 = .ok (.ireturn, 1) := by decide +kernel
theorem dX9_met_39 : decode cX9_met 39 = .ok (.iconst 0, 1) := by decide +kernel
theorem dX9_met_40 : decode cX9_met 40 = .ok (.istore 5, 2) := by decide +kernel
theorem dX9_met_42 : decode cX9_met 42 = .ok (.iconst (-1), 1) := by decide +kernel
theorem dX9_met_43 : decode cX9_met 43 = .ok (.istore 6, 2) := by decide +kernel
theorem dX9_met_45 : decode cX9_met 45 = .ok (.iconst 0, 1) := by decide +kernel
theorem dX9_met_46 : decode cX9_met 46 = .ok (.istore 7, 2) := by decide +kernel
theorem dX9_met_48 : decode cX9_met 48 = .ok (.iload 7, 2) := by decide +kernel
theorem dX9_met_50 : decode cX9_met 50 = .ok (.bipush 36, 2) := by decide +kernel
theorem dX9_met_52 : decode cX9_met 52 = .ok (.if_icmp .ge 152, 3) := by decide +kernel
theorem dX9_met_55 : decode cX9_met 55 = .ok (.iload 7, 2) := by decide +kernel
theorem dX9_met_57 : decode cX9_met 57 = .ok (.bipush 6, 2) := by decide +kernel
theorem dX9_met_59 : decode cX9_met 59 = .ok (.idiv, 1) := by decide +kernel
theorem dX9_met_60 : decode cX9_met 60 = .ok (.istore 8, 2) := by decide +kernel
theorem dX9_met_62 : decode cX9_met 62 = .ok (.iload 7, 2) := by decide +kernel
theorem dX9_met_64 : decode cX9_met 64 = .ok (.bipush 6, 2) := by decide +kernel
theorem dX9_met_66 : decode cX9_met 66 = .ok (.irem, 1) := by decide +kernel
theorem dX9_met_67 : decode cX9_met 67 = .ok (.istore 9, 2) := by decide +kernel
theorem dX9_met_69 : decode cX9_met 69 = .ok (.iload 8, 2) := by decide +kernel
theorem dX9_met_71 : decode cX9_met 71 = .ok (.iload 9, 2) := by decide +kernel
theorem dX9_met_73 : decode cX9_met 73 = .ok (.if_icmp .ge 125, 3) := by decide +kernel
theorem dX9_met_76 : decode cX9_met 76 = .ok (.iload 9, 2) := by decide +kernel
theorem dX9_met_78 : decode cX9_met 78 = .ok (.aload_n 0, 1) := by decide +kernel
theorem dX9_met_79 : decode cX9_met 79 = .ok (.getfield 78, 3) := by decide +kernel
theorem dX9_met_82 : decode cX9_met 82 = .ok (.if_icmp .ge 116, 3) := by decide +kernel
theorem dX9_met_85 : decode cX9_met 85 = .ok (.aload_n 0, 1) := by decide +kernel
theorem dX9_met_86 : decode cX9_met 86 = .ok (.invokevirtual 225, 3) := by decide +kernel
theorem dX9_met_89 : decode cX9_met 89 = .ok (.aload_n 0, 1) := by decide +kernel
theorem dX9_met_90 : decode cX9_met 90 = .ok (.aload_n 0, 1) := by decide +kernel
theorem dX9_met_91 : decode cX9_met 91 = .ok (.getfield 47, 3) := by decide +kernel
theorem dX9_met_94 : decode cX9_met 94 = .ok (.iload 8, 2) := by decide +kernel
theorem dX9_met_96 : decode cX9_met 96 = .ok (.iload 9, 2) := by decide +kernel
theorem dX9_met_98 : decode cX9_met 98 = .ok (.invokevirtual 202, 3) := by decide +kernel
theorem dX9_met_101 : decode cX9_met 101 = .ok (.aload_n 0, 1) := by decide +kernel
theorem dX9_met_102 : decode cX9_met 102 = .ok (.getfield 47, 3) := by decide +kernel
theorem dX9_met_105 : decode cX9_met 105 = .ok (.iconst 5, 1) := by decide +kernel
theorem dX9_met_106 : decode cX9_met 106 = .ok (.iload 8, 2) := by decide +kernel
theorem dX9_met_108 : decode cX9_met 108 = .ok (.imul, 1) := by decide +kernel
theorem dX9_met_109 : decode cX9_met 109 = .ok (.iload_n 1, 1) := by decide +kernel
theorem dX9_met_110 : decode cX9_met 110 = .ok (.iadd, 1) := by decide +kernel
theorem dX9_met_111 : decode cX9_met 111 = .ok (.iaload, 1) := by decide +kernel
theorem dX9_met_112 : decode cX9_met 112 = .ok (.istore 10, 2) := by decide +kernel
theorem dX9_met_114 : decode cX9_met 114 = .ok (.aload_n 0, 1) := by decide +kernel
theorem dX9_met_115 : decode cX9_met 115 = .ok (.getfield 47, 3) := by decide +kernel
theorem dX9_met_118 : decode cX9_met 118 = .ok (.iconst 5, 1) := by decide +kernel
theorem dX9_met_119 : decode cX9_met 119 = .ok (.iload 9, 2) := by decide +kernel
theorem dX9_met_121 : decode cX9_met 121 = .ok (.imul, 1) := by decide +kernel
theorem dX9_met_122 : decode cX9_met 122 = .ok (.iload_n 1, 1) := by decide +kernel
theorem dX9_met_123 : decode cX9_met 123 = .ok (.iadd, 1) := by decide +kernel
theorem dX9_met_124 : decode cX9_met 124 = .ok (.iaload, 1) := by decide +kernel
theorem dX9_met_125 : decode cX9_met 125 = .ok (.istore 11, 2) := by decide +kernel
theorem dX9_met_127 : decode cX9_met 127 = .ok (.iload 10, 2) := by decide +kernel
theorem dX9_met_129 : decode cX9_met 129 = .ok (.iload_n 2, 1) := by decide +kernel
theorem dX9_met_130 : decode cX9_met 130 = .ok (.if_icmp .ne 9, 3) := by decide +kernel
theorem dX9_met_133 : decode cX9_met 133 = .ok (.iload 11, 2) := by decide +kernel
theorem dX9_met_135 : decode cX9_met 135 = .ok (.iload_n 3, 1) := by decide +kernel
theorem dX9_met_136 : decode cX9_met 136 = .ok (.if_icmp .eq 15, 3) := by decide +kernel
theorem dX9_met_139 : decode cX9_met 139 = .ok (.iload 10, 2) := by decide +kernel
theorem dX9_met_141 : decode cX9_met 141 = .ok (.iload_n 3, 1) := by decide +kernel
theorem dX9_met_142 : decode cX9_met 142 = .ok (.if_icmp .ne 13, 3) := by decide +kernel
theorem dX9_met_145 : decode cX9_met 145 = .ok (.iload 11, 2) := by decide +kernel
theorem dX9_met_147 : decode cX9_met 147 = .ok (.iload_n 2, 1) := by decide +kernel
theorem dX9_met_148 : decode cX9_met 148 = .ok (.if_icmp .ne 7, 3) := by decide +kernel
theorem dX9_met_151 : decode cX9_met 151 = .ok (.iconst 1, 1) := by decide +kernel
theorem dX9_met_152 : decode cX9_met 152 = .ok (.goto 4, 3) := by decide +kernel
theorem dX9_met_155 : decode cX9_met 155 = .ok (.iconst 0, 1) := by decide +kernel
theorem dX9_met_156 : decode cX9_met 156 = .ok (.istore 12, 2) := by decide +kernel
theorem dX9_met_158 : decode cX9_met 158 = .ok (.iload 12, 2) := by decide +kernel
theorem dX9_met_160 : decode cX9_met 160 = .ok (.ifCond .eq 19, 3) := by decide +kernel
theorem dX9_met_163 : decode cX9_met 163 = .ok (.iload 5, 2) := by decide +kernel
theorem dX9_met_165 : decode cX9_met 165 = .ok (.ifCond .ne 14, 3) := by decide +kernel
theorem dX9_met_168 : decode cX9_met 168 = .ok (.bipush 10, 2) := by decide +kernel
theorem dX9_met_170 : decode cX9_met 170 = .ok (.iload 8, 2) := by decide +kernel
theorem dX9_met_172 : decode cX9_met 172 = .ok (.imul, 1) := by decide +kernel
theorem dX9_met_173 : decode cX9_met 173 = .ok (.iload 9, 2) := by decide +kernel
theorem dX9_met_175 : decode cX9_met 175 = .ok (.iadd, 1) := by decide +kernel
theorem dX9_met_176 : decode cX9_met 176 = .ok (.goto 5, 3) := by decide +kernel
theorem dX9_met_179 : decode cX9_met 179 = .ok (.iload 6, 2) := by decide +kernel
theorem dX9_met_181 : decode cX9_met 181 = .ok (.istore 6, 2) := by decide +kernel
theorem dX9_met_183 : decode cX9_met 183 = .ok (.iload 5, 2) := by decide +kernel
theorem dX9_met_185 : decode cX9_met 185 = .ok (.iload 12, 2) := by decide +kernel
theorem dX9_met_187 : decode cX9_met 187 = .ok (.ifCond .eq 7, 3) := by decide +kernel
theorem dX9_met_190 : decode cX9_met 190 = .ok (.iconst 1, 1) := by decide +kernel
theorem dX9_met_191 : decode cX9_met 191 = .ok (.goto 4, 3) := by decide +kernel
theorem dX9_met_194 : decode cX9_met 194 = .ok (.iconst 0, 1) := by decide +kernel
theorem dX9_met_195 : decode cX9_met 195 = .ok (.iadd, 1) := by decide +kernel
theorem dX9_met_196 : decode cX9_met 196 = .ok (.istore 5, 2) := by decide +kernel
theorem dX9_met_198 : decode cX9_met 198 = .ok (.iinc 7 1, 3) := by decide +kernel
theorem dX9_met_201 : decode cX9_met 201 = .ok (.goto (-153), 3) := by decide +kernel
theorem dX9_met_204 : decode cX9_met 204 = .ok (.iload 4, 2) := by decide +kernel
theorem dX9_met_206 : decode cX9_met 206 = .ok (.ifCond .ne 8, 3) := by decide +kernel
theorem dX9_met_209 : decode cX9_met 209 = .ok (.iload 5, 2) := by decide +kernel
theorem dX9_met_211 : decode cX9_met 211 = .ok (.goto 5, 3) := by decide +kernel
theorem dX9_met_214 : decode cX9_met 214 = .ok (.iload 6, 2) := by decide +kernel
theorem dX9_met_216 : decode cX9_met 216 = .ok (.ireturn, 1) := by decide +kernel
theorem dX9_leftOut_0 : decode cX9_leftOut 0 = .ok (.aload_n 0, 1) := by decide +kernel
theorem dX9_leftOut_1 : decode cX9_leftOut 1 = .ok (.iload_n 1, 1) := by decide +kernel
theorem dX9_leftOut_2 : decode cX9_leftOut 2 = .ok (.invokevirtual 187, 3) := by decide +kernel
theorem dX9_leftOut_5 : decode cX9_leftOut 5 = .ok (.ifCond .eq 11, 3) := by decide +kernel
theorem dX9_leftOut_8 : decode cX9_leftOut 8 = .ok (.aload_n 0, 1) := by decide +kernel
theorem dX9_leftOut_9 : decode cX9_leftOut 9 = .ok (.iload_n 2, 1) := by decide +kernel
theorem dX9_leftOut_10 : decode cX9_leftOut 10 = .ok (.invokevirtual 191, 3) := by decide +kernel
theorem dX9_leftOut_13 : decode cX9_leftOut 13 = .ok (.ifCond .ne 6, 3) := by decide +kernel
theorem dX9_leftOut_16 : decode cX9_leftOut 16 = .ok (.ldc 194, 2) := by decide +kernel
theorem dX9_leftOut_18 : decode cX9_leftOut 18 = .ok (.ireturn, 1) := by decide +kernel
theorem dX9_leftOut_19 : decode cX9_leftOut 19 = .ok (.iload_n 3, 1) := by decide +kernel
theorem dX9_leftOut_20 : decode cX9_leftOut 20 = .ok (.invokestatic 249, 3) := by decide +kernel
theorem dX9_leftOut_23 : decode cX9_leftOut 23 = .ok (.ifCond .eq 14, 3) := by decide +kernel
theorem dX9_leftOut_26 : decode cX9_leftOut 26 = .ok (.iload 4, 2) := by decide +kernel
theorem dX9_leftOut_28 : decode cX9_leftOut 28 = .ok (.i2l, 1) := by decide +kernel
theorem dX9_leftOut_29 : decode cX9_leftOut 29 = .ok (.lconst 0, 1) := by decide +kernel
theorem dX9_leftOut_30 : decode cX9_leftOut 30 = .ok (.lconst 1, 1) := by decide +kernel
theorem dX9_leftOut_31 : decode cX9_leftOut 31 = .ok (.invokestatic 81, 3) := by decide +kernel
theorem dX9_leftOut_34 : decode cX9_leftOut 34 = .ok (.ifCond .ne 6, 3) := by decide +kernel
theorem dX9_leftOut_37 : decode cX9_leftOut 37 = .ok (.ldc 89, 2) := by decide +kernel
theorem dX9_leftOut_39 : decode cX9_leftOut 39 = .ok (.ireturn, 1) := by decide +kernel
theorem dX9_leftOut_40 : decode cX9_leftOut 40 = .ok (.iconst (-1), 1) := by decide +kernel
theorem dX9_leftOut_41 : decode cX9_leftOut 41 = .ok (.istore 5, 2) := by decide +kernel
theorem dX9_leftOut_43 : decode cX9_leftOut 43 = .ok (.iconst 0, 1) := by decide +kernel
theorem dX9_leftOut_44 : decode cX9_leftOut 44 = .ok (.istore 6, 2) := by decide +kernel
theorem dX9_leftOut_46 : decode cX9_leftOut 46 = .ok (.iload 6, 2) := by decide +kernel
theorem dX9_leftOut_48 : decode cX9_leftOut 48 = .ok (.iconst 1, 1) := by decide +kernel
theorem dX9_leftOut_49 : decode cX9_leftOut 49 = .ok (.aload_n 0, 1) := by decide +kernel
theorem dX9_leftOut_50 : decode cX9_leftOut 50 = .ok (.getfield 169, 3) := by decide +kernel
theorem dX9_leftOut_53 : decode cX9_leftOut 53 = .ok (.ishl, 1) := by decide +kernel
theorem dX9_leftOut_54 : decode cX9_leftOut 54 = .ok (.if_icmp .ge 65, 3) := by decide +kernel
theorem dX9_leftOut_57 : decode cX9_leftOut 57 = .ok (.iload 5, 2) := by decide +kernel
theorem dX9_leftOut_59 : decode cX9_leftOut 59 = .ok (.ifCond .lt 16, 3) := by decide +kernel
theorem dX9_leftOut_62 : decode cX9_leftOut 62 = .ok (.iload 6, 2) := by decide +kernel
theorem dX9_leftOut_64 : decode cX9_leftOut 64 = .ok (.invokestatic 256, 3) := by decide +kernel
theorem dX9_leftOut_67 : decode cX9_leftOut 67 = .ok (.iload 5, 2) := by decide +kernel
theorem dX9_leftOut_69 : decode cX9_leftOut 69 = .ok (.invokestatic 256, 3) := by decide +kernel
theorem dX9_leftOut_72 : decode cX9_leftOut 72 = .ok (.if_icmp .ge 41, 3) := by decide +kernel
theorem dX9_leftOut_75 : decode cX9_leftOut 75 = .ok (.aload_n 0, 1) := by decide +kernel
theorem dX9_leftOut_76 : decode cX9_leftOut 76 = .ok (.invokevirtual 225, 3) := by decide +kernel
theorem dX9_leftOut_79 : decode cX9_leftOut 79 = .ok (.aload_n 0, 1) := by decide +kernel
theorem dX9_leftOut_80 : decode cX9_leftOut 80 = .ok (.iconst 0, 1) := by decide +kernel
theorem dX9_leftOut_81 : decode cX9_leftOut 81 = .ok (.aload_n 0, 1) := by decide +kernel
theorem dX9_leftOut_82 : decode cX9_leftOut 82 = .ok (.getfield 169, 3) := by decide +kernel
theorem dX9_leftOut_85 : decode cX9_leftOut 85 = .ok (.iload 6, 2) := by decide +kernel
theorem dX9_leftOut_87 : decode cX9_leftOut 87 = .ok (.invokevirtual 228, 3) := by decide +kernel
theorem dX9_leftOut_90 : decode cX9_leftOut 90 = .ok (.aload_n 0, 1) := by decide +kernel
theorem dX9_leftOut_91 : decode cX9_leftOut 91 = .ok (.getfield 47, 3) := by decide +kernel
theorem dX9_leftOut_94 : decode cX9_leftOut 94 = .ok (.iconst 5, 1) := by decide +kernel
theorem dX9_leftOut_95 : decode cX9_leftOut 95 = .ok (.iload_n 1, 1) := by decide +kernel
theorem dX9_leftOut_96 : decode cX9_leftOut 96 = .ok (.imul, 1) := by decide +kernel
theorem dX9_leftOut_97 : decode cX9_leftOut 97 = .ok (.iload_n 2, 1) := by decide +kernel
theorem dX9_leftOut_98 : decode cX9_leftOut 98 = .ok (.iadd, 1) := by decide +kernel
theorem dX9_leftOut_99 : decode cX9_leftOut 99 = .ok (.iaload, 1) := by decide +kernel
theorem dX9_leftOut_100 : decode cX9_leftOut 100 = .ok (.iload_n 3, 1) := by decide +kernel
theorem dX9_leftOut_101 : decode cX9_leftOut 101 = .ok (.if_icmp .gt 8, 3) := by decide +kernel
theorem dX9_leftOut_104 : decode cX9_leftOut 104 = .ok (.iload 6, 2) := by decide +kernel
theorem dX9_leftOut_106 : decode cX9_leftOut 106 = .ok (.goto 5, 3) := by decide +kernel
theorem dX9_leftOut_109 : decode cX9_leftOut 109 = .ok (.iload 5, 2) := by decide +kernel
theorem dX9_leftOut_111 : decode cX9_leftOut 111 = .ok (.istore 5, 2) := by decide +kernel
theorem dX9_leftOut_113 : decode cX9_leftOut 113 = .ok (.iinc 6 1, 3) := by decide +kernel
theorem dX9_leftOut_116 : decode cX9_leftOut 116 = .ok (.goto (-70), 3) := by decide +kernel
theorem dX9_leftOut_119 : decode cX9_leftOut 119 = .ok (.iload 5, 2) := by decide +kernel
theorem dX9_leftOut_121 : decode cX9_leftOut 121 = .ok (.ifCond .lt 9, 3) := by decide +kernel
theorem dX9_leftOut_124 : decode cX9_leftOut 124 = .ok (.iload 4, 2) := by decide +kernel
theorem dX9_leftOut_126 : decode cX9_leftOut 126 = .ok (.iconst 1, 1) := by decide +kernel
theorem dX9_leftOut_127 : decode cX9_leftOut 127 = .ok (.if_icmp .ne 8, 3) := by decide +kernel
theorem dX9_leftOut_130 : decode cX9_leftOut 130 = .ok (.iload 5, 2) := by decide +kernel
theorem dX9_leftOut_132 : decode cX9_leftOut 132 = .ok (.goto 8, 3) := by decide +kernel
theorem dX9_leftOut_135 : decode cX9_leftOut 135 = .ok (.iload 5, 2) := by decide +kernel
theorem dX9_leftOut_137 : decode cX9_leftOut 137 = .ok (.invokestatic 256, 3) := by decide +kernel
theorem dX9_leftOut_140 : decode cX9_leftOut 140 = .ok (.ireturn, 1) := by decide +kernel
theorem dX9_washes_0 : decode cX9_washes 0 = .ok (.aload_n 0, 1) := by decide +kernel
theorem dX9_washes_1 : decode cX9_washes 1 = .ok (.iload_n 1, 1) := by decide +kernel
theorem dX9_washes_2 : decode cX9_washes 2 = .ok (.invokevirtual 191, 3) := by decide +kernel
theorem dX9_washes_5 : decode cX9_washes 5 = .ok (.ifCond .ne 6, 3) := by decide +kernel
theorem dX9_washes_8 : decode cX9_washes 8 = .ok (.ldc 194, 2) := by decide +kernel
theorem dX9_washes_10 : decode cX9_washes 10 = .ok (.ireturn, 1) := by decide +kernel
theorem dX9_washes_11 : decode cX9_washes 11 = .ok (.iload_n 2, 1) := by decide +kernel
theorem dX9_washes_12 : decode cX9_washes 12 = .ok (.invokestatic 249, 3) := by decide +kernel
theorem dX9_washes_15 : decode cX9_washes 15 = .ok (.ifCond .ne 6, 3) := by decide +kernel
theorem dX9_washes_18 : decode cX9_washes 18 = .ok (.ldc 89, 2) := by decide +kernel
theorem dX9_washes_20 : decode cX9_washes 20 = .ok (.ireturn, 1) := by decide +kernel
theorem dX9_washes_21 : decode cX9_washes 21 = .ok (.aload_n 0, 1) := by decide +kernel
theorem dX9_washes_22 : decode cX9_washes 22 = .ok (.invokevirtual 225, 3) := by decide +kernel
theorem dX9_washes_25 : decode cX9_washes 25 = .ok (.aload_n 0, 1) := by decide +kernel
theorem dX9_washes_26 : decode cX9_washes 26 = .ok (.iconst 0, 1) := by decide +kernel
theorem dX9_washes_27 : decode cX9_washes 27 = .ok (.aload_n 0, 1) := by decide +kernel
theorem dX9_washes_28 : decode cX9_washes 28 = .ok (.getfield 169, 3) := by decide +kernel
theorem dX9_washes_31 : decode cX9_washes 31 = .ok (.iconst 0, 1) := by decide +kernel
theorem dX9_washes_32 : decode cX9_washes 32 = .ok (.invokevirtual 228, 3) := by decide +kernel
theorem dX9_washes_35 : decode cX9_washes 35 = .ok (.iconst 0, 1) := by decide +kernel
theorem dX9_washes_36 : decode cX9_washes 36 = .ok (.istore_n 3, 1) := by decide +kernel
theorem dX9_washes_37 : decode cX9_washes 37 = .ok (.iconst 0, 1) := by decide +kernel
theorem dX9_washes_38 : decode cX9_washes 38 = .ok (.istore 4, 2) := by decide +kernel
theorem dX9_washes_40 : decode cX9_washes 40 = .ok (.iload 4, 2) := by decide +kernel
theorem dX9_washes_42 : decode cX9_washes 42 = .ok (.aload_n 0, 1) := by decide +kernel
theorem dX9_washes_43 : decode cX9_washes 43 = .ok (.getfield 78, 3) := by decide +kernel
theorem dX9_washes_46 : decode cX9_washes 46 = .ok (.if_icmp .ge 60, 3) := by decide +kernel
theorem dX9_washes_49 : decode cX9_washes 49 = .ok (.aload_n 0, 1) := by decide +kernel
theorem dX9_washes_50 : decode cX9_washes 50 = .ok (.getfield 47, 3) := by decide +kernel
theorem dX9_washes_53 : decode cX9_washes 53 = .ok (.iconst 5, 1) := by decide +kernel
theorem dX9_washes_54 : decode cX9_washes 54 = .ok (.iload 4, 2) := by decide +kernel
theorem dX9_washes_56 : decode cX9_washes 56 = .ok (.imul, 1) := by decide +kernel
theorem dX9_washes_57 : decode cX9_washes 57 = .ok (.iload_n 1, 1) := by decide +kernel
theorem dX9_washes_58 : decode cX9_washes 58 = .ok (.iadd, 1) := by decide +kernel
theorem dX9_washes_59 : decode cX9_washes 59 = .ok (.iaload, 1) := by decide +kernel
theorem dX9_washes_60 : decode cX9_washes 60 = .ok (.iload_n 2, 1) := by decide +kernel
theorem dX9_washes_61 : decode cX9_washes 61 = .ok (.if_icmp .le 39, 3) := by decide +kernel
theorem dX9_washes_64 : decode cX9_washes 64 = .ok (.aload_n 0, 1) := by decide +kernel
theorem dX9_washes_65 : decode cX9_washes 65 = .ok (.getfield 166, 3) := by decide +kernel
theorem dX9_washes_68 : decode cX9_washes 68 = .ok (.iload 4, 2) := by decide +kernel
theorem dX9_washes_70 : decode cX9_washes 70 = .ok (.invokestatic 140, 3) := by decide +kernel
theorem dX9_washes_73 : decode cX9_washes 73 = .ok (.ifCond .ne 18, 3) := by decide +kernel
theorem dX9_washes_76 : decode cX9_washes 76 = .ok (.aload_n 0, 1) := by decide +kernel
theorem dX9_washes_77 : decode cX9_washes 77 = .ok (.getfield 7, 3) := by decide +kernel
theorem dX9_washes_80 : decode cX9_washes 80 = .ok (.iconst 5, 1) := by decide +kernel
theorem dX9_washes_81 : decode cX9_washes 81 = .ok (.iload 4, 2) := by decide +kernel
theorem dX9_washes_83 : decode cX9_washes 83 = .ok (.imul, 1) := by decide +kernel
theorem dX9_washes_84 : decode cX9_washes 84 = .ok (.iload_n 1, 1) := by decide +kernel
theorem dX9_washes_85 : decode cX9_washes 85 = .ok (.iadd, 1) := by decide +kernel
theorem dX9_washes_86 : decode cX9_washes 86 = .ok (.iaload, 1) := by decide +kernel
theorem dX9_washes_87 : decode cX9_washes 87 = .ok (.iload_n 2, 1) := by decide +kernel
theorem dX9_washes_88 : decode cX9_washes 88 = .ok (.if_icmp .le 5, 3) := by decide +kernel
theorem dX9_washes_91 : decode cX9_washes 91 = .ok (.iconst (-1), 1) := by decide +kernel
theorem dX9_washes_92 : decode cX9_washes 92 = .ok (.ireturn, 1) := by decide +kernel
theorem dX9_washes_93 : decode cX9_washes 93 = .ok (.iload_n 3, 1) := by decide +kernel
theorem dX9_washes_94 : decode cX9_washes 94 = .ok (.iconst 1, 1) := by decide +kernel
theorem dX9_washes_95 : decode cX9_washes 95 = .ok (.iload 4, 2) := by decide +kernel
theorem dX9_washes_97 : decode cX9_washes 97 = .ok (.ishl, 1) := by decide +kernel
theorem dX9_washes_98 : decode cX9_washes 98 = .ok (.ior, 1) := by decide +kernel
theorem dX9_washes_99 : decode cX9_washes 99 = .ok (.istore_n 3, 1) := by decide +kernel
theorem dX9_washes_100 : decode cX9_washes 100 = .ok (.iinc 4 1, 3) := by decide +kernel
theorem dX9_washes_103 : decode cX9_washes 103 = .ok (.goto (-63), 3) := by decide +kernel
theorem dX9_washes_106 : decode cX9_washes 106 = .ok (.iload_n 3, 1) := by decide +kernel
theorem dX9_washes_107 : decode cX9_washes 107 = .ok (.ireturn, 1) := by decide +kernel
theorem dX9_restIn_0 : decode cX9_restIn 0 = .ok (.aload_n 0, 1) := by decide +kernel
theorem dX9_restIn_1 : decode cX9_restIn 1 = .ok (.invokevirtual 225, 3) := by decide +kernel
theorem dX9_restIn_4 : decode cX9_restIn 4 = .ok (.iconst 0, 1) := by decide +kernel
theorem dX9_restIn_5 : decode cX9_restIn 5 = .ok (.istore_n 1, 1) := by decide +kernel
theorem dX9_restIn_6 : decode cX9_restIn 6 = .ok (.iload_n 1, 1) := by decide +kernel
theorem dX9_restIn_7 : decode cX9_restIn 7 = .ok (.sipush 200, 3) := by decide +kernel
theorem dX9_restIn_10 : decode cX9_restIn 10 = .ok (.if_icmp .gt 92, 3) := by decide +kernel
theorem dX9_restIn_13 : decode cX9_restIn 13 = .ok (.iconst 0, 1) := by decide +kernel
theorem dX9_restIn_14 : decode cX9_restIn 14 = .ok (.istore_n 2, 1) := by decide +kernel
theorem dX9_restIn_15 : decode cX9_restIn 15 = .ok (.iload_n 2, 1) := by decide +kernel
theorem dX9_restIn_16 : decode cX9_restIn 16 = .ok (.bipush 30, 2) := by decide +kernel
theorem dX9_restIn_18 : decode cX9_restIn 18 = .ok (.if_icmp .ge 21, 3) := by decide +kernel
theorem dX9_restIn_21 : decode cX9_restIn 21 = .ok (.aload_n 0, 1) := by decide +kernel
theorem dX9_restIn_22 : decode cX9_restIn 22 = .ok (.getfield 50, 3) := by decide +kernel
theorem dX9_restIn_25 : decode cX9_restIn 25 = .ok (.iload_n 2, 1) := by decide +kernel
theorem dX9_restIn_26 : decode cX9_restIn 26 = .ok (.aload_n 0, 1) := by decide +kernel
theorem dX9_restIn_27 : decode cX9_restIn 27 = .ok (.getfield 47, 3) := by decide +kernel
theorem dX9_restIn_30 : decode cX9_restIn 30 = .ok (.iload_n 2, 1) := by decide +kernel
theorem dX9_restIn_31 : decode cX9_restIn 31 = .ok (.iaload, 1) := by decide +kernel
theorem dX9_restIn_32 : decode cX9_restIn 32 = .ok (.iastore, 1) := by decide +kernel
theorem dX9_restIn_33 : decode cX9_restIn 33 = .ok (.iinc 2 1, 3) := by decide +kernel
theorem dX9_restIn_36 : decode cX9_restIn 36 = .ok (.goto (-21), 3) := by decide +kernel
theorem dX9_restIn_39 : decode cX9_restIn 39 = .ok (.aload_n 0, 1) := by decide +kernel
theorem dX9_restIn_40 : decode cX9_restIn 40 = .ok (.iconst 0, 1) := by decide +kernel
theorem dX9_restIn_41 : decode cX9_restIn 41 = .ok (.aload_n 0, 1) := by decide +kernel
theorem dX9_restIn_42 : decode cX9_restIn 42 = .ok (.getfield 169, 3) := by decide +kernel
theorem dX9_restIn_45 : decode cX9_restIn 45 = .ok (.iconst 0, 1) := by decide +kernel
theorem dX9_restIn_46 : decode cX9_restIn 46 = .ok (.invokevirtual 228, 3) := by decide +kernel
theorem dX9_restIn_49 : decode cX9_restIn 49 = .ok (.iconst 1, 1) := by decide +kernel
theorem dX9_restIn_50 : decode cX9_restIn 50 = .ok (.istore_n 2, 1) := by decide +kernel
theorem dX9_restIn_51 : decode cX9_restIn 51 = .ok (.iconst 0, 1) := by decide +kernel
theorem dX9_restIn_52 : decode cX9_restIn 52 = .ok (.istore_n 3, 1) := by decide +kernel
theorem dX9_restIn_53 : decode cX9_restIn 53 = .ok (.iload_n 3, 1) := by decide +kernel
theorem dX9_restIn_54 : decode cX9_restIn 54 = .ok (.bipush 30, 2) := by decide +kernel
theorem dX9_restIn_56 : decode cX9_restIn 56 = .ok (.if_icmp .ge 34, 3) := by decide +kernel
theorem dX9_restIn_59 : decode cX9_restIn 59 = .ok (.iload_n 2, 1) := by decide +kernel
theorem dX9_restIn_60 : decode cX9_restIn 60 = .ok (.ifCond .eq 22, 3) := by decide +kernel
theorem dX9_restIn_63 : decode cX9_restIn 63 = .ok (.aload_n 0, 1) := by decide +kernel
theorem dX9_restIn_64 : decode cX9_restIn 64 = .ok (.getfield 50, 3) := by decide +kernel
theorem dX9_restIn_67 : decode cX9_restIn 67 = .ok (.iload_n 3, 1) := by decide +kernel
theorem dX9_restIn_68 : decode cX9_restIn 68 = .ok (.iaload, 1) := by decide +kernel
theorem dX9_restIn_69 : decode cX9_restIn 69 = .ok (.aload_n 0, 1) := by decide +kernel
theorem dX9_restIn_70 : decode cX9_restIn 70 = .ok (.getfield 47, 3) := by decide +kernel
theorem dX9_restIn_73 : decode cX9_restIn 73 = .ok (.iload_n 3, 1) := by decide +kernel
theorem dX9_restIn_74 : decode cX9_restIn 74 = .ok (.iaload, 1) := by decide +kernel
theorem dX9_restIn_75 : decode cX9_restIn 75 = .ok (.if_icmp .ne 7, 3) := by decide +kernel
theorem dX9_restIn_78 : decode cX9_restIn 78 = .ok (.iconst 1, 1) := by decide +kernel
theorem dX9_restIn_79 : decode cX9_restIn 79 = .ok (.goto 4, 3) := by decide +kernel
theorem dX9_restIn_82 : decode cX9_restIn 82 = .ok (.iconst 0, 1) := by decide +kernel
theorem dX9_restIn_83 : decode cX9_restIn 83 = .ok (.istore_n 2, 1) := by decide +kernel
theorem dX9_restIn_84 : decode cX9_restIn 84 = .ok (.iinc 3 1, 3) := by decide +kernel
theorem dX9_restIn_87 : decode cX9_restIn 87 = .ok (.goto (-34), 3) := by decide +kernel
theorem dX9_restIn_90 : decode cX9_restIn 90 = .ok (.iload_n 2, 1) := by decide +kernel
theorem dX9_restIn_91 : decode cX9_restIn 91 = .ok (.ifCond .eq 5, 3) := by decide +kernel
theorem dX9_restIn_94 : decode cX9_restIn 94 = .ok (.iload_n 1, 1) := by decide +kernel
theorem dX9_restIn_95 : decode cX9_restIn 95 = .ok (.ireturn, 1) := by decide +kernel
theorem dX9_restIn_96 : decode cX9_restIn 96 = .ok (.iinc 1 1, 3) := by decide +kernel
theorem dX9_restIn_99 : decode cX9_restIn 99 = .ok (.goto (-93), 3) := by decide +kernel
theorem dX9_restIn_102 : decode cX9_restIn 102 = .ok (.iconst (-1), 1) := by decide +kernel
theorem dX9_restIn_103 : decode cX9_restIn 103 = .ok (.ireturn, 1) := by decide +kernel
theorem dX9_rest_0 : decode cX9_rest 0 = .ok (.iload_n 1, 1) := by decide +kernel
theorem dX9_rest_1 : decode cX9_rest 1 = .ok (.iconst (-1), 1) := by decide +kernel
theorem dX9_rest_2 : decode cX9_rest 2 = .ok (.if_icmp .eq 22, 3) := by decide +kernel
theorem dX9_rest_5 : decode cX9_rest 5 = .ok (.aload_n 0, 1) := by decide +kernel
theorem dX9_rest_6 : decode cX9_rest 6 = .ok (.iload_n 1, 1) := by decide +kernel
theorem dX9_rest_7 : decode cX9_rest 7 = .ok (.invokevirtual 187, 3) := by decide +kernel
theorem dX9_rest_10 : decode cX9_rest 10 = .ok (.ifCond .eq 11, 3) := by decide +kernel
theorem dX9_rest_13 : decode cX9_rest 13 = .ok (.aload_n 0, 1) := by decide +kernel
theorem dX9_rest_14 : decode cX9_rest 14 = .ok (.iload_n 2, 1) := by decide +kernel
theorem dX9_rest_15 : decode cX9_rest 15 = .ok (.invokevirtual 191, 3) := by decide +kernel
theorem dX9_rest_18 : decode cX9_rest 18 = .ok (.ifCond .ne 6, 3) := by decide +kernel
theorem dX9_rest_21 : decode cX9_rest 21 = .ok (.ldc 194, 2) := by decide +kernel
theorem dX9_rest_23 : decode cX9_rest 23 = .ok (.ireturn, 1) := by decide +kernel
theorem dX9_rest_24 : decode cX9_rest 24 = .ok (.aload_n 0, 1) := by decide +kernel
theorem dX9_rest_25 : decode cX9_rest 25 = .ok (.invokevirtual 259, 3) := by decide +kernel
theorem dX9_rest_28 : decode cX9_rest 28 = .ok (.istore_n 3, 1) := by decide +kernel
theorem dX9_rest_29 : decode cX9_rest 29 = .ok (.iload_n 3, 1) := by decide +kernel
theorem dX9_rest_30 : decode cX9_rest 30 = .ok (.ifCond .lt 8, 3) := by decide +kernel
theorem dX9_rest_33 : decode cX9_rest 33 = .ok (.iload_n 1, 1) := by decide +kernel
theorem dX9_rest_34 : decode cX9_rest 34 = .ok (.iconst (-1), 1) := by decide +kernel
theorem dX9_rest_35 : decode cX9_rest 35 = .ok (.if_icmp .ne 7, 3) := by decide +kernel
theorem dX9_rest_38 : decode cX9_rest 38 = .ok (.iload_n 3, 1) := by decide +kernel
theorem dX9_rest_39 : decode cX9_rest 39 = .ok (.goto 13, 3) := by decide +kernel
theorem dX9_rest_42 : decode cX9_rest 42 = .ok (.aload_n 0, 1) := by decide +kernel
theorem dX9_rest_43 : decode cX9_rest 43 = .ok (.getfield 47, 3) := by decide +kernel
theorem dX9_rest_46 : decode cX9_rest 46 = .ok (.iconst 5, 1) := by decide +kernel
theorem dX9_rest_47 : decode cX9_rest 47 = .ok (.iload_n 1, 1) := by decide +kernel
theorem dX9_rest_48 : decode cX9_rest 48 = .ok (.imul, 1) := by decide +kernel
theorem dX9_rest_49 : decode cX9_rest 49 = .ok (.iload_n 2, 1) := by decide +kernel
theorem dX9_rest_50 : decode cX9_rest 50 = .ok (.iadd, 1) := by decide +kernel
theorem dX9_rest_51 : decode cX9_rest 51 = .ok (.iaload, 1) := by decide +kernel
theorem dX9_rest_52 : decode cX9_rest 52 = .ok (.ireturn, 1) := by decide +kernel
theorem dX9_rain_0 : decode cX9_rain 0 = .ok (.aload_n 0, 1) := by decide +kernel
theorem dX9_rain_1 : decode cX9_rain 1 = .ok (.iload_n 1, 1) := by decide +kernel
theorem dX9_rain_2 : decode cX9_rain 2 = .ok (.invokevirtual 191, 3) := by decide +kernel
theorem dX9_rain_5 : decode cX9_rain 5 = .ok (.ifCond .ne 6, 3) := by decide +kernel
theorem dX9_rain_8 : decode cX9_rain 8 = .ok (.ldc 194, 2) := by decide +kernel
theorem dX9_rain_10 : decode cX9_rain 10 = .ok (.ireturn, 1) := by decide +kernel
theorem dX9_rain_11 : decode cX9_rain 11 = .ok (.iload_n 2, 1) := by decide +kernel
theorem dX9_rain_12 : decode cX9_rain 12 = .ok (.invokestatic 249, 3) := by decide +kernel
theorem dX9_rain_15 : decode cX9_rain 15 = .ok (.ifCond .eq 15, 3) := by decide +kernel
theorem dX9_rain_18 : decode cX9_rain 18 = .ok (.iload_n 3, 1) := by decide +kernel
theorem dX9_rain_19 : decode cX9_rain 19 = .ok (.i2l, 1) := by decide +kernel
theorem dX9_rain_20 : decode cX9_rain 20 = .ok (.lconst 0, 1) := by decide +kernel
theorem dX9_rain_21 : decode cX9_rain 21 = .ok (.ldc2_w 262, 3) := by decide +kernel
theorem dX9_rain_24 : decode cX9_rain 24 = .ok (.invokestatic 81, 3) := by decide +kernel
theorem dX9_rain_27 : decode cX9_rain 27 = .ok (.ifCond .ne 6, 3) := by decide +kernel
theorem dX9_rain_30 : decode cX9_rain 30 = .ok (.ldc 89, 2) := by decide +kernel
theorem dX9_rain_32 : decode cX9_rain 32 = .ok (.ireturn, 1) := by decide +kernel
theorem dX9_rain_33 : decode cX9_rain 33 = .ok (.ldc2_w 264, 3) := by decide +kernel
theorem dX9_rain_36 : decode cX9_rain 36 = .ok (.lstore 4, 2) := by decide +kernel
theorem dX9_rain_38 : decode cX9_rain 38 = .ok (.iconst 0, 1) := by decide +kernel
theorem dX9_rain_39 : decode cX9_rain 39 = .ok (.istore 6, 2) := by decide +kernel
theorem dX9_rain_41 : decode cX9_rain 41 = .ok (.iload 6, 2) := by decide +kernel
theorem dX9_rain_43 : decode cX9_rain 43 = .ok (.aload_n 0, 1) := by decide +kernel
theorem dX9_rain_44 : decode cX9_rain 44 = .ok (.getfield 78, 3) := by decide +kernel
theorem dX9_rain_47 : decode cX9_rain 47 = .ok (.if_icmp .ge 52, 3) := by decide +kernel
theorem dX9_rain_50 : decode cX9_rain 50 = .ok (.aload_n 0, 1) := by decide +kernel
theorem dX9_rain_51 : decode cX9_rain 51 = .ok (.getfield 19, 3) := by decide +kernel
theorem dX9_rain_54 : decode cX9_rain 54 = .ok (.iconst 5, 1) := by decide +kernel
theorem dX9_rain_55 : decode cX9_rain 55 = .ok (.iload 6, 2) := by decide +kernel
theorem dX9_rain_57 : decode cX9_rain 57 = .ok (.imul, 1) := by decide +kernel
theorem dX9_rain_58 : decode cX9_rain 58 = .ok (.iload_n 1, 1) := by decide +kernel
theorem dX9_rain_59 : decode cX9_rain 59 = .ok (.iadd, 1) := by decide +kernel
theorem dX9_rain_60 : decode cX9_rain 60 = .ok (.iaload, 1) := by decide +kernel
theorem dX9_rain_61 : decode cX9_rain 61 = .ok (.iload_n 2, 1) := by decide +kernel
theorem dX9_rain_62 : decode cX9_rain 62 = .ok (.if_icmp .le 27, 3) := by decide +kernel
theorem dX9_rain_65 : decode cX9_rain 65 = .ok (.aload_n 0, 1) := by decide +kernel
theorem dX9_rain_66 : decode cX9_rain 66 = .ok (.getfield 166, 3) := by decide +kernel
theorem dX9_rain_69 : decode cX9_rain 69 = .ok (.iload 6, 2) := by decide +kernel
theorem dX9_rain_71 : decode cX9_rain 71 = .ok (.invokestatic 140, 3) := by decide +kernel
theorem dX9_rain_74 : decode cX9_rain 74 = .ok (.ifCond .ne 15, 3) := by decide +kernel
theorem dX9_rain_77 : decode cX9_rain 77 = .ok (.lload 4, 2) := by decide +kernel
theorem dX9_rain_79 : decode cX9_rain 79 = .ok (.iload_n 3, 1) := by decide +kernel
theorem dX9_rain_80 : decode cX9_rain 80 = .ok (.i2l, 1) := by decide +kernel
theorem dX9_rain_81 : decode cX9_rain 81 = .ok (.lmul, 1) := by decide +kernel
theorem dX9_rain_82 : decode cX9_rain 82 = .ok (.ldc2_w 262, 3) := by decide +kernel
theorem dX9_rain_85 : decode cX9_rain 85 = .ok (.ldiv, 1) := by decide +kernel
theorem dX9_rain_86 : decode cX9_rain 86 = .ok (.goto 5, 3) := by decide +kernel
theorem dX9_rain_89 : decode cX9_rain 89 = .ok (.lload 4, 2) := by decide +kernel
theorem dX9_rain_91 : decode cX9_rain 91 = .ok (.lstore 4, 2) := by decide +kernel
theorem dX9_rain_93 : decode cX9_rain 93 = .ok (.iinc 6 1, 3) := by decide +kernel
theorem dX9_rain_96 : decode cX9_rain 96 = .ok (.goto (-55), 3) := by decide +kernel
theorem dX9_rain_99 : decode cX9_rain 99 = .ok (.lload 4, 2) := by decide +kernel
theorem dX9_rain_101 : decode cX9_rain 101 = .ok (.l2i, 1) := by decide +kernel
theorem dX9_rain_102 : decode cX9_rain 102 = .ok (.ireturn, 1) := by decide +kernel
theorem dX9_blend_0 : decode cX9_blend 0 = .ok (.iload_n 1, 1) := by decide +kernel
theorem dX9_blend_1 : decode cX9_blend 1 = .ok (.i2l, 1) := by decide +kernel
theorem dX9_blend_2 : decode cX9_blend 2 = .ok (.lconst 0, 1) := by decide +kernel
theorem dX9_blend_3 : decode cX9_blend 3 = .ok (.iconst 1, 1) := by decide +kernel
theorem dX9_blend_4 : decode cX9_blend 4 = .ok (.aload_n 0, 1) := by decide +kernel
theorem dX9_blend_5 : decode cX9_blend 5 = .ok (.getfield 78, 3) := by decide +kernel
theorem dX9_blend_8 : decode cX9_blend 8 = .ok (.ishl, 1) := by decide +kernel
theorem dX9_blend_9 : decode cX9_blend 9 = .ok (.iconst 1, 1) := by decide +kernel
theorem dX9_blend_10 : decode cX9_blend 10 = .ok (.isub, 1) := by decide +kernel
theorem dX9_blend_11 : decode cX9_blend 11 = .ok (.i2l, 1) := by decide +kernel
theorem dX9_blend_12 : decode cX9_blend 12 = .ok (.invokestatic 81, 3) := by decide +kernel
theorem dX9_blend_15 : decode cX9_blend 15 = .ok (.ifCond .eq 11, 3) := by decide +kernel
theorem dX9_blend_18 : decode cX9_blend 18 = .ok (.aload_n 0, 1) := by decide +kernel
theorem dX9_blend_19 : decode cX9_blend 19 = .ok (.iload_n 2, 1) := by decide +kernel
theorem dX9_blend_20 : decode cX9_blend 20 = .ok (.invokevirtual 191, 3) := by decide +kernel
theorem dX9_blend_23 : decode cX9_blend 23 = .ok (.ifCond .ne 6, 3) := by decide +kernel
theorem dX9_blend_26 : decode cX9_blend 26 = .ok (.ldc 194, 2) := by decide +kernel
theorem dX9_blend_28 : decode cX9_blend 28 = .ok (.ireturn, 1) := by decide +kernel
theorem dX9_blend_29 : decode cX9_blend 29 = .ok (.iconst 0, 1) := by decide +kernel
theorem dX9_blend_30 : decode cX9_blend 30 = .ok (.istore_n 3, 1) := by decide +kernel
theorem dX9_blend_31 : decode cX9_blend 31 = .ok (.iconst 0, 1) := by decide +kernel
theorem dX9_blend_32 : decode cX9_blend 32 = .ok (.istore 4, 2) := by decide +kernel
theorem dX9_blend_34 : decode cX9_blend 34 = .ok (.iload 4, 2) := by decide +kernel
theorem dX9_blend_36 : decode cX9_blend 36 = .ok (.aload_n 0, 1) := by decide +kernel
theorem dX9_blend_37 : decode cX9_blend 37 = .ok (.getfield 78, 3) := by decide +kernel
theorem dX9_blend_40 : decode cX9_blend 40 = .ok (.if_icmp .ge 36, 3) := by decide +kernel
theorem dX9_blend_43 : decode cX9_blend 43 = .ok (.iload_n 3, 1) := by decide +kernel
theorem dX9_blend_44 : decode cX9_blend 44 = .ok (.iload_n 1, 1) := by decide +kernel
theorem dX9_blend_45 : decode cX9_blend 45 = .ok (.iload 4, 2) := by decide +kernel
theorem dX9_blend_47 : decode cX9_blend 47 = .ok (.invokestatic 140, 3) := by decide +kernel
theorem dX9_blend_50 : decode cX9_blend 50 = .ok (.ifCond .eq 17, 3) := by decide +kernel
theorem dX9_blend_53 : decode cX9_blend 53 = .ok (.aload_n 0, 1) := by decide +kernel
theorem dX9_blend_54 : decode cX9_blend 54 = .ok (.getfield 19, 3) := by decide +kernel
theorem dX9_blend_57 : decode cX9_blend 57 = .ok (.iconst 5, 1) := by decide +kernel
theorem dX9_blend_58 : decode cX9_blend 58 = .ok (.iload 4, 2) := by decide +kernel
theorem dX9_blend_60 : decode cX9_blend 60 = .ok (.imul, 1) := by decide +kernel
theorem dX9_blend_61 : decode cX9_blend 61 = .ok (.iload_n 2, 1) := by decide +kernel
theorem dX9_blend_62 : decode cX9_blend 62 = .ok (.iadd, 1) := by decide +kernel
theorem dX9_blend_63 : decode cX9_blend 63 = .ok (.iaload, 1) := by decide +kernel
theorem dX9_blend_64 : decode cX9_blend 64 = .ok (.goto 4, 3) := by decide +kernel
theorem dX9_blend_67 : decode cX9_blend 67 = .ok (.iconst 0, 1) := by decide +kernel
theorem dX9_blend_68 : decode cX9_blend 68 = .ok (.iadd, 1) := by decide +kernel
theorem dX9_blend_69 : decode cX9_blend 69 = .ok (.istore_n 3, 1) := by decide +kernel
theorem dX9_blend_70 : decode cX9_blend 70 = .ok (.iinc 4 1, 3) := by decide +kernel
theorem dX9_blend_73 : decode cX9_blend 73 = .ok (.goto (-39), 3) := by decide +kernel
theorem dX9_blend_76 : decode cX9_blend 76 = .ok (.iload_n 1, 1) := by decide +kernel
theorem dX9_blend_77 : decode cX9_blend 77 = .ok (.ifCond .ne 7, 3) := by decide +kernel
theorem dX9_blend_80 : decode cX9_blend 80 = .ok (.iconst (-1), 1) := by decide +kernel
theorem dX9_blend_81 : decode cX9_blend 81 = .ok (.goto 9, 3) := by decide +kernel
theorem dX9_blend_84 : decode cX9_blend 84 = .ok (.iload_n 3, 1) := by decide +kernel
theorem dX9_blend_85 : decode cX9_blend 85 = .ok (.iload_n 1, 1) := by decide +kernel
theorem dX9_blend_86 : decode cX9_blend 86 = .ok (.invokestatic 256, 3) := by decide +kernel
theorem dX9_blend_89 : decode cX9_blend 89 = .ok (.idiv, 1) := by decide +kernel
theorem dX9_blend_90 : decode cX9_blend 90 = .ok (.ireturn, 1) := by decide +kernel
theorem dX9_see_0 : decode cX9_see 0 = .ok (.aload_n 0, 1) := by decide +kernel
theorem dX9_see_1 : decode cX9_see 1 = .ok (.iload_n 1, 1) := by decide +kernel
theorem dX9_see_2 : decode cX9_see 2 = .ok (.invokevirtual 187, 3) := by decide +kernel
theorem dX9_see_5 : decode cX9_see 5 = .ok (.ifCond .eq 11, 3) := by decide +kernel
theorem dX9_see_8 : decode cX9_see 8 = .ok (.aload_n 0, 1) := by decide +kernel
theorem dX9_see_9 : decode cX9_see 9 = .ok (.iload_n 2, 1) := by decide +kernel
theorem dX9_see_10 : decode cX9_see 10 = .ok (.invokevirtual 191, 3) := by decide +kernel
theorem dX9_see_13 : decode cX9_see 13 = .ok (.ifCond .ne 6, 3) := by decide +kernel
theorem dX9_see_16 : decode cX9_see 16 = .ok (.ldc 194, 2) := by decide +kernel
theorem dX9_see_18 : decode cX9_see 18 = .ok (.ireturn, 1) := by decide +kernel
theorem dX9_see_19 : decode cX9_see 19 = .ok (.iload_n 3, 1) := by decide +kernel
theorem dX9_see_20 : decode cX9_see 20 = .ok (.invokestatic 249, 3) := by decide +kernel
theorem dX9_see_23 : decode cX9_see 23 = .ok (.ifCond .ne 6, 3) := by decide +kernel
theorem dX9_see_26 : decode cX9_see 26 = .ok (.ldc 89, 2) := by decide +kernel
theorem dX9_see_28 : decode cX9_see 28 = .ok (.ireturn, 1) := by decide +kernel
theorem dX9_see_29 : decode cX9_see 29 = .ok (.aload_n 0, 1) := by decide +kernel
theorem dX9_see_30 : decode cX9_see 30 = .ok (.getfield 178, 3) := by decide +kernel
theorem dX9_see_33 : decode cX9_see 33 = .ok (.bipush 8, 2) := by decide +kernel
theorem dX9_see_35 : decode cX9_see 35 = .ok (.if_icmp .ne 6, 3) := by decide +kernel
theorem dX9_see_38 : decode cX9_see 38 = .ok (.ldc 93, 2) := by decide +kernel
theorem dX9_see_40 : decode cX9_see 40 = .ok (.ireturn, 1) := by decide +kernel
theorem dX9_see_41 : decode cX9_see 41 = .ok (.aload_n 0, 1) := by decide +kernel
theorem dX9_see_42 : decode cX9_see 42 = .ok (.getfield 53, 3) := by decide +kernel
theorem dX9_see_45 : decode cX9_see 45 = .ok (.aload_n 0, 1) := by decide +kernel
theorem dX9_see_46 : decode cX9_see 46 = .ok (.getfield 178, 3) := by decide +kernel
theorem dX9_see_49 : decode cX9_see 49 = .ok (.iconst 5, 1) := by decide +kernel
theorem dX9_see_50 : decode cX9_see 50 = .ok (.iload_n 1, 1) := by decide +kernel
theorem dX9_see_51 : decode cX9_see 51 = .ok (.imul, 1) := by decide +kernel
theorem dX9_see_52 : decode cX9_see 52 = .ok (.iload_n 2, 1) := by decide +kernel
theorem dX9_see_53 : decode cX9_see 53 = .ok (.iadd, 1) := by decide +kernel
theorem dX9_see_54 : decode cX9_see 54 = .ok (.iastore, 1) := by decide +kernel
theorem dX9_see_55 : decode cX9_see 55 = .ok (.aload_n 0, 1) := by decide +kernel
theorem dX9_see_56 : decode cX9_see 56 = .ok (.getfield 56, 3) := by decide +kernel
theorem dX9_see_59 : decode cX9_see 59 = .ok (.aload_n 0, 1) := by decide +kernel
theorem dX9_see_60 : decode cX9_see 60 = .ok (.getfield 178, 3) := by decide +kernel
theorem dX9_see_63 : decode cX9_see 63 = .ok (.iload_n 3, 1) := by decide +kernel
theorem dX9_see_64 : decode cX9_see 64 = .ok (.iastore, 1) := by decide +kernel
theorem dX9_see_65 : decode cX9_see 65 = .ok (.aload_n 0, 1) := by decide +kernel
theorem dX9_see_66 : decode cX9_see 66 = .ok (.dup, 1) := by decide +kernel
theorem dX9_see_67 : decode cX9_see 67 = .ok (.getfield 178, 3) := by decide +kernel
theorem dX9_see_70 : decode cX9_see 70 = .ok (.iconst 1, 1) := by decide +kernel
theorem dX9_see_71 : decode cX9_see 71 = .ok (.iadd, 1) := by decide +kernel
theorem dX9_see_72 : decode cX9_see 72 = .ok (.putfield 178, 3) := by decide +kernel
theorem dX9_see_75 : decode cX9_see 75 = .ok (.aload_n 0, 1) := by decide +kernel
theorem dX9_see_76 : decode cX9_see 76 = .ok (.getfield 178, 3) := by decide +kernel
theorem dX9_see_79 : decode cX9_see 79 = .ok (.ireturn, 1) := by decide +kernel
theorem dX9_findGap_0 : decode cX9_findGap 0 = .ok (.iconst 0, 1) := by decide +kernel
theorem dX9_findGap_1 : decode cX9_findGap 1 = .ok (.istore_n 1, 1) := by decide +kernel
theorem dX9_findGap_2 : decode cX9_findGap 2 = .ok (.iconst 0, 1) := by decide +kernel
theorem dX9_findGap_3 : decode cX9_findGap 3 = .ok (.istore_n 2, 1) := by decide +kernel
theorem dX9_findGap_4 : decode cX9_findGap 4 = .ok (.iload_n 2, 1) := by decide +kernel
theorem dX9_findGap_5 : decode cX9_findGap 5 = .ok (.aload_n 0, 1) := by decide +kernel
theorem dX9_findGap_6 : decode cX9_findGap 6 = .ok (.getfield 169, 3) := by decide +kernel
theorem dX9_findGap_9 : decode cX9_findGap 9 = .ok (.if_icmp .gt 138, 3) := by decide +kernel
theorem dX9_findGap_12 : decode cX9_findGap 12 = .ok (.aload_n 0, 1) := by decide +kernel
theorem dX9_findGap_13 : decode cX9_findGap 13 = .ok (.invokevirtual 225, 3) := by decide +kernel
theorem dX9_findGap_16 : decode cX9_findGap 16 = .ok (.aload_n 0, 1) := by decide +kernel
theorem dX9_findGap_17 : decode cX9_findGap 17 = .ok (.iconst 0, 1) := by decide +kernel
theorem dX9_findGap_18 : decode cX9_findGap 18 = .ok (.aload_n 0, 1) := by decide +kernel
theorem dX9_findGap_19 : decode cX9_findGap 19 = .ok (.getfield 169, 3) := by decide +kernel
theorem dX9_findGap_22 : decode cX9_findGap 22 = .ok (.iload_n 2, 1) := by decide +kernel
theorem dX9_findGap_23 : decode cX9_findGap 23 = .ok (.aload_n 0, 1) := by decide +kernel
theorem dX9_findGap_24 : decode cX9_findGap 24 = .ok (.getfield 169, 3) := by decide +kernel
theorem dX9_findGap_27 : decode cX9_findGap 27 = .ok (.if_icmp .ge 9, 3) := by decide +kernel
theorem dX9_findGap_30 : decode cX9_findGap 30 = .ok (.iconst 1, 1) := by decide +kernel
theorem dX9_findGap_31 : decode cX9_findGap 31 = .ok (.iload_n 2, 1) := by decide +kernel
theorem dX9_findGap_32 : decode cX9_findGap 32 = .ok (.ishl, 1) := by decide +kernel
theorem dX9_findGap_33 : decode cX9_findGap 33 = .ok (.goto 4, 3) := by decide +kernel
theorem dX9_findGap_36 : decode cX9_findGap 36 = .ok (.iconst 0, 1) := by decide +kernel
theorem dX9_findGap_37 : decode cX9_findGap 37 = .ok (.invokevirtual 228, 3) := by decide +kernel
theorem dX9_findGap_40 : decode cX9_findGap 40 = .ok (.iconst 1, 1) := by decide +kernel
theorem dX9_findGap_41 : decode cX9_findGap 41 = .ok (.istore_n 3, 1) := by decide +kernel
theorem dX9_findGap_42 : decode cX9_findGap 42 = .ok (.iconst 0, 1) := by decide +kernel
theorem dX9_findGap_43 : decode cX9_findGap 43 = .ok (.istore 4, 2) := by decide +kernel
theorem dX9_findGap_45 : decode cX9_findGap 45 = .ok (.iload 4, 2) := by decide +kernel
theorem dX9_findGap_47 : decode cX9_findGap 47 = .ok (.aload_n 0, 1) := by decide +kernel
theorem dX9_findGap_48 : decode cX9_findGap 48 = .ok (.getfield 178, 3) := by decide +kernel
theorem dX9_findGap_51 : decode cX9_findGap 51 = .ok (.if_icmp .ge 41, 3) := by decide +kernel
theorem dX9_findGap_54 : decode cX9_findGap 54 = .ok (.iload_n 3, 1) := by decide +kernel
theorem dX9_findGap_55 : decode cX9_findGap 55 = .ok (.ifCond .eq 29, 3) := by decide +kernel
theorem dX9_findGap_58 : decode cX9_findGap 58 = .ok (.aload_n 0, 1) := by decide +kernel
theorem dX9_findGap_59 : decode cX9_findGap 59 = .ok (.getfield 47, 3) := by decide +kernel
theorem dX9_findGap_62 : decode cX9_findGap 62 = .ok (.aload_n 0, 1) := by decide +kernel
theorem dX9_findGap_63 : decode cX9_findGap 63 = .ok (.getfield 53, 3) := by decide +kernel
theorem dX9_findGap_66 : decode cX9_findGap 66 = .ok (.iload 4, 2) := by decide +kernel
theorem dX9_findGap_68 : decode cX9_findGap 68 = .ok (.iaload, 1) := by decide +kernel
theorem dX9_findGap_69 : decode cX9_findGap 69 = .ok (.iaload, 1) := by decide +kernel
theorem dX9_findGap_70 : decode cX9_findGap 70 = .ok (.aload_n 0, 1) := by decide +kernel
theorem dX9_findGap_71 : decode cX9_findGap 71 = .ok (.getfield 56, 3) := by decide +kernel
theorem dX9_findGap_74 : decode cX9_findGap 74 = .ok (.iload 4, 2) := by decide +kernel
theorem dX9_findGap_76 : decode cX9_findGap 76 = .ok (.iaload, 1) := by decide +kernel
theorem dX9_findGap_77 : decode cX9_findGap 77 = .ok (.if_icmp .ne 7, 3) := by decide +kernel
theorem dX9_findGap_80 : decode cX9_findGap 80 = .ok (.iconst 1, 1) := by decide +kernel
theorem dX9_findGap_81 : decode cX9_findGap 81 = .ok (.goto 4, 3) := by decide +kernel
theorem dX9_findGap_84 : decode cX9_findGap 84 = .ok (.iconst 0, 1) := by decide +kernel
theorem dX9_findGap_85 : decode cX9_findGap 85 = .ok (.istore_n 3, 1) := by decide +kernel
theorem dX9_findGap_86 : decode cX9_findGap 86 = .ok (.iinc 4 1, 3) := by decide +kernel
theorem dX9_findGap_89 : decode cX9_findGap 89 = .ok (.goto (-44), 3) := by decide +kernel
theorem dX9_findGap_92 : decode cX9_findGap 92 = .ok (.iload_n 1, 1) := by decide +kernel
theorem dX9_findGap_93 : decode cX9_findGap 93 = .ok (.iload_n 3, 1) := by decide +kernel
theorem dX9_findGap_94 : decode cX9_findGap 94 = .ok (.ifCond .eq 9, 3) := by decide +kernel
theorem dX9_findGap_97 : decode cX9_findGap 97 = .ok (.iconst 1, 1) := by decide +kernel
theorem dX9_findGap_98 : decode cX9_findGap 98 = .ok (.iload_n 2, 1) := by decide +kernel
theorem dX9_findGap_99 : decode cX9_findGap 99 = .ok (.ishl, 1) := by decide +kernel
theorem dX9_findGap_100 : decode cX9_findGap 100 = .ok (.goto 4, 3) := by decide +kernel
theorem dX9_findGap_103 : decode cX9_findGap 103 = .ok (.iconst 0, 1) := by decide +kernel
theorem dX9_findGap_104 : decode cX9_findGap 104 = .ok (.ior, 1) := by decide +kernel
theorem dX9_findGap_105 : decode cX9_findGap 105 = .ok (.istore_n 1, 1) := by decide +kernel
theorem dX9_findGap_106 : decode cX9_findGap 106 = .ok (.iconst 0, 1) := by decide +kernel
theorem dX9_findGap_107 : decode cX9_findGap 107 = .ok (.istore 4, 2) := by decide +kernel
theorem dX9_findGap_109 : decode cX9_findGap 109 = .ok (.iload 4, 2) := by decide +kernel
theorem dX9_findGap_111 : decode cX9_findGap 111 = .ok (.bipush 30, 2) := by decide +kernel
theorem dX9_findGap_113 : decode cX9_findGap 113 = .ok (.if_icmp .ge 28, 3) := by decide +kernel
theorem dX9_findGap_116 : decode cX9_findGap 116 = .ok (.aload_n 0, 1) := by decide +kernel
theorem dX9_findGap_117 : decode cX9_findGap 117 = .ok (.getfield 59, 3) := by decide +kernel
theorem dX9_findGap_120 : decode cX9_findGap 120 = .ok (.bipush 30, 2) := by decide +kernel
theorem dX9_findGap_122 : decode cX9_findGap 122 = .ok (.iload_n 2, 1) := by decide +kernel
theorem dX9_findGap_123 : decode cX9_findGap 123 = .ok (.imul, 1) := by decide +kernel
theorem dX9_findGap_124 : decode cX9_findGap 124 = .ok (.iload 4, 2) := by decide +kernel
theorem dX9_findGap_126 : decode cX9_findGap 126 = .ok (.iadd, 1) := by decide +kernel
theorem dX9_findGap_127 : decode cX9_findGap 127 = .ok (.aload_n 0, 1) := by decide +kernel
theorem dX9_findGap_128 : decode cX9_findGap 128 = .ok (.getfield 47, 3) := by decide +kernel
theorem dX9_findGap_131 : decode cX9_findGap 131 = .ok (.iload 4, 2) := by decide +kernel
theorem dX9_findGap_133 : decode cX9_findGap 133 = .ok (.iaload, 1) := by decide +kernel
theorem dX9_findGap_134 : decode cX9_findGap 134 = .ok (.iastore, 1) := by decide +kernel
theorem dX9_findGap_135 : decode cX9_findGap 135 = .ok (.iinc 4 1, 3) := by decide +kernel
theorem dX9_findGap_138 : decode cX9_findGap 138 = .ok (.goto (-29), 3) := by decide +kernel
theorem dX9_findGap_141 : decode cX9_findGap 141 = .ok (.iinc 2 1, 3) := by decide +kernel
theorem dX9_findGap_144 : decode cX9_findGap 144 = .ok (.goto (-140), 3) := by decide +kernel
theorem dX9_findGap_147 : decode cX9_findGap 147 = .ok (.iload_n 1, 1) := by decide +kernel
theorem dX9_findGap_148 : decode cX9_findGap 148 = .ok (.ireturn, 1) := by decide +kernel
theorem dX9_gap_0 : decode cX9_gap 0 = .ok (.aload_n 0, 1) := by decide +kernel
theorem dX9_gap_1 : decode cX9_gap 1 = .ok (.invokevirtual 266, 3) := by decide +kernel
theorem dX9_gap_4 : decode cX9_gap 4 = .ok (.ireturn, 1) := by decide +kernel
theorem dX9_greatestPart_0 : decode cX9_greatestPart 0 = .ok (.iconst 0, 1) := by decide +kernel
theorem dX9_greatestPart_1 : decode cX9_greatestPart 1 = .ok (.istore_n 3, 1) := by decide +kernel
theorem dX9_greatestPart_2 : decode cX9_greatestPart 2 = .ok (.iconst 0, 1) := by decide +kernel
theorem dX9_greatestPart_3 : decode cX9_greatestPart 3 = .ok (.istore 4, 2) := by decide +kernel
theorem dX9_greatestPart_5 : decode cX9_greatestPart 5 = .ok (.iload 4, 2) := by decide +kernel
theorem dX9_greatestPart_7 : decode cX9_greatestPart 7 = .ok (.aload_n 0, 1) := by decide +kernel
theorem dX9_greatestPart_8 : decode cX9_greatestPart 8 = .ok (.getfield 169, 3) := by decide +kernel
theorem dX9_greatestPart_11 : decode cX9_greatestPart 11 = .ok (.if_icmp .gt 98, 3) := by decide +kernel
theorem dX9_greatestPart_14 : decode cX9_greatestPart 14 = .ok (.iconst 0, 1) := by decide +kernel
theorem dX9_greatestPart_15 : decode cX9_greatestPart 15 = .ok (.istore 5, 2) := by decide +kernel
theorem dX9_greatestPart_17 : decode cX9_greatestPart 17 = .ok (.iconst 0, 1) := by decide +kernel
theorem dX9_greatestPart_18 : decode cX9_greatestPart 18 = .ok (.istore 6, 2) := by decide +kernel
theorem dX9_greatestPart_20 : decode cX9_greatestPart 20 = .ok (.iload 6, 2) := by decide +kernel
theorem dX9_greatestPart_22 : decode cX9_greatestPart 22 = .ok (.aload_n 0, 1) := by decide +kernel
theorem dX9_greatestPart_23 : decode cX9_greatestPart 23 = .ok (.getfield 169, 3) := by decide +kernel
theorem dX9_greatestPart_26 : decode cX9_greatestPart 26 = .ok (.if_icmp .gt 64, 3) := by decide +kernel
theorem dX9_greatestPart_29 : decode cX9_greatestPart 29 = .ok (.iload 5, 2) := by decide +kernel
theorem dX9_greatestPart_31 : decode cX9_greatestPart 31 = .ok (.iload_n 1, 1) := by decide +kernel
theorem dX9_greatestPart_32 : decode cX9_greatestPart 32 = .ok (.iload 4, 2) := by decide +kernel
theorem dX9_greatestPart_34 : decode cX9_greatestPart 34 = .ok (.invokestatic 140, 3) := by decide +kernel
theorem dX9_greatestPart_37 : decode cX9_greatestPart 37 = .ok (.ifCond .eq 43, 3) := by decide +kernel
theorem dX9_greatestPart_40 : decode cX9_greatestPart 40 = .ok (.iload_n 1, 1) := by decide +kernel
theorem dX9_greatestPart_41 : decode cX9_greatestPart 41 = .ok (.iload 6, 2) := by decide +kernel
theorem dX9_greatestPart_43 : decode cX9_greatestPart 43 = .ok (.invokestatic 140, 3) := by decide +kernel
theorem dX9_greatestPart_46 : decode cX9_greatestPart 46 = .ok (.ifCond .eq 34, 3) := by decide +kernel
theorem dX9_greatestPart_49 : decode cX9_greatestPart 49 = .ok (.aload_n 0, 1) := by decide +kernel
theorem dX9_greatestPart_50 : decode cX9_greatestPart 50 = .ok (.getfield 59, 3) := by decide +kernel
theorem dX9_greatestPart_53 : decode cX9_greatestPart 53 = .ok (.bipush 30, 2) := by decide +kernel
theorem dX9_greatestPart_55 : decode cX9_greatestPart 55 = .ok (.iload 4, 2) := by decide +kernel
theorem dX9_greatestPart_57 : decode cX9_greatestPart 57 = .ok (.imul, 1) := by decide +kernel
theorem dX9_greatestPart_58 : decode cX9_greatestPart 58 = .ok (.iload_n 2, 1) := by decide +kernel
theorem dX9_greatestPart_59 : decode cX9_greatestPart 59 = .ok (.iadd, 1) := by decide +kernel
theorem dX9_greatestPart_60 : decode cX9_greatestPart 60 = .ok (.iaload, 1) := by decide +kernel
theorem dX9_greatestPart_61 : decode cX9_greatestPart 61 = .ok (.aload_n 0, 1) := by decide +kernel
theorem dX9_greatestPart_62 : decode cX9_greatestPart 62 = .ok (.getfield 59, 3) := by decide +kernel
theorem dX9_greatestPart_65 : decode cX9_greatestPart 65 = .ok (.bipush 30, 2) := by decide +kernel
theorem dX9_greatestPart_67 : decode cX9_greatestPart 67 = .ok (.iload 6, 2) := by decide +kernel
theorem dX9_greatestPart_69 : decode cX9_greatestPart 69 = .ok (.imul, 1) := by decide +kernel
theorem dX9_greatestPart_70 : decode cX9_greatestPart 70 = .ok (.iload_n 2, 1) := by decide +kernel
theorem dX9_greatestPart_71 : decode cX9_greatestPart 71 = .ok (.iadd, 1) := by decide +kernel
theorem dX9_greatestPart_72 : decode cX9_greatestPart 72 = .ok (.iaload, 1) := by decide +kernel
theorem dX9_greatestPart_73 : decode cX9_greatestPart 73 = .ok (.if_icmp .ne 7, 3) := by decide +kernel
theorem dX9_greatestPart_76 : decode cX9_greatestPart 76 = .ok (.iconst 1, 1) := by decide +kernel
theorem dX9_greatestPart_77 : decode cX9_greatestPart 77 = .ok (.goto 4, 3) := by decide +kernel
theorem dX9_greatestPart_80 : decode cX9_greatestPart 80 = .ok (.iconst 0, 1) := by decide +kernel
theorem dX9_greatestPart_81 : decode cX9_greatestPart 81 = .ok (.iadd, 1) := by decide +kernel
theorem dX9_greatestPart_82 : decode cX9_greatestPart 82 = .ok (.istore 5, 2) := by decide +kernel
theorem dX9_greatestPart_84 : decode cX9_greatestPart 84 = .ok (.iinc 6 1, 3) := by decide +kernel
theorem dX9_greatestPart_87 : decode cX9_greatestPart 87 = .ok (.goto (-67), 3) := by decide +kernel
theorem dX9_greatestPart_90 : decode cX9_greatestPart 90 = .ok (.iload 5, 2) := by decide +kernel
theorem dX9_greatestPart_92 : decode cX9_greatestPart 92 = .ok (.iload_n 3, 1) := by decide +kernel
theorem dX9_greatestPart_93 : decode cX9_greatestPart 93 = .ok (.if_icmp .le 8, 3) := by decide +kernel
theorem dX9_greatestPart_96 : decode cX9_greatestPart 96 = .ok (.iload 5, 2) := by decide +kernel
theorem dX9_greatestPart_98 : decode cX9_greatestPart 98 = .ok (.goto 4, 3) := by decide +kernel
theorem dX9_greatestPart_101 : decode cX9_greatestPart 101 = .ok (.iload_n 3, 1) := by decide +kernel
theorem dX9_greatestPart_102 : decode cX9_greatestPart 102 = .ok (.istore_n 3, 1) := by decide +kernel
theorem dX9_greatestPart_103 : decode cX9_greatestPart 103 = .ok (.iinc 4 1, 3) := by decide +kernel
theorem dX9_greatestPart_106 : decode cX9_greatestPart 106 = .ok (.goto (-101), 3) := by decide +kernel
theorem dX9_greatestPart_109 : decode cX9_greatestPart 109 = .ok (.iload_n 3, 1) := by decide +kernel
theorem dX9_greatestPart_110 : decode cX9_greatestPart 110 = .ok (.ireturn, 1) := by decide +kernel
theorem dX9_look_0 : decode cX9_look 0 = .ok (.aload_n 0, 1) := by decide +kernel
theorem dX9_look_1 : decode cX9_look 1 = .ok (.invokevirtual 266, 3) := by decide +kernel
theorem dX9_look_4 : decode cX9_look 4 = .ok (.istore_n 1, 1) := by decide +kernel
theorem dX9_look_5 : decode cX9_look 5 = .ok (.iconst (-1), 1) := by decide +kernel
theorem dX9_look_6 : decode cX9_look 6 = .ok (.istore_n 2, 1) := by decide +kernel
theorem dX9_look_7 : decode cX9_look 7 = .ok (.iload_n 1, 1) := by decide +kernel
theorem dX9_look_8 : decode cX9_look 8 = .ok (.invokestatic 256, 3) := by decide +kernel
theorem dX9_look_11 : decode cX9_look 11 = .ok (.istore_n 3, 1) := by decide +kernel
theorem dX9_look_12 : decode cX9_look 12 = .ok (.iconst 0, 1) := by decide +kernel
theorem dX9_look_13 : decode cX9_look 13 = .ok (.istore 4, 2) := by decide +kernel
theorem dX9_look_15 : decode cX9_look 15 = .ok (.iload 4, 2) := by decide +kernel
theorem dX9_look_17 : decode cX9_look 17 = .ok (.aload_n 0, 1) := by decide +kernel
theorem dX9_look_18 : decode cX9_look 18 = .ok (.getfield 78, 3) := by decide +kernel
theorem dX9_look_21 : decode cX9_look 21 = .ok (.if_icmp .ge 73, 3) := by decide +kernel
theorem dX9_look_24 : decode cX9_look 24 = .ok (.iconst 0, 1) := by decide +kernel
theorem dX9_look_25 : decode cX9_look 25 = .ok (.istore 5, 2) := by decide +kernel
theorem dX9_look_27 : decode cX9_look 27 = .ok (.iload 5, 2) := by decide +kernel
theorem dX9_look_29 : decode cX9_look 29 = .ok (.aload_n 0, 1) := by decide +kernel
theorem dX9_look_30 : decode cX9_look 30 = .ok (.getfield 75, 3) := by decide +kernel
theorem dX9_look_33 : decode cX9_look 33 = .ok (.if_icmp .ge 55, 3) := by decide +kernel
theorem dX9_look_36 : decode cX9_look 36 = .ok (.aload_n 0, 1) := by decide +kernel
theorem dX9_look_37 : decode cX9_look 37 = .ok (.iload_n 1, 1) := by decide +kernel
theorem dX9_look_38 : decode cX9_look 38 = .ok (.iconst 5, 1) := by decide +kernel
theorem dX9_look_39 : decode cX9_look 39 = .ok (.iload 4, 2) := by decide +kernel
theorem dX9_look_41 : decode cX9_look 41 = .ok (.imul, 1) := by decide +kernel
theorem dX9_look_42 : decode cX9_look 42 = .ok (.iload 5, 2) := by decide +kernel
theorem dX9_look_44 : decode cX9_look 44 = .ok (.iadd, 1) := by decide +kernel
theorem dX9_look_45 : decode cX9_look 45 = .ok (.invokevirtual 269, 3) := by decide +kernel
theorem dX9_look_48 : decode cX9_look 48 = .ok (.istore 6, 2) := by decide +kernel
theorem dX9_look_50 : decode cX9_look 50 = .ok (.iload 6, 2) := by decide +kernel
theorem dX9_look_52 : decode cX9_look 52 = .ok (.iload_n 3, 1) := by decide +kernel
theorem dX9_look_53 : decode cX9_look 53 = .ok (.if_icmp .ge 14, 3) := by decide +kernel
theorem dX9_look_56 : decode cX9_look 56 = .ok (.bipush 10, 2) := by decide +kernel
theorem dX9_look_58 : decode cX9_look 58 = .ok (.iload 4, 2) := by decide +kernel
theorem dX9_look_60 : decode cX9_look 60 = .ok (.imul, 1) := by decide +kernel
theorem dX9_look_61 : decode cX9_look 61 = .ok (.iload 5, 2) := by decide +kernel
theorem dX9_look_63 : decode cX9_look 63 = .ok (.iadd, 1) := by decide +kernel
theorem dX9_look_64 : decode cX9_look 64 = .ok (.goto 4, 3) := by decide +kernel
theorem dX9_look_67 : decode cX9_look 67 = .ok (.iload_n 2, 1) := by decide +kernel
theorem dX9_look_68 : decode cX9_look 68 = .ok (.istore_n 2, 1) := by decide +kernel
theorem dX9_look_69 : decode cX9_look 69 = .ok (.iload 6, 2) := by decide +kernel
theorem dX9_look_71 : decode cX9_look 71 = .ok (.iload_n 3, 1) := by decide +kernel
theorem dX9_look_72 : decode cX9_look 72 = .ok (.if_icmp .ge 8, 3) := by decide +kernel
theorem dX9_look_75 : decode cX9_look 75 = .ok (.iload 6, 2) := by decide +kernel
theorem dX9_look_77 : decode cX9_look 77 = .ok (.goto 4, 3) := by decide +kernel
theorem dX9_look_80 : decode cX9_look 80 = .ok (.iload_n 3, 1) := by decide +kernel
theorem dX9_look_81 : decode cX9_look 81 = .ok (.istore_n 3, 1) := by decide +kernel
theorem dX9_look_82 : decode cX9_look 82 = .ok (.iinc 5 1, 3) := by decide +kernel
theorem dX9_look_85 : decode cX9_look 85 = .ok (.goto (-58), 3) := by decide +kernel
theorem dX9_look_88 : decode cX9_look 88 = .ok (.iinc 4 1, 3) := by decide +kernel
theorem dX9_look_91 : decode cX9_look 91 = .ok (.goto (-76), 3) := by decide +kernel
theorem dX9_look_94 : decode cX9_look 94 = .ok (.iload_n 2, 1) := by decide +kernel
theorem dX9_look_95 : decode cX9_look 95 = .ok (.ireturn, 1) := by decide +kernel
theorem dX9_write_0 : decode cX9_write 0 = .ok (.aload_n 0, 1) := by decide +kernel
theorem dX9_write_1 : decode cX9_write 1 = .ok (.iload_n 1, 1) := by decide +kernel
theorem dX9_write_2 : decode cX9_write 2 = .ok (.invokevirtual 187, 3) := by decide +kernel
theorem dX9_write_5 : decode cX9_write 5 = .ok (.ifCond .eq 11, 3) := by decide +kernel
theorem dX9_write_8 : decode cX9_write 8 = .ok (.aload_n 0, 1) := by decide +kernel
theorem dX9_write_9 : decode cX9_write 9 = .ok (.iload_n 2, 1) := by decide +kernel
theorem dX9_write_10 : decode cX9_write 10 = .ok (.invokevirtual 191, 3) := by decide +kernel
theorem dX9_write_13 : decode cX9_write 13 = .ok (.ifCond .ne 6, 3) := by decide +kernel
theorem dX9_write_16 : decode cX9_write 16 = .ok (.ldc 194, 2) := by decide +kernel
theorem dX9_write_18 : decode cX9_write 18 = .ok (.ireturn, 1) := by decide +kernel
theorem dX9_write_19 : decode cX9_write 19 = .ok (.iload_n 3, 1) := by decide +kernel
theorem dX9_write_20 : decode cX9_write 20 = .ok (.invokestatic 249, 3) := by decide +kernel
theorem dX9_write_23 : decode cX9_write 23 = .ok (.ifCond .ne 6, 3) := by decide +kernel
theorem dX9_write_26 : decode cX9_write 26 = .ok (.ldc 89, 2) := by decide +kernel
theorem dX9_write_28 : decode cX9_write 28 = .ok (.ireturn, 1) := by decide +kernel
theorem dX9_write_29 : decode cX9_write 29 = .ok (.aload_n 0, 1) := by decide +kernel
theorem dX9_write_30 : decode cX9_write 30 = .ok (.getfield 181, 3) := by decide +kernel
theorem dX9_write_33 : decode cX9_write 33 = .ok (.bipush 15, 2) := by decide +kernel
theorem dX9_write_35 : decode cX9_write 35 = .ok (.if_icmp .ne 6, 3) := by decide +kernel
theorem dX9_write_38 : decode cX9_write 38 = .ok (.ldc 93, 2) := by decide +kernel
theorem dX9_write_40 : decode cX9_write 40 = .ok (.ireturn, 1) := by decide +kernel
theorem dX9_write_41 : decode cX9_write 41 = .ok (.aload_n 0, 1) := by decide +kernel
theorem dX9_write_42 : decode cX9_write 42 = .ok (.getfield 62, 3) := by decide +kernel
theorem dX9_write_45 : decode cX9_write 45 = .ok (.aload_n 0, 1) := by decide +kernel
theorem dX9_write_46 : decode cX9_write 46 = .ok (.getfield 181, 3) := by decide +kernel
theorem dX9_write_49 : decode cX9_write 49 = .ok (.iconst 5, 1) := by decide +kernel
theorem dX9_write_50 : decode cX9_write 50 = .ok (.iload_n 1, 1) := by decide +kernel
theorem dX9_write_51 : decode cX9_write 51 = .ok (.imul, 1) := by decide +kernel
theorem dX9_write_52 : decode cX9_write 52 = .ok (.iload_n 2, 1) := by decide +kernel
theorem dX9_write_53 : decode cX9_write 53 = .ok (.iadd, 1) := by decide +kernel
theorem dX9_write_54 : decode cX9_write 54 = .ok (.iastore, 1) := by decide +kernel
theorem dX9_write_55 : decode cX9_write 55 = .ok (.aload_n 0, 1) := by decide +kernel
theorem dX9_write_56 : decode cX9_write 56 = .ok (.getfield 65, 3) := by decide +kernel
theorem dX9_write_59 : decode cX9_write 59 = .ok (.aload_n 0, 1) := by decide +kernel
theorem dX9_write_60 : decode cX9_write 60 = .ok (.getfield 181, 3) := by decide +kernel
theorem dX9_write_63 : decode cX9_write 63 = .ok (.iload_n 3, 1) := by decide +kernel
theorem dX9_write_64 : decode cX9_write 64 = .ok (.iastore, 1) := by decide +kernel
theorem dX9_write_65 : decode cX9_write 65 = .ok (.aload_n 0, 1) := by decide +kernel
theorem dX9_write_66 : decode cX9_write 66 = .ok (.dup, 1) := by decide +kernel
theorem dX9_write_67 : decode cX9_write 67 = .ok (.getfield 181, 3) := by decide +kernel
theorem dX9_write_70 : decode cX9_write 70 = .ok (.iconst 1, 1) := by decide +kernel
theorem dX9_write_71 : decode cX9_write 71 = .ok (.iadd, 1) := by decide +kernel
theorem dX9_write_72 : decode cX9_write 72 = .ok (.putfield 181, 3) := by decide +kernel
theorem dX9_write_75 : decode cX9_write 75 = .ok (.aload_n 0, 1) := by decide +kernel
theorem dX9_write_76 : decode cX9_write 76 = .ok (.getfield 181, 3) := by decide +kernel
theorem dX9_write_79 : decode cX9_write 79 = .ok (.ireturn, 1) := by decide +kernel
theorem dX9_tear_0 : decode cX9_tear 0 = .ok (.aload_n 0, 1) := by decide +kernel
theorem dX9_tear_1 : decode cX9_tear 1 = .ok (.getfield 178, 3) := by decide +kernel
theorem dX9_tear_4 : decode cX9_tear 4 = .ok (.aload_n 0, 1) := by decide +kernel
theorem dX9_tear_5 : decode cX9_tear 5 = .ok (.getfield 181, 3) := by decide +kernel
theorem dX9_tear_8 : decode cX9_tear 8 = .ok (.iadd, 1) := by decide +kernel
theorem dX9_tear_9 : decode cX9_tear 9 = .ok (.istore_n 1, 1) := by decide +kernel
theorem dX9_tear_10 : decode cX9_tear 10 = .ok (.aload_n 0, 1) := by decide +kernel
theorem dX9_tear_11 : decode cX9_tear 11 = .ok (.iconst 0, 1) := by decide +kernel
theorem dX9_tear_12 : decode cX9_tear 12 = .ok (.putfield 178, 3) := by decide +kernel
theorem dX9_tear_15 : decode cX9_tear 15 = .ok (.aload_n 0, 1) := by decide +kernel
theorem dX9_tear_16 : decode cX9_tear 16 = .ok (.iconst 0, 1) := by decide +kernel
theorem dX9_tear_17 : decode cX9_tear 17 = .ok (.putfield 181, 3) := by decide +kernel
theorem dX9_tear_20 : decode cX9_tear 20 = .ok (.iload_n 1, 1) := by decide +kernel
theorem dX9_tear_21 : decode cX9_tear 21 = .ok (.ireturn, 1) := by decide +kernel
theorem dX9_judge_0 : decode cX9_judge 0 = .ok (.iconst 0, 1) := by decide +kernel
theorem dX9_judge_1 : decode cX9_judge 1 = .ok (.istore_n 1, 1) := by decide +kernel
theorem dX9_judge_2 : decode cX9_judge 2 = .ok (.iload_n 1, 1) := by decide +kernel
theorem dX9_judge_3 : decode cX9_judge 3 = .ok (.aload_n 0, 1) := by decide +kernel
theorem dX9_judge_4 : decode cX9_judge 4 = .ok (.getfield 181, 3) := by decide +kernel
theorem dX9_judge_7 : decode cX9_judge 7 = .ok (.if_icmp .ge 31, 3) := by decide +kernel
theorem dX9_judge_10 : decode cX9_judge 10 = .ok (.aload_n 0, 1) := by decide +kernel
theorem dX9_judge_11 : decode cX9_judge 11 = .ok (.getfield 19, 3) := by decide +kernel
theorem dX9_judge_14 : decode cX9_judge 14 = .ok (.aload_n 0, 1) := by decide +kernel
theorem dX9_judge_15 : decode cX9_judge 15 = .ok (.getfield 62, 3) := by decide +kernel
theorem dX9_judge_18 : decode cX9_judge 18 = .ok (.iload_n 1, 1) := by decide +kernel
theorem dX9_judge_19 : decode cX9_judge 19 = .ok (.iaload, 1) := by decide +kernel
theorem dX9_judge_20 : decode cX9_judge 20 = .ok (.iaload, 1) := by decide +kernel
theorem dX9_judge_21 : decode cX9_judge 21 = .ok (.aload_n 0, 1) := by decide +kernel
theorem dX9_judge_22 : decode cX9_judge 22 = .ok (.getfield 65, 3) := by decide +kernel
theorem dX9_judge_25 : decode cX9_judge 25 = .ok (.iload_n 1, 1) := by decide +kernel
theorem dX9_judge_26 : decode cX9_judge 26 = .ok (.iaload, 1) := by decide +kernel
theorem dX9_judge_27 : decode cX9_judge 27 = .ok (.if_icmp .eq 5, 3) := by decide +kernel
theorem dX9_judge_30 : decode cX9_judge 30 = .ok (.iload_n 1, 1) := by decide +kernel
theorem dX9_judge_31 : decode cX9_judge 31 = .ok (.ireturn, 1) := by decide +kernel
theorem dX9_judge_32 : decode cX9_judge 32 = .ok (.iinc 1 1, 3) := by decide +kernel
theorem dX9_judge_35 : decode cX9_judge 35 = .ok (.goto (-33), 3) := by decide +kernel
theorem dX9_judge_38 : decode cX9_judge 38 = .ok (.iconst (-1), 1) := by decide +kernel
theorem dX9_judge_39 : decode cX9_judge 39 = .ok (.ireturn, 1) := by decide +kernel
theorem dX9_seed_0 : decode cX9_seed 0 = .ok (.iload_n 1, 1) := by decide +kernel
theorem dX9_seed_1 : decode cX9_seed 1 = .ok (.ifCond .ge 6, 3) := by decide +kernel
theorem dX9_seed_4 : decode cX9_seed 4 = .ok (.ldc 89, 2) := by decide +kernel
theorem dX9_seed_6 : decode cX9_seed 6 = .ok (.ireturn, 1) := by decide +kernel
theorem dX9_seed_7 : decode cX9_seed 7 = .ok (.aload_n 0, 1) := by decide +kernel
theorem dX9_seed_8 : decode cX9_seed 8 = .ok (.getfield 210, 3) := by decide +kernel
theorem dX9_seed_11 : decode cX9_seed 11 = .ok (.istore_n 2, 1) := by decide +kernel
theorem dX9_seed_12 : decode cX9_seed 12 = .ok (.aload_n 0, 1) := by decide +kernel
theorem dX9_seed_13 : decode cX9_seed 13 = .ok (.iload_n 1, 1) := by decide +kernel
theorem dX9_seed_14 : decode cX9_seed 14 = .ok (.putfield 210, 3) := by decide +kernel
theorem dX9_seed_17 : decode cX9_seed 17 = .ok (.iload_n 2, 1) := by decide +kernel
theorem dX9_seed_18 : decode cX9_seed 18 = .ok (.ireturn, 1) := by decide +kernel
theorem dX9_keep_0 : decode cX9_keep 0 = .ok (.iload_n 1, 1) := by decide +kernel
theorem dX9_keep_1 : decode cX9_keep 1 = .ok (.i2l, 1) := by decide +kernel
theorem dX9_keep_2 : decode cX9_keep 2 = .ok (.lconst 0, 1) := by decide +kernel
theorem dX9_keep_3 : decode cX9_keep 3 = .ok (.lconst 1, 1) := by decide +kernel
theorem dX9_keep_4 : decode cX9_keep 4 = .ok (.invokestatic 81, 3) := by decide +kernel
theorem dX9_keep_7 : decode cX9_keep 7 = .ok (.ifCond .ne 6, 3) := by decide +kernel
theorem dX9_keep_10 : decode cX9_keep 10 = .ok (.ldc 194, 2) := by decide +kernel
theorem dX9_keep_12 : decode cX9_keep 12 = .ok (.ireturn, 1) := by decide +kernel
theorem dX9_keep_13 : decode cX9_keep 13 = .ok (.iconst 0, 1) := by decide +kernel
theorem dX9_keep_14 : decode cX9_keep 14 = .ok (.istore_n 2, 1) := by decide +kernel
theorem dX9_keep_15 : decode cX9_keep 15 = .ok (.iload_n 2, 1) := by decide +kernel
theorem dX9_keep_16 : decode cX9_keep 16 = .ok (.bipush 33, 2) := by decide +kernel
theorem dX9_keep_18 : decode cX9_keep 18 = .ok (.if_icmp .ge 26, 3) := by decide +kernel
theorem dX9_keep_21 : decode cX9_keep 21 = .ok (.aload_n 0, 1) := by decide +kernel
theorem dX9_keep_22 : decode cX9_keep 22 = .ok (.getfield 68, 3) := by decide +kernel
theorem dX9_keep_25 : decode cX9_keep 25 = .ok (.bipush 34, 2) := by decide +kernel
theorem dX9_keep_27 : decode cX9_keep 27 = .ok (.iload_n 1, 1) := by decide +kernel
theorem dX9_keep_28 : decode cX9_keep 28 = .ok (.imul, 1) := by decide +kernel
theorem dX9_keep_29 : decode cX9_keep 29 = .ok (.iload_n 2, 1) := by decide +kernel
theorem dX9_keep_30 : decode cX9_keep 30 = .ok (.iadd, 1) := by decide +kernel
theorem dX9_keep_31 : decode cX9_keep 31 = .ok (.aload_n 0, 1) := by decide +kernel
theorem dX9_keep_32 : decode cX9_keep 32 = .ok (.getfield 19, 3) := by decide +kernel
theorem dX9_keep_35 : decode cX9_keep 35 = .ok (.iload_n 2, 1) := by decide +kernel
theorem dX9_keep_36 : decode cX9_keep 36 = .ok (.iaload, 1) := by decide +kernel
theorem dX9_keep_37 : decode cX9_keep 37 = .ok (.iastore, 1) := by decide +kernel
theorem dX9_keep_38 : decode cX9_keep 38 = .ok (.iinc 2 1, 3) := by decide +kernel
theorem dX9_keep_41 : decode cX9_keep 41 = .ok (.goto (-26), 3) := by decide +kernel
theorem dX9_keep_44 : decode cX9_keep 44 = .ok (.aload_n 0, 1) := by decide +kernel
theorem dX9_keep_45 : decode cX9_keep 45 = .ok (.getfield 68, 3) := by decide +kernel
theorem dX9_keep_48 : decode cX9_keep 48 = .ok (.bipush 34, 2) := by decide +kernel
theorem dX9_keep_50 : decode cX9_keep 50 = .ok (.iload_n 1, 1) := by decide +kernel
theorem dX9_keep_51 : decode cX9_keep 51 = .ok (.imul, 1) := by decide +kernel
theorem dX9_keep_52 : decode cX9_keep 52 = .ok (.bipush 33, 2) := by decide +kernel
theorem dX9_keep_54 : decode cX9_keep 54 = .ok (.iadd, 1) := by decide +kernel
theorem dX9_keep_55 : decode cX9_keep 55 = .ok (.aload_n 0, 1) := by decide +kernel
theorem dX9_keep_56 : decode cX9_keep 56 = .ok (.getfield 210, 3) := by decide +kernel
theorem dX9_keep_59 : decode cX9_keep 59 = .ok (.iastore, 1) := by decide +kernel
theorem dX9_keep_60 : decode cX9_keep 60 = .ok (.aload_n 0, 1) := by decide +kernel
theorem dX9_keep_61 : decode cX9_keep 61 = .ok (.getfield 71, 3) := by decide +kernel
theorem dX9_keep_64 : decode cX9_keep 64 = .ok (.iload_n 1, 1) := by decide +kernel
theorem dX9_keep_65 : decode cX9_keep 65 = .ok (.iconst 1, 1) := by decide +kernel
theorem dX9_keep_66 : decode cX9_keep 66 = .ok (.bastore, 1) := by decide +kernel
theorem dX9_keep_67 : decode cX9_keep 67 = .ok (.aload_n 0, 1) := by decide +kernel
theorem dX9_keep_68 : decode cX9_keep 68 = .ok (.iconst 0, 1) := by decide +kernel
theorem dX9_keep_69 : decode cX9_keep 69 = .ok (.putfield 184, 3) := by decide +kernel
theorem dX9_keep_72 : decode cX9_keep 72 = .ok (.iconst 1, 1) := by decide +kernel
theorem dX9_keep_73 : decode cX9_keep 73 = .ok (.ireturn, 1) := by decide +kernel
theorem dX9_goBack_0 : decode cX9_goBack 0 = .ok (.iload_n 1, 1) := by decide +kernel
theorem dX9_goBack_1 : decode cX9_goBack 1 = .ok (.i2l, 1) := by decide +kernel
theorem dX9_goBack_2 : decode cX9_goBack 2 = .ok (.lconst 0, 1) := by decide +kernel
theorem dX9_goBack_3 : decode cX9_goBack 3 = .ok (.lconst 1, 1) := by decide +kernel
theorem dX9_goBack_4 : decode cX9_goBack 4 = .ok (.invokestatic 81, 3) := by decide +kernel
theorem dX9_goBack_7 : decode cX9_goBack 7 = .ok (.ifCond .ne 6, 3) := by decide +kernel
theorem dX9_goBack_10 : decode cX9_goBack 10 = .ok (.ldc 194, 2) := by decide +kernel
theorem dX9_goBack_12 : decode cX9_goBack 12 = .ok (.ireturn, 1) := by decide +kernel
theorem dX9_goBack_13 : decode cX9_goBack 13 = .ok (.aload_n 0, 1) := by decide +kernel
theorem dX9_goBack_14 : decode cX9_goBack 14 = .ok (.getfield 71, 3) := by decide +kernel
theorem dX9_goBack_17 : decode cX9_goBack 17 = .ok (.iload_n 1, 1) := by decide +kernel
theorem dX9_goBack_18 : decode cX9_goBack 18 = .ok (.baload, 1) := by decide +kernel
theorem dX9_goBack_19 : decode cX9_goBack 19 = .ok (.ifCond .ne 6, 3) := by decide +kernel
theorem dX9_goBack_22 : decode cX9_goBack 22 = .ok (.ldc 205, 2) := by decide +kernel
theorem dX9_goBack_24 : decode cX9_goBack 24 = .ok (.ireturn, 1) := by decide +kernel
theorem dX9_goBack_25 : decode cX9_goBack 25 = .ok (.iconst 0, 1) := by decide +kernel
theorem dX9_goBack_26 : decode cX9_goBack 26 = .ok (.istore_n 2, 1) := by decide +kernel
theorem dX9_goBack_27 : decode cX9_goBack 27 = .ok (.iload_n 2, 1) := by decide +kernel
theorem dX9_goBack_28 : decode cX9_goBack 28 = .ok (.bipush 33, 2) := by decide +kernel
theorem dX9_goBack_30 : decode cX9_goBack 30 = .ok (.if_icmp .ge 26, 3) := by decide +kernel
theorem dX9_goBack_33 : decode cX9_goBack 33 = .ok (.aload_n 0, 1) := by decide +kernel
theorem dX9_goBack_34 : decode cX9_goBack 34 = .ok (.getfield 19, 3) := by decide +kernel
theorem dX9_goBack_37 : decode cX9_goBack 37 = .ok (.iload_n 2, 1) := by decide +kernel
theorem dX9_goBack_38 : decode cX9_goBack 38 = .ok (.aload_n 0, 1) := by decide +kernel
theorem dX9_goBack_39 : decode cX9_goBack 39 = .ok (.getfield 68, 3) := by decide +kernel
theorem dX9_goBack_42 : decode cX9_goBack 42 = .ok (.bipush 34, 2) := by decide +kernel
theorem dX9_goBack_44 : decode cX9_goBack 44 = .ok (.iload_n 1, 1) := by decide +kernel
theorem dX9_goBack_45 : decode cX9_goBack 45 = .ok (.imul, 1) := by decide +kernel
theorem dX9_goBack_46 : decode cX9_goBack 46 = .ok (.iload_n 2, 1) := by decide +kernel
theorem dX9_goBack_47 : decode cX9_goBack 47 = .ok (.iadd, 1) := by decide +kernel
theorem dX9_goBack_48 : decode cX9_goBack 48 = .ok (.iaload, 1) := by decide +kernel
theorem dX9_goBack_49 : decode cX9_goBack 49 = .ok (.iastore, 1) := by decide +kernel
theorem dX9_goBack_50 : decode cX9_goBack 50 = .ok (.iinc 2 1, 3) := by decide +kernel
theorem dX9_goBack_53 : decode cX9_goBack 53 = .ok (.goto (-26), 3) := by decide +kernel
theorem dX9_goBack_56 : decode cX9_goBack 56 = .ok (.aload_n 0, 1) := by decide +kernel
theorem dX9_goBack_57 : decode cX9_goBack 57 = .ok (.aload_n 0, 1) := by decide +kernel
theorem dX9_goBack_58 : decode cX9_goBack 58 = .ok (.getfield 68, 3) := by decide +kernel
theorem dX9_goBack_61 : decode cX9_goBack 61 = .ok (.bipush 34, 2) := by decide +kernel
theorem dX9_goBack_63 : decode cX9_goBack 63 = .ok (.iload_n 1, 1) := by decide +kernel
theorem dX9_goBack_64 : decode cX9_goBack 64 = .ok (.imul, 1) := by decide +kernel
theorem dX9_goBack_65 : decode cX9_goBack 65 = .ok (.bipush 33, 2) := by decide +kernel
theorem dX9_goBack_67 : decode cX9_goBack 67 = .ok (.iadd, 1) := by decide +kernel
theorem dX9_goBack_68 : decode cX9_goBack 68 = .ok (.iaload, 1) := by decide +kernel
theorem dX9_goBack_69 : decode cX9_goBack 69 = .ok (.putfield 210, 3) := by decide +kernel
theorem dX9_goBack_72 : decode cX9_goBack 72 = .ok (.aload_n 0, 1) := by decide +kernel
theorem dX9_goBack_73 : decode cX9_goBack 73 = .ok (.iconst 0, 1) := by decide +kernel
theorem dX9_goBack_74 : decode cX9_goBack 74 = .ok (.putfield 184, 3) := by decide +kernel
theorem dX9_goBack_77 : decode cX9_goBack 77 = .ok (.iconst 1, 1) := by decide +kernel
theorem dX9_goBack_78 : decode cX9_goBack 78 = .ok (.ireturn, 1) := by decide +kernel
