theorem dX8_init_0 : decode cX8_init 0 = .ok (.aload_n 0, 1) := by decide +kernel
theorem dX8_init_1 : decode cX8_init 1 = .ok (.invokespecial 3, 3) := by decide +kernel
theorem dX8_init_4 : decode cX8_init 4 = .ok (.aload_n 0, 1) := by decide +kernel
theorem dX8_init_5 : decode cX8_init 5 = .ok (.new 9, 3) := by decide +kernel
theorem dX8_init_8 : decode cX8_init 8 = .ok (.dup, 1) := by decide +kernel
theorem dX8_init_9 : decode cX8_init 9 = .ok (.invokespecial 11, 3) := by decide +kernel
theorem dX8_init_12 : decode cX8_init 12 = .ok (.putfield 12, 3) := by decide +kernel
theorem dX8_init_15 : decode cX8_init 15 = .ok (.aload_n 0, 1) := by decide +kernel
theorem dX8_init_16 : decode cX8_init 16 = .ok (.new 16, 3) := by decide +kernel
theorem dX8_init_19 : decode cX8_init 19 = .ok (.dup, 1) := by decide +kernel
theorem dX8_init_20 : decode cX8_init 20 = .ok (.invokespecial 18, 3) := by decide +kernel
theorem dX8_init_23 : decode cX8_init 23 = .ok (.putfield 19, 3) := by decide +kernel
theorem dX8_init_26 : decode cX8_init 26 = .ok (.aload_n 0, 1) := by decide +kernel
theorem dX8_init_27 : decode cX8_init 27 = .ok (.new 23, 3) := by decide +kernel
theorem dX8_init_30 : decode cX8_init 30 = .ok (.dup, 1) := by decide +kernel
theorem dX8_init_31 : decode cX8_init 31 = .ok (.invokespecial 25, 3) := by decide +kernel
theorem dX8_init_34 : decode cX8_init 34 = .ok (.putfield 26, 3) := by decide +kernel
theorem dX8_init_37 : decode cX8_init 37 = .ok (.aload_n 0, 1) := by decide +kernel
theorem dX8_init_38 : decode cX8_init 38 = .ok (.new 30, 3) := by decide +kernel
theorem dX8_init_41 : decode cX8_init 41 = .ok (.dup, 1) := by decide +kernel
theorem dX8_init_42 : decode cX8_init 42 = .ok (.invokespecial 32, 3) := by decide +kernel
theorem dX8_init_45 : decode cX8_init 45 = .ok (.putfield 33, 3) := by decide +kernel
theorem dX8_init_48 : decode cX8_init 48 = .ok (.aload_n 0, 1) := by decide +kernel
theorem dX8_init_49 : decode cX8_init 49 = .ok (.new 37, 3) := by decide +kernel
theorem dX8_init_52 : decode cX8_init 52 = .ok (.dup, 1) := by decide +kernel
theorem dX8_init_53 : decode cX8_init 53 = .ok (.invokespecial 39, 3) := by decide +kernel
theorem dX8_init_56 : decode cX8_init 56 = .ok (.putfield 40, 3) := by decide +kernel
theorem dX8_init_59 : decode cX8_init 59 = .ok (.aload_n 0, 1) := by decide +kernel
theorem dX8_init_60 : decode cX8_init 60 = .ok (.new 44, 3) := by decide +kernel
theorem dX8_init_63 : decode cX8_init 63 = .ok (.dup, 1) := by decide +kernel
theorem dX8_init_64 : decode cX8_init 64 = .ok (.invokespecial 46, 3) := by decide +kernel
theorem dX8_init_67 : decode cX8_init 67 = .ok (.putfield 47, 3) := by decide +kernel
theorem dX8_init_70 : decode cX8_init 70 = .ok (.aload_n 0, 1) := by decide +kernel
theorem dX8_init_71 : decode cX8_init 71 = .ok (.new 51, 3) := by decide +kernel
theorem dX8_init_74 : decode cX8_init 74 = .ok (.dup, 1) := by decide +kernel
theorem dX8_init_75 : decode cX8_init 75 = .ok (.invokespecial 53, 3) := by decide +kernel
theorem dX8_init_78 : decode cX8_init 78 = .ok (.putfield 54, 3) := by decide +kernel
theorem dX8_init_81 : decode cX8_init 81 = .ok (.aload_n 0, 1) := by decide +kernel
theorem dX8_init_82 : decode cX8_init 82 = .ok (.new 58, 3) := by decide +kernel
theorem dX8_init_85 : decode cX8_init 85 = .ok (.dup, 1) := by decide +kernel
theorem dX8_init_86 : decode cX8_init 86 = .ok (.bipush 8, 2) := by decide +kernel
theorem dX8_init_88 : decode cX8_init 88 = .ok (.invokespecial 60, 3) := by decide +kernel
theorem dX8_init_91 : decode cX8_init 91 = .ok (.putfield 63, 3) := by decide +kernel
theorem dX8_init_94 : decode cX8_init 94 = .ok (.aload_n 0, 1) := by decide +kernel
theorem dX8_init_95 : decode cX8_init 95 = .ok (.new 58, 3) := by decide +kernel
theorem dX8_init_98 : decode cX8_init 98 = .ok (.dup, 1) := by decide +kernel
theorem dX8_init_99 : decode cX8_init 99 = .ok (.bipush 15, 2) := by decide +kernel
theorem dX8_init_101 : decode cX8_init 101 = .ok (.invokespecial 60, 3) := by decide +kernel
theorem dX8_init_104 : decode cX8_init 104 = .ok (.putfield 67, 3) := by decide +kernel
theorem dX8_init_107 : decode cX8_init 107 = .ok (.aload_n 0, 1) := by decide +kernel
theorem dX8_init_108 : decode cX8_init 108 = .ok (.iconst 2, 1) := by decide +kernel
theorem dX8_init_109 : decode cX8_init 109 = .ok (.anewarray 44, 3) := by decide +kernel
theorem dX8_init_112 : decode cX8_init 112 = .ok (.putfield 70, 3) := by decide +kernel
theorem dX8_init_115 : decode cX8_init 115 = .ok (.aload_n 0, 1) := by decide +kernel
theorem dX8_init_116 : decode cX8_init 116 = .ok (.iconst 2, 1) := by decide +kernel
theorem dX8_init_117 : decode cX8_init 117 = .ok (.newarray .int, 2) := by decide +kernel
theorem dX8_init_119 : decode cX8_init 119 = .ok (.putfield 74, 3) := by decide +kernel
theorem dX8_init_122 : decode cX8_init 122 = .ok (.aload_n 0, 1) := by decide +kernel
theorem dX8_init_123 : decode cX8_init 123 = .ok (.bipush 30, 2) := by decide +kernel
theorem dX8_init_125 : decode cX8_init 125 = .ok (.newarray .int, 2) := by decide +kernel
theorem dX8_init_127 : decode cX8_init 127 = .ok (.putfield 78, 3) := by decide +kernel
theorem dX8_init_130 : decode cX8_init 130 = .ok (.aload_n 0, 1) := by decide +kernel
theorem dX8_init_131 : decode cX8_init 131 = .ok (.bipush 30, 2) := by decide +kernel
theorem dX8_init_133 : decode cX8_init 133 = .ok (.newarray .int, 2) := by decide +kernel
theorem dX8_init_135 : decode cX8_init 135 = .ok (.putfield 81, 3) := by decide +kernel
theorem dX8_init_138 : decode cX8_init 138 = .ok (.aload_n 0, 1) := by decide +kernel
theorem dX8_init_139 : decode cX8_init 139 = .ok (.iconst (-1), 1) := by decide +kernel
theorem dX8_init_140 : decode cX8_init 140 = .ok (.putfield 84, 3) := by decide +kernel
theorem dX8_init_143 : decode cX8_init 143 = .ok (.iconst 0, 1) := by decide +kernel
theorem dX8_init_144 : decode cX8_init 144 = .ok (.istore_n 1, 1) := by decide +kernel
theorem dX8_init_145 : decode cX8_init 145 = .ok (.iload_n 1, 1) := by decide +kernel
theorem dX8_init_146 : decode cX8_init 146 = .ok (.iconst 2, 1) := by decide +kernel
theorem dX8_init_147 : decode cX8_init 147 = .ok (.if_icmp .ge 22, 3) := by decide +kernel
theorem dX8_init_150 : decode cX8_init 150 = .ok (.aload_n 0, 1) := by decide +kernel
theorem dX8_init_151 : decode cX8_init 151 = .ok (.getfield 70, 3) := by decide +kernel
theorem dX8_init_154 : decode cX8_init 154 = .ok (.iload_n 1, 1) := by decide +kernel
theorem dX8_init_155 : decode cX8_init 155 = .ok (.new 44, 3) := by decide +kernel
theorem dX8_init_158 : decode cX8_init 158 = .ok (.dup, 1) := by decide +kernel
theorem dX8_init_159 : decode cX8_init 159 = .ok (.invokespecial 46, 3) := by decide +kernel
theorem dX8_init_162 : decode cX8_init 162 = .ok (.aastore, 1) := by decide +kernel
theorem dX8_init_163 : decode cX8_init 163 = .ok (.iinc 1 1, 3) := by decide +kernel
theorem dX8_init_166 : decode cX8_init 166 = .ok (.goto (-21), 3) := by decide +kernel
theorem dX8_init_169 : decode cX8_init 169 = .ok (.return_, 1) := by decide +kernel
theorem dX8_feed_0 : decode cX8_feed 0 = .ok (.iload_n 1, 1) := by decide +kernel
theorem dX8_feed_1 : decode cX8_feed 1 = .ok (.ifCond .lt 10, 3) := by decide +kernel
theorem dX8_feed_4 : decode cX8_feed 4 = .ok (.iload_n 1, 1) := by decide +kernel
theorem dX8_feed_5 : decode cX8_feed 5 = .ok (.sipush 255, 3) := by decide +kernel
theorem dX8_feed_8 : decode cX8_feed 8 = .ok (.if_icmp .le 6, 3) := by decide +kernel
theorem dX8_feed_11 : decode cX8_feed 11 = .ok (.ldc 88, 2) := by decide +kernel
theorem dX8_feed_13 : decode cX8_feed 13 = .ok (.ireturn, 1) := by decide +kernel
theorem dX8_feed_14 : decode cX8_feed 14 = .ok (.aload_n 0, 1) := by decide +kernel
theorem dX8_feed_15 : decode cX8_feed 15 = .ok (.getfield 19, 3) := by decide +kernel
theorem dX8_feed_18 : decode cX8_feed 18 = .ok (.iload_n 1, 1) := by decide +kernel
theorem dX8_feed_19 : decode cX8_feed 19 = .ok (.invokevirtual 89, 3) := by decide +kernel
theorem dX8_feed_22 : decode cX8_feed 22 = .ok (.ireturn, 1) := by decide +kernel
theorem dX8_house_0 : decode cX8_house 0 = .ok (.aload_n 0, 1) := by decide +kernel
theorem dX8_house_1 : decode cX8_house 1 = .ok (.getfield 19, 3) := by decide +kernel
theorem dX8_house_4 : decode cX8_house 4 = .ok (.invokevirtual 93, 3) := by decide +kernel
theorem dX8_house_7 : decode cX8_house 7 = .ok (.istore_n 1, 1) := by decide +kernel
theorem dX8_house_8 : decode cX8_house 8 = .ok (.aload_n 0, 1) := by decide +kernel
theorem dX8_house_9 : decode cX8_house 9 = .ok (.getfield 19, 3) := by decide +kernel
theorem dX8_house_12 : decode cX8_house 12 = .ok (.invokevirtual 97, 3) := by decide +kernel
theorem dX8_house_15 : decode cX8_house 15 = .ok (.iload_n 1, 1) := by decide +kernel
theorem dX8_house_16 : decode cX8_house 16 = .ok (.ifCond .ne 25, 3) := by decide +kernel
theorem dX8_house_19 : decode cX8_house 19 = .ok (.aload_n 0, 1) := by decide +kernel
theorem dX8_house_20 : decode cX8_house 20 = .ok (.aload_n 0, 1) := by decide +kernel
theorem dX8_house_21 : decode cX8_house 21 = .ok (.getfield 19, 3) := by decide +kernel
theorem dX8_house_24 : decode cX8_house 24 = .ok (.getfield 100, 3) := by decide +kernel
theorem dX8_house_27 : decode cX8_house 27 = .ok (.putfield 84, 3) := by decide +kernel
theorem dX8_house_30 : decode cX8_house 30 = .ok (.bipush (-10), 2) := by decide +kernel
theorem dX8_house_32 : decode cX8_house 32 = .ok (.aload_n 0, 1) := by decide +kernel
theorem dX8_house_33 : decode cX8_house 33 = .ok (.getfield 19, 3) := by decide +kernel
theorem dX8_house_36 : decode cX8_house 36 = .ok (.getfield 101, 3) := by decide +kernel
theorem dX8_house_39 : decode cX8_house 39 = .ok (.isub, 1) := by decide +kernel
theorem dX8_house_40 : decode cX8_house 40 = .ok (.ireturn, 1) := by decide +kernel
theorem dX8_house_41 : decode cX8_house 41 = .ok (.aload_n 0, 1) := by decide +kernel
theorem dX8_house_42 : decode cX8_house 42 = .ok (.iconst (-1), 1) := by decide +kernel
theorem dX8_house_43 : decode cX8_house 43 = .ok (.putfield 84, 3) := by decide +kernel
theorem dX8_house_46 : decode cX8_house 46 = .ok (.aload_n 0, 1) := by decide +kernel
theorem dX8_house_47 : decode cX8_house 47 = .ok (.aload_n 0, 1) := by decide +kernel
theorem dX8_house_48 : decode cX8_house 48 = .ok (.getfield 19, 3) := by decide +kernel
theorem dX8_house_51 : decode cX8_house 51 = .ok (.getfield 104, 3) := by decide +kernel
theorem dX8_house_54 : decode cX8_house 54 = .ok (.invokevirtual 107, 3) := by decide +kernel
theorem dX8_house_57 : decode cX8_house 57 = .ok (.aload_n 0, 1) := by decide +kernel
theorem dX8_house_58 : decode cX8_house 58 = .ok (.getfield 12, 3) := by decide +kernel
theorem dX8_house_61 : decode cX8_house 61 = .ok (.getfield 111, 3) := by decide +kernel
theorem dX8_house_64 : decode cX8_house 64 = .ok (.ireturn, 1) := by decide +kernel
theorem dX8_fault_0 : decode cX8_fault 0 = .ok (.aload_n 0, 1) := by decide +kernel
theorem dX8_fault_1 : decode cX8_fault 1 = .ok (.getfield 84, 3) := by decide +kernel
theorem dX8_fault_4 : decode cX8_fault 4 = .ok (.ireturn, 1) := by decide +kernel
theorem dX8_told_0 : decode cX8_told 0 = .ok (.iload_n 1, 1) := by decide +kernel
theorem dX8_told_1 : decode cX8_told 1 = .ok (.tableswitch 159 0 11 #[63, 71, 79, 87, 95, 103, 111, 119, 127, 135, 143, 151], 63) := by decide +kernel
theorem dX8_told_64 : decode cX8_told 64 = .ok (.aload_n 0, 1) := by decide +kernel
theorem dX8_told_65 : decode cX8_told 65 = .ok (.getfield 12, 3) := by decide +kernel
theorem dX8_told_68 : decode cX8_told 68 = .ok (.getfield 114, 3) := by decide +kernel
theorem dX8_told_71 : decode cX8_told 71 = .ok (.ireturn, 1) := by decide +kernel
theorem dX8_told_72 : decode cX8_told 72 = .ok (.aload_n 0, 1) := by decide +kernel
theorem dX8_told_73 : decode cX8_told 73 = .ok (.getfield 12, 3) := by decide +kernel
theorem dX8_told_76 : decode cX8_told 76 = .ok (.getfield 117, 3) := by decide +kernel
theorem dX8_told_79 : decode cX8_told 79 = .ok (.ireturn, 1) := by decide +kernel
theorem dX8_told_80 : decode cX8_told 80 = .ok (.aload_n 0, 1) := by decide +kernel
theorem dX8_told_81 : decode cX8_told 81 = .ok (.getfield 12, 3) := by decide +kernel
theorem dX8_told_84 : decode cX8_told 84 = .ok (.getfield 111, 3) := by decide +kernel
theorem dX8_told_87 : decode cX8_told 87 = .ok (.ireturn, 1) := by decide +kernel
theorem dX8_told_88 : decode cX8_told 88 = .ok (.aload_n 0, 1) := by decide +kernel
theorem dX8_told_89 : decode cX8_told 89 = .ok (.getfield 12, 3) := by decide +kernel
theorem dX8_told_92 : decode cX8_told 92 = .ok (.getfield 120, 3) := by decide +kernel
theorem dX8_told_95 : decode cX8_told 95 = .ok (.ireturn, 1) := by decide +kernel
theorem dX8_told_96 : decode cX8_told 96 = .ok (.aload_n 0, 1) := by decide +kernel
theorem dX8_told_97 : decode cX8_told 97 = .ok (.getfield 19, 3) := by decide +kernel
theorem dX8_told_100 : decode cX8_told 100 = .ok (.getfield 123, 3) := by decide +kernel
theorem dX8_told_103 : decode cX8_told 103 = .ok (.ireturn, 1) := by decide +kernel
theorem dX8_told_104 : decode cX8_told 104 = .ok (.aload_n 0, 1) := by decide +kernel
theorem dX8_told_105 : decode cX8_told 105 = .ok (.getfield 47, 3) := by decide +kernel
theorem dX8_told_108 : decode cX8_told 108 = .ok (.getfield 126, 3) := by decide +kernel
theorem dX8_told_111 : decode cX8_told 111 = .ok (.ireturn, 1) := by decide +kernel
theorem dX8_told_112 : decode cX8_told 112 = .ok (.aload_n 0, 1) := by decide +kernel
theorem dX8_told_113 : decode cX8_told 113 = .ok (.getfield 12, 3) := by decide +kernel
theorem dX8_told_116 : decode cX8_told 116 = .ok (.getfield 129, 3) := by decide +kernel
theorem dX8_told_119 : decode cX8_told 119 = .ok (.ireturn, 1) := by decide +kernel
theorem dX8_told_120 : decode cX8_told 120 = .ok (.aload_n 0, 1) := by decide +kernel
theorem dX8_told_121 : decode cX8_told 121 = .ok (.getfield 47, 3) := by decide +kernel
theorem dX8_told_124 : decode cX8_told 124 = .ok (.getfield 132, 3) := by decide +kernel
theorem dX8_told_127 : decode cX8_told 127 = .ok (.ireturn, 1) := by decide +kernel
theorem dX8_told_128 : decode cX8_told 128 = .ok (.aload_n 0, 1) := by decide +kernel
theorem dX8_told_129 : decode cX8_told 129 = .ok (.getfield 47, 3) := by decide +kernel
theorem dX8_told_132 : decode cX8_told 132 = .ok (.getfield 135, 3) := by decide +kernel
theorem dX8_told_135 : decode cX8_told 135 = .ok (.ireturn, 1) := by decide +kernel
theorem dX8_told_136 : decode cX8_told 136 = .ok (.aload_n 0, 1) := by decide +kernel
theorem dX8_told_137 : decode cX8_told 137 = .ok (.getfield 63, 3) := by decide +kernel
theorem dX8_told_140 : decode cX8_told 140 = .ok (.getfield 136, 3) := by decide +kernel
theorem dX8_told_143 : decode cX8_told 143 = .ok (.ireturn, 1) := by decide +kernel
theorem dX8_told_144 : decode cX8_told 144 = .ok (.aload_n 0, 1) := by decide +kernel
theorem dX8_told_145 : decode cX8_told 145 = .ok (.getfield 67, 3) := by decide +kernel
theorem dX8_told_148 : decode cX8_told 148 = .ok (.getfield 136, 3) := by decide +kernel
theorem dX8_told_151 : decode cX8_told 151 = .ok (.ireturn, 1) := by decide +kernel
theorem dX8_told_152 : decode cX8_told 152 = .ok (.aload_n 0, 1) := by decide +kernel
theorem dX8_told_153 : decode cX8_told 153 = .ok (.getfield 54, 3) := by decide +kernel
theorem dX8_told_156 : decode cX8_told 156 = .ok (.getfield 139, 3) := by decide +kernel
theorem dX8_told_159 : decode cX8_told 159 = .ok (.ireturn, 1) := by decide +kernel
theorem dX8_told_160 : decode cX8_told 160 = .ok (.ldc 88, 2) := by decide +kernel
theorem dX8_told_162 : decode cX8_told 162 = .ok (.ireturn, 1) := by decide +kernel
theorem dX8_parts_0 : decode cX8_parts 0 = .ok (.aload_n 0, 1) := by decide +kernel
theorem dX8_parts_1 : decode cX8_parts 1 = .ok (.getfield 12, 3) := by decide +kernel
theorem dX8_parts_4 : decode cX8_parts 4 = .ok (.iload_n 1, 1) := by decide +kernel
theorem dX8_parts_5 : decode cX8_parts 5 = .ok (.iload_n 2, 1) := by decide +kernel
theorem dX8_parts_6 : decode cX8_parts 6 = .ok (.invokevirtual 140, 3) := by decide +kernel
theorem dX8_parts_9 : decode cX8_parts 9 = .ok (.ifCond .eq 19, 3) := by decide +kernel
theorem dX8_parts_12 : decode cX8_parts 12 = .ok (.aload_n 0, 1) := by decide +kernel
theorem dX8_parts_13 : decode cX8_parts 13 = .ok (.getfield 47, 3) := by decide +kernel
theorem dX8_parts_16 : decode cX8_parts 16 = .ok (.getfield 144, 3) := by decide +kernel
theorem dX8_parts_19 : decode cX8_parts 19 = .ok (.iload_n 1, 1) := by decide +kernel
theorem dX8_parts_20 : decode cX8_parts 20 = .ok (.iload_n 2, 1) := by decide +kernel
theorem dX8_parts_21 : decode cX8_parts 21 = .ok (.invokestatic 147, 3) := by decide +kernel
theorem dX8_parts_24 : decode cX8_parts 24 = .ok (.iaload, 1) := by decide +kernel
theorem dX8_parts_25 : decode cX8_parts 25 = .ok (.goto 5, 3) := by decide +kernel
theorem dX8_parts_28 : decode cX8_parts 28 = .ok (.ldc 151, 2) := by decide +kernel
theorem dX8_parts_30 : decode cX8_parts 30 = .ok (.ireturn, 1) := by decide +kernel
theorem dX8_own_0 : decode cX8_own 0 = .ok (.aload_n 0, 1) := by decide +kernel
theorem dX8_own_1 : decode cX8_own 1 = .ok (.getfield 12, 3) := by decide +kernel
theorem dX8_own_4 : decode cX8_own 4 = .ok (.iload_n 1, 1) := by decide +kernel
theorem dX8_own_5 : decode cX8_own 5 = .ok (.iload_n 2, 1) := by decide +kernel
theorem dX8_own_6 : decode cX8_own 6 = .ok (.invokevirtual 140, 3) := by decide +kernel
theorem dX8_own_9 : decode cX8_own 9 = .ok (.ifCond .eq 19, 3) := by decide +kernel
theorem dX8_own_12 : decode cX8_own 12 = .ok (.aload_n 0, 1) := by decide +kernel
theorem dX8_own_13 : decode cX8_own 13 = .ok (.getfield 12, 3) := by decide +kernel
theorem dX8_own_16 : decode cX8_own 16 = .ok (.getfield 152, 3) := by decide +kernel
theorem dX8_own_19 : decode cX8_own 19 = .ok (.iload_n 1, 1) := by decide +kernel
theorem dX8_own_20 : decode cX8_own 20 = .ok (.iload_n 2, 1) := by decide +kernel
theorem dX8_own_21 : decode cX8_own 21 = .ok (.invokestatic 147, 3) := by decide +kernel
theorem dX8_own_24 : decode cX8_own 24 = .ok (.iaload, 1) := by decide +kernel
theorem dX8_own_25 : decode cX8_own 25 = .ok (.goto 5, 3) := by decide +kernel
theorem dX8_own_28 : decode cX8_own 28 = .ok (.ldc 151, 2) := by decide +kernel
theorem dX8_own_30 : decode cX8_own 30 = .ok (.ireturn, 1) := by decide +kernel
theorem dX8_gives_0 : decode cX8_gives 0 = .ok (.aload_n 0, 1) := by decide +kernel
theorem dX8_gives_1 : decode cX8_gives 1 = .ok (.getfield 12, 3) := by decide +kernel
theorem dX8_gives_4 : decode cX8_gives 4 = .ok (.iload_n 1, 1) := by decide +kernel
theorem dX8_gives_5 : decode cX8_gives 5 = .ok (.iload_n 2, 1) := by decide +kernel
theorem dX8_gives_6 : decode cX8_gives 6 = .ok (.invokevirtual 140, 3) := by decide +kernel
theorem dX8_gives_9 : decode cX8_gives 9 = .ok (.ifCond .eq 22, 3) := by decide +kernel
theorem dX8_gives_12 : decode cX8_gives 12 = .ok (.aload_n 0, 1) := by decide +kernel
theorem dX8_gives_13 : decode cX8_gives 13 = .ok (.getfield 12, 3) := by decide +kernel
theorem dX8_gives_16 : decode cX8_gives 16 = .ok (.aload_n 0, 1) := by decide +kernel
theorem dX8_gives_17 : decode cX8_gives 17 = .ok (.getfield 47, 3) := by decide +kernel
theorem dX8_gives_20 : decode cX8_gives 20 = .ok (.getfield 144, 3) := by decide +kernel
theorem dX8_gives_23 : decode cX8_gives 23 = .ok (.iload_n 1, 1) := by decide +kernel
theorem dX8_gives_24 : decode cX8_gives 24 = .ok (.iload_n 2, 1) := by decide +kernel
theorem dX8_gives_25 : decode cX8_gives 25 = .ok (.invokevirtual 155, 3) := by decide +kernel
theorem dX8_gives_28 : decode cX8_gives 28 = .ok (.goto 5, 3) := by decide +kernel
theorem dX8_gives_31 : decode cX8_gives 31 = .ok (.ldc 151, 2) := by decide +kernel
theorem dX8_gives_33 : decode cX8_gives 33 = .ok (.ireturn, 1) := by decide +kernel
theorem dX8_planned_0 : decode cX8_planned 0 = .ok (.iload_n 1, 1) := by decide +kernel
theorem dX8_planned_1 : decode cX8_planned 1 = .ok (.ifCond .lt 14, 3) := by decide +kernel
theorem dX8_planned_4 : decode cX8_planned 4 = .ok (.iload_n 1, 1) := by decide +kernel
theorem dX8_planned_5 : decode cX8_planned 5 = .ok (.aload_n 0, 1) := by decide +kernel
theorem dX8_planned_6 : decode cX8_planned 6 = .ok (.getfield 12, 3) := by decide +kernel
theorem dX8_planned_9 : decode cX8_planned 9 = .ok (.getfield 120, 3) := by decide +kernel
theorem dX8_planned_12 : decode cX8_planned 12 = .ok (.if_icmp .lt 6, 3) := by decide +kernel
theorem dX8_planned_15 : decode cX8_planned 15 = .ok (.ldc 151, 2) := by decide +kernel
theorem dX8_planned_17 : decode cX8_planned 17 = .ok (.ireturn, 1) := by decide +kernel
theorem dX8_planned_18 : decode cX8_planned 18 = .ok (.bipush 10, 2) := by decide +kernel
theorem dX8_planned_20 : decode cX8_planned 20 = .ok (.aload_n 0, 1) := by decide +kernel
theorem dX8_planned_21 : decode cX8_planned 21 = .ok (.getfield 12, 3) := by decide +kernel
theorem dX8_planned_24 : decode cX8_planned 24 = .ok (.getfield 159, 3) := by decide +kernel
theorem dX8_planned_27 : decode cX8_planned 27 = .ok (.iload_n 1, 1) := by decide +kernel
theorem dX8_planned_28 : decode cX8_planned 28 = .ok (.iaload, 1) := by decide +kernel
theorem dX8_planned_29 : decode cX8_planned 29 = .ok (.imul, 1) := by decide +kernel
theorem dX8_planned_30 : decode cX8_planned 30 = .ok (.aload_n 0, 1) := by decide +kernel
theorem dX8_planned_31 : decode cX8_planned 31 = .ok (.getfield 12, 3) := by decide +kernel
theorem dX8_planned_34 : decode cX8_planned 34 = .ok (.getfield 162, 3) := by decide +kernel
theorem dX8_planned_37 : decode cX8_planned 37 = .ok (.iload_n 1, 1) := by decide +kernel
theorem dX8_planned_38 : decode cX8_planned 38 = .ok (.iaload, 1) := by decide +kernel
theorem dX8_planned_39 : decode cX8_planned 39 = .ok (.iadd, 1) := by decide +kernel
theorem dX8_planned_40 : decode cX8_planned 40 = .ok (.ireturn, 1) := by decide +kernel
theorem dX8_touch_0 : decode cX8_touch 0 = .ok (.aload_n 0, 1) := by decide +kernel
theorem dX8_touch_1 : decode cX8_touch 1 = .ok (.getfield 12, 3) := by decide +kernel
theorem dX8_touch_4 : decode cX8_touch 4 = .ok (.iload_n 1, 1) := by decide +kernel
theorem dX8_touch_5 : decode cX8_touch 5 = .ok (.iload_n 2, 1) := by decide +kernel
theorem dX8_touch_6 : decode cX8_touch 6 = .ok (.invokevirtual 165, 3) := by decide +kernel
theorem dX8_touch_9 : decode cX8_touch 9 = .ok (.ifCond .ne 6, 3) := by decide +kernel
theorem dX8_touch_12 : decode cX8_touch 12 = .ok (.ldc 151, 2) := by decide +kernel
theorem dX8_touch_14 : decode cX8_touch 14 = .ok (.ireturn, 1) := by decide +kernel
theorem dX8_touch_15 : decode cX8_touch 15 = .ok (.aload_n 0, 1) := by decide +kernel
theorem dX8_touch_16 : decode cX8_touch 16 = .ok (.getfield 54, 3) := by decide +kernel
theorem dX8_touch_19 : decode cX8_touch 19 = .ok (.aload_n 0, 1) := by decide +kernel
theorem dX8_touch_20 : decode cX8_touch 20 = .ok (.getfield 47, 3) := by decide +kernel
theorem dX8_touch_23 : decode cX8_touch 23 = .ok (.invokevirtual 168, 3) := by decide +kernel
theorem dX8_touch_26 : decode cX8_touch 26 = .ok (.aload_n 0, 1) := by decide +kernel
theorem dX8_touch_27 : decode cX8_touch 27 = .ok (.getfield 47, 3) := by decide +kernel
theorem dX8_touch_30 : decode cX8_touch 30 = .ok (.getfield 144, 3) := by decide +kernel
theorem dX8_touch_33 : decode cX8_touch 33 = .ok (.aload_n 0, 1) := by decide +kernel
theorem dX8_touch_34 : decode cX8_touch 34 = .ok (.getfield 81, 3) := by decide +kernel
theorem dX8_touch_37 : decode cX8_touch 37 = .ok (.invokestatic 172, 3) := by decide +kernel
theorem dX8_touch_40 : decode cX8_touch 40 = .ok (.aload_n 0, 1) := by decide +kernel
theorem dX8_touch_41 : decode cX8_touch 41 = .ok (.iload_n 1, 1) := by decide +kernel
theorem dX8_touch_42 : decode cX8_touch 42 = .ok (.iload_n 2, 1) := by decide +kernel
theorem dX8_touch_43 : decode cX8_touch 43 = .ok (.invokevirtual 176, 3) := by decide +kernel
theorem dX8_touch_46 : decode cX8_touch 46 = .ok (.iconst 0, 1) := by decide +kernel
theorem dX8_touch_47 : decode cX8_touch 47 = .ok (.istore_n 3, 1) := by decide +kernel
theorem dX8_touch_48 : decode cX8_touch 48 = .ok (.iconst 0, 1) := by decide +kernel
theorem dX8_touch_49 : decode cX8_touch 49 = .ok (.istore 4, 2) := by decide +kernel
theorem dX8_touch_51 : decode cX8_touch 51 = .ok (.iload 4, 2) := by decide +kernel
theorem dX8_touch_53 : decode cX8_touch 53 = .ok (.aload_n 0, 1) := by decide +kernel
theorem dX8_touch_54 : decode cX8_touch 54 = .ok (.getfield 12, 3) := by decide +kernel
theorem dX8_touch_57 : decode cX8_touch 57 = .ok (.getfield 114, 3) := by decide +kernel
theorem dX8_touch_60 : decode cX8_touch 60 = .ok (.if_icmp .ge 42, 3) := by decide +kernel
theorem dX8_touch_63 : decode cX8_touch 63 = .ok (.iload_n 3, 1) := by decide +kernel
theorem dX8_touch_64 : decode cX8_touch 64 = .ok (.iconst 0, 1) := by decide +kernel
theorem dX8_touch_65 : decode cX8_touch 65 = .ok (.aload_n 0, 1) := by decide +kernel
theorem dX8_touch_66 : decode cX8_touch 66 = .ok (.getfield 47, 3) := by decide +kernel
theorem dX8_touch_69 : decode cX8_touch 69 = .ok (.getfield 144, 3) := by decide +kernel
theorem dX8_touch_72 : decode cX8_touch 72 = .ok (.iload_n 1, 1) := by decide +kernel
theorem dX8_touch_73 : decode cX8_touch 73 = .ok (.iload 4, 2) := by decide +kernel
theorem dX8_touch_75 : decode cX8_touch 75 = .ok (.invokestatic 147, 3) := by decide +kernel
theorem dX8_touch_78 : decode cX8_touch 78 = .ok (.iaload, 1) := by decide +kernel
theorem dX8_touch_79 : decode cX8_touch 79 = .ok (.aload_n 0, 1) := by decide +kernel
theorem dX8_touch_80 : decode cX8_touch 80 = .ok (.getfield 81, 3) := by decide +kernel
theorem dX8_touch_83 : decode cX8_touch 83 = .ok (.iload_n 1, 1) := by decide +kernel
theorem dX8_touch_84 : decode cX8_touch 84 = .ok (.iload 4, 2) := by decide +kernel
theorem dX8_touch_86 : decode cX8_touch 86 = .ok (.invokestatic 147, 3) := by decide +kernel
theorem dX8_touch_89 : decode cX8_touch 89 = .ok (.iaload, 1) := by decide +kernel
theorem dX8_touch_90 : decode cX8_touch 90 = .ok (.isub, 1) := by decide +kernel
theorem dX8_touch_91 : decode cX8_touch 91 = .ok (.invokestatic 180, 3) := by decide +kernel
theorem dX8_touch_94 : decode cX8_touch 94 = .ok (.iadd, 1) := by decide +kernel
theorem dX8_touch_95 : decode cX8_touch 95 = .ok (.istore_n 3, 1) := by decide +kernel
theorem dX8_touch_96 : decode cX8_touch 96 = .ok (.iinc 4 1, 3) := by decide +kernel
theorem dX8_touch_99 : decode cX8_touch 99 = .ok (.goto (-48), 3) := by decide +kernel
theorem dX8_touch_102 : decode cX8_touch 102 = .ok (.iload_n 3, 1) := by decide +kernel
theorem dX8_touch_103 : decode cX8_touch 103 = .ok (.ireturn, 1) := by decide +kernel
theorem dX8_glove_0 : decode cX8_glove 0 = .ok (.aload_n 0, 1) := by decide +kernel
theorem dX8_glove_1 : decode cX8_glove 1 = .ok (.getfield 12, 3) := by decide +kernel
theorem dX8_glove_4 : decode cX8_glove 4 = .ok (.iload_n 1, 1) := by decide +kernel
theorem dX8_glove_5 : decode cX8_glove 5 = .ok (.invokevirtual 185, 3) := by decide +kernel
theorem dX8_glove_8 : decode cX8_glove 8 = .ok (.ifCond .ne 6, 3) := by decide +kernel
theorem dX8_glove_11 : decode cX8_glove 11 = .ok (.ldc 151, 2) := by decide +kernel
theorem dX8_glove_13 : decode cX8_glove 13 = .ok (.ireturn, 1) := by decide +kernel
theorem dX8_glove_14 : decode cX8_glove 14 = .ok (.aload_n 0, 1) := by decide +kernel
theorem dX8_glove_15 : decode cX8_glove 15 = .ok (.getfield 12, 3) := by decide +kernel
theorem dX8_glove_18 : decode cX8_glove 18 = .ok (.getfield 129, 3) := by decide +kernel
theorem dX8_glove_21 : decode cX8_glove 21 = .ok (.iload_n 1, 1) := by decide +kernel
theorem dX8_glove_22 : decode cX8_glove 22 = .ok (.invokestatic 189, 3) := by decide +kernel
theorem dX8_glove_25 : decode cX8_glove 25 = .ok (.ifCond .eq 6, 3) := by decide +kernel
theorem dX8_glove_28 : decode cX8_glove 28 = .ok (.ldc 192, 2) := by decide +kernel
theorem dX8_glove_30 : decode cX8_glove 30 = .ok (.ireturn, 1) := by decide +kernel
theorem dX8_glove_31 : decode cX8_glove 31 = .ok (.aload_n 0, 1) := by decide +kernel
theorem dX8_glove_32 : decode cX8_glove 32 = .ok (.getfield 54, 3) := by decide +kernel
theorem dX8_glove_35 : decode cX8_glove 35 = .ok (.aload_n 0, 1) := by decide +kernel
theorem dX8_glove_36 : decode cX8_glove 36 = .ok (.getfield 47, 3) := by decide +kernel
theorem dX8_glove_39 : decode cX8_glove 39 = .ok (.invokevirtual 168, 3) := by decide +kernel
theorem dX8_glove_42 : decode cX8_glove 42 = .ok (.aload_n 0, 1) := by decide +kernel
theorem dX8_glove_43 : decode cX8_glove 43 = .ok (.getfield 47, 3) := by decide +kernel
theorem dX8_glove_46 : decode cX8_glove 46 = .ok (.getfield 126, 3) := by decide +kernel
theorem dX8_glove_49 : decode cX8_glove 49 = .ok (.iload_n 1, 1) := by decide +kernel
theorem dX8_glove_50 : decode cX8_glove 50 = .ok (.invokestatic 189, 3) := by decide +kernel
theorem dX8_glove_53 : decode cX8_glove 53 = .ok (.ifCond .eq 7, 3) := by decide +kernel
theorem dX8_glove_56 : decode cX8_glove 56 = .ok (.iconst 1, 1) := by decide +kernel
theorem dX8_glove_57 : decode cX8_glove 57 = .ok (.goto 4, 3) := by decide +kernel
theorem dX8_glove_60 : decode cX8_glove 60 = .ok (.iconst 0, 1) := by decide +kernel
theorem dX8_glove_61 : decode cX8_glove 61 = .ok (.istore_n 3, 1) := by decide +kernel
theorem dX8_glove_62 : decode cX8_glove 62 = .ok (.aload_n 0, 1) := by decide +kernel
theorem dX8_glove_63 : decode cX8_glove 63 = .ok (.getfield 47, 3) := by decide +kernel
theorem dX8_glove_66 : decode cX8_glove 66 = .ok (.iload_n 2, 1) := by decide +kernel
theorem dX8_glove_67 : decode cX8_glove 67 = .ok (.ifCond .eq 17, 3) := by decide +kernel
theorem dX8_glove_70 : decode cX8_glove 70 = .ok (.aload_n 0, 1) := by decide +kernel
theorem dX8_glove_71 : decode cX8_glove 71 = .ok (.getfield 47, 3) := by decide +kernel
theorem dX8_glove_74 : decode cX8_glove 74 = .ok (.getfield 126, 3) := by decide +kernel
theorem dX8_glove_77 : decode cX8_glove 77 = .ok (.iconst 1, 1) := by decide +kernel
theorem dX8_glove_78 : decode cX8_glove 78 = .ok (.iload_n 1, 1) := by decide +kernel
theorem dX8_glove_79 : decode cX8_glove 79 = .ok (.ishl, 1) := by decide +kernel
theorem dX8_glove_80 : decode cX8_glove 80 = .ok (.ior, 1) := by decide +kernel
theorem dX8_glove_81 : decode cX8_glove 81 = .ok (.goto 16, 3) := by decide +kernel
theorem dX8_glove_84 : decode cX8_glove 84 = .ok (.aload_n 0, 1) := by decide +kernel
theorem dX8_glove_85 : decode cX8_glove 85 = .ok (.getfield 47, 3) := by decide +kernel
theorem dX8_glove_88 : decode cX8_glove 88 = .ok (.getfield 126, 3) := by decide +kernel
theorem dX8_glove_91 : decode cX8_glove 91 = .ok (.iconst 1, 1) := by decide +kernel
theorem dX8_glove_92 : decode cX8_glove 92 = .ok (.iload_n 1, 1) := by decide +kernel
theorem dX8_glove_93 : decode cX8_glove 93 = .ok (.ishl, 1) := by decide +kernel
theorem dX8_glove_94 : decode cX8_glove 94 = .ok (.iconst (-1), 1) := by decide +kernel
theorem dX8_glove_95 : decode cX8_glove 95 = .ok (.ixor, 1) := by decide +kernel
theorem dX8_glove_96 : decode cX8_glove 96 = .ok (.iand, 1) := by decide +kernel
theorem dX8_glove_97 : decode cX8_glove 97 = .ok (.putfield 126, 3) := by decide +kernel
theorem dX8_glove_100 : decode cX8_glove 100 = .ok (.iload_n 3, 1) := by decide +kernel
theorem dX8_glove_101 : decode cX8_glove 101 = .ok (.ireturn, 1) := by decide +kernel
theorem dX8_wash_0 : decode cX8_wash 0 = .ok (.aload_n 0, 1) := by decide +kernel
theorem dX8_wash_1 : decode cX8_wash 1 = .ok (.getfield 12, 3) := by decide +kernel
theorem dX8_wash_4 : decode cX8_wash 4 = .ok (.iload_n 1, 1) := by decide +kernel
theorem dX8_wash_5 : decode cX8_wash 5 = .ok (.invokevirtual 185, 3) := by decide +kernel
theorem dX8_wash_8 : decode cX8_wash 8 = .ok (.ifCond .ne 6, 3) := by decide +kernel
theorem dX8_wash_11 : decode cX8_wash 11 = .ok (.ldc 151, 2) := by decide +kernel
theorem dX8_wash_13 : decode cX8_wash 13 = .ok (.ireturn, 1) := by decide +kernel
theorem dX8_wash_14 : decode cX8_wash 14 = .ok (.aload_n 0, 1) := by decide +kernel
theorem dX8_wash_15 : decode cX8_wash 15 = .ok (.getfield 12, 3) := by decide +kernel
theorem dX8_wash_18 : decode cX8_wash 18 = .ok (.getfield 129, 3) := by decide +kernel
theorem dX8_wash_21 : decode cX8_wash 21 = .ok (.iload_n 1, 1) := by decide +kernel
theorem dX8_wash_22 : decode cX8_wash 22 = .ok (.invokestatic 189, 3) := by decide +kernel
theorem dX8_wash_25 : decode cX8_wash 25 = .ok (.ifCond .eq 6, 3) := by decide +kernel
theorem dX8_wash_28 : decode cX8_wash 28 = .ok (.ldc 192, 2) := by decide +kernel
theorem dX8_wash_30 : decode cX8_wash 30 = .ok (.ireturn, 1) := by decide +kernel
theorem dX8_wash_31 : decode cX8_wash 31 = .ok (.aload_n 0, 1) := by decide +kernel
theorem dX8_wash_32 : decode cX8_wash 32 = .ok (.getfield 54, 3) := by decide +kernel
theorem dX8_wash_35 : decode cX8_wash 35 = .ok (.aload_n 0, 1) := by decide +kernel
theorem dX8_wash_36 : decode cX8_wash 36 = .ok (.getfield 47, 3) := by decide +kernel
theorem dX8_wash_39 : decode cX8_wash 39 = .ok (.invokevirtual 168, 3) := by decide +kernel
theorem dX8_wash_42 : decode cX8_wash 42 = .ok (.aload_n 0, 1) := by decide +kernel
theorem dX8_wash_43 : decode cX8_wash 43 = .ok (.iload_n 1, 1) := by decide +kernel
theorem dX8_wash_44 : decode cX8_wash 44 = .ok (.invokevirtual 193, 3) := by decide +kernel
theorem dX8_wash_47 : decode cX8_wash 47 = .ok (.aload_n 0, 1) := by decide +kernel
theorem dX8_wash_48 : decode cX8_wash 48 = .ok (.getfield 47, 3) := by decide +kernel
theorem dX8_wash_51 : decode cX8_wash 51 = .ok (.getfield 132, 3) := by decide +kernel
theorem dX8_wash_54 : decode cX8_wash 54 = .ok (.ireturn, 1) := by decide +kernel
theorem dX8_day_0 : decode cX8_day 0 = .ok (.aload_n 0, 1) := by decide +kernel
theorem dX8_day_1 : decode cX8_day 1 = .ok (.getfield 12, 3) := by decide +kernel
theorem dX8_day_4 : decode cX8_day 4 = .ok (.getfield 120, 3) := by decide +kernel
theorem dX8_day_7 : decode cX8_day 7 = .ok (.ifCond .ne 6, 3) := by decide +kernel
theorem dX8_day_10 : decode cX8_day 10 = .ok (.ldc 192, 2) := by decide +kernel
theorem dX8_day_12 : decode cX8_day 12 = .ok (.ireturn, 1) := by decide +kernel
theorem dX8_day_13 : decode cX8_day 13 = .ok (.aload_n 0, 1) := by decide +kernel
theorem dX8_day_14 : decode cX8_day 14 = .ok (.getfield 54, 3) := by decide +kernel
theorem dX8_day_17 : decode cX8_day 17 = .ok (.aload_n 0, 1) := by decide +kernel
theorem dX8_day_18 : decode cX8_day 18 = .ok (.getfield 47, 3) := by decide +kernel
theorem dX8_day_21 : decode cX8_day 21 = .ok (.invokevirtual 168, 3) := by decide +kernel
theorem dX8_day_24 : decode cX8_day 24 = .ok (.aload_n 0, 1) := by decide +kernel
theorem dX8_day_25 : decode cX8_day 25 = .ok (.getfield 12, 3) := by decide +kernel
theorem dX8_day_28 : decode cX8_day 28 = .ok (.aload_n 0, 1) := by decide +kernel
theorem dX8_day_29 : decode cX8_day 29 = .ok (.getfield 47, 3) := by decide +kernel
theorem dX8_day_32 : decode cX8_day 32 = .ok (.getfield 144, 3) := by decide +kernel
theorem dX8_day_35 : decode cX8_day 35 = .ok (.aload_n 0, 1) := by decide +kernel
theorem dX8_day_36 : decode cX8_day 36 = .ok (.getfield 47, 3) := by decide +kernel
theorem dX8_day_39 : decode cX8_day 39 = .ok (.getfield 126, 3) := by decide +kernel
theorem dX8_day_42 : decode cX8_day 42 = .ok (.iconst 0, 1) := by decide +kernel
theorem dX8_day_43 : decode cX8_day 43 = .ok (.invokevirtual 196, 3) := by decide +kernel
theorem dX8_day_46 : decode cX8_day 46 = .ok (.aload_n 0, 1) := by decide +kernel
theorem dX8_day_47 : decode cX8_day 47 = .ok (.getfield 47, 3) := by decide +kernel
theorem dX8_day_50 : decode cX8_day 50 = .ok (.dup, 1) := by decide +kernel
theorem dX8_day_51 : decode cX8_day 51 = .ok (.getfield 135, 3) := by decide +kernel
theorem dX8_day_54 : decode cX8_day 54 = .ok (.aload_n 0, 1) := by decide +kernel
theorem dX8_day_55 : decode cX8_day 55 = .ok (.getfield 12, 3) := by decide +kernel
theorem dX8_day_58 : decode cX8_day 58 = .ok (.getfield 120, 3) := by decide +kernel
theorem dX8_day_61 : decode cX8_day 61 = .ok (.iadd, 1) := by decide +kernel
theorem dX8_day_62 : decode cX8_day 62 = .ok (.putfield 135, 3) := by decide +kernel
theorem dX8_day_65 : decode cX8_day 65 = .ok (.aload_n 0, 1) := by decide +kernel
theorem dX8_day_66 : decode cX8_day 66 = .ok (.getfield 47, 3) := by decide +kernel
theorem dX8_day_69 : decode cX8_day 69 = .ok (.getfield 135, 3) := by decide +kernel
theorem dX8_day_72 : decode cX8_day 72 = .ok (.ireturn, 1) := by decide +kernel
theorem dX8_drift_0 : decode cX8_drift 0 = .ok (.iload_n 1, 1) := by decide +kernel
theorem dX8_drift_1 : decode cX8_drift 1 = .ok (.iconst 1, 1) := by decide +kernel
theorem dX8_drift_2 : decode cX8_drift 2 = .ok (.if_icmp .lt 9, 3) := by decide +kernel
theorem dX8_drift_5 : decode cX8_drift 5 = .ok (.iload_n 1, 1) := by decide +kernel
theorem dX8_drift_6 : decode cX8_drift 6 = .ok (.bipush 99, 2) := by decide +kernel
theorem dX8_drift_8 : decode cX8_drift 8 = .ok (.if_icmp .le 6, 3) := by decide +kernel
theorem dX8_drift_11 : decode cX8_drift 11 = .ok (.ldc 88, 2) := by decide +kernel
theorem dX8_drift_13 : decode cX8_drift 13 = .ok (.ireturn, 1) := by decide +kernel
theorem dX8_drift_14 : decode cX8_drift 14 = .ok (.aload_n 0, 1) := by decide +kernel
theorem dX8_drift_15 : decode cX8_drift 15 = .ok (.getfield 12, 3) := by decide +kernel
theorem dX8_drift_18 : decode cX8_drift 18 = .ok (.getfield 111, 3) := by decide +kernel
theorem dX8_drift_21 : decode cX8_drift 21 = .ok (.iconst 2, 1) := by decide +kernel
theorem dX8_drift_22 : decode cX8_drift 22 = .ok (.if_icmp .ge 6, 3) := by decide +kernel
theorem dX8_drift_25 : decode cX8_drift 25 = .ok (.ldc 192, 2) := by decide +kernel
theorem dX8_drift_27 : decode cX8_drift 27 = .ok (.ireturn, 1) := by decide +kernel
theorem dX8_drift_28 : decode cX8_drift 28 = .ok (.aload_n 0, 1) := by decide +kernel
theorem dX8_drift_29 : decode cX8_drift 29 = .ok (.getfield 54, 3) := by decide +kernel
theorem dX8_drift_32 : decode cX8_drift 32 = .ok (.aload_n 0, 1) := by decide +kernel
theorem dX8_drift_33 : decode cX8_drift 33 = .ok (.getfield 47, 3) := by decide +kernel
theorem dX8_drift_36 : decode cX8_drift 36 = .ok (.invokevirtual 168, 3) := by decide +kernel
theorem dX8_drift_39 : decode cX8_drift 39 = .ok (.iconst 0, 1) := by decide +kernel
theorem dX8_drift_40 : decode cX8_drift 40 = .ok (.istore_n 2, 1) := by decide +kernel
theorem dX8_drift_41 : decode cX8_drift 41 = .ok (.iload_n 2, 1) := by decide +kernel
theorem dX8_drift_42 : decode cX8_drift 42 = .ok (.iload_n 1, 1) := by decide +kernel
theorem dX8_drift_43 : decode cX8_drift 43 = .ok (.if_icmp .ge 13, 3) := by decide +kernel
theorem dX8_drift_46 : decode cX8_drift 46 = .ok (.aload_n 0, 1) := by decide +kernel
theorem dX8_drift_47 : decode cX8_drift 47 = .ok (.invokevirtual 200, 3) := by decide +kernel
theorem dX8_drift_50 : decode cX8_drift 50 = .ok (.iinc 2 1, 3) := by decide +kernel
theorem dX8_drift_53 : decode cX8_drift 53 = .ok (.goto (-12), 3) := by decide +kernel
theorem dX8_drift_56 : decode cX8_drift 56 = .ok (.aload_n 0, 1) := by decide +kernel
theorem dX8_drift_57 : decode cX8_drift 57 = .ok (.getfield 47, 3) := by decide +kernel
theorem dX8_drift_60 : decode cX8_drift 60 = .ok (.getfield 135, 3) := by decide +kernel
theorem dX8_drift_63 : decode cX8_drift 63 = .ok (.ireturn, 1) := by decide +kernel
theorem dX8_undo_0 : decode cX8_undo 0 = .ok (.aload_n 0, 1) := by decide +kernel
theorem dX8_undo_1 : decode cX8_undo 1 = .ok (.getfield 54, 3) := by decide +kernel
theorem dX8_undo_4 : decode cX8_undo 4 = .ok (.getfield 139, 3) := by decide +kernel
theorem dX8_undo_7 : decode cX8_undo 7 = .ok (.ifCond .ne 6, 3) := by decide +kernel
theorem dX8_undo_10 : decode cX8_undo 10 = .ok (.ldc 192, 2) := by decide +kernel
theorem dX8_undo_12 : decode cX8_undo 12 = .ok (.ireturn, 1) := by decide +kernel
theorem dX8_undo_13 : decode cX8_undo 13 = .ok (.aload_n 0, 1) := by decide +kernel
theorem dX8_undo_14 : decode cX8_undo 14 = .ok (.getfield 54, 3) := by decide +kernel
theorem dX8_undo_17 : decode cX8_undo 17 = .ok (.aload_n 0, 1) := by decide +kernel
theorem dX8_undo_18 : decode cX8_undo 18 = .ok (.getfield 47, 3) := by decide +kernel
theorem dX8_undo_21 : decode cX8_undo 21 = .ok (.invokevirtual 203, 3) := by decide +kernel
theorem dX8_undo_24 : decode cX8_undo 24 = .ok (.aload_n 0, 1) := by decide +kernel
theorem dX8_undo_25 : decode cX8_undo 25 = .ok (.getfield 54, 3) := by decide +kernel
theorem dX8_undo_28 : decode cX8_undo 28 = .ok (.getfield 139, 3) := by decide +kernel
theorem dX8_undo_31 : decode cX8_undo 31 = .ok (.ireturn, 1) := by decide +kernel
theorem dX8_shows_0 : decode cX8_shows 0 = .ok (.aload_n 0, 1) := by decide +kernel
theorem dX8_shows_1 : decode cX8_shows 1 = .ok (.getfield 12, 3) := by decide +kernel
theorem dX8_shows_4 : decode cX8_shows 4 = .ok (.iload_n 1, 1) := by decide +kernel
theorem dX8_shows_5 : decode cX8_shows 5 = .ok (.iload_n 2, 1) := by decide +kernel
theorem dX8_shows_6 : decode cX8_shows 6 = .ok (.invokevirtual 140, 3) := by decide +kernel
theorem dX8_shows_9 : decode cX8_shows 9 = .ok (.ifCond .ne 6, 3) := by decide +kernel
theorem dX8_shows_12 : decode cX8_shows 12 = .ok (.ldc 151, 2) := by decide +kernel
theorem dX8_shows_14 : decode cX8_shows 14 = .ok (.ireturn, 1) := by decide +kernel
theorem dX8_shows_15 : decode cX8_shows 15 = .ok (.iload_n 3, 1) := by decide +kernel
theorem dX8_shows_16 : decode cX8_shows 16 = .ok (.ifCond .lt 14, 3) := by decide +kernel
theorem dX8_shows_19 : decode cX8_shows 19 = .ok (.iload_n 3, 1) := by decide +kernel
theorem dX8_shows_20 : decode cX8_shows 20 = .ok (.aload_n 0, 1) := by decide +kernel
theorem dX8_shows_21 : decode cX8_shows 21 = .ok (.getfield 12, 3) := by decide +kernel
theorem dX8_shows_24 : decode cX8_shows 24 = .ok (.getfield 120, 3) := by decide +kernel
theorem dX8_shows_27 : decode cX8_shows 27 = .ok (.if_icmp .le 6, 3) := by decide +kernel
theorem dX8_shows_30 : decode cX8_shows 30 = .ok (.ldc 88, 2) := by decide +kernel
theorem dX8_shows_32 : decode cX8_shows 32 = .ok (.ireturn, 1) := by decide +kernel
theorem dX8_shows_33 : decode cX8_shows 33 = .ok (.aload_n 0, 1) := by decide +kernel
theorem dX8_shows_34 : decode cX8_shows 34 = .ok (.getfield 47, 3) := by decide +kernel
theorem dX8_shows_37 : decode cX8_shows 37 = .ok (.getfield 144, 3) := by decide +kernel
theorem dX8_shows_40 : decode cX8_shows 40 = .ok (.aload_n 0, 1) := by decide +kernel
theorem dX8_shows_41 : decode cX8_shows 41 = .ok (.getfield 78, 3) := by decide +kernel
theorem dX8_shows_44 : decode cX8_shows 44 = .ok (.invokestatic 172, 3) := by decide +kernel
theorem dX8_shows_47 : decode cX8_shows 47 = .ok (.iconst 0, 1) := by decide +kernel
theorem dX8_shows_48 : decode cX8_shows 48 = .ok (.istore 4, 2) := by decide +kernel
theorem dX8_shows_50 : decode cX8_shows 50 = .ok (.iload 4, 2) := by decide +kernel
theorem dX8_shows_52 : decode cX8_shows 52 = .ok (.iload_n 3, 1) := by decide +kernel
theorem dX8_shows_53 : decode cX8_shows 53 = .ok (.if_icmp .ge 29, 3) := by decide +kernel
theorem dX8_shows_56 : decode cX8_shows 56 = .ok (.aload_n 0, 1) := by decide +kernel
theorem dX8_shows_57 : decode cX8_shows 57 = .ok (.getfield 12, 3) := by decide +kernel
theorem dX8_shows_60 : decode cX8_shows 60 = .ok (.aload_n 0, 1) := by decide +kernel
theorem dX8_shows_61 : decode cX8_shows 61 = .ok (.getfield 78, 3) := by decide +kernel
theorem dX8_shows_64 : decode cX8_shows 64 = .ok (.aload_n 0, 1) := by decide +kernel
theorem dX8_shows_65 : decode cX8_shows 65 = .ok (.getfield 47, 3) := by decide +kernel
theorem dX8_shows_68 : decode cX8_shows 68 = .ok (.getfield 126, 3) := by decide +kernel
theorem dX8_shows_71 : decode cX8_shows 71 = .ok (.iload 4, 2) := by decide +kernel
theorem dX8_shows_73 : decode cX8_shows 73 = .ok (.invokevirtual 206, 3) := by decide +kernel
theorem dX8_shows_76 : decode cX8_shows 76 = .ok (.iinc 4 1, 3) := by decide +kernel
theorem dX8_shows_79 : decode cX8_shows 79 = .ok (.goto (-29), 3) := by decide +kernel
theorem dX8_shows_82 : decode cX8_shows 82 = .ok (.aload_n 0, 1) := by decide +kernel
theorem dX8_shows_83 : decode cX8_shows 83 = .ok (.getfield 78, 3) := by decide +kernel
theorem dX8_shows_86 : decode cX8_shows 86 = .ok (.iload_n 1, 1) := by decide +kernel
theorem dX8_shows_87 : decode cX8_shows 87 = .ok (.iload_n 2, 1) := by decide +kernel
theorem dX8_shows_88 : decode cX8_shows 88 = .ok (.invokestatic 147, 3) := by decide +kernel
theorem dX8_shows_91 : decode cX8_shows 91 = .ok (.iaload, 1) := by decide +kernel
theorem dX8_shows_92 : decode cX8_shows 92 = .ok (.ireturn, 1) := by decide +kernel
theorem dX8_alike_0 : decode cX8_alike 0 = .ok (.aload_n 0, 1) := by decide +kernel
theorem dX8_alike_1 : decode cX8_alike 1 = .ok (.getfield 12, 3) := by decide +kernel
theorem dX8_alike_4 : decode cX8_alike 4 = .ok (.iload_n 1, 1) := by decide +kernel
theorem dX8_alike_5 : decode cX8_alike 5 = .ok (.iload_n 2, 1) := by decide +kernel
theorem dX8_alike_6 : decode cX8_alike 6 = .ok (.invokevirtual 165, 3) := by decide +kernel
theorem dX8_alike_9 : decode cX8_alike 9 = .ok (.ifCond .ne 6, 3) := by decide +kernel
theorem dX8_alike_12 : decode cX8_alike 12 = .ok (.ldc 151, 2) := by decide +kernel
theorem dX8_alike_14 : decode cX8_alike 14 = .ok (.ireturn, 1) := by decide +kernel
theorem dX8_alike_15 : decode cX8_alike 15 = .ok (.aload_n 0, 1) := by decide +kernel
theorem dX8_alike_16 : decode cX8_alike 16 = .ok (.getfield 47, 3) := by decide +kernel
theorem dX8_alike_19 : decode cX8_alike 19 = .ok (.getfield 144, 3) := by decide +kernel
theorem dX8_alike_22 : decode cX8_alike 22 = .ok (.aload_n 0, 1) := by decide +kernel
theorem dX8_alike_23 : decode cX8_alike 23 = .ok (.getfield 78, 3) := by decide +kernel
theorem dX8_alike_26 : decode cX8_alike 26 = .ok (.invokestatic 172, 3) := by decide +kernel
theorem dX8_alike_29 : decode cX8_alike 29 = .ok (.iconst 0, 1) := by decide +kernel
theorem dX8_alike_30 : decode cX8_alike 30 = .ok (.istore_n 3, 1) := by decide +kernel
theorem dX8_alike_31 : decode cX8_alike 31 = .ok (.iload_n 3, 1) := by decide +kernel
theorem dX8_alike_32 : decode cX8_alike 32 = .ok (.aload_n 0, 1) := by decide +kernel
theorem dX8_alike_33 : decode cX8_alike 33 = .ok (.getfield 12, 3) := by decide +kernel
theorem dX8_alike_36 : decode cX8_alike 36 = .ok (.getfield 120, 3) := by decide +kernel
theorem dX8_alike_39 : decode cX8_alike 39 = .ok (.if_icmp .ge 39, 3) := by decide +kernel
theorem dX8_alike_42 : decode cX8_alike 42 = .ok (.aload_n 0, 1) := by decide +kernel
theorem dX8_alike_43 : decode cX8_alike 43 = .ok (.iload_n 1, 1) := by decide +kernel
theorem dX8_alike_44 : decode cX8_alike 44 = .ok (.iload_n 2, 1) := by decide +kernel
theorem dX8_alike_45 : decode cX8_alike 45 = .ok (.invokevirtual 209, 3) := by decide +kernel
theorem dX8_alike_48 : decode cX8_alike 48 = .ok (.ifCond .eq 5, 3) := by decide +kernel
theorem dX8_alike_51 : decode cX8_alike 51 = .ok (.iload_n 3, 1) := by decide +kernel
theorem dX8_alike_52 : decode cX8_alike 52 = .ok (.ireturn, 1) := by decide +kernel
theorem dX8_alike_53 : decode cX8_alike 53 = .ok (.aload_n 0, 1) := by decide +kernel
theorem dX8_alike_54 : decode cX8_alike 54 = .ok (.getfield 12, 3) := by decide +kernel
theorem dX8_alike_57 : decode cX8_alike 57 = .ok (.aload_n 0, 1) := by decide +kernel
theorem dX8_alike_58 : decode cX8_alike 58 = .ok (.getfield 78, 3) := by decide +kernel
theorem dX8_alike_61 : decode cX8_alike 61 = .ok (.aload_n 0, 1) := by decide +kernel
theorem dX8_alike_62 : decode cX8_alike 62 = .ok (.getfield 47, 3) := by decide +kernel
theorem dX8_alike_65 : decode cX8_alike 65 = .ok (.getfield 126, 3) := by decide +kernel
theorem dX8_alike_68 : decode cX8_alike 68 = .ok (.iload_n 3, 1) := by decide +kernel
theorem dX8_alike_69 : decode cX8_alike 69 = .ok (.invokevirtual 206, 3) := by decide +kernel
theorem dX8_alike_72 : decode cX8_alike 72 = .ok (.iinc 3 1, 3) := by decide +kernel
theorem dX8_alike_75 : decode cX8_alike 75 = .ok (.goto (-44), 3) := by decide +kernel
theorem dX8_alike_78 : decode cX8_alike 78 = .ok (.aload_n 0, 1) := by decide +kernel
theorem dX8_alike_79 : decode cX8_alike 79 = .ok (.iload_n 1, 1) := by decide +kernel
theorem dX8_alike_80 : decode cX8_alike 80 = .ok (.iload_n 2, 1) := by decide +kernel
theorem dX8_alike_81 : decode cX8_alike 81 = .ok (.invokevirtual 209, 3) := by decide +kernel
theorem dX8_alike_84 : decode cX8_alike 84 = .ok (.ifCond .eq 13, 3) := by decide +kernel
theorem dX8_alike_87 : decode cX8_alike 87 = .ok (.aload_n 0, 1) := by decide +kernel
theorem dX8_alike_88 : decode cX8_alike 88 = .ok (.getfield 12, 3) := by decide +kernel
theorem dX8_alike_91 : decode cX8_alike 91 = .ok (.getfield 120, 3) := by decide +kernel
theorem dX8_alike_94 : decode cX8_alike 94 = .ok (.goto 4, 3) := by decide +kernel
theorem dX8_alike_97 : decode cX8_alike 97 = .ok (.iconst (-1), 1) := by decide +kernel
theorem dX8_alike_98 : decode cX8_alike 98 = .ok (.ireturn, 1) := by decide +kernel
theorem dX8_trail_0 : decode cX8_trail 0 = .ok (.aload_n 0, 1) := by decide +kernel
theorem dX8_trail_1 : decode cX8_trail 1 = .ok (.getfield 12, 3) := by decide +kernel
theorem dX8_trail_4 : decode cX8_trail 4 = .ok (.iload_n 2, 1) := by decide +kernel
theorem dX8_trail_5 : decode cX8_trail 5 = .ok (.iload_n 1, 1) := by decide +kernel
theorem dX8_trail_6 : decode cX8_trail 6 = .ok (.invokevirtual 140, 3) := by decide +kernel
theorem dX8_trail_9 : decode cX8_trail 9 = .ok (.ifCond .ne 6, 3) := by decide +kernel
theorem dX8_trail_12 : decode cX8_trail 12 = .ok (.ldc 151, 2) := by decide +kernel
theorem dX8_trail_14 : decode cX8_trail 14 = .ok (.ireturn, 1) := by decide +kernel
theorem dX8_trail_15 : decode cX8_trail 15 = .ok (.iload_n 3, 1) := by decide +kernel
theorem dX8_trail_16 : decode cX8_trail 16 = .ok (.ifCond .lt 8, 3) := by decide +kernel
theorem dX8_trail_19 : decode cX8_trail 19 = .ok (.iload_n 3, 1) := by decide +kernel
theorem dX8_trail_20 : decode cX8_trail 20 = .ok (.iconst 1, 1) := by decide +kernel
theorem dX8_trail_21 : decode cX8_trail 21 = .ok (.if_icmp .le 6, 3) := by decide +kernel
theorem dX8_trail_24 : decode cX8_trail 24 = .ok (.ldc 88, 2) := by decide +kernel
theorem dX8_trail_26 : decode cX8_trail 26 = .ok (.ireturn, 1) := by decide +kernel
theorem dX8_trail_27 : decode cX8_trail 27 = .ok (.aload_n 0, 1) := by decide +kernel
theorem dX8_trail_28 : decode cX8_trail 28 = .ok (.iload_n 2, 1) := by decide +kernel
theorem dX8_trail_29 : decode cX8_trail 29 = .ok (.iload_n 1, 1) := by decide +kernel
theorem dX8_trail_30 : decode cX8_trail 30 = .ok (.invokevirtual 212, 3) := by decide +kernel
theorem dX8_trail_33 : decode cX8_trail 33 = .ok (.istore 4, 2) := by decide +kernel
theorem dX8_trail_35 : decode cX8_trail 35 = .ok (.iload 4, 2) := by decide +kernel
theorem dX8_trail_37 : decode cX8_trail 37 = .ok (.iconst (-1), 1) := by decide +kernel
theorem dX8_trail_38 : decode cX8_trail 38 = .ok (.if_icmp .eq 7, 3) := by decide +kernel
theorem dX8_trail_41 : decode cX8_trail 41 = .ok (.iload_n 3, 1) := by decide +kernel
theorem dX8_trail_42 : decode cX8_trail 42 = .ok (.ifCond .ne 6, 3) := by decide +kernel
theorem dX8_trail_45 : decode cX8_trail 45 = .ok (.iload 4, 2) := by decide +kernel
theorem dX8_trail_47 : decode cX8_trail 47 = .ok (.ireturn, 1) := by decide +kernel
theorem dX8_trail_48 : decode cX8_trail 48 = .ok (.aload_n 0, 1) := by decide +kernel
theorem dX8_trail_49 : decode cX8_trail 49 = .ok (.getfield 12, 3) := by decide +kernel
theorem dX8_trail_52 : decode cX8_trail 52 = .ok (.getfield 159, 3) := by decide +kernel
theorem dX8_trail_55 : decode cX8_trail 55 = .ok (.iload 4, 2) := by decide +kernel
theorem dX8_trail_57 : decode cX8_trail 57 = .ok (.iaload, 1) := by decide +kernel
theorem dX8_trail_58 : decode cX8_trail 58 = .ok (.iload_n 2, 1) := by decide +kernel
theorem dX8_trail_59 : decode cX8_trail 59 = .ok (.if_icmp .ne 16, 3) := by decide +kernel
theorem dX8_trail_62 : decode cX8_trail 62 = .ok (.aload_n 0, 1) := by decide +kernel
theorem dX8_trail_63 : decode cX8_trail 63 = .ok (.getfield 12, 3) := by decide +kernel
theorem dX8_trail_66 : decode cX8_trail 66 = .ok (.getfield 162, 3) := by decide +kernel
theorem dX8_trail_69 : decode cX8_trail 69 = .ok (.iload 4, 2) := by decide +kernel
theorem dX8_trail_71 : decode cX8_trail 71 = .ok (.iaload, 1) := by decide +kernel
theorem dX8_trail_72 : decode cX8_trail 72 = .ok (.goto 13, 3) := by decide +kernel
theorem dX8_trail_75 : decode cX8_trail 75 = .ok (.aload_n 0, 1) := by decide +kernel
theorem dX8_trail_76 : decode cX8_trail 76 = .ok (.getfield 12, 3) := by decide +kernel
theorem dX8_trail_79 : decode cX8_trail 79 = .ok (.getfield 159, 3) := by decide +kernel
theorem dX8_trail_82 : decode cX8_trail 82 = .ok (.iload 4, 2) := by decide +kernel
theorem dX8_trail_84 : decode cX8_trail 84 = .ok (.iaload, 1) := by decide +kernel
theorem dX8_trail_85 : decode cX8_trail 85 = .ok (.ireturn, 1) := by decide +kernel
theorem dX8_came_0 : decode cX8_came 0 = .ok (.aload_n 0, 1) := by decide +kernel
theorem dX8_came_1 : decode cX8_came 1 = .ok (.getfield 12, 3) := by decide +kernel
theorem dX8_came_4 : decode cX8_came 4 = .ok (.iload_n 1, 1) := by decide +kernel
theorem dX8_came_5 : decode cX8_came 5 = .ok (.iload_n 2, 1) := by decide +kernel
theorem dX8_came_6 : decode cX8_came 6 = .ok (.invokevirtual 140, 3) := by decide +kernel
theorem dX8_came_9 : decode cX8_came 9 = .ok (.ifCond .eq 21, 3) := by decide +kernel
theorem dX8_came_12 : decode cX8_came 12 = .ok (.aload_n 0, 1) := by decide +kernel
theorem dX8_came_13 : decode cX8_came 13 = .ok (.getfield 12, 3) := by decide +kernel
theorem dX8_came_16 : decode cX8_came 16 = .ok (.iload 4, 2) := by decide +kernel
theorem dX8_came_18 : decode cX8_came 18 = .ok (.invokevirtual 215, 3) := by decide +kernel
theorem dX8_came_21 : decode cX8_came 21 = .ok (.ifCond .eq 9, 3) := by decide +kernel
theorem dX8_came_24 : decode cX8_came 24 = .ok (.iload_n 2, 1) := by decide +kernel
theorem dX8_came_25 : decode cX8_came 25 = .ok (.iload 4, 2) := by decide +kernel
theorem dX8_came_27 : decode cX8_came 27 = .ok (.if_icmp .ne 6, 3) := by decide +kernel
theorem dX8_came_30 : decode cX8_came 30 = .ok (.ldc 151, 2) := by decide +kernel
theorem dX8_came_32 : decode cX8_came 32 = .ok (.ireturn, 1) := by decide +kernel
theorem dX8_came_33 : decode cX8_came 33 = .ok (.iload_n 3, 1) := by decide +kernel
theorem dX8_came_34 : decode cX8_came 34 = .ok (.invokestatic 218, 3) := by decide +kernel
theorem dX8_came_37 : decode cX8_came 37 = .ok (.ifCond .eq 11, 3) := by decide +kernel
theorem dX8_came_40 : decode cX8_came 40 = .ok (.iload 5, 2) := by decide +kernel
theorem dX8_came_42 : decode cX8_came 42 = .ok (.invokestatic 218, 3) := by decide +kernel
theorem dX8_came_45 : decode cX8_came 45 = .ok (.ifCond .ne 6, 3) := by decide +kernel
theorem dX8_came_48 : decode cX8_came 48 = .ok (.ldc 88, 2) := by decide +kernel
theorem dX8_came_50 : decode cX8_came 50 = .ok (.ireturn, 1) := by decide +kernel
theorem dX8_came_51 : decode cX8_came 51 = .ok (.aload_n 0, 1) := by decide +kernel
theorem dX8_came_52 : decode cX8_came 52 = .ok (.getfield 26, 3) := by decide +kernel
theorem dX8_came_55 : decode cX8_came 55 = .ok (.iload_n 1, 1) := by decide +kernel
theorem dX8_came_56 : decode cX8_came 56 = .ok (.iload_n 2, 1) := by decide +kernel
theorem dX8_came_57 : decode cX8_came 57 = .ok (.iload_n 3, 1) := by decide +kernel
theorem dX8_came_58 : decode cX8_came 58 = .ok (.iload 4, 2) := by decide +kernel
theorem dX8_came_60 : decode cX8_came 60 = .ok (.iload 5, 2) := by decide +kernel
theorem dX8_came_62 : decode cX8_came 62 = .ok (.invokevirtual 221, 3) := by decide +kernel
theorem dX8_came_65 : decode cX8_came 65 = .ok (.aload_n 0, 1) := by decide +kernel
theorem dX8_came_66 : decode cX8_came 66 = .ok (.getfield 26, 3) := by decide +kernel
theorem dX8_came_69 : decode cX8_came 69 = .ok (.aload_n 0, 1) := by decide +kernel
theorem dX8_came_70 : decode cX8_came 70 = .ok (.getfield 12, 3) := by decide +kernel
theorem dX8_came_73 : decode cX8_came 73 = .ok (.aload_n 0, 1) := by decide +kernel
theorem dX8_came_74 : decode cX8_came 74 = .ok (.getfield 47, 3) := by decide +kernel
theorem dX8_came_77 : decode cX8_came 77 = .ok (.invokevirtual 225, 3) := by decide +kernel
theorem dX8_came_80 : decode cX8_came 80 = .ok (.aload_n 0, 1) := by decide +kernel
theorem dX8_came_81 : decode cX8_came 81 = .ok (.getfield 26, 3) := by decide +kernel
theorem dX8_came_84 : decode cX8_came 84 = .ok (.getfield 229, 3) := by decide +kernel
theorem dX8_came_87 : decode cX8_came 87 = .ok (.iconst (-1), 1) := by decide +kernel
theorem dX8_came_88 : decode cX8_came 88 = .ok (.if_icmp .eq 9, 3) := by decide +kernel
theorem dX8_came_91 : decode cX8_came 91 = .ok (.iload 6, 2) := by decide +kernel
theorem dX8_came_93 : decode cX8_came 93 = .ok (.iconst (-1), 1) := by decide +kernel
theorem dX8_came_94 : decode cX8_came 94 = .ok (.if_icmp .ne 11, 3) := by decide +kernel
theorem dX8_came_97 : decode cX8_came 97 = .ok (.aload_n 0, 1) := by decide +kernel
theorem dX8_came_98 : decode cX8_came 98 = .ok (.getfield 26, 3) := by decide +kernel
theorem dX8_came_101 : decode cX8_came 101 = .ok (.getfield 229, 3) := by decide +kernel
theorem dX8_came_104 : decode cX8_came 104 = .ok (.ireturn, 1) := by decide +kernel
theorem dX8_came_105 : decode cX8_came 105 = .ok (.iload 6, 2) := by decide +kernel
theorem dX8_came_107 : decode cX8_came 107 = .ok (.bipush (-2), 2) := by decide +kernel
theorem dX8_came_109 : decode cX8_came 109 = .ok (.if_icmp .ne 11, 3) := by decide +kernel
theorem dX8_came_112 : decode cX8_came 112 = .ok (.aload_n 0, 1) := by decide +kernel
theorem dX8_came_113 : decode cX8_came 113 = .ok (.getfield 26, 3) := by decide +kernel
theorem dX8_came_116 : decode cX8_came 116 = .ok (.getfield 232, 3) := by decide +kernel
theorem dX8_came_119 : decode cX8_came 119 = .ok (.ireturn, 1) := by decide +kernel
theorem dX8_came_120 : decode cX8_came 120 = .ok (.iload 6, 2) := by decide +kernel
theorem dX8_came_122 : decode cX8_came 122 = .ok (.ifCond .lt 28, 3) := by decide +kernel
theorem dX8_came_125 : decode cX8_came 125 = .ok (.iload 6, 2) := by decide +kernel
theorem dX8_came_127 : decode cX8_came 127 = .ok (.aload_n 0, 1) := by decide +kernel
theorem dX8_came_128 : decode cX8_came 128 = .ok (.getfield 26, 3) := by decide +kernel
theorem dX8_came_131 : decode cX8_came 131 = .ok (.getfield 229, 3) := by decide +kernel
theorem dX8_came_134 : decode cX8_came 134 = .ok (.if_icmp .ge 16, 3) := by decide +kernel
theorem dX8_came_137 : decode cX8_came 137 = .ok (.aload_n 0, 1) := by decide +kernel
theorem dX8_came_138 : decode cX8_came 138 = .ok (.getfield 26, 3) := by decide +kernel
theorem dX8_came_141 : decode cX8_came 141 = .ok (.getfield 235, 3) := by decide +kernel
theorem dX8_came_144 : decode cX8_came 144 = .ok (.iload 6, 2) := by decide +kernel
theorem dX8_came_146 : decode cX8_came 146 = .ok (.iaload, 1) := by decide +kernel
theorem dX8_came_147 : decode cX8_came 147 = .ok (.goto 4, 3) := by decide +kernel
theorem dX8_came_150 : decode cX8_came 150 = .ok (.iconst (-1), 1) := by decide +kernel
theorem dX8_came_151 : decode cX8_came 151 = .ok (.ireturn, 1) := by decide +kernel
theorem dX8_met_0 : decode cX8_met 0 = .ok (.aload_n 0, 1) := by decide +kernel
theorem dX8_met_1 : decode cX8_met 1 = .ok (.getfield 12, 3) := by decide +kernel
theorem dX8_met_4 : decode cX8_met 4 = .ok (.iload_n 1, 1) := by decide +kernel
theorem dX8_met_5 : decode cX8_met 5 = .ok (.invokevirtual 215, 3) := by decide +kernel
theorem dX8_met_8 : decode cX8_met 8 = .ok (.ifCond .ne 6, 3) := by decide +kernel
theorem dX8_met_11 : decode cX8_met 11 = .ok (.ldc 151, 2) := by decide +kernel
theorem dX8_met_13 : decode cX8_met 13 = .ok (.ireturn, 1) := by decide +kernel
theorem dX8_met_14 : decode cX8_met 14 = .ok (.iload_n 2, 1) := by decide +kernel
theorem dX8_met_15 : decode cX8_met 15 = .ok (.invokestatic 218, 3) := by decide +kernel
theorem dX8_met_18 : decode cX8_met 18 = .ok (.ifCond .eq 21, 3) := by decide +kernel
theorem dX8_met_21 : decode cX8_met 21 = .ok (.iload_n 3, 1) := by decide +kernel
theorem dX8_met_22 : decode cX8_met 22 = .ok (.invokestatic 218, 3) := by decide +kernel
theorem dX8_met_25 : decode cX8_met 25 = .ok (.ifCond .eq 14, 3) := by decide +kernel
theorem dX8_met_28 : decode cX8_met 28 = .ok (.iload 4, 2) := by decide +kernel
theorem dX8_met_30 : decode cX8_met 30 = .ok (.ifCond .lt 9, 3) := by decide +kernel
theorem dX8_met_33 : decode cX8_met 33 = .ok (.iload 4, 2) := by decide +kernel
theorem dX8_met_35 : decode cX8_met 35 = .ok (.iconst 1, 1) := by decide +kernel
theorem dX8_met_36 : decode cX8_met 36 = .ok (.if_icmp .le 6, 3) := by decide +kernel
theorem dX8_met_39 : decode cX8_met 39 = .ok (.ldc 88, 2) := by decide +kernel
theorem dX8_met_41 : decode cX8_met 41 = .ok (.ireturn, 1) := by decide +kernel
theorem dX8_met_42 : decode cX8_met 42 = .ok (.iconst 0, 1) := by decide +kernel
theorem dX8_met_43 : decode cX8_met 43 = .ok (.istore 5, 2) := by decide +kernel
theorem dX8_met_45 : decode cX8_met 45 = .ok (.iconst (-1), 1) := by decide +kernel
theorem dX8_met_46 : decode cX8_met 46 = .ok (.istore 6, 2) := by decide +kernel
theorem dX8_met_48 : decode cX8_met 48 = .ok (.iconst 0, 1) := by decide +kernel
theorem dX8_met_49 : decode cX8_met 49 = .ok (.istore 7, 2) := by decide +kernel
theorem dX8_met_51 : decode cX8_met 51 = .ok (.iload 7, 2) := by decide +kernel
theorem dX8_met_53 : decode cX8_met 53 = .ok (.aload_n 0, 1) := by decide +kernel
theorem dX8_met_54 : decode cX8_met 54 = .ok (.getfield 12, 3) := by decide +kernel
theorem dX8_met_57 : decode cX8_met 57 = .ok (.getfield 111, 3) := by decide +kernel
theorem dX8_met_60 : decode cX8_met 60 = .ok (.if_icmp .ge 70, 3) := by decide +kernel
theorem dX8_met_63 : decode cX8_met 63 = .ok (.iload 7, 2) := by decide +kernel
theorem dX8_met_65 : decode cX8_met 65 = .ok (.iconst 1, 1) := by decide +kernel
theorem dX8_met_66 : decode cX8_met 66 = .ok (.iadd, 1) := by decide +kernel
theorem dX8_met_67 : decode cX8_met 67 = .ok (.istore 8, 2) := by decide +kernel
theorem dX8_met_69 : decode cX8_met 69 = .ok (.iload 8, 2) := by decide +kernel
theorem dX8_met_71 : decode cX8_met 71 = .ok (.aload_n 0, 1) := by decide +kernel
theorem dX8_met_72 : decode cX8_met 72 = .ok (.getfield 12, 3) := by decide +kernel
theorem dX8_met_75 : decode cX8_met 75 = .ok (.getfield 111, 3) := by decide +kernel
theorem dX8_met_78 : decode cX8_met 78 = .ok (.if_icmp .ge 46, 3) := by decide +kernel
theorem dX8_met_81 : decode cX8_met 81 = .ok (.aload_n 0, 1) := by decide +kernel
theorem dX8_met_82 : decode cX8_met 82 = .ok (.iload 7, 2) := by decide +kernel
theorem dX8_met_84 : decode cX8_met 84 = .ok (.iload 8, 2) := by decide +kernel
theorem dX8_met_86 : decode cX8_met 86 = .ok (.iload_n 1, 1) := by decide +kernel
theorem dX8_met_87 : decode cX8_met 87 = .ok (.iload_n 2, 1) := by decide +kernel
theorem dX8_met_88 : decode cX8_met 88 = .ok (.iload_n 3, 1) := by decide +kernel
theorem dX8_met_89 : decode cX8_met 89 = .ok (.invokevirtual 238, 3) := by decide +kernel
theorem dX8_met_92 : decode cX8_met 92 = .ok (.ifCond .eq 26, 3) := by decide +kernel
theorem dX8_met_95 : decode cX8_met 95 = .ok (.iload 5, 2) := by decide +kernel
theorem dX8_met_97 : decode cX8_met 97 = .ok (.ifCond .ne 14, 3) := by decide +kernel
theorem dX8_met_100 : decode cX8_met 100 = .ok (.bipush 10, 2) := by decide +kernel
theorem dX8_met_102 : decode cX8_met 102 = .ok (.iload 7, 2) := by decide +kernel
theorem dX8_met_104 : decode cX8_met 104 = .ok (.imul, 1) := by decide +kernel
theorem dX8_met_105 : decode cX8_met 105 = .ok (.iload 8, 2) := by decide +kernel
theorem dX8_met_107 : decode cX8_met 107 = .ok (.iadd, 1) := by decide +kernel
theorem dX8_met_108 : decode cX8_met 108 = .ok (.goto 5, 3) := by decide +kernel
theorem dX8_met_111 : decode cX8_met 111 = .ok (.iload 6, 2) := by decide +kernel
theorem dX8_met_113 : decode cX8_met 113 = .ok (.istore 6, 2) := by decide +kernel
theorem dX8_met_115 : decode cX8_met 115 = .ok (.iinc 5 1, 3) := by decide +kernel
theorem dX8_met_118 : decode cX8_met 118 = .ok (.iinc 8 1, 3) := by decide +kernel
theorem dX8_met_121 : decode cX8_met 121 = .ok (.goto (-52), 3) := by decide +kernel
theorem dX8_met_124 : decode cX8_met 124 = .ok (.iinc 7 1, 3) := by decide +kernel
theorem dX8_met_127 : decode cX8_met 127 = .ok (.goto (-76), 3) := by decide +kernel
theorem dX8_met_130 : decode cX8_met 130 = .ok (.iload 4, 2) := by decide +kernel
theorem dX8_met_132 : decode cX8_met 132 = .ok (.ifCond .ne 8, 3) := by decide +kernel
theorem dX8_met_135 : decode cX8_met 135 = .ok (.iload 5, 2) := by decide +kernel
theorem dX8_met_137 : decode cX8_met 137 = .ok (.goto 5, 3) := by decide +kernel
theorem dX8_met_140 : decode cX8_met 140 = .ok (.iload 6, 2) := by decide +kernel
theorem dX8_met_142 : decode cX8_met 142 = .ok (.ireturn, 1) := by decide +kernel
theorem dX8_leftOut_0 : decode cX8_leftOut 0 = .ok (.aload_n 0, 1) := by decide +kernel
theorem dX8_leftOut_1 : decode cX8_leftOut 1 = .ok (.getfield 12, 3) := by decide +kernel
theorem dX8_leftOut_4 : decode cX8_leftOut 4 = .ok (.iload_n 1, 1) := by decide +kernel
theorem dX8_leftOut_5 : decode cX8_leftOut 5 = .ok (.iload_n 2, 1) := by decide +kernel
theorem dX8_leftOut_6 : decode cX8_leftOut 6 = .ok (.invokevirtual 140, 3) := by decide +kernel
theorem dX8_leftOut_9 : decode cX8_leftOut 9 = .ok (.ifCond .ne 6, 3) := by decide +kernel
theorem dX8_leftOut_12 : decode cX8_leftOut 12 = .ok (.ldc 151, 2) := by decide +kernel
theorem dX8_leftOut_14 : decode cX8_leftOut 14 = .ok (.ireturn, 1) := by decide +kernel
theorem dX8_leftOut_15 : decode cX8_leftOut 15 = .ok (.iload_n 3, 1) := by decide +kernel
theorem dX8_leftOut_16 : decode cX8_leftOut 16 = .ok (.invokestatic 218, 3) := by decide +kernel
theorem dX8_leftOut_19 : decode cX8_leftOut 19 = .ok (.ifCond .eq 14, 3) := by decide +kernel
theorem dX8_leftOut_22 : decode cX8_leftOut 22 = .ok (.iload 4, 2) := by decide +kernel
theorem dX8_leftOut_24 : decode cX8_leftOut 24 = .ok (.ifCond .lt 9, 3) := by decide +kernel
theorem dX8_leftOut_27 : decode cX8_leftOut 27 = .ok (.iload 4, 2) := by decide +kernel
theorem dX8_leftOut_29 : decode cX8_leftOut 29 = .ok (.iconst 1, 1) := by decide +kernel
theorem dX8_leftOut_30 : decode cX8_leftOut 30 = .ok (.if_icmp .le 6, 3) := by decide +kernel
theorem dX8_leftOut_33 : decode cX8_leftOut 33 = .ok (.ldc 88, 2) := by decide +kernel
theorem dX8_leftOut_35 : decode cX8_leftOut 35 = .ok (.ireturn, 1) := by decide +kernel
theorem dX8_leftOut_36 : decode cX8_leftOut 36 = .ok (.aload_n 0, 1) := by decide +kernel
theorem dX8_leftOut_37 : decode cX8_leftOut 37 = .ok (.getfield 33, 3) := by decide +kernel
theorem dX8_leftOut_40 : decode cX8_leftOut 40 = .ok (.aload_n 0, 1) := by decide +kernel
theorem dX8_leftOut_41 : decode cX8_leftOut 41 = .ok (.getfield 12, 3) := by decide +kernel
theorem dX8_leftOut_44 : decode cX8_leftOut 44 = .ok (.aload_n 0, 1) := by decide +kernel
theorem dX8_leftOut_45 : decode cX8_leftOut 45 = .ok (.getfield 47, 3) := by decide +kernel
theorem dX8_leftOut_48 : decode cX8_leftOut 48 = .ok (.iload_n 1, 1) := by decide +kernel
theorem dX8_leftOut_49 : decode cX8_leftOut 49 = .ok (.iload_n 2, 1) := by decide +kernel
theorem dX8_leftOut_50 : decode cX8_leftOut 50 = .ok (.invokestatic 147, 3) := by decide +kernel
theorem dX8_leftOut_53 : decode cX8_leftOut 53 = .ok (.iload_n 3, 1) := by decide +kernel
theorem dX8_leftOut_54 : decode cX8_leftOut 54 = .ok (.invokevirtual 242, 3) := by decide +kernel
theorem dX8_leftOut_57 : decode cX8_leftOut 57 = .ok (.iload 4, 2) := by decide +kernel
theorem dX8_leftOut_59 : decode cX8_leftOut 59 = .ok (.ifCond .ne 13, 3) := by decide +kernel
theorem dX8_leftOut_62 : decode cX8_leftOut 62 = .ok (.aload_n 0, 1) := by decide +kernel
theorem dX8_leftOut_63 : decode cX8_leftOut 63 = .ok (.getfield 33, 3) := by decide +kernel
theorem dX8_leftOut_66 : decode cX8_leftOut 66 = .ok (.getfield 245, 3) := by decide +kernel
theorem dX8_leftOut_69 : decode cX8_leftOut 69 = .ok (.goto 10, 3) := by decide +kernel
theorem dX8_leftOut_72 : decode cX8_leftOut 72 = .ok (.aload_n 0, 1) := by decide +kernel
theorem dX8_leftOut_73 : decode cX8_leftOut 73 = .ok (.getfield 33, 3) := by decide +kernel
theorem dX8_leftOut_76 : decode cX8_leftOut 76 = .ok (.getfield 246, 3) := by decide +kernel
theorem dX8_leftOut_79 : decode cX8_leftOut 79 = .ok (.ireturn, 1) := by decide +kernel
theorem dX8_washes_0 : decode cX8_washes 0 = .ok (.aload_n 0, 1) := by decide +kernel
theorem dX8_washes_1 : decode cX8_washes 1 = .ok (.getfield 12, 3) := by decide +kernel
theorem dX8_washes_4 : decode cX8_washes 4 = .ok (.iload_n 1, 1) := by decide +kernel
theorem dX8_washes_5 : decode cX8_washes 5 = .ok (.invokevirtual 215, 3) := by decide +kernel
theorem dX8_washes_8 : decode cX8_washes 8 = .ok (.ifCond .ne 6, 3) := by decide +kernel
theorem dX8_washes_11 : decode cX8_washes 11 = .ok (.ldc 151, 2) := by decide +kernel
theorem dX8_washes_13 : decode cX8_washes 13 = .ok (.ireturn, 1) := by decide +kernel
theorem dX8_washes_14 : decode cX8_washes 14 = .ok (.iload_n 2, 1) := by decide +kernel
theorem dX8_washes_15 : decode cX8_washes 15 = .ok (.invokestatic 218, 3) := by decide +kernel
theorem dX8_washes_18 : decode cX8_washes 18 = .ok (.ifCond .ne 6, 3) := by decide +kernel
theorem dX8_washes_21 : decode cX8_washes 21 = .ok (.ldc 88, 2) := by decide +kernel
theorem dX8_washes_23 : decode cX8_washes 23 = .ok (.ireturn, 1) := by decide +kernel
theorem dX8_washes_24 : decode cX8_washes 24 = .ok (.aload_n 0, 1) := by decide +kernel
theorem dX8_washes_25 : decode cX8_washes 25 = .ok (.getfield 47, 3) := by decide +kernel
theorem dX8_washes_28 : decode cX8_washes 28 = .ok (.getfield 144, 3) := by decide +kernel
theorem dX8_washes_31 : decode cX8_washes 31 = .ok (.aload_n 0, 1) := by decide +kernel
theorem dX8_washes_32 : decode cX8_washes 32 = .ok (.getfield 78, 3) := by decide +kernel
theorem dX8_washes_35 : decode cX8_washes 35 = .ok (.invokestatic 172, 3) := by decide +kernel
theorem dX8_washes_38 : decode cX8_washes 38 = .ok (.aload_n 0, 1) := by decide +kernel
theorem dX8_washes_39 : decode cX8_washes 39 = .ok (.getfield 12, 3) := by decide +kernel
theorem dX8_washes_42 : decode cX8_washes 42 = .ok (.aload_n 0, 1) := by decide +kernel
theorem dX8_washes_43 : decode cX8_washes 43 = .ok (.getfield 78, 3) := by decide +kernel
theorem dX8_washes_46 : decode cX8_washes 46 = .ok (.aload_n 0, 1) := by decide +kernel
theorem dX8_washes_47 : decode cX8_washes 47 = .ok (.getfield 47, 3) := by decide +kernel
theorem dX8_washes_50 : decode cX8_washes 50 = .ok (.getfield 126, 3) := by decide +kernel
theorem dX8_washes_53 : decode cX8_washes 53 = .ok (.iconst 0, 1) := by decide +kernel
theorem dX8_washes_54 : decode cX8_washes 54 = .ok (.invokevirtual 196, 3) := by decide +kernel
theorem dX8_washes_57 : decode cX8_washes 57 = .ok (.iconst 0, 1) := by decide +kernel
theorem dX8_washes_58 : decode cX8_washes 58 = .ok (.istore_n 3, 1) := by decide +kernel
theorem dX8_washes_59 : decode cX8_washes 59 = .ok (.iconst 0, 1) := by decide +kernel
theorem dX8_washes_60 : decode cX8_washes 60 = .ok (.istore 4, 2) := by decide +kernel
theorem dX8_washes_62 : decode cX8_washes 62 = .ok (.iload 4, 2) := by decide +kernel
theorem dX8_washes_64 : decode cX8_washes 64 = .ok (.aload_n 0, 1) := by decide +kernel
theorem dX8_washes_65 : decode cX8_washes 65 = .ok (.getfield 12, 3) := by decide +kernel
theorem dX8_washes_68 : decode cX8_washes 68 = .ok (.getfield 111, 3) := by decide +kernel
theorem dX8_washes_71 : decode cX8_washes 71 = .ok (.if_icmp .ge 66, 3) := by decide +kernel
theorem dX8_washes_74 : decode cX8_washes 74 = .ok (.aload_n 0, 1) := by decide +kernel
theorem dX8_washes_75 : decode cX8_washes 75 = .ok (.getfield 78, 3) := by decide +kernel
theorem dX8_washes_78 : decode cX8_washes 78 = .ok (.iload 4, 2) := by decide +kernel
theorem dX8_washes_80 : decode cX8_washes 80 = .ok (.iload_n 1, 1) := by decide +kernel
theorem dX8_washes_81 : decode cX8_washes 81 = .ok (.invokestatic 147, 3) := by decide +kernel
theorem dX8_washes_84 : decode cX8_washes 84 = .ok (.iaload, 1) := by decide +kernel
theorem dX8_washes_85 : decode cX8_washes 85 = .ok (.iload_n 2, 1) := by decide +kernel
theorem dX8_washes_86 : decode cX8_washes 86 = .ok (.if_icmp .le 45, 3) := by decide +kernel
theorem dX8_washes_89 : decode cX8_washes 89 = .ok (.aload_n 0, 1) := by decide +kernel
theorem dX8_washes_90 : decode cX8_washes 90 = .ok (.getfield 12, 3) := by decide +kernel
theorem dX8_washes_93 : decode cX8_washes 93 = .ok (.getfield 129, 3) := by decide +kernel
theorem dX8_washes_96 : decode cX8_washes 96 = .ok (.iload 4, 2) := by decide +kernel
theorem dX8_washes_98 : decode cX8_washes 98 = .ok (.invokestatic 189, 3) := by decide +kernel
theorem dX8_washes_101 : decode cX8_washes 101 = .ok (.ifCond .ne 21, 3) := by decide +kernel
theorem dX8_washes_104 : decode cX8_washes 104 = .ok (.aload_n 0, 1) := by decide +kernel
theorem dX8_washes_105 : decode cX8_washes 105 = .ok (.getfield 12, 3) := by decide +kernel
theorem dX8_washes_108 : decode cX8_washes 108 = .ok (.getfield 152, 3) := by decide +kernel
theorem dX8_washes_111 : decode cX8_washes 111 = .ok (.iload 4, 2) := by decide +kernel
theorem dX8_washes_113 : decode cX8_washes 113 = .ok (.iload_n 1, 1) := by decide +kernel
theorem dX8_washes_114 : decode cX8_washes 114 = .ok (.invokestatic 147, 3) := by decide +kernel
theorem dX8_washes_117 : decode cX8_washes 117 = .ok (.iaload, 1) := by decide +kernel
theorem dX8_washes_118 : decode cX8_washes 118 = .ok (.iload_n 2, 1) := by decide +kernel
theorem dX8_washes_119 : decode cX8_washes 119 = .ok (.if_icmp .le 5, 3) := by decide +kernel
theorem dX8_washes_122 : decode cX8_washes 122 = .ok (.iconst (-1), 1) := by decide +kernel
theorem dX8_washes_123 : decode cX8_washes 123 = .ok (.ireturn, 1) := by decide +kernel
theorem dX8_washes_124 : decode cX8_washes 124 = .ok (.iload_n 3, 1) := by decide +kernel
theorem dX8_washes_125 : decode cX8_washes 125 = .ok (.iconst 1, 1) := by decide +kernel
theorem dX8_washes_126 : decode cX8_washes 126 = .ok (.iload 4, 2) := by decide +kernel
theorem dX8_washes_128 : decode cX8_washes 128 = .ok (.ishl, 1) := by decide +kernel
theorem dX8_washes_129 : decode cX8_washes 129 = .ok (.ior, 1) := by decide +kernel
theorem dX8_washes_130 : decode cX8_washes 130 = .ok (.istore_n 3, 1) := by decide +kernel
theorem dX8_washes_131 : decode cX8_washes 131 = .ok (.iinc 4 1, 3) := by decide +kernel
theorem dX8_washes_134 : decode cX8_washes 134 = .ok (.goto (-72), 3) := by decide +kernel
theorem dX8_washes_137 : decode cX8_washes 137 = .ok (.iload_n 3, 1) := by decide +kernel
theorem dX8_washes_138 : decode cX8_washes 138 = .ok (.ireturn, 1) := by decide +kernel
theorem dX8_rest_0 : decode cX8_rest 0 = .ok (.iload_n 1, 1) := by decide +kernel
theorem dX8_rest_1 : decode cX8_rest 1 = .ok (.iconst (-1), 1) := by decide +kernel
theorem dX8_rest_2 : decode cX8_rest 2 = .ok (.if_icmp .eq 18, 3) := by decide +kernel
theorem dX8_rest_5 : decode cX8_rest 5 = .ok (.aload_n 0, 1) := by decide +kernel
theorem dX8_rest_6 : decode cX8_rest 6 = .ok (.getfield 12, 3) := by decide +kernel
theorem dX8_rest_9 : decode cX8_rest 9 = .ok (.iload_n 1, 1) := by decide +kernel
theorem dX8_rest_10 : decode cX8_rest 10 = .ok (.iload_n 2, 1) := by decide +kernel
theorem dX8_rest_11 : decode cX8_rest 11 = .ok (.invokevirtual 140, 3) := by decide +kernel
theorem dX8_rest_14 : decode cX8_rest 14 = .ok (.ifCond .ne 6, 3) := by decide +kernel
theorem dX8_rest_17 : decode cX8_rest 17 = .ok (.ldc 151, 2) := by decide +kernel
theorem dX8_rest_19 : decode cX8_rest 19 = .ok (.ireturn, 1) := by decide +kernel
theorem dX8_rest_20 : decode cX8_rest 20 = .ok (.aload_n 0, 1) := by decide +kernel
theorem dX8_rest_21 : decode cX8_rest 21 = .ok (.invokevirtual 249, 3) := by decide +kernel
theorem dX8_rest_24 : decode cX8_rest 24 = .ok (.istore_n 3, 1) := by decide +kernel
theorem dX8_rest_25 : decode cX8_rest 25 = .ok (.iload_n 1, 1) := by decide +kernel
theorem dX8_rest_26 : decode cX8_rest 26 = .ok (.iconst (-1), 1) := by decide +kernel
theorem dX8_rest_27 : decode cX8_rest 27 = .ok (.if_icmp .eq 8, 3) := by decide +kernel
theorem dX8_rest_30 : decode cX8_rest 30 = .ok (.iload_n 3, 1) := by decide +kernel
theorem dX8_rest_31 : decode cX8_rest 31 = .ok (.iconst (-1), 1) := by decide +kernel
theorem dX8_rest_32 : decode cX8_rest 32 = .ok (.if_icmp .ne 5, 3) := by decide +kernel
theorem dX8_rest_35 : decode cX8_rest 35 = .ok (.iload_n 3, 1) := by decide +kernel
theorem dX8_rest_36 : decode cX8_rest 36 = .ok (.ireturn, 1) := by decide +kernel
theorem dX8_rest_37 : decode cX8_rest 37 = .ok (.aload_n 0, 1) := by decide +kernel
theorem dX8_rest_38 : decode cX8_rest 38 = .ok (.getfield 78, 3) := by decide +kernel
theorem dX8_rest_41 : decode cX8_rest 41 = .ok (.iload_n 1, 1) := by decide +kernel
theorem dX8_rest_42 : decode cX8_rest 42 = .ok (.iload_n 2, 1) := by decide +kernel
theorem dX8_rest_43 : decode cX8_rest 43 = .ok (.invokestatic 147, 3) := by decide +kernel
theorem dX8_rest_46 : decode cX8_rest 46 = .ok (.iaload, 1) := by decide +kernel
theorem dX8_rest_47 : decode cX8_rest 47 = .ok (.ireturn, 1) := by decide +kernel
theorem dX8_rain_0 : decode cX8_rain 0 = .ok (.aload_n 0, 1) := by decide +kernel
theorem dX8_rain_1 : decode cX8_rain 1 = .ok (.getfield 12, 3) := by decide +kernel
theorem dX8_rain_4 : decode cX8_rain 4 = .ok (.iload_n 1, 1) := by decide +kernel
theorem dX8_rain_5 : decode cX8_rain 5 = .ok (.invokevirtual 215, 3) := by decide +kernel
theorem dX8_rain_8 : decode cX8_rain 8 = .ok (.ifCond .ne 6, 3) := by decide +kernel
theorem dX8_rain_11 : decode cX8_rain 11 = .ok (.ldc 151, 2) := by decide +kernel
theorem dX8_rain_13 : decode cX8_rain 13 = .ok (.ireturn, 1) := by decide +kernel
theorem dX8_rain_14 : decode cX8_rain 14 = .ok (.iload_n 2, 1) := by decide +kernel
theorem dX8_rain_15 : decode cX8_rain 15 = .ok (.invokestatic 218, 3) := by decide +kernel
theorem dX8_rain_18 : decode cX8_rain 18 = .ok (.ifCond .eq 13, 3) := by decide +kernel
theorem dX8_rain_21 : decode cX8_rain 21 = .ok (.iload_n 3, 1) := by decide +kernel
theorem dX8_rain_22 : decode cX8_rain 22 = .ok (.ifCond .lt 9, 3) := by decide +kernel
theorem dX8_rain_25 : decode cX8_rain 25 = .ok (.iload_n 3, 1) := by decide +kernel
theorem dX8_rain_26 : decode cX8_rain 26 = .ok (.bipush 100, 2) := by decide +kernel
theorem dX8_rain_28 : decode cX8_rain 28 = .ok (.if_icmp .le 6, 3) := by decide +kernel
theorem dX8_rain_31 : decode cX8_rain 31 = .ok (.ldc 88, 2) := by decide +kernel
theorem dX8_rain_33 : decode cX8_rain 33 = .ok (.ireturn, 1) := by decide +kernel
theorem dX8_rain_34 : decode cX8_rain 34 = .ok (.ldc2_w 253, 3) := by decide +kernel
theorem dX8_rain_37 : decode cX8_rain 37 = .ok (.lstore 4, 2) := by decide +kernel
theorem dX8_rain_39 : decode cX8_rain 39 = .ok (.iconst 0, 1) := by decide +kernel
theorem dX8_rain_40 : decode cX8_rain 40 = .ok (.istore 6, 2) := by decide +kernel
theorem dX8_rain_42 : decode cX8_rain 42 = .ok (.iload 6, 2) := by decide +kernel
theorem dX8_rain_44 : decode cX8_rain 44 = .ok (.aload_n 0, 1) := by decide +kernel
theorem dX8_rain_45 : decode cX8_rain 45 = .ok (.getfield 12, 3) := by decide +kernel
theorem dX8_rain_48 : decode cX8_rain 48 = .ok (.getfield 111, 3) := by decide +kernel
theorem dX8_rain_51 : decode cX8_rain 51 = .ok (.if_icmp .ge 53, 3) := by decide +kernel
theorem dX8_rain_54 : decode cX8_rain 54 = .ok (.aload_n 0, 1) := by decide +kernel
theorem dX8_rain_55 : decode cX8_rain 55 = .ok (.getfield 47, 3) := by decide +kernel
theorem dX8_rain_58 : decode cX8_rain 58 = .ok (.getfield 144, 3) := by decide +kernel
theorem dX8_rain_61 : decode cX8_rain 61 = .ok (.iload 6, 2) := by decide +kernel
theorem dX8_rain_63 : decode cX8_rain 63 = .ok (.iload_n 1, 1) := by decide +kernel
theorem dX8_rain_64 : decode cX8_rain 64 = .ok (.invokestatic 147, 3) := by decide +kernel
theorem dX8_rain_67 : decode cX8_rain 67 = .ok (.iaload, 1) := by decide +kernel
theorem dX8_rain_68 : decode cX8_rain 68 = .ok (.iload_n 2, 1) := by decide +kernel
theorem dX8_rain_69 : decode cX8_rain 69 = .ok (.if_icmp .le 29, 3) := by decide +kernel
theorem dX8_rain_72 : decode cX8_rain 72 = .ok (.aload_n 0, 1) := by decide +kernel
theorem dX8_rain_73 : decode cX8_rain 73 = .ok (.getfield 12, 3) := by decide +kernel
theorem dX8_rain_76 : decode cX8_rain 76 = .ok (.getfield 129, 3) := by decide +kernel
theorem dX8_rain_79 : decode cX8_rain 79 = .ok (.iload 6, 2) := by decide +kernel
theorem dX8_rain_81 : decode cX8_rain 81 = .ok (.invokestatic 189, 3) := by decide +kernel
theorem dX8_rain_84 : decode cX8_rain 84 = .ok (.ifCond .ne 14, 3) := by decide +kernel
theorem dX8_rain_87 : decode cX8_rain 87 = .ok (.lload 4, 2) := by decide +kernel
theorem dX8_rain_89 : decode cX8_rain 89 = .ok (.iload_n 3, 1) := by decide +kernel
theorem dX8_rain_90 : decode cX8_rain 90 = .ok (.i2l, 1) := by decide +kernel
theorem dX8_rain_91 : decode cX8_rain 91 = .ok (.lmul, 1) := by decide +kernel
theorem dX8_rain_92 : decode cX8_rain 92 = .ok (.ldc2_w 255, 3) := by decide +kernel
theorem dX8_rain_95 : decode cX8_rain 95 = .ok (.ldiv, 1) := by decide +kernel
theorem dX8_rain_96 : decode cX8_rain 96 = .ok (.lstore 4, 2) := by decide +kernel
theorem dX8_rain_98 : decode cX8_rain 98 = .ok (.iinc 6 1, 3) := by decide +kernel
theorem dX8_rain_101 : decode cX8_rain 101 = .ok (.goto (-59), 3) := by decide +kernel
theorem dX8_rain_104 : decode cX8_rain 104 = .ok (.lload 4, 2) := by decide +kernel
theorem dX8_rain_106 : decode cX8_rain 106 = .ok (.l2i, 1) := by decide +kernel
theorem dX8_rain_107 : decode cX8_rain 107 = .ok (.ireturn, 1) := by decide +kernel
theorem dX8_blend_0 : decode cX8_blend 0 = .ok (.iload_n 1, 1) := by decide +kernel
theorem dX8_blend_1 : decode cX8_blend 1 = .ok (.ifCond .lt 26, 3) := by decide +kernel
theorem dX8_blend_4 : decode cX8_blend 4 = .ok (.iload_n 1, 1) := by decide +kernel
theorem dX8_blend_5 : decode cX8_blend 5 = .ok (.aload_n 0, 1) := by decide +kernel
theorem dX8_blend_6 : decode cX8_blend 6 = .ok (.getfield 12, 3) := by decide +kernel
theorem dX8_blend_9 : decode cX8_blend 9 = .ok (.getfield 111, 3) := by decide +kernel
theorem dX8_blend_12 : decode cX8_blend 12 = .ok (.ishr, 1) := by decide +kernel
theorem dX8_blend_13 : decode cX8_blend 13 = .ok (.ifCond .ne 14, 3) := by decide +kernel
theorem dX8_blend_16 : decode cX8_blend 16 = .ok (.aload_n 0, 1) := by decide +kernel
theorem dX8_blend_17 : decode cX8_blend 17 = .ok (.getfield 12, 3) := by decide +kernel
theorem dX8_blend_20 : decode cX8_blend 20 = .ok (.iload_n 2, 1) := by decide +kernel
theorem dX8_blend_21 : decode cX8_blend 21 = .ok (.invokevirtual 215, 3) := by decide +kernel
theorem dX8_blend_24 : decode cX8_blend 24 = .ok (.ifCond .ne 6, 3) := by decide +kernel
theorem dX8_blend_27 : decode cX8_blend 27 = .ok (.ldc 151, 2) := by decide +kernel
theorem dX8_blend_29 : decode cX8_blend 29 = .ok (.ireturn, 1) := by decide +kernel
theorem dX8_blend_30 : decode cX8_blend 30 = .ok (.iconst 0, 1) := by decide +kernel
theorem dX8_blend_31 : decode cX8_blend 31 = .ok (.istore_n 3, 1) := by decide +kernel
theorem dX8_blend_32 : decode cX8_blend 32 = .ok (.iconst 0, 1) := by decide +kernel
theorem dX8_blend_33 : decode cX8_blend 33 = .ok (.istore 4, 2) := by decide +kernel
theorem dX8_blend_35 : decode cX8_blend 35 = .ok (.iconst 0, 1) := by decide +kernel
theorem dX8_blend_36 : decode cX8_blend 36 = .ok (.istore 5, 2) := by decide +kernel
theorem dX8_blend_38 : decode cX8_blend 38 = .ok (.iload 5, 2) := by decide +kernel
theorem dX8_blend_40 : decode cX8_blend 40 = .ok (.aload_n 0, 1) := by decide +kernel
theorem dX8_blend_41 : decode cX8_blend 41 = .ok (.getfield 12, 3) := by decide +kernel
theorem dX8_blend_44 : decode cX8_blend 44 = .ok (.getfield 111, 3) := by decide +kernel
theorem dX8_blend_47 : decode cX8_blend 47 = .ok (.if_icmp .ge 38, 3) := by decide +kernel
theorem dX8_blend_50 : decode cX8_blend 50 = .ok (.iload_n 1, 1) := by decide +kernel
theorem dX8_blend_51 : decode cX8_blend 51 = .ok (.iload 5, 2) := by decide +kernel
theorem dX8_blend_53 : decode cX8_blend 53 = .ok (.invokestatic 189, 3) := by decide +kernel
theorem dX8_blend_56 : decode cX8_blend 56 = .ok (.ifCond .eq 23, 3) := by decide +kernel
theorem dX8_blend_59 : decode cX8_blend 59 = .ok (.iload_n 3, 1) := by decide +kernel
theorem dX8_blend_60 : decode cX8_blend 60 = .ok (.aload_n 0, 1) := by decide +kernel
theorem dX8_blend_61 : decode cX8_blend 61 = .ok (.getfield 47, 3) := by decide +kernel
theorem dX8_blend_64 : decode cX8_blend 64 = .ok (.getfield 144, 3) := by decide +kernel
theorem dX8_blend_67 : decode cX8_blend 67 = .ok (.iload 5, 2) := by decide +kernel
theorem dX8_blend_69 : decode cX8_blend 69 = .ok (.iload_n 2, 1) := by decide +kernel
theorem dX8_blend_70 : decode cX8_blend 70 = .ok (.invokestatic 147, 3) := by decide +kernel
theorem dX8_blend_73 : decode cX8_blend 73 = .ok (.iaload, 1) := by decide +kernel
theorem dX8_blend_74 : decode cX8_blend 74 = .ok (.iadd, 1) := by decide +kernel
theorem dX8_blend_75 : decode cX8_blend 75 = .ok (.istore_n 3, 1) := by decide +kernel
theorem dX8_blend_76 : decode cX8_blend 76 = .ok (.iinc 4 1, 3) := by decide +kernel
theorem dX8_blend_79 : decode cX8_blend 79 = .ok (.iinc 5 1, 3) := by decide +kernel
theorem dX8_blend_82 : decode cX8_blend 82 = .ok (.goto (-44), 3) := by decide +kernel
theorem dX8_blend_85 : decode cX8_blend 85 = .ok (.iload 4, 2) := by decide +kernel
theorem dX8_blend_87 : decode cX8_blend 87 = .ok (.ifCond .ne 7, 3) := by decide +kernel
theorem dX8_blend_90 : decode cX8_blend 90 = .ok (.iconst (-1), 1) := by decide +kernel
theorem dX8_blend_91 : decode cX8_blend 91 = .ok (.goto 7, 3) := by decide +kernel
theorem dX8_blend_94 : decode cX8_blend 94 = .ok (.iload_n 3, 1) := by decide +kernel
theorem dX8_blend_95 : decode cX8_blend 95 = .ok (.iload 4, 2) := by decide +kernel
theorem dX8_blend_97 : decode cX8_blend 97 = .ok (.idiv, 1) := by decide +kernel
theorem dX8_blend_98 : decode cX8_blend 98 = .ok (.ireturn, 1) := by decide +kernel
theorem dX8_see_0 : decode cX8_see 0 = .ok (.aload_n 0, 1) := by decide +kernel
theorem dX8_see_1 : decode cX8_see 1 = .ok (.aload_n 0, 1) := by decide +kernel
theorem dX8_see_2 : decode cX8_see 2 = .ok (.getfield 63, 3) := by decide +kernel
theorem dX8_see_5 : decode cX8_see 5 = .ok (.iload_n 1, 1) := by decide +kernel
theorem dX8_see_6 : decode cX8_see 6 = .ok (.iload_n 2, 1) := by decide +kernel
theorem dX8_see_7 : decode cX8_see 7 = .ok (.iload_n 3, 1) := by decide +kernel
theorem dX8_see_8 : decode cX8_see 8 = .ok (.invokevirtual 257, 3) := by decide +kernel
theorem dX8_see_11 : decode cX8_see 11 = .ok (.ireturn, 1) := by decide +kernel
theorem dX8_gap_0 : decode cX8_gap 0 = .ok (.aload_n 0, 1) := by decide +kernel
theorem dX8_gap_1 : decode cX8_gap 1 = .ok (.getfield 40, 3) := by decide +kernel
theorem dX8_gap_4 : decode cX8_gap 4 = .ok (.aload_n 0, 1) := by decide +kernel
theorem dX8_gap_5 : decode cX8_gap 5 = .ok (.getfield 12, 3) := by decide +kernel
theorem dX8_gap_8 : decode cX8_gap 8 = .ok (.aload_n 0, 1) := by decide +kernel
theorem dX8_gap_9 : decode cX8_gap 9 = .ok (.getfield 47, 3) := by decide +kernel
theorem dX8_gap_12 : decode cX8_gap 12 = .ok (.aload_n 0, 1) := by decide +kernel
theorem dX8_gap_13 : decode cX8_gap 13 = .ok (.getfield 63, 3) := by decide +kernel
theorem dX8_gap_16 : decode cX8_gap 16 = .ok (.invokevirtual 261, 3) := by decide +kernel
theorem dX8_gap_19 : decode cX8_gap 19 = .ok (.ireturn, 1) := by decide +kernel
theorem dX8_look_0 : decode cX8_look 0 = .ok (.aload_n 0, 1) := by decide +kernel
theorem dX8_look_1 : decode cX8_look 1 = .ok (.getfield 40, 3) := by decide +kernel
theorem dX8_look_4 : decode cX8_look 4 = .ok (.aload_n 0, 1) := by decide +kernel
theorem dX8_look_5 : decode cX8_look 5 = .ok (.getfield 12, 3) := by decide +kernel
theorem dX8_look_8 : decode cX8_look 8 = .ok (.aload_n 0, 1) := by decide +kernel
theorem dX8_look_9 : decode cX8_look 9 = .ok (.getfield 40, 3) := by decide +kernel
theorem dX8_look_12 : decode cX8_look 12 = .ok (.aload_n 0, 1) := by decide +kernel
theorem dX8_look_13 : decode cX8_look 13 = .ok (.getfield 12, 3) := by decide +kernel
theorem dX8_look_16 : decode cX8_look 16 = .ok (.aload_n 0, 1) := by decide +kernel
theorem dX8_look_17 : decode cX8_look 17 = .ok (.getfield 47, 3) := by decide +kernel
theorem dX8_look_20 : decode cX8_look 20 = .ok (.aload_n 0, 1) := by decide +kernel
theorem dX8_look_21 : decode cX8_look 21 = .ok (.getfield 63, 3) := by decide +kernel
theorem dX8_look_24 : decode cX8_look 24 = .ok (.invokevirtual 261, 3) := by decide +kernel
theorem dX8_look_27 : decode cX8_look 27 = .ok (.invokevirtual 265, 3) := by decide +kernel
theorem dX8_look_30 : decode cX8_look 30 = .ok (.ireturn, 1) := by decide +kernel
theorem dX8_write_0 : decode cX8_write 0 = .ok (.aload_n 0, 1) := by decide +kernel
theorem dX8_write_1 : decode cX8_write 1 = .ok (.aload_n 0, 1) := by decide +kernel
theorem dX8_write_2 : decode cX8_write 2 = .ok (.getfield 67, 3) := by decide +kernel
theorem dX8_write_5 : decode cX8_write 5 = .ok (.iload_n 1, 1) := by decide +kernel
theorem dX8_write_6 : decode cX8_write 6 = .ok (.iload_n 2, 1) := by decide +kernel
theorem dX8_write_7 : decode cX8_write 7 = .ok (.iload_n 3, 1) := by decide +kernel
theorem dX8_write_8 : decode cX8_write 8 = .ok (.invokevirtual 257, 3) := by decide +kernel
theorem dX8_write_11 : decode cX8_write 11 = .ok (.ireturn, 1) := by decide +kernel
theorem dX8_tear_0 : decode cX8_tear 0 = .ok (.aload_n 0, 1) := by decide +kernel
theorem dX8_tear_1 : decode cX8_tear 1 = .ok (.getfield 63, 3) := by decide +kernel
theorem dX8_tear_4 : decode cX8_tear 4 = .ok (.getfield 136, 3) := by decide +kernel
theorem dX8_tear_7 : decode cX8_tear 7 = .ok (.aload_n 0, 1) := by decide +kernel
theorem dX8_tear_8 : decode cX8_tear 8 = .ok (.getfield 67, 3) := by decide +kernel
theorem dX8_tear_11 : decode cX8_tear 11 = .ok (.getfield 136, 3) := by decide +kernel
theorem dX8_tear_14 : decode cX8_tear 14 = .ok (.iadd, 1) := by decide +kernel
theorem dX8_tear_15 : decode cX8_tear 15 = .ok (.istore_n 1, 1) := by decide +kernel
theorem dX8_tear_16 : decode cX8_tear 16 = .ok (.aload_n 0, 1) := by decide +kernel
theorem dX8_tear_17 : decode cX8_tear 17 = .ok (.getfield 63, 3) := by decide +kernel
theorem dX8_tear_20 : decode cX8_tear 20 = .ok (.iconst 0, 1) := by decide +kernel
theorem dX8_tear_21 : decode cX8_tear 21 = .ok (.putfield 136, 3) := by decide +kernel
theorem dX8_tear_24 : decode cX8_tear 24 = .ok (.aload_n 0, 1) := by decide +kernel
theorem dX8_tear_25 : decode cX8_tear 25 = .ok (.getfield 67, 3) := by decide +kernel
theorem dX8_tear_28 : decode cX8_tear 28 = .ok (.iconst 0, 1) := by decide +kernel
theorem dX8_tear_29 : decode cX8_tear 29 = .ok (.putfield 136, 3) := by decide +kernel
theorem dX8_tear_32 : decode cX8_tear 32 = .ok (.iload_n 1, 1) := by decide +kernel
theorem dX8_tear_33 : decode cX8_tear 33 = .ok (.ireturn, 1) := by decide +kernel
theorem dX8_judge_0 : decode cX8_judge 0 = .ok (.aload_n 0, 1) := by decide +kernel
theorem dX8_judge_1 : decode cX8_judge 1 = .ok (.getfield 67, 3) := by decide +kernel
theorem dX8_judge_4 : decode cX8_judge 4 = .ok (.aload_n 0, 1) := by decide +kernel
theorem dX8_judge_5 : decode cX8_judge 5 = .ok (.getfield 47, 3) := by decide +kernel
theorem dX8_judge_8 : decode cX8_judge 8 = .ok (.getfield 144, 3) := by decide +kernel
theorem dX8_judge_11 : decode cX8_judge 11 = .ok (.invokevirtual 269, 3) := by decide +kernel
theorem dX8_judge_14 : decode cX8_judge 14 = .ok (.ireturn, 1) := by decide +kernel
theorem dX8_seed_0 : decode cX8_seed 0 = .ok (.iload_n 1, 1) := by decide +kernel
theorem dX8_seed_1 : decode cX8_seed 1 = .ok (.ifCond .ge 6, 3) := by decide +kernel
theorem dX8_seed_4 : decode cX8_seed 4 = .ok (.ldc 88, 2) := by decide +kernel
theorem dX8_seed_6 : decode cX8_seed 6 = .ok (.ireturn, 1) := by decide +kernel
theorem dX8_seed_7 : decode cX8_seed 7 = .ok (.aload_n 0, 1) := by decide +kernel
theorem dX8_seed_8 : decode cX8_seed 8 = .ok (.getfield 273, 3) := by decide +kernel
theorem dX8_seed_11 : decode cX8_seed 11 = .ok (.istore_n 2, 1) := by decide +kernel
theorem dX8_seed_12 : decode cX8_seed 12 = .ok (.aload_n 0, 1) := by decide +kernel
theorem dX8_seed_13 : decode cX8_seed 13 = .ok (.iload_n 1, 1) := by decide +kernel
theorem dX8_seed_14 : decode cX8_seed 14 = .ok (.putfield 273, 3) := by decide +kernel
theorem dX8_seed_17 : decode cX8_seed 17 = .ok (.iload_n 2, 1) := by decide +kernel
theorem dX8_seed_18 : decode cX8_seed 18 = .ok (.ireturn, 1) := by decide +kernel
theorem dX8_keep_0 : decode cX8_keep 0 = .ok (.iload_n 1, 1) := by decide +kernel
theorem dX8_keep_1 : decode cX8_keep 1 = .ok (.ifCond .lt 8, 3) := by decide +kernel
theorem dX8_keep_4 : decode cX8_keep 4 = .ok (.iload_n 1, 1) := by decide +kernel
theorem dX8_keep_5 : decode cX8_keep 5 = .ok (.iconst 2, 1) := by decide +kernel
theorem dX8_keep_6 : decode cX8_keep 6 = .ok (.if_icmp .lt 6, 3) := by decide +kernel
theorem dX8_keep_9 : decode cX8_keep 9 = .ok (.ldc 151, 2) := by decide +kernel
theorem dX8_keep_11 : decode cX8_keep 11 = .ok (.ireturn, 1) := by decide +kernel
theorem dX8_keep_12 : decode cX8_keep 12 = .ok (.aload_n 0, 1) := by decide +kernel
theorem dX8_keep_13 : decode cX8_keep 13 = .ok (.getfield 70, 3) := by decide +kernel
theorem dX8_keep_16 : decode cX8_keep 16 = .ok (.iload_n 1, 1) := by decide +kernel
theorem dX8_keep_17 : decode cX8_keep 17 = .ok (.aaload, 1) := by decide +kernel
theorem dX8_keep_18 : decode cX8_keep 18 = .ok (.aload_n 0, 1) := by decide +kernel
theorem dX8_keep_19 : decode cX8_keep 19 = .ok (.getfield 47, 3) := by decide +kernel
theorem dX8_keep_22 : decode cX8_keep 22 = .ok (.invokevirtual 276, 3) := by decide +kernel
theorem dX8_keep_25 : decode cX8_keep 25 = .ok (.aload_n 0, 1) := by decide +kernel
theorem dX8_keep_26 : decode cX8_keep 26 = .ok (.getfield 74, 3) := by decide +kernel
theorem dX8_keep_29 : decode cX8_keep 29 = .ok (.iload_n 1, 1) := by decide +kernel
theorem dX8_keep_30 : decode cX8_keep 30 = .ok (.aload_n 0, 1) := by decide +kernel
theorem dX8_keep_31 : decode cX8_keep 31 = .ok (.getfield 273, 3) := by decide +kernel
theorem dX8_keep_34 : decode cX8_keep 34 = .ok (.iastore, 1) := by decide +kernel
theorem dX8_keep_35 : decode cX8_keep 35 = .ok (.aload_n 0, 1) := by decide +kernel
theorem dX8_keep_36 : decode cX8_keep 36 = .ok (.dup, 1) := by decide +kernel
theorem dX8_keep_37 : decode cX8_keep 37 = .ok (.getfield 279, 3) := by decide +kernel
theorem dX8_keep_40 : decode cX8_keep 40 = .ok (.iconst 1, 1) := by decide +kernel
theorem dX8_keep_41 : decode cX8_keep 41 = .ok (.iload_n 1, 1) := by decide +kernel
theorem dX8_keep_42 : decode cX8_keep 42 = .ok (.ishl, 1) := by decide +kernel
theorem dX8_keep_43 : decode cX8_keep 43 = .ok (.ior, 1) := by decide +kernel
theorem dX8_keep_44 : decode cX8_keep 44 = .ok (.putfield 279, 3) := by decide +kernel
theorem dX8_keep_47 : decode cX8_keep 47 = .ok (.aload_n 0, 1) := by decide +kernel
theorem dX8_keep_48 : decode cX8_keep 48 = .ok (.getfield 54, 3) := by decide +kernel
theorem dX8_keep_51 : decode cX8_keep 51 = .ok (.iconst 0, 1) := by decide +kernel
theorem dX8_keep_52 : decode cX8_keep 52 = .ok (.putfield 139, 3) := by decide +kernel
theorem dX8_keep_55 : decode cX8_keep 55 = .ok (.iconst 1, 1) := by decide +kernel
theorem dX8_keep_56 : decode cX8_keep 56 = .ok (.ireturn, 1) := by decide +kernel
theorem dX8_goBack_0 : decode cX8_goBack 0 = .ok (.iload_n 1, 1) := by decide +kernel
theorem dX8_goBack_1 : decode cX8_goBack 1 = .ok (.ifCond .lt 8, 3) := by decide +kernel
theorem dX8_goBack_4 : decode cX8_goBack 4 = .ok (.iload_n 1, 1) := by decide +kernel
theorem dX8_goBack_5 : decode cX8_goBack 5 = .ok (.iconst 2, 1) := by decide +kernel
theorem dX8_goBack_6 : decode cX8_goBack 6 = .ok (.if_icmp .lt 6, 3) := by decide +kernel
theorem dX8_goBack_9 : decode cX8_goBack 9 = .ok (.ldc 151, 2) := by decide +kernel
theorem dX8_goBack_11 : decode cX8_goBack 11 = .ok (.ireturn, 1) := by decide +kernel
theorem dX8_goBack_12 : decode cX8_goBack 12 = .ok (.aload_n 0, 1) := by decide +kernel
theorem dX8_goBack_13 : decode cX8_goBack 13 = .ok (.getfield 279, 3) := by decide +kernel
theorem dX8_goBack_16 : decode cX8_goBack 16 = .ok (.iload_n 1, 1) := by decide +kernel
theorem dX8_goBack_17 : decode cX8_goBack 17 = .ok (.invokestatic 189, 3) := by decide +kernel
theorem dX8_goBack_20 : decode cX8_goBack 20 = .ok (.ifCond .ne 6, 3) := by decide +kernel
theorem dX8_goBack_23 : decode cX8_goBack 23 = .ok (.ldc 192, 2) := by decide +kernel
theorem dX8_goBack_25 : decode cX8_goBack 25 = .ok (.ireturn, 1) := by decide +kernel
theorem dX8_goBack_26 : decode cX8_goBack 26 = .ok (.aload_n 0, 1) := by decide +kernel
theorem dX8_goBack_27 : decode cX8_goBack 27 = .ok (.getfield 47, 3) := by decide +kernel
theorem dX8_goBack_30 : decode cX8_goBack 30 = .ok (.aload_n 0, 1) := by decide +kernel
theorem dX8_goBack_31 : decode cX8_goBack 31 = .ok (.getfield 70, 3) := by decide +kernel
theorem dX8_goBack_34 : decode cX8_goBack 34 = .ok (.iload_n 1, 1) := by decide +kernel
theorem dX8_goBack_35 : decode cX8_goBack 35 = .ok (.aaload, 1) := by decide +kernel
theorem dX8_goBack_36 : decode cX8_goBack 36 = .ok (.invokevirtual 276, 3) := by decide +kernel
theorem dX8_goBack_39 : decode cX8_goBack 39 = .ok (.aload_n 0, 1) := by decide +kernel
theorem dX8_goBack_40 : decode cX8_goBack 40 = .ok (.aload_n 0, 1) := by decide +kernel
theorem dX8_goBack_41 : decode cX8_goBack 41 = .ok (.getfield 74, 3) := by decide +kernel
theorem dX8_goBack_44 : decode cX8_goBack 44 = .ok (.iload_n 1, 1) := by decide +kernel
theorem dX8_goBack_45 : decode cX8_goBack 45 = .ok (.iaload, 1) := by decide +kernel
theorem dX8_goBack_46 : decode cX8_goBack 46 = .ok (.putfield 273, 3) := by decide +kernel
theorem dX8_goBack_49 : decode cX8_goBack 49 = .ok (.aload_n 0, 1) := by decide +kernel
theorem dX8_goBack_50 : decode cX8_goBack 50 = .ok (.getfield 54, 3) := by decide +kernel
theorem dX8_goBack_53 : decode cX8_goBack 53 = .ok (.iconst 0, 1) := by decide +kernel
theorem dX8_goBack_54 : decode cX8_goBack 54 = .ok (.putfield 139, 3) := by decide +kernel
theorem dX8_goBack_57 : decode cX8_goBack 57 = .ok (.iconst 1, 1) := by decide +kernel
theorem dX8_goBack_58 : decode cX8_goBack 58 = .ok (.ireturn, 1) := by decide +kernel
theorem dX8_cell_0 : decode cX8_cell 0 = .ok (.iload_n 0, 1) := by decide +kernel
theorem dX8_cell_1 : decode cX8_cell 1 = .ok (.iconst 5, 1) := by decide +kernel
theorem dX8_cell_2 : decode cX8_cell 2 = .ok (.imul, 1) := by decide +kernel
theorem dX8_cell_3 : decode cX8_cell 3 = .ok (.iload_n 1, 1) := by decide +kernel
theorem dX8_cell_4 : decode cX8_cell 4 = .ok (.iadd, 1) := by decide +kernel
theorem dX8_cell_5 : decode cX8_cell 5 = .ok (.ireturn, 1) := by decide +kernel
theorem dX8_isIn_0 : decode cX8_isIn 0 = .ok (.iload_n 0, 1) := by decide +kernel
theorem dX8_isIn_1 : decode cX8_isIn 1 = .ok (.iload_n 1, 1) := by decide +kernel
theorem dX8_isIn_2 : decode cX8_isIn 2 = .ok (.ishr, 1) := by decide +kernel
theorem dX8_isIn_3 : decode cX8_isIn 3 = .ok (.iconst 1, 1) := by decide +kernel
theorem dX8_isIn_4 : decode cX8_isIn 4 = .ok (.iand, 1) := by decide +kernel
theorem dX8_isIn_5 : decode cX8_isIn 5 = .ok (.ifCond .eq 7, 3) := by decide +kernel
theorem dX8_isIn_8 : decode cX8_isIn 8 = .ok (.iconst 1, 1) := by decide +kernel
theorem dX8_isIn_9 : decode cX8_isIn 9 = .ok (.goto 4, 3) := by decide +kernel
theorem dX8_isIn_12 : decode cX8_isIn 12 = .ok (.iconst 0, 1) := by decide +kernel
theorem dX8_isIn_13 : decode cX8_isIn 13 = .ok (.ireturn, 1) := by decide +kernel
theorem dX8_isAmount_0 : decode cX8_isAmount 0 = .ok (.iload_n 0, 1) := by decide +kernel
theorem dX8_isAmount_1 : decode cX8_isAmount 1 = .ok (.ifCond .lt 13, 3) := by decide +kernel
theorem dX8_isAmount_4 : decode cX8_isAmount 4 = .ok (.iload_n 0, 1) := by decide +kernel
theorem dX8_isAmount_5 : decode cX8_isAmount 5 = .ok (.bipush 60, 2) := by decide +kernel
theorem dX8_isAmount_7 : decode cX8_isAmount 7 = .ok (.if_icmp .gt 7, 3) := by decide +kernel
theorem dX8_isAmount_10 : decode cX8_isAmount 10 = .ok (.iconst 1, 1) := by decide +kernel
theorem dX8_isAmount_11 : decode cX8_isAmount 11 = .ok (.goto 4, 3) := by decide +kernel
theorem dX8_isAmount_14 : decode cX8_isAmount 14 = .ok (.iconst 0, 1) := by decide +kernel
theorem dX8_isAmount_15 : decode cX8_isAmount 15 = .ok (.ireturn, 1) := by decide +kernel
theorem dX8_copyParts_0 : decode cX8_copyParts 0 = .ok (.aload_n 0, 1) := by decide +kernel
theorem dX8_copyParts_1 : decode cX8_copyParts 1 = .ok (.iconst 0, 1) := by decide +kernel
theorem dX8_copyParts_2 : decode cX8_copyParts 2 = .ok (.aload_n 1, 1) := by decide +kernel
theorem dX8_copyParts_3 : decode cX8_copyParts 3 = .ok (.iconst 0, 1) := by decide +kernel
theorem dX8_copyParts_4 : decode cX8_copyParts 4 = .ok (.bipush 30, 2) := by decide +kernel
theorem dX8_copyParts_6 : decode cX8_copyParts 6 = .ok (.invokestatic 282, 3) := by decide +kernel
theorem dX8_copyParts_9 : decode cX8_copyParts 9 = .ok (.return_, 1) := by decide +kernel
theorem dX8_moveIn_0 : decode cX8_moveIn 0 = .ok (.aload_n 0, 1) := by decide +kernel
theorem dX8_moveIn_1 : decode cX8_moveIn 1 = .ok (.getfield 12, 3) := by decide +kernel
theorem dX8_moveIn_4 : decode cX8_moveIn 4 = .ok (.aload_n 1, 1) := by decide +kernel
theorem dX8_moveIn_5 : decode cX8_moveIn 5 = .ok (.invokevirtual 288, 3) := by decide +kernel
theorem dX8_moveIn_8 : decode cX8_moveIn 8 = .ok (.aload_n 0, 1) := by decide +kernel
theorem dX8_moveIn_9 : decode cX8_moveIn 9 = .ok (.getfield 12, 3) := by decide +kernel
theorem dX8_moveIn_12 : decode cX8_moveIn 12 = .ok (.getfield 152, 3) := by decide +kernel
theorem dX8_moveIn_15 : decode cX8_moveIn 15 = .ok (.aload_n 0, 1) := by decide +kernel
theorem dX8_moveIn_16 : decode cX8_moveIn 16 = .ok (.getfield 47, 3) := by decide +kernel
theorem dX8_moveIn_19 : decode cX8_moveIn 19 = .ok (.getfield 144, 3) := by decide +kernel
theorem dX8_moveIn_22 : decode cX8_moveIn 22 = .ok (.invokestatic 172, 3) := by decide +kernel
theorem dX8_moveIn_25 : decode cX8_moveIn 25 = .ok (.aload_n 0, 1) := by decide +kernel
theorem dX8_moveIn_26 : decode cX8_moveIn 26 = .ok (.getfield 47, 3) := by decide +kernel
theorem dX8_moveIn_29 : decode cX8_moveIn 29 = .ok (.aload_n 0, 1) := by decide +kernel
theorem dX8_moveIn_30 : decode cX8_moveIn 30 = .ok (.getfield 12, 3) := by decide +kernel
theorem dX8_moveIn_33 : decode cX8_moveIn 33 = .ok (.getfield 290, 3) := by decide +kernel
theorem dX8_moveIn_36 : decode cX8_moveIn 36 = .ok (.putfield 126, 3) := by decide +kernel
theorem dX8_moveIn_39 : decode cX8_moveIn 39 = .ok (.aload_n 0, 1) := by decide +kernel
theorem dX8_moveIn_40 : decode cX8_moveIn 40 = .ok (.getfield 47, 3) := by decide +kernel
theorem dX8_moveIn_43 : decode cX8_moveIn 43 = .ok (.iconst 0, 1) := by decide +kernel
theorem dX8_moveIn_44 : decode cX8_moveIn 44 = .ok (.putfield 132, 3) := by decide +kernel
theorem dX8_moveIn_47 : decode cX8_moveIn 47 = .ok (.aload_n 0, 1) := by decide +kernel
theorem dX8_moveIn_48 : decode cX8_moveIn 48 = .ok (.getfield 47, 3) := by decide +kernel
theorem dX8_moveIn_51 : decode cX8_moveIn 51 = .ok (.iconst 0, 1) := by decide +kernel
theorem dX8_moveIn_52 : decode cX8_moveIn 52 = .ok (.putfield 135, 3) := by decide +kernel
theorem dX8_moveIn_55 : decode cX8_moveIn 55 = .ok (.aload_n 0, 1) := by decide +kernel
theorem dX8_moveIn_56 : decode cX8_moveIn 56 = .ok (.getfield 63, 3) := by decide +kernel
theorem dX8_moveIn_59 : decode cX8_moveIn 59 = .ok (.iconst 0, 1) := by decide +kernel
theorem dX8_moveIn_60 : decode cX8_moveIn 60 = .ok (.putfield 136, 3) := by decide +kernel
theorem dX8_moveIn_63 : decode cX8_moveIn 63 = .ok (.aload_n 0, 1) := by decide +kernel
theorem dX8_moveIn_64 : decode cX8_moveIn 64 = .ok (.getfield 67, 3) := by decide +kernel
theorem dX8_moveIn_67 : decode cX8_moveIn 67 = .ok (.iconst 0, 1) := by decide +kernel
theorem dX8_moveIn_68 : decode cX8_moveIn 68 = .ok (.putfield 136, 3) := by decide +kernel
theorem dX8_moveIn_71 : decode cX8_moveIn 71 = .ok (.aload_n 0, 1) := by decide +kernel
theorem dX8_moveIn_72 : decode cX8_moveIn 72 = .ok (.getfield 54, 3) := by decide +kernel
theorem dX8_moveIn_75 : decode cX8_moveIn 75 = .ok (.iconst 0, 1) := by decide +kernel
theorem dX8_moveIn_76 : decode cX8_moveIn 76 = .ok (.putfield 139, 3) := by decide +kernel
theorem dX8_moveIn_79 : decode cX8_moveIn 79 = .ok (.aload_n 0, 1) := by decide +kernel
theorem dX8_moveIn_80 : decode cX8_moveIn 80 = .ok (.iconst 0, 1) := by decide +kernel
theorem dX8_moveIn_81 : decode cX8_moveIn 81 = .ok (.putfield 279, 3) := by decide +kernel
theorem dX8_moveIn_84 : decode cX8_moveIn 84 = .ok (.return_, 1) := by decide +kernel
theorem dX8_touchNow_0 : decode cX8_touchNow 0 = .ok (.aload_n 0, 1) := by decide +kernel
theorem dX8_touchNow_1 : decode cX8_touchNow 1 = .ok (.getfield 12, 3) := by decide +kernel
theorem dX8_touchNow_4 : decode cX8_touchNow 4 = .ok (.aload_n 0, 1) := by decide +kernel
theorem dX8_touchNow_5 : decode cX8_touchNow 5 = .ok (.getfield 47, 3) := by decide +kernel
theorem dX8_touchNow_8 : decode cX8_touchNow 8 = .ok (.getfield 144, 3) := by decide +kernel
theorem dX8_touchNow_11 : decode cX8_touchNow 11 = .ok (.aload_n 0, 1) := by decide +kernel
theorem dX8_touchNow_12 : decode cX8_touchNow 12 = .ok (.getfield 47, 3) := by decide +kernel
theorem dX8_touchNow_15 : decode cX8_touchNow 15 = .ok (.getfield 126, 3) := by decide +kernel
theorem dX8_touchNow_18 : decode cX8_touchNow 18 = .ok (.iload_n 1, 1) := by decide +kernel
theorem dX8_touchNow_19 : decode cX8_touchNow 19 = .ok (.iload_n 2, 1) := by decide +kernel
theorem dX8_touchNow_20 : decode cX8_touchNow 20 = .ok (.invokevirtual 293, 3) := by decide +kernel
theorem dX8_touchNow_23 : decode cX8_touchNow 23 = .ok (.aload_n 0, 1) := by decide +kernel
theorem dX8_touchNow_24 : decode cX8_touchNow 24 = .ok (.getfield 47, 3) := by decide +kernel
theorem dX8_touchNow_27 : decode cX8_touchNow 27 = .ok (.dup, 1) := by decide +kernel
theorem dX8_touchNow_28 : decode cX8_touchNow 28 = .ok (.getfield 135, 3) := by decide +kernel
theorem dX8_touchNow_31 : decode cX8_touchNow 31 = .ok (.iconst 1, 1) := by decide +kernel
theorem dX8_touchNow_32 : decode cX8_touchNow 32 = .ok (.iadd, 1) := by decide +kernel
theorem dX8_touchNow_33 : decode cX8_touchNow 33 = .ok (.putfield 135, 3) := by decide +kernel
theorem dX8_touchNow_36 : decode cX8_touchNow 36 = .ok (.return_, 1) := by decide +kernel
theorem dX8_washNow_0 : decode cX8_washNow 0 = .ok (.aload_n 0, 1) := by decide +kernel
theorem dX8_washNow_1 : decode cX8_washNow 1 = .ok (.getfield 12, 3) := by decide +kernel
theorem dX8_washNow_4 : decode cX8_washNow 4 = .ok (.getfield 152, 3) := by decide +kernel
theorem dX8_washNow_7 : decode cX8_washNow 7 = .ok (.iload_n 1, 1) := by decide +kernel
theorem dX8_washNow_8 : decode cX8_washNow 8 = .ok (.iconst 0, 1) := by decide +kernel
theorem dX8_washNow_9 : decode cX8_washNow 9 = .ok (.invokestatic 147, 3) := by decide +kernel
theorem dX8_washNow_12 : decode cX8_washNow 12 = .ok (.aload_n 0, 1) := by decide +kernel
theorem dX8_washNow_13 : decode cX8_washNow 13 = .ok (.getfield 47, 3) := by decide +kernel
theorem dX8_washNow_16 : decode cX8_washNow 16 = .ok (.getfield 144, 3) := by decide +kernel
theorem dX8_washNow_19 : decode cX8_washNow 19 = .ok (.iload_n 1, 1) := by decide +kernel
theorem dX8_washNow_20 : decode cX8_washNow 20 = .ok (.iconst 0, 1) := by decide +kernel
theorem dX8_washNow_21 : decode cX8_washNow 21 = .ok (.invokestatic 147, 3) := by decide +kernel
theorem dX8_washNow_24 : decode cX8_washNow 24 = .ok (.iconst 5, 1) := by decide +kernel
theorem dX8_washNow_25 : decode cX8_washNow 25 = .ok (.invokestatic 282, 3) := by decide +kernel
theorem dX8_washNow_28 : decode cX8_washNow 28 = .ok (.aload_n 0, 1) := by decide +kernel
theorem dX8_washNow_29 : decode cX8_washNow 29 = .ok (.getfield 47, 3) := by decide +kernel
theorem dX8_washNow_32 : decode cX8_washNow 32 = .ok (.dup, 1) := by decide +kernel
theorem dX8_washNow_33 : decode cX8_washNow 33 = .ok (.getfield 132, 3) := by decide +kernel
theorem dX8_washNow_36 : decode cX8_washNow 36 = .ok (.iconst 1, 1) := by decide +kernel
theorem dX8_washNow_37 : decode cX8_washNow 37 = .ok (.iadd, 1) := by decide +kernel
theorem dX8_washNow_38 : decode cX8_washNow 38 = .ok (.putfield 132, 3) := by decide +kernel
theorem dX8_washNow_41 : decode cX8_washNow 41 = .ok (.return_, 1) := by decide +kernel
theorem dX8_driftStep_0 : decode cX8_driftStep 0 = .ok (.aload_n 0, 1) := by decide +kernel
theorem dX8_driftStep_1 : decode cX8_driftStep 1 = .ok (.aload_n 0, 1) := by decide +kernel
theorem dX8_driftStep_2 : decode cX8_driftStep 2 = .ok (.getfield 12, 3) := by decide +kernel
theorem dX8_driftStep_5 : decode cX8_driftStep 5 = .ok (.getfield 111, 3) := by decide +kernel
theorem dX8_driftStep_8 : decode cX8_driftStep 8 = .ok (.invokevirtual 297, 3) := by decide +kernel
theorem dX8_driftStep_11 : decode cX8_driftStep 11 = .ok (.istore_n 1, 1) := by decide +kernel
theorem dX8_driftStep_12 : decode cX8_driftStep 12 = .ok (.aload_n 0, 1) := by decide +kernel
theorem dX8_driftStep_13 : decode cX8_driftStep 13 = .ok (.aload_n 0, 1) := by decide +kernel
theorem dX8_driftStep_14 : decode cX8_driftStep 14 = .ok (.getfield 12, 3) := by decide +kernel
theorem dX8_driftStep_17 : decode cX8_driftStep 17 = .ok (.getfield 111, 3) := by decide +kernel
theorem dX8_driftStep_20 : decode cX8_driftStep 20 = .ok (.iconst 1, 1) := by decide +kernel
theorem dX8_driftStep_21 : decode cX8_driftStep 21 = .ok (.isub, 1) := by decide +kernel
theorem dX8_driftStep_22 : decode cX8_driftStep 22 = .ok (.invokevirtual 297, 3) := by decide +kernel
theorem dX8_driftStep_25 : decode cX8_driftStep 25 = .ok (.iconst 1, 1) := by decide +kernel
theorem dX8_driftStep_26 : decode cX8_driftStep 26 = .ok (.iadd, 1) := by decide +kernel
theorem dX8_driftStep_27 : decode cX8_driftStep 27 = .ok (.istore_n 2, 1) := by decide +kernel
theorem dX8_driftStep_28 : decode cX8_driftStep 28 = .ok (.iload_n 1, 1) := by decide +kernel
theorem dX8_driftStep_29 : decode cX8_driftStep 29 = .ok (.iload_n 2, 1) := by decide +kernel
theorem dX8_driftStep_30 : decode cX8_driftStep 30 = .ok (.iadd, 1) := by decide +kernel
theorem dX8_driftStep_31 : decode cX8_driftStep 31 = .ok (.aload_n 0, 1) := by decide +kernel
theorem dX8_driftStep_32 : decode cX8_driftStep 32 = .ok (.getfield 12, 3) := by decide +kernel
theorem dX8_driftStep_35 : decode cX8_driftStep 35 = .ok (.getfield 111, 3) := by decide +kernel
theorem dX8_driftStep_38 : decode cX8_driftStep 38 = .ok (.if_icmp .ge 9, 3) := by decide +kernel
theorem dX8_driftStep_41 : decode cX8_driftStep 41 = .ok (.iload_n 1, 1) := by decide +kernel
theorem dX8_driftStep_42 : decode cX8_driftStep 42 = .ok (.iload_n 2, 1) := by decide +kernel
theorem dX8_driftStep_43 : decode cX8_driftStep 43 = .ok (.iadd, 1) := by decide +kernel
theorem dX8_driftStep_44 : decode cX8_driftStep 44 = .ok (.goto 14, 3) := by decide +kernel
theorem dX8_driftStep_47 : decode cX8_driftStep 47 = .ok (.iload_n 1, 1) := by decide +kernel
theorem dX8_driftStep_48 : decode cX8_driftStep 48 = .ok (.iload_n 2, 1) := by decide +kernel
theorem dX8_driftStep_49 : decode cX8_driftStep 49 = .ok (.iadd, 1) := by decide +kernel
theorem dX8_driftStep_50 : decode cX8_driftStep 50 = .ok (.aload_n 0, 1) := by decide +kernel
theorem dX8_driftStep_51 : decode cX8_driftStep 51 = .ok (.getfield 12, 3) := by decide +kernel
theorem dX8_driftStep_54 : decode cX8_driftStep 54 = .ok (.getfield 111, 3) := by decide +kernel
theorem dX8_driftStep_57 : decode cX8_driftStep 57 = .ok (.isub, 1) := by decide +kernel
theorem dX8_driftStep_58 : decode cX8_driftStep 58 = .ok (.istore_n 3, 1) := by decide +kernel
theorem dX8_driftStep_59 : decode cX8_driftStep 59 = .ok (.aload_n 0, 1) := by decide +kernel
theorem dX8_driftStep_60 : decode cX8_driftStep 60 = .ok (.iload_n 1, 1) := by decide +kernel
theorem dX8_driftStep_61 : decode cX8_driftStep 61 = .ok (.iload_n 3, 1) := by decide +kernel
theorem dX8_driftStep_62 : decode cX8_driftStep 62 = .ok (.invokevirtual 176, 3) := by decide +kernel
theorem dX8_driftStep_65 : decode cX8_driftStep 65 = .ok (.aload_n 0, 1) := by decide +kernel
theorem dX8_driftStep_66 : decode cX8_driftStep 66 = .ok (.bipush 9, 2) := by decide +kernel
theorem dX8_driftStep_68 : decode cX8_driftStep 68 = .ok (.invokevirtual 297, 3) := by decide +kernel
theorem dX8_driftStep_71 : decode cX8_driftStep 71 = .ok (.ifCond .ne 37, 3) := by decide +kernel
theorem dX8_driftStep_74 : decode cX8_driftStep 74 = .ok (.aload_n 0, 1) := by decide +kernel
theorem dX8_driftStep_75 : decode cX8_driftStep 75 = .ok (.aload_n 0, 1) := by decide +kernel
theorem dX8_driftStep_76 : decode cX8_driftStep 76 = .ok (.getfield 12, 3) := by decide +kernel
theorem dX8_driftStep_79 : decode cX8_driftStep 79 = .ok (.getfield 111, 3) := by decide +kernel
theorem dX8_driftStep_82 : decode cX8_driftStep 82 = .ok (.invokevirtual 297, 3) := by decide +kernel
theorem dX8_driftStep_85 : decode cX8_driftStep 85 = .ok (.istore 4, 2) := by decide +kernel
theorem dX8_driftStep_87 : decode cX8_driftStep 87 = .ok (.aload_n 0, 1) := by decide +kernel
theorem dX8_driftStep_88 : decode cX8_driftStep 88 = .ok (.getfield 12, 3) := by decide +kernel
theorem dX8_driftStep_91 : decode cX8_driftStep 91 = .ok (.getfield 129, 3) := by decide +kernel
theorem dX8_driftStep_94 : decode cX8_driftStep 94 = .ok (.iload 4, 2) := by decide +kernel
theorem dX8_driftStep_96 : decode cX8_driftStep 96 = .ok (.invokestatic 189, 3) := by decide +kernel
theorem dX8_driftStep_99 : decode cX8_driftStep 99 = .ok (.ifCond .ne 9, 3) := by decide +kernel
theorem dX8_driftStep_102 : decode cX8_driftStep 102 = .ok (.aload_n 0, 1) := by decide +kernel
theorem dX8_driftStep_103 : decode cX8_driftStep 103 = .ok (.iload 4, 2) := by decide +kernel
theorem dX8_driftStep_105 : decode cX8_driftStep 105 = .ok (.invokevirtual 193, 3) := by decide +kernel
theorem dX8_driftStep_108 : decode cX8_driftStep 108 = .ok (.return_, 1) := by decide +kernel
theorem dX8_drawOf_0 : decode cX8_drawOf 0 = .ok (.aload_n 0, 1) := by decide +kernel
theorem dX8_drawOf_1 : decode cX8_drawOf 1 = .ok (.aload_n 0, 1) := by decide +kernel
theorem dX8_drawOf_2 : decode cX8_drawOf 2 = .ok (.getfield 273, 3) := by decide +kernel
theorem dX8_drawOf_5 : decode cX8_drawOf 5 = .ok (.i2l, 1) := by decide +kernel
theorem dX8_drawOf_6 : decode cX8_drawOf 6 = .ok (.ldc2_w 300, 3) := by decide +kernel
theorem dX8_drawOf_9 : decode cX8_drawOf 9 = .ok (.lmul, 1) := by decide +kernel
theorem dX8_drawOf_10 : decode cX8_drawOf 10 = .ok (.ldc2_w 302, 3) := by decide +kernel
theorem dX8_drawOf_13 : decode cX8_drawOf 13 = .ok (.ladd, 1) := by decide +kernel
theorem dX8_drawOf_14 : decode cX8_drawOf 14 = .ok (.ldc2_w 304, 3) := by decide +kernel
theorem dX8_drawOf_17 : decode cX8_drawOf 17 = .ok (.land, 1) := by decide +kernel
theorem dX8_drawOf_18 : decode cX8_drawOf 18 = .ok (.l2i, 1) := by decide +kernel
theorem dX8_drawOf_19 : decode cX8_drawOf 19 = .ok (.putfield 273, 3) := by decide +kernel
theorem dX8_drawOf_22 : decode cX8_drawOf 22 = .ok (.iload_n 1, 1) := by decide +kernel
theorem dX8_drawOf_23 : decode cX8_drawOf 23 = .ok (.ifCond .le 16, 3) := by decide +kernel
theorem dX8_drawOf_26 : decode cX8_drawOf 26 = .ok (.aload_n 0, 1) := by decide +kernel
theorem dX8_drawOf_27 : decode cX8_drawOf 27 = .ok (.getfield 273, 3) := by decide +kernel
theorem dX8_drawOf_30 : decode cX8_drawOf 30 = .ok (.ldc_w 306, 3) := by decide +kernel
theorem dX8_drawOf_33 : decode cX8_drawOf 33 = .ok (.idiv, 1) := by decide +kernel
theorem dX8_drawOf_34 : decode cX8_drawOf 34 = .ok (.iload_n 1, 1) := by decide +kernel
theorem dX8_drawOf_35 : decode cX8_drawOf 35 = .ok (.irem, 1) := by decide +kernel
theorem dX8_drawOf_36 : decode cX8_drawOf 36 = .ok (.goto 4, 3) := by decide +kernel
theorem dX8_drawOf_39 : decode cX8_drawOf 39 = .ok (.iconst 0, 1) := by decide +kernel
theorem dX8_drawOf_40 : decode cX8_drawOf 40 = .ok (.ireturn, 1) := by decide +kernel
theorem dX8_lookAlike_0 : decode cX8_lookAlike 0 = .ok (.iconst 0, 1) := by decide +kernel
theorem dX8_lookAlike_1 : decode cX8_lookAlike 1 = .ok (.istore_n 3, 1) := by decide +kernel
theorem dX8_lookAlike_2 : decode cX8_lookAlike 2 = .ok (.iload_n 3, 1) := by decide +kernel
theorem dX8_lookAlike_3 : decode cX8_lookAlike 3 = .ok (.aload_n 0, 1) := by decide +kernel
theorem dX8_lookAlike_4 : decode cX8_lookAlike 4 = .ok (.getfield 12, 3) := by decide +kernel
theorem dX8_lookAlike_7 : decode cX8_lookAlike 7 = .ok (.getfield 114, 3) := by decide +kernel
theorem dX8_lookAlike_10 : decode cX8_lookAlike 10 = .ok (.if_icmp .ge 34, 3) := by decide +kernel
theorem dX8_lookAlike_13 : decode cX8_lookAlike 13 = .ok (.aload_n 0, 1) := by decide +kernel
theorem dX8_lookAlike_14 : decode cX8_lookAlike 14 = .ok (.getfield 78, 3) := by decide +kernel
theorem dX8_lookAlike_17 : decode cX8_lookAlike 17 = .ok (.iload_n 1, 1) := by decide +kernel
theorem dX8_lookAlike_18 : decode cX8_lookAlike 18 = .ok (.iload_n 3, 1) := by decide +kernel
theorem dX8_lookAlike_19 : decode cX8_lookAlike 19 = .ok (.invokestatic 147, 3) := by decide +kernel
theorem dX8_lookAlike_22 : decode cX8_lookAlike 22 = .ok (.iaload, 1) := by decide +kernel
theorem dX8_lookAlike_23 : decode cX8_lookAlike 23 = .ok (.aload_n 0, 1) := by decide +kernel
theorem dX8_lookAlike_24 : decode cX8_lookAlike 24 = .ok (.getfield 78, 3) := by decide +kernel
theorem dX8_lookAlike_27 : decode cX8_lookAlike 27 = .ok (.iload_n 2, 1) := by decide +kernel
theorem dX8_lookAlike_28 : decode cX8_lookAlike 28 = .ok (.iload_n 3, 1) := by decide +kernel
theorem dX8_lookAlike_29 : decode cX8_lookAlike 29 = .ok (.invokestatic 147, 3) := by decide +kernel
theorem dX8_lookAlike_32 : decode cX8_lookAlike 32 = .ok (.iaload, 1) := by decide +kernel
theorem dX8_lookAlike_33 : decode cX8_lookAlike 33 = .ok (.if_icmp .eq 5, 3) := by decide +kernel
theorem dX8_lookAlike_36 : decode cX8_lookAlike 36 = .ok (.iconst 0, 1) := by decide +kernel
theorem dX8_lookAlike_37 : decode cX8_lookAlike 37 = .ok (.ireturn, 1) := by decide +kernel
theorem dX8_lookAlike_38 : decode cX8_lookAlike 38 = .ok (.iinc 3 1, 3) := by decide +kernel
theorem dX8_lookAlike_41 : decode cX8_lookAlike 41 = .ok (.goto (-39), 3) := by decide +kernel
theorem dX8_lookAlike_44 : decode cX8_lookAlike 44 = .ok (.iconst 1, 1) := by decide +kernel
theorem dX8_lookAlike_45 : decode cX8_lookAlike 45 = .ok (.ireturn, 1) := by decide +kernel
theorem dX8_firstGain_0 : decode cX8_firstGain 0 = .ok (.aload_n 0, 1) := by decide +kernel
theorem dX8_firstGain_1 : decode cX8_firstGain 1 = .ok (.getfield 47, 3) := by decide +kernel
theorem dX8_firstGain_4 : decode cX8_firstGain 4 = .ok (.getfield 144, 3) := by decide +kernel
theorem dX8_firstGain_7 : decode cX8_firstGain 7 = .ok (.aload_n 0, 1) := by decide +kernel
theorem dX8_firstGain_8 : decode cX8_firstGain 8 = .ok (.getfield 78, 3) := by decide +kernel
theorem dX8_firstGain_11 : decode cX8_firstGain 11 = .ok (.invokestatic 172, 3) := by decide +kernel
theorem dX8_firstGain_14 : decode cX8_firstGain 14 = .ok (.iconst 0, 1) := by decide +kernel
theorem dX8_firstGain_15 : decode cX8_firstGain 15 = .ok (.istore_n 3, 1) := by decide +kernel
theorem dX8_firstGain_16 : decode cX8_firstGain 16 = .ok (.iload_n 3, 1) := by decide +kernel
theorem dX8_firstGain_17 : decode cX8_firstGain 17 = .ok (.aload_n 0, 1) := by decide +kernel
theorem dX8_firstGain_18 : decode cX8_firstGain 18 = .ok (.getfield 12, 3) := by decide +kernel
theorem dX8_firstGain_21 : decode cX8_firstGain 21 = .ok (.getfield 120, 3) := by decide +kernel
theorem dX8_firstGain_24 : decode cX8_firstGain 24 = .ok (.if_icmp .ge 57, 3) := by decide +kernel
theorem dX8_firstGain_27 : decode cX8_firstGain 27 = .ok (.aload_n 0, 1) := by decide +kernel
theorem dX8_firstGain_28 : decode cX8_firstGain 28 = .ok (.getfield 78, 3) := by decide +kernel
theorem dX8_firstGain_31 : decode cX8_firstGain 31 = .ok (.iload_n 1, 1) := by decide +kernel
theorem dX8_firstGain_32 : decode cX8_firstGain 32 = .ok (.iload_n 2, 1) := by decide +kernel
theorem dX8_firstGain_33 : decode cX8_firstGain 33 = .ok (.invokestatic 147, 3) := by decide +kernel
theorem dX8_firstGain_36 : decode cX8_firstGain 36 = .ok (.iaload, 1) := by decide +kernel
theorem dX8_firstGain_37 : decode cX8_firstGain 37 = .ok (.istore 4, 2) := by decide +kernel
theorem dX8_firstGain_39 : decode cX8_firstGain 39 = .ok (.aload_n 0, 1) := by decide +kernel
theorem dX8_firstGain_40 : decode cX8_firstGain 40 = .ok (.getfield 12, 3) := by decide +kernel
theorem dX8_firstGain_43 : decode cX8_firstGain 43 = .ok (.aload_n 0, 1) := by decide +kernel
theorem dX8_firstGain_44 : decode cX8_firstGain 44 = .ok (.getfield 78, 3) := by decide +kernel
theorem dX8_firstGain_47 : decode cX8_firstGain 47 = .ok (.aload_n 0, 1) := by decide +kernel
theorem dX8_firstGain_48 : decode cX8_firstGain 48 = .ok (.getfield 47, 3) := by decide +kernel
theorem dX8_firstGain_51 : decode cX8_firstGain 51 = .ok (.getfield 126, 3) := by decide +kernel
theorem dX8_firstGain_54 : decode cX8_firstGain 54 = .ok (.iload_n 3, 1) := by decide +kernel
theorem dX8_firstGain_55 : decode cX8_firstGain 55 = .ok (.invokevirtual 206, 3) := by decide +kernel
theorem dX8_firstGain_58 : decode cX8_firstGain 58 = .ok (.aload_n 0, 1) := by decide +kernel
theorem dX8_firstGain_59 : decode cX8_firstGain 59 = .ok (.getfield 78, 3) := by decide +kernel
theorem dX8_firstGain_62 : decode cX8_firstGain 62 = .ok (.iload_n 1, 1) := by decide +kernel
theorem dX8_firstGain_63 : decode cX8_firstGain 63 = .ok (.iload_n 2, 1) := by decide +kernel
theorem dX8_firstGain_64 : decode cX8_firstGain 64 = .ok (.invokestatic 147, 3) := by decide +kernel
theorem dX8_firstGain_67 : decode cX8_firstGain 67 = .ok (.iaload, 1) := by decide +kernel
theorem dX8_firstGain_68 : decode cX8_firstGain 68 = .ok (.iload 4, 2) := by decide +kernel
theorem dX8_firstGain_70 : decode cX8_firstGain 70 = .ok (.if_icmp .le 5, 3) := by decide +kernel
theorem dX8_firstGain_73 : decode cX8_firstGain 73 = .ok (.iload_n 3, 1) := by decide +kernel
theorem dX8_firstGain_74 : decode cX8_firstGain 74 = .ok (.ireturn, 1) := by decide +kernel
theorem dX8_firstGain_75 : decode cX8_firstGain 75 = .ok (.iinc 3 1, 3) := by decide +kernel
theorem dX8_firstGain_78 : decode cX8_firstGain 78 = .ok (.goto (-62), 3) := by decide +kernel
theorem dX8_firstGain_81 : decode cX8_firstGain 81 = .ok (.iconst (-1), 1) := by decide +kernel
theorem dX8_firstGain_82 : decode cX8_firstGain 82 = .ok (.ireturn, 1) := by decide +kernel
theorem dX8_wouldHave_0 : decode cX8_wouldHave 0 = .ok (.aload_n 0, 1) := by decide +kernel
theorem dX8_wouldHave_1 : decode cX8_wouldHave 1 = .ok (.getfield 47, 3) := by decide +kernel
theorem dX8_wouldHave_4 : decode cX8_wouldHave 4 = .ok (.getfield 144, 3) := by decide +kernel
theorem dX8_wouldHave_7 : decode cX8_wouldHave 7 = .ok (.aload_n 0, 1) := by decide +kernel
theorem dX8_wouldHave_8 : decode cX8_wouldHave 8 = .ok (.getfield 78, 3) := by decide +kernel
theorem dX8_wouldHave_11 : decode cX8_wouldHave 11 = .ok (.invokestatic 172, 3) := by decide +kernel
theorem dX8_wouldHave_14 : decode cX8_wouldHave 14 = .ok (.aload_n 0, 1) := by decide +kernel
theorem dX8_wouldHave_15 : decode cX8_wouldHave 15 = .ok (.getfield 12, 3) := by decide +kernel
theorem dX8_wouldHave_18 : decode cX8_wouldHave 18 = .ok (.aload_n 0, 1) := by decide +kernel
theorem dX8_wouldHave_19 : decode cX8_wouldHave 19 = .ok (.getfield 78, 3) := by decide +kernel
theorem dX8_wouldHave_22 : decode cX8_wouldHave 22 = .ok (.aload_n 0, 1) := by decide +kernel
theorem dX8_wouldHave_23 : decode cX8_wouldHave 23 = .ok (.getfield 47, 3) := by decide +kernel
theorem dX8_wouldHave_26 : decode cX8_wouldHave 26 = .ok (.getfield 126, 3) := by decide +kernel
theorem dX8_wouldHave_29 : decode cX8_wouldHave 29 = .ok (.iload_n 1, 1) := by decide +kernel
theorem dX8_wouldHave_30 : decode cX8_wouldHave 30 = .ok (.iload_n 2, 1) := by decide +kernel
theorem dX8_wouldHave_31 : decode cX8_wouldHave 31 = .ok (.invokevirtual 293, 3) := by decide +kernel
theorem dX8_wouldHave_34 : decode cX8_wouldHave 34 = .ok (.aload_n 0, 1) := by decide +kernel
theorem dX8_wouldHave_35 : decode cX8_wouldHave 35 = .ok (.getfield 78, 3) := by decide +kernel
theorem dX8_wouldHave_38 : decode cX8_wouldHave 38 = .ok (.iload_n 1, 1) := by decide +kernel
theorem dX8_wouldHave_39 : decode cX8_wouldHave 39 = .ok (.iload_n 3, 1) := by decide +kernel
theorem dX8_wouldHave_40 : decode cX8_wouldHave 40 = .ok (.invokestatic 147, 3) := by decide +kernel
theorem dX8_wouldHave_43 : decode cX8_wouldHave 43 = .ok (.iaload, 1) := by decide +kernel
theorem dX8_wouldHave_44 : decode cX8_wouldHave 44 = .ok (.istore 6, 2) := by decide +kernel
theorem dX8_wouldHave_46 : decode cX8_wouldHave 46 = .ok (.aload_n 0, 1) := by decide +kernel
theorem dX8_wouldHave_47 : decode cX8_wouldHave 47 = .ok (.getfield 78, 3) := by decide +kernel
theorem dX8_wouldHave_50 : decode cX8_wouldHave 50 = .ok (.iload_n 2, 1) := by decide +kernel
theorem dX8_wouldHave_51 : decode cX8_wouldHave 51 = .ok (.iload_n 3, 1) := by decide +kernel
theorem dX8_wouldHave_52 : decode cX8_wouldHave 52 = .ok (.invokestatic 147, 3) := by decide +kernel
theorem dX8_wouldHave_55 : decode cX8_wouldHave 55 = .ok (.iaload, 1) := by decide +kernel
theorem dX8_wouldHave_56 : decode cX8_wouldHave 56 = .ok (.istore 7, 2) := by decide +kernel
theorem dX8_wouldHave_58 : decode cX8_wouldHave 58 = .ok (.iload 6, 2) := by decide +kernel
theorem dX8_wouldHave_60 : decode cX8_wouldHave 60 = .ok (.iload 4, 2) := by decide +kernel
theorem dX8_wouldHave_62 : decode cX8_wouldHave 62 = .ok (.if_icmp .ne 10, 3) := by decide +kernel
theorem dX8_wouldHave_65 : decode cX8_wouldHave 65 = .ok (.iload 7, 2) := by decide +kernel
theorem dX8_wouldHave_67 : decode cX8_wouldHave 67 = .ok (.iload 5, 2) := by decide +kernel
theorem dX8_wouldHave_69 : decode cX8_wouldHave 69 = .ok (.if_icmp .eq 17, 3) := by decide +kernel
theorem dX8_wouldHave_72 : decode cX8_wouldHave 72 = .ok (.iload 6, 2) := by decide +kernel
theorem dX8_wouldHave_74 : decode cX8_wouldHave 74 = .ok (.iload 5, 2) := by decide +kernel
theorem dX8_wouldHave_76 : decode cX8_wouldHave 76 = .ok (.if_icmp .ne 14, 3) := by decide +kernel
theorem dX8_wouldHave_79 : decode cX8_wouldHave 79 = .ok (.iload 7, 2) := by decide +kernel
theorem dX8_wouldHave_81 : decode cX8_wouldHave 81 = .ok (.iload 4, 2) := by decide +kernel
theorem dX8_wouldHave_83 : decode cX8_wouldHave 83 = .ok (.if_icmp .ne 7, 3) := by decide +kernel
theorem dX8_wouldHave_86 : decode cX8_wouldHave 86 = .ok (.iconst 1, 1) := by decide +kernel
theorem dX8_wouldHave_87 : decode cX8_wouldHave 87 = .ok (.goto 4, 3) := by decide +kernel
theorem dX8_wouldHave_90 : decode cX8_wouldHave 90 = .ok (.iconst 0, 1) := by decide +kernel
theorem dX8_wouldHave_91 : decode cX8_wouldHave 91 = .ok (.ireturn, 1) := by decide +kernel
theorem dX8_daysToRest_0 : decode cX8_daysToRest 0 = .ok (.aload_n 0, 1) := by decide +kernel
theorem dX8_daysToRest_1 : decode cX8_daysToRest 1 = .ok (.getfield 47, 3) := by decide +kernel
theorem dX8_daysToRest_4 : decode cX8_daysToRest 4 = .ok (.getfield 144, 3) := by decide +kernel
theorem dX8_daysToRest_7 : decode cX8_daysToRest 7 = .ok (.aload_n 0, 1) := by decide +kernel
theorem dX8_daysToRest_8 : decode cX8_daysToRest 8 = .ok (.getfield 78, 3) := by decide +kernel
theorem dX8_daysToRest_11 : decode cX8_daysToRest 11 = .ok (.invokestatic 172, 3) := by decide +kernel
theorem dX8_daysToRest_14 : decode cX8_daysToRest 14 = .ok (.iconst 0, 1) := by decide +kernel
theorem dX8_daysToRest_15 : decode cX8_daysToRest 15 = .ok (.istore_n 1, 1) := by decide +kernel
theorem dX8_daysToRest_16 : decode cX8_daysToRest 16 = .ok (.iload_n 1, 1) := by decide +kernel
theorem dX8_daysToRest_17 : decode cX8_daysToRest 17 = .ok (.sipush 200, 3) := by decide +kernel
theorem dX8_daysToRest_20 : decode cX8_daysToRest 20 = .ok (.if_icmp .gt 48, 3) := by decide +kernel
theorem dX8_daysToRest_23 : decode cX8_daysToRest 23 = .ok (.aload_n 0, 1) := by decide +kernel
theorem dX8_daysToRest_24 : decode cX8_daysToRest 24 = .ok (.getfield 78, 3) := by decide +kernel
theorem dX8_daysToRest_27 : decode cX8_daysToRest 27 = .ok (.aload_n 0, 1) := by decide +kernel
theorem dX8_daysToRest_28 : decode cX8_daysToRest 28 = .ok (.getfield 81, 3) := by decide +kernel
theorem dX8_daysToRest_31 : decode cX8_daysToRest 31 = .ok (.invokestatic 172, 3) := by decide +kernel
theorem dX8_daysToRest_34 : decode cX8_daysToRest 34 = .ok (.aload_n 0, 1) := by decide +kernel
theorem dX8_daysToRest_35 : decode cX8_daysToRest 35 = .ok (.getfield 12, 3) := by decide +kernel
theorem dX8_daysToRest_38 : decode cX8_daysToRest 38 = .ok (.aload_n 0, 1) := by decide +kernel
theorem dX8_daysToRest_39 : decode cX8_daysToRest 39 = .ok (.getfield 78, 3) := by decide +kernel
theorem dX8_daysToRest_42 : decode cX8_daysToRest 42 = .ok (.aload_n 0, 1) := by decide +kernel
theorem dX8_daysToRest_43 : decode cX8_daysToRest 43 = .ok (.getfield 47, 3) := by decide +kernel
theorem dX8_daysToRest_46 : decode cX8_daysToRest 46 = .ok (.getfield 126, 3) := by decide +kernel
theorem dX8_daysToRest_49 : decode cX8_daysToRest 49 = .ok (.iconst 0, 1) := by decide +kernel
theorem dX8_daysToRest_50 : decode cX8_daysToRest 50 = .ok (.invokevirtual 196, 3) := by decide +kernel
theorem dX8_daysToRest_53 : decode cX8_daysToRest 53 = .ok (.aload_n 0, 1) := by decide +kernel
theorem dX8_daysToRest_54 : decode cX8_daysToRest 54 = .ok (.invokevirtual 307, 3) := by decide +kernel
theorem dX8_daysToRest_57 : decode cX8_daysToRest 57 = .ok (.ifCond .eq 5, 3) := by decide +kernel
theorem dX8_daysToRest_60 : decode cX8_daysToRest 60 = .ok (.iload_n 1, 1) := by decide +kernel
theorem dX8_daysToRest_61 : decode cX8_daysToRest 61 = .ok (.ireturn, 1) := by decide +kernel
theorem dX8_daysToRest_62 : decode cX8_daysToRest 62 = .ok (.iinc 1 1, 3) := by decide +kernel
theorem dX8_daysToRest_65 : decode cX8_daysToRest 65 = .ok (.goto (-49), 3) := by decide +kernel
theorem dX8_daysToRest_68 : decode cX8_daysToRest 68 = .ok (.iconst (-1), 1) := by decide +kernel
theorem dX8_daysToRest_69 : decode cX8_daysToRest 69 = .ok (.ireturn, 1) := by decide +kernel
theorem dX8_isUnchanged_0 : decode cX8_isUnchanged 0 = .ok (.iconst 0, 1) := by decide +kernel
theorem dX8_isUnchanged_1 : decode cX8_isUnchanged 1 = .ok (.istore_n 1, 1) := by decide +kernel
theorem dX8_isUnchanged_2 : decode cX8_isUnchanged 2 = .ok (.iload_n 1, 1) := by decide +kernel
theorem dX8_isUnchanged_3 : decode cX8_isUnchanged 3 = .ok (.bipush 30, 2) := by decide +kernel
theorem dX8_isUnchanged_5 : decode cX8_isUnchanged 5 = .ok (.if_icmp .ge 26, 3) := by decide +kernel
theorem dX8_isUnchanged_8 : decode cX8_isUnchanged 8 = .ok (.aload_n 0, 1) := by decide +kernel
theorem dX8_isUnchanged_9 : decode cX8_isUnchanged 9 = .ok (.getfield 78, 3) := by decide +kernel
theorem dX8_isUnchanged_12 : decode cX8_isUnchanged 12 = .ok (.iload_n 1, 1) := by decide +kernel
theorem dX8_isUnchanged_13 : decode cX8_isUnchanged 13 = .ok (.iaload, 1) := by decide +kernel
theorem dX8_isUnchanged_14 : decode cX8_isUnchanged 14 = .ok (.aload_n 0, 1) := by decide +kernel
theorem dX8_isUnchanged_15 : decode cX8_isUnchanged 15 = .ok (.getfield 81, 3) := by decide +kernel
theorem dX8_isUnchanged_18 : decode cX8_isUnchanged 18 = .ok (.iload_n 1, 1) := by decide +kernel
theorem dX8_isUnchanged_19 : decode cX8_isUnchanged 19 = .ok (.iaload, 1) := by decide +kernel
theorem dX8_isUnchanged_20 : decode cX8_isUnchanged 20 = .ok (.if_icmp .eq 5, 3) := by decide +kernel
theorem dX8_isUnchanged_23 : decode cX8_isUnchanged 23 = .ok (.iconst 0, 1) := by decide +kernel
theorem dX8_isUnchanged_24 : decode cX8_isUnchanged 24 = .ok (.ireturn, 1) := by decide +kernel
theorem dX8_isUnchanged_25 : decode cX8_isUnchanged 25 = .ok (.iinc 1 1, 3) := by decide +kernel
theorem dX8_isUnchanged_28 : decode cX8_isUnchanged 28 = .ok (.goto (-26), 3) := by decide +kernel
theorem dX8_isUnchanged_31 : decode cX8_isUnchanged 31 = .ok (.iconst 1, 1) := by decide +kernel
theorem dX8_isUnchanged_32 : decode cX8_isUnchanged 32 = .ok (.ireturn, 1) := by decide +kernel
theorem dX8_noteIn_0 : decode cX8_noteIn 0 = .ok (.aload_n 0, 1) := by decide +kernel
theorem dX8_noteIn_1 : decode cX8_noteIn 1 = .ok (.getfield 12, 3) := by decide +kernel
theorem dX8_noteIn_4 : decode cX8_noteIn 4 = .ok (.iload_n 2, 1) := by decide +kernel
theorem dX8_noteIn_5 : decode cX8_noteIn 5 = .ok (.iload_n 3, 1) := by decide +kernel
theorem dX8_noteIn_6 : decode cX8_noteIn 6 = .ok (.invokevirtual 140, 3) := by decide +kernel
theorem dX8_noteIn_9 : decode cX8_noteIn 9 = .ok (.ifCond .ne 6, 3) := by decide +kernel
theorem dX8_noteIn_12 : decode cX8_noteIn 12 = .ok (.ldc 151, 2) := by decide +kernel
theorem dX8_noteIn_14 : decode cX8_noteIn 14 = .ok (.ireturn, 1) := by decide +kernel
theorem dX8_noteIn_15 : decode cX8_noteIn 15 = .ok (.iload 4, 2) := by decide +kernel
theorem dX8_noteIn_17 : decode cX8_noteIn 17 = .ok (.invokestatic 218, 3) := by decide +kernel
theorem dX8_noteIn_20 : decode cX8_noteIn 20 = .ok (.ifCond .ne 6, 3) := by decide +kernel
theorem dX8_noteIn_23 : decode cX8_noteIn 23 = .ok (.ldc 88, 2) := by decide +kernel
theorem dX8_noteIn_25 : decode cX8_noteIn 25 = .ok (.ireturn, 1) := by decide +kernel
theorem dX8_noteIn_26 : decode cX8_noteIn 26 = .ok (.aload_n 1, 1) := by decide +kernel
theorem dX8_noteIn_27 : decode cX8_noteIn 27 = .ok (.iload_n 2, 1) := by decide +kernel
theorem dX8_noteIn_28 : decode cX8_noteIn 28 = .ok (.iload_n 3, 1) := by decide +kernel
theorem dX8_noteIn_29 : decode cX8_noteIn 29 = .ok (.invokestatic 147, 3) := by decide +kernel
theorem dX8_noteIn_32 : decode cX8_noteIn 32 = .ok (.iload 4, 2) := by decide +kernel
theorem dX8_noteIn_34 : decode cX8_noteIn 34 = .ok (.invokevirtual 310, 3) := by decide +kernel
theorem dX8_noteIn_37 : decode cX8_noteIn 37 = .ok (.ireturn, 1) := by decide +kernel
