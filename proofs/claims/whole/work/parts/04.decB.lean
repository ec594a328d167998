/-! decode rows of the reference and the law, as printed -/
theorem dX10_in_0 : decode cX10_in 0 = .ok (.iload_n 0, 1) := by decide +kernel
theorem dX10_in_1 : decode cX10_in 1 = .ok (.iload_n 1, 1) := by decide +kernel
theorem dX10_in_2 : decode cX10_in 2 = .ok (.if_icmp .lt 12, 3) := by decide +kernel
theorem dX10_in_5 : decode cX10_in 5 = .ok (.iload_n 0, 1) := by decide +kernel
theorem dX10_in_6 : decode cX10_in 6 = .ok (.iload_n 2, 1) := by decide +kernel
theorem dX10_in_7 : decode cX10_in 7 = .ok (.if_icmp .gt 7, 3) := by decide +kernel
theorem dX10_in_10 : decode cX10_in 10 = .ok (.iconst 1, 1) := by decide +kernel
theorem dX10_in_11 : decode cX10_in 11 = .ok (.goto 4, 3) := by decide +kernel
theorem dX10_in_14 : decode cX10_in 14 = .ok (.iconst 0, 1) := by decide +kernel
theorem dX10_in_15 : decode cX10_in 15 = .ok (.ireturn, 1) := by decide +kernel
theorem dX10_init_0 : decode cX10_init 0 = .ok (.aload_n 0, 1) := by decide +kernel
theorem dX10_init_1 : decode cX10_init 1 = .ok (.invokespecial 1, 3) := by decide +kernel
theorem dX10_init_4 : decode cX10_init 4 = .ok (.aload_n 0, 1) := by decide +kernel
theorem dX10_init_5 : decode cX10_init 5 = .ok (.sipush 240, 3) := by decide +kernel
theorem dX10_init_8 : decode cX10_init 8 = .ok (.newarray .int, 2) := by decide +kernel
theorem dX10_init_10 : decode cX10_init 10 = .ok (.putfield 7, 3) := by decide +kernel
theorem dX10_init_13 : decode cX10_init 13 = .ok (.aload_n 0, 1) := by decide +kernel
theorem dX10_init_14 : decode cX10_init 14 = .ok (.bipush 9, 2) := by decide +kernel
theorem dX10_init_16 : decode cX10_init 16 = .ok (.newarray .int, 2) := by decide +kernel
theorem dX10_init_18 : decode cX10_init 18 = .ok (.putfield 13, 3) := by decide +kernel
theorem dX10_init_21 : decode cX10_init 21 = .ok (.aload_n 0, 1) := by decide +kernel
theorem dX10_init_22 : decode cX10_init 22 = .ok (.bipush 9, 2) := by decide +kernel
theorem dX10_init_24 : decode cX10_init 24 = .ok (.newarray .int, 2) := by decide +kernel
theorem dX10_init_26 : decode cX10_init 26 = .ok (.putfield 16, 3) := by decide +kernel
theorem dX10_init_29 : decode cX10_init 29 = .ok (.aload_n 0, 1) := by decide +kernel
theorem dX10_init_30 : decode cX10_init 30 = .ok (.bipush 72, 2) := by decide +kernel
theorem dX10_init_32 : decode cX10_init 32 = .ok (.newarray .int, 2) := by decide +kernel
theorem dX10_init_34 : decode cX10_init 34 = .ok (.putfield 19, 3) := by decide +kernel
theorem dX10_init_37 : decode cX10_init 37 = .ok (.aload_n 0, 1) := by decide +kernel
theorem dX10_init_38 : decode cX10_init 38 = .ok (.bipush 72, 2) := by decide +kernel
theorem dX10_init_40 : decode cX10_init 40 = .ok (.newarray .int, 2) := by decide +kernel
theorem dX10_init_42 : decode cX10_init 42 = .ok (.putfield 22, 3) := by decide +kernel
theorem dX10_init_45 : decode cX10_init 45 = .ok (.aload_n 0, 1) := by decide +kernel
theorem dX10_init_46 : decode cX10_init 46 = .ok (.sipush 360, 3) := by decide +kernel
theorem dX10_init_49 : decode cX10_init 49 = .ok (.newarray .int, 2) := by decide +kernel
theorem dX10_init_51 : decode cX10_init 51 = .ok (.putfield 25, 3) := by decide +kernel
theorem dX10_init_54 : decode cX10_init 54 = .ok (.aload_n 0, 1) := by decide +kernel
theorem dX10_init_55 : decode cX10_init 55 = .ok (.bipush 9, 2) := by decide +kernel
theorem dX10_init_57 : decode cX10_init 57 = .ok (.newarray .int, 2) := by decide +kernel
theorem dX10_init_59 : decode cX10_init 59 = .ok (.putfield 28, 3) := by decide +kernel
theorem dX10_init_62 : decode cX10_init 62 = .ok (.aload_n 0, 1) := by decide +kernel
theorem dX10_init_63 : decode cX10_init 63 = .ok (.bipush 9, 2) := by decide +kernel
theorem dX10_init_65 : decode cX10_init 65 = .ok (.newarray .int, 2) := by decide +kernel
theorem dX10_init_67 : decode cX10_init 67 = .ok (.putfield 31, 3) := by decide +kernel
theorem dX10_init_70 : decode cX10_init 70 = .ok (.aload_n 0, 1) := by decide +kernel
theorem dX10_init_71 : decode cX10_init 71 = .ok (.bipush 9, 2) := by decide +kernel
theorem dX10_init_73 : decode cX10_init 73 = .ok (.newarray .int, 2) := by decide +kernel
theorem dX10_init_75 : decode cX10_init 75 = .ok (.putfield 34, 3) := by decide +kernel
theorem dX10_init_78 : decode cX10_init 78 = .ok (.aload_n 0, 1) := by decide +kernel
theorem dX10_init_79 : decode cX10_init 79 = .ok (.bipush 32, 2) := by decide +kernel
theorem dX10_init_81 : decode cX10_init 81 = .ok (.newarray .int, 2) := by decide +kernel
theorem dX10_init_83 : decode cX10_init 83 = .ok (.putfield 37, 3) := by decide +kernel
theorem dX10_init_86 : decode cX10_init 86 = .ok (.aload_n 0, 1) := by decide +kernel
theorem dX10_init_87 : decode cX10_init 87 = .ok (.iconst 5, 1) := by decide +kernel
theorem dX10_init_88 : decode cX10_init 88 = .ok (.newarray .int, 2) := by decide +kernel
theorem dX10_init_90 : decode cX10_init 90 = .ok (.putfield 40, 3) := by decide +kernel
theorem dX10_init_93 : decode cX10_init 93 = .ok (.aload_n 0, 1) := by decide +kernel
theorem dX10_init_94 : decode cX10_init 94 = .ok (.bipush 50, 2) := by decide +kernel
theorem dX10_init_96 : decode cX10_init 96 = .ok (.newarray .int, 2) := by decide +kernel
theorem dX10_init_98 : decode cX10_init 98 = .ok (.putfield 43, 3) := by decide +kernel
theorem dX10_init_101 : decode cX10_init 101 = .ok (.aload_n 0, 1) := by decide +kernel
theorem dX10_init_102 : decode cX10_init 102 = .ok (.bipush 20, 2) := by decide +kernel
theorem dX10_init_104 : decode cX10_init 104 = .ok (.newarray .int, 2) := by decide +kernel
theorem dX10_init_106 : decode cX10_init 106 = .ok (.putfield 46, 3) := by decide +kernel
theorem dX10_init_109 : decode cX10_init 109 = .ok (.aload_n 0, 1) := by decide +kernel
theorem dX10_init_110 : decode cX10_init 110 = .ok (.iconst 4, 1) := by decide +kernel
theorem dX10_init_111 : decode cX10_init 111 = .ok (.newarray .int, 2) := by decide +kernel
theorem dX10_init_113 : decode cX10_init 113 = .ok (.putfield 49, 3) := by decide +kernel
theorem dX10_init_116 : decode cX10_init 116 = .ok (.aload_n 0, 1) := by decide +kernel
theorem dX10_init_117 : decode cX10_init 117 = .ok (.iconst 4, 1) := by decide +kernel
theorem dX10_init_118 : decode cX10_init 118 = .ok (.newarray .int, 2) := by decide +kernel
theorem dX10_init_120 : decode cX10_init 120 = .ok (.putfield 52, 3) := by decide +kernel
theorem dX10_init_123 : decode cX10_init 123 = .ok (.aload_n 0, 1) := by decide +kernel
theorem dX10_init_124 : decode cX10_init 124 = .ok (.bipush 105, 2) := by decide +kernel
theorem dX10_init_126 : decode cX10_init 126 = .ok (.newarray .int, 2) := by decide +kernel
theorem dX10_init_128 : decode cX10_init 128 = .ok (.putfield 55, 3) := by decide +kernel
theorem dX10_init_131 : decode cX10_init 131 = .ok (.aload_n 0, 1) := by decide +kernel
theorem dX10_init_132 : decode cX10_init 132 = .ok (.iconst 5, 1) := by decide +kernel
theorem dX10_init_133 : decode cX10_init 133 = .ok (.newarray .int, 2) := by decide +kernel
theorem dX10_init_135 : decode cX10_init 135 = .ok (.putfield 58, 3) := by decide +kernel
theorem dX10_init_138 : decode cX10_init 138 = .ok (.aload_n 0, 1) := by decide +kernel
theorem dX10_init_139 : decode cX10_init 139 = .ok (.iconst 4, 1) := by decide +kernel
theorem dX10_init_140 : decode cX10_init 140 = .ok (.newarray .int, 2) := by decide +kernel
theorem dX10_init_142 : decode cX10_init 142 = .ok (.putfield 61, 3) := by decide +kernel
theorem dX10_init_145 : decode cX10_init 145 = .ok (.aload_n 0, 1) := by decide +kernel
theorem dX10_init_146 : decode cX10_init 146 = .ok (.iconst 4, 1) := by decide +kernel
theorem dX10_init_147 : decode cX10_init 147 = .ok (.newarray .int, 2) := by decide +kernel
theorem dX10_init_149 : decode cX10_init 149 = .ok (.putfield 64, 3) := by decide +kernel
theorem dX10_init_152 : decode cX10_init 152 = .ok (.aload_n 0, 1) := by decide +kernel
theorem dX10_init_153 : decode cX10_init 153 = .ok (.iconst 4, 1) := by decide +kernel
theorem dX10_init_154 : decode cX10_init 154 = .ok (.newarray .int, 2) := by decide +kernel
theorem dX10_init_156 : decode cX10_init 156 = .ok (.putfield 67, 3) := by decide +kernel
theorem dX10_init_159 : decode cX10_init 159 = .ok (.aload_n 0, 1) := by decide +kernel
theorem dX10_init_160 : decode cX10_init 160 = .ok (.bipush 20, 2) := by decide +kernel
theorem dX10_init_162 : decode cX10_init 162 = .ok (.newarray .int, 2) := by decide +kernel
theorem dX10_init_164 : decode cX10_init 164 = .ok (.putfield 70, 3) := by decide +kernel
theorem dX10_init_167 : decode cX10_init 167 = .ok (.aload_n 0, 1) := by decide +kernel
theorem dX10_init_168 : decode cX10_init 168 = .ok (.iconst 4, 1) := by decide +kernel
theorem dX10_init_169 : decode cX10_init 169 = .ok (.newarray .int, 2) := by decide +kernel
theorem dX10_init_171 : decode cX10_init 171 = .ok (.putfield 73, 3) := by decide +kernel
theorem dX10_init_174 : decode cX10_init 174 = .ok (.iconst 0, 1) := by decide +kernel
theorem dX10_init_175 : decode cX10_init 175 = .ok (.istore_n 1, 1) := by decide +kernel
theorem dX10_init_176 : decode cX10_init 176 = .ok (.iload_n 1, 1) := by decide +kernel
theorem dX10_init_177 : decode cX10_init 177 = .ok (.bipush 32, 2) := by decide +kernel
theorem dX10_init_179 : decode cX10_init 179 = .ok (.if_icmp .ge 16, 3) := by decide +kernel
theorem dX10_init_182 : decode cX10_init 182 = .ok (.aload_n 0, 1) := by decide +kernel
theorem dX10_init_183 : decode cX10_init 183 = .ok (.getfield 37, 3) := by decide +kernel
theorem dX10_init_186 : decode cX10_init 186 = .ok (.iload_n 1, 1) := by decide +kernel
theorem dX10_init_187 : decode cX10_init 187 = .ok (.iconst (-1), 1) := by decide +kernel
theorem dX10_init_188 : decode cX10_init 188 = .ok (.iastore, 1) := by decide +kernel
theorem dX10_init_189 : decode cX10_init 189 = .ok (.iinc 1 1, 3) := by decide +kernel
theorem dX10_init_192 : decode cX10_init 192 = .ok (.goto (-16), 3) := by decide +kernel
theorem dX10_init_195 : decode cX10_init 195 = .ok (.return_, 1) := by decide +kernel
theorem dX10_thrown_0 : decode cX10_thrown 0 = .ok (.aload_n 0, 1) := by decide +kernel
theorem dX10_thrown_1 : decode cX10_thrown 1 = .ok (.getfield 76, 3) := by decide +kernel
theorem dX10_thrown_4 : decode cX10_thrown 4 = .ok (.ireturn, 1) := by decide +kernel
theorem dX10_byteOf_0 : decode cX10_byteOf 0 = .ok (.iload 5, 2) := by decide +kernel
theorem dX10_byteOf_2 : decode cX10_byteOf 2 = .ok (.iconst 4, 1) := by decide +kernel
theorem dX10_byteOf_3 : decode cX10_byteOf 3 = .ok (.if_icmp .ge 7, 3) := by decide +kernel
theorem dX10_byteOf_6 : decode cX10_byteOf 6 = .ok (.iload_n 0, 1) := by decide +kernel
theorem dX10_byteOf_7 : decode cX10_byteOf 7 = .ok (.goto 38, 3) := by decide +kernel
theorem dX10_byteOf_10 : decode cX10_byteOf 10 = .ok (.iload 5, 2) := by decide +kernel
theorem dX10_byteOf_12 : decode cX10_byteOf 12 = .ok (.bipush 8, 2) := by decide +kernel
theorem dX10_byteOf_14 : decode cX10_byteOf 14 = .ok (.if_icmp .ge 7, 3) := by decide +kernel
theorem dX10_byteOf_17 : decode cX10_byteOf 17 = .ok (.iload_n 1, 1) := by decide +kernel
theorem dX10_byteOf_18 : decode cX10_byteOf 18 = .ok (.goto 27, 3) := by decide +kernel
theorem dX10_byteOf_21 : decode cX10_byteOf 21 = .ok (.iload 5, 2) := by decide +kernel
theorem dX10_byteOf_23 : decode cX10_byteOf 23 = .ok (.bipush 12, 2) := by decide +kernel
theorem dX10_byteOf_25 : decode cX10_byteOf 25 = .ok (.if_icmp .ge 7, 3) := by decide +kernel
theorem dX10_byteOf_28 : decode cX10_byteOf 28 = .ok (.iload_n 2, 1) := by decide +kernel
theorem dX10_byteOf_29 : decode cX10_byteOf 29 = .ok (.goto 16, 3) := by decide +kernel
theorem dX10_byteOf_32 : decode cX10_byteOf 32 = .ok (.iload 5, 2) := by decide +kernel
theorem dX10_byteOf_34 : decode cX10_byteOf 34 = .ok (.bipush 16, 2) := by decide +kernel
theorem dX10_byteOf_36 : decode cX10_byteOf 36 = .ok (.if_icmp .ge 7, 3) := by decide +kernel
theorem dX10_byteOf_39 : decode cX10_byteOf 39 = .ok (.iload_n 3, 1) := by decide +kernel
theorem dX10_byteOf_40 : decode cX10_byteOf 40 = .ok (.goto 5, 3) := by decide +kernel
theorem dX10_byteOf_43 : decode cX10_byteOf 43 = .ok (.iload 4, 2) := by decide +kernel
theorem dX10_byteOf_45 : decode cX10_byteOf 45 = .ok (.istore 6, 2) := by decide +kernel
theorem dX10_byteOf_47 : decode cX10_byteOf 47 = .ok (.iload 6, 2) := by decide +kernel
theorem dX10_byteOf_49 : decode cX10_byteOf 49 = .ok (.bipush 24, 2) := by decide +kernel
theorem dX10_byteOf_51 : decode cX10_byteOf 51 = .ok (.bipush 8, 2) := by decide +kernel
theorem dX10_byteOf_53 : decode cX10_byteOf 53 = .ok (.iload 5, 2) := by decide +kernel
theorem dX10_byteOf_55 : decode cX10_byteOf 55 = .ok (.iconst 4, 1) := by decide +kernel
theorem dX10_byteOf_56 : decode cX10_byteOf 56 = .ok (.irem, 1) := by decide +kernel
theorem dX10_byteOf_57 : decode cX10_byteOf 57 = .ok (.imul, 1) := by decide +kernel
theorem dX10_byteOf_58 : decode cX10_byteOf 58 = .ok (.isub, 1) := by decide +kernel
theorem dX10_byteOf_59 : decode cX10_byteOf 59 = .ok (.ishr, 1) := by decide +kernel
theorem dX10_byteOf_60 : decode cX10_byteOf 60 = .ok (.sipush 255, 3) := by decide +kernel
theorem dX10_byteOf_63 : decode cX10_byteOf 63 = .ok (.iand, 1) := by decide +kernel
theorem dX10_byteOf_64 : decode cX10_byteOf 64 = .ok (.ireturn, 1) := by decide +kernel
theorem dX10_feed_0 : decode cX10_feed 0 = .ok (.iconst 0, 1) := by decide +kernel
theorem dX10_feed_1 : decode cX10_feed 1 = .ok (.istore 6, 2) := by decide +kernel
theorem dX10_feed_3 : decode cX10_feed 3 = .ok (.iconst 0, 1) := by decide +kernel
theorem dX10_feed_4 : decode cX10_feed 4 = .ok (.istore 7, 2) := by decide +kernel
theorem dX10_feed_6 : decode cX10_feed 6 = .ok (.iload 7, 2) := by decide +kernel
theorem dX10_feed_8 : decode cX10_feed 8 = .ok (.bipush 20, 2) := by decide +kernel
theorem dX10_feed_10 : decode cX10_feed 10 = .ok (.if_icmp .ge 34, 3) := by decide +kernel
theorem dX10_feed_13 : decode cX10_feed 13 = .ok (.iload 6, 2) := by decide +kernel
theorem dX10_feed_15 : decode cX10_feed 15 = .ok (.iload_n 1, 1) := by decide +kernel
theorem dX10_feed_16 : decode cX10_feed 16 = .ok (.iload_n 2, 1) := by decide +kernel
theorem dX10_feed_17 : decode cX10_feed 17 = .ok (.iload_n 3, 1) := by decide +kernel
theorem dX10_feed_18 : decode cX10_feed 18 = .ok (.iload 4, 2) := by decide +kernel
theorem dX10_feed_20 : decode cX10_feed 20 = .ok (.iload 5, 2) := by decide +kernel
theorem dX10_feed_22 : decode cX10_feed 22 = .ok (.iload 7, 2) := by decide +kernel
theorem dX10_feed_24 : decode cX10_feed 24 = .ok (.invokestatic 80, 3) := by decide +kernel
theorem dX10_feed_27 : decode cX10_feed 27 = .ok (.ifCond .eq 7, 3) := by decide +kernel
theorem dX10_feed_30 : decode cX10_feed 30 = .ok (.iconst 1, 1) := by decide +kernel
theorem dX10_feed_31 : decode cX10_feed 31 = .ok (.goto 4, 3) := by decide +kernel
theorem dX10_feed_34 : decode cX10_feed 34 = .ok (.iconst 0, 1) := by decide +kernel
theorem dX10_feed_35 : decode cX10_feed 35 = .ok (.iadd, 1) := by decide +kernel
theorem dX10_feed_36 : decode cX10_feed 36 = .ok (.istore 6, 2) := by decide +kernel
theorem dX10_feed_38 : decode cX10_feed 38 = .ok (.iinc 7 1, 3) := by decide +kernel
theorem dX10_feed_41 : decode cX10_feed 41 = .ok (.goto (-35), 3) := by decide +kernel
theorem dX10_feed_44 : decode cX10_feed 44 = .ok (.aload_n 0, 1) := by decide +kernel
theorem dX10_feed_45 : decode cX10_feed 45 = .ok (.getfield 84, 3) := by decide +kernel
theorem dX10_feed_48 : decode cX10_feed 48 = .ok (.iload 6, 2) := by decide +kernel
theorem dX10_feed_50 : decode cX10_feed 50 = .ok (.iadd, 1) := by decide +kernel
theorem dX10_feed_51 : decode cX10_feed 51 = .ok (.sipush 240, 3) := by decide +kernel
theorem dX10_feed_54 : decode cX10_feed 54 = .ok (.if_icmp .le 5, 3) := by decide +kernel
theorem dX10_feed_57 : decode cX10_feed 57 = .ok (.iconst (-1), 1) := by decide +kernel
theorem dX10_feed_58 : decode cX10_feed 58 = .ok (.ireturn, 1) := by decide +kernel
theorem dX10_feed_59 : decode cX10_feed 59 = .ok (.iconst 0, 1) := by decide +kernel
theorem dX10_feed_60 : decode cX10_feed 60 = .ok (.istore 7, 2) := by decide +kernel
theorem dX10_feed_62 : decode cX10_feed 62 = .ok (.iload 7, 2) := by decide +kernel
theorem dX10_feed_64 : decode cX10_feed 64 = .ok (.bipush 20, 2) := by decide +kernel
theorem dX10_feed_66 : decode cX10_feed 66 = .ok (.if_icmp .ge 49, 3) := by decide +kernel
theorem dX10_feed_69 : decode cX10_feed 69 = .ok (.iload_n 1, 1) := by decide +kernel
theorem dX10_feed_70 : decode cX10_feed 70 = .ok (.iload_n 2, 1) := by decide +kernel
theorem dX10_feed_71 : decode cX10_feed 71 = .ok (.iload_n 3, 1) := by decide +kernel
theorem dX10_feed_72 : decode cX10_feed 72 = .ok (.iload 4, 2) := by decide +kernel
theorem dX10_feed_74 : decode cX10_feed 74 = .ok (.iload 5, 2) := by decide +kernel
theorem dX10_feed_76 : decode cX10_feed 76 = .ok (.iload 7, 2) := by decide +kernel
theorem dX10_feed_78 : decode cX10_feed 78 = .ok (.invokestatic 80, 3) := by decide +kernel
theorem dX10_feed_81 : decode cX10_feed 81 = .ok (.istore 8, 2) := by decide +kernel
theorem dX10_feed_83 : decode cX10_feed 83 = .ok (.iload 8, 2) := by decide +kernel
theorem dX10_feed_85 : decode cX10_feed 85 = .ok (.ifCond .eq 24, 3) := by decide +kernel
theorem dX10_feed_88 : decode cX10_feed 88 = .ok (.aload_n 0, 1) := by decide +kernel
theorem dX10_feed_89 : decode cX10_feed 89 = .ok (.getfield 7, 3) := by decide +kernel
theorem dX10_feed_92 : decode cX10_feed 92 = .ok (.aload_n 0, 1) := by decide +kernel
theorem dX10_feed_93 : decode cX10_feed 93 = .ok (.getfield 84, 3) := by decide +kernel
theorem dX10_feed_96 : decode cX10_feed 96 = .ok (.iload 8, 2) := by decide +kernel
theorem dX10_feed_98 : decode cX10_feed 98 = .ok (.iastore, 1) := by decide +kernel
theorem dX10_feed_99 : decode cX10_feed 99 = .ok (.aload_n 0, 1) := by decide +kernel
theorem dX10_feed_100 : decode cX10_feed 100 = .ok (.dup, 1) := by decide +kernel
theorem dX10_feed_101 : decode cX10_feed 101 = .ok (.getfield 84, 3) := by decide +kernel
theorem dX10_feed_104 : decode cX10_feed 104 = .ok (.iconst 1, 1) := by decide +kernel
theorem dX10_feed_105 : decode cX10_feed 105 = .ok (.iadd, 1) := by decide +kernel
theorem dX10_feed_106 : decode cX10_feed 106 = .ok (.putfield 84, 3) := by decide +kernel
theorem dX10_feed_109 : decode cX10_feed 109 = .ok (.iinc 7 1, 3) := by decide +kernel
theorem dX10_feed_112 : decode cX10_feed 112 = .ok (.goto (-50), 3) := by decide +kernel
theorem dX10_feed_115 : decode cX10_feed 115 = .ok (.aload_n 0, 1) := by decide +kernel
theorem dX10_feed_116 : decode cX10_feed 116 = .ok (.getfield 84, 3) := by decide +kernel
theorem dX10_feed_119 : decode cX10_feed 119 = .ok (.ireturn, 1) := by decide +kernel
theorem dX10_end_0 : decode cX10_end 0 = .ok (.iload_n 1, 1) := by decide +kernel
theorem dX10_end_1 : decode cX10_end 1 = .ok (.ifCond .lt 11, 3) := by decide +kernel
theorem dX10_end_4 : decode cX10_end 4 = .ok (.iload_n 1, 1) := by decide +kernel
theorem dX10_end_5 : decode cX10_end 5 = .ok (.aload_n 0, 1) := by decide +kernel
theorem dX10_end_6 : decode cX10_end 6 = .ok (.getfield 84, 3) := by decide +kernel
theorem dX10_end_9 : decode cX10_end 9 = .ok (.if_icmp .le 5, 3) := by decide +kernel
theorem dX10_end_12 : decode cX10_end 12 = .ok (.iconst 0, 1) := by decide +kernel
theorem dX10_end_13 : decode cX10_end 13 = .ok (.ireturn, 1) := by decide +kernel
theorem dX10_end_14 : decode cX10_end 14 = .ok (.aload_n 0, 1) := by decide +kernel
theorem dX10_end_15 : decode cX10_end 15 = .ok (.iload_n 1, 1) := by decide +kernel
theorem dX10_end_16 : decode cX10_end 16 = .ok (.putfield 84, 3) := by decide +kernel
theorem dX10_end_19 : decode cX10_end 19 = .ok (.iconst 1, 1) := by decide +kernel
theorem dX10_end_20 : decode cX10_end 20 = .ok (.ireturn, 1) := by decide +kernel
theorem dX10_here_0 : decode cX10_here 0 = .ok (.aload_n 0, 1) := by decide +kernel
theorem dX10_here_1 : decode cX10_here 1 = .ok (.getfield 87, 3) := by decide +kernel
theorem dX10_here_4 : decode cX10_here 4 = .ok (.aload_n 0, 1) := by decide +kernel
theorem dX10_here_5 : decode cX10_here 5 = .ok (.getfield 84, 3) := by decide +kernel
theorem dX10_here_8 : decode cX10_here 8 = .ok (.if_icmp .ge 15, 3) := by decide +kernel
theorem dX10_here_11 : decode cX10_here 11 = .ok (.aload_n 0, 1) := by decide +kernel
theorem dX10_here_12 : decode cX10_here 12 = .ok (.getfield 7, 3) := by decide +kernel
theorem dX10_here_15 : decode cX10_here 15 = .ok (.aload_n 0, 1) := by decide +kernel
theorem dX10_here_16 : decode cX10_here 16 = .ok (.getfield 87, 3) := by decide +kernel
theorem dX10_here_19 : decode cX10_here 19 = .ok (.iaload, 1) := by decide +kernel
theorem dX10_here_20 : decode cX10_here 20 = .ok (.goto 4, 3) := by decide +kernel
theorem dX10_here_23 : decode cX10_here 23 = .ok (.iconst (-1), 1) := by decide +kernel
theorem dX10_here_24 : decode cX10_here 24 = .ok (.ireturn, 1) := by decide +kernel
theorem dX10_look_0 : decode cX10_look 0 = .ok (.aload_n 0, 1) := by decide +kernel
theorem dX10_look_1 : decode cX10_look 1 = .ok (.invokevirtual 90, 3) := by decide +kernel
theorem dX10_look_4 : decode cX10_look 4 = .ok (.bipush 32, 2) := by decide +kernel
theorem dX10_look_6 : decode cX10_look 6 = .ok (.if_icmp .ne 16, 3) := by decide +kernel
theorem dX10_look_9 : decode cX10_look 9 = .ok (.aload_n 0, 1) := by decide +kernel
theorem dX10_look_10 : decode cX10_look 10 = .ok (.dup, 1) := by decide +kernel
theorem dX10_look_11 : decode cX10_look 11 = .ok (.getfield 87, 3) := by decide +kernel
theorem dX10_look_14 : decode cX10_look 14 = .ok (.iconst 1, 1) := by decide +kernel
theorem dX10_look_15 : decode cX10_look 15 = .ok (.iadd, 1) := by decide +kernel
theorem dX10_look_16 : decode cX10_look 16 = .ok (.putfield 87, 3) := by decide +kernel
theorem dX10_look_19 : decode cX10_look 19 = .ok (.goto (-19), 3) := by decide +kernel
theorem dX10_look_22 : decode cX10_look 22 = .ok (.aload_n 0, 1) := by decide +kernel
theorem dX10_look_23 : decode cX10_look 23 = .ok (.invokevirtual 90, 3) := by decide +kernel
theorem dX10_look_26 : decode cX10_look 26 = .ok (.ireturn, 1) := by decide +kernel
theorem dX10_bad_0 : decode cX10_bad 0 = .ok (.aload_n 0, 1) := by decide +kernel
theorem dX10_bad_1 : decode cX10_bad 1 = .ok (.aload_n 0, 1) := by decide +kernel
theorem dX10_bad_2 : decode cX10_bad 2 = .ok (.getfield 94, 3) := by decide +kernel
theorem dX10_bad_5 : decode cX10_bad 5 = .ok (.iconst (-1), 1) := by decide +kernel
theorem dX10_bad_6 : decode cX10_bad 6 = .ok (.if_icmp .ne 10, 3) := by decide +kernel
theorem dX10_bad_9 : decode cX10_bad 9 = .ok (.aload_n 0, 1) := by decide +kernel
theorem dX10_bad_10 : decode cX10_bad 10 = .ok (.getfield 87, 3) := by decide +kernel
theorem dX10_bad_13 : decode cX10_bad 13 = .ok (.goto 7, 3) := by decide +kernel
theorem dX10_bad_16 : decode cX10_bad 16 = .ok (.aload_n 0, 1) := by decide +kernel
theorem dX10_bad_17 : decode cX10_bad 17 = .ok (.getfield 94, 3) := by decide +kernel
theorem dX10_bad_20 : decode cX10_bad 20 = .ok (.putfield 94, 3) := by decide +kernel
theorem dX10_bad_23 : decode cX10_bad 23 = .ok (.return_, 1) := by decide +kernel
theorem dX10_isDigit_0 : decode cX10_isDigit 0 = .ok (.iload_n 0, 1) := by decide +kernel
theorem dX10_isDigit_1 : decode cX10_isDigit 1 = .ok (.bipush 48, 2) := by decide +kernel
theorem dX10_isDigit_3 : decode cX10_isDigit 3 = .ok (.if_icmp .lt 13, 3) := by decide +kernel
theorem dX10_isDigit_6 : decode cX10_isDigit 6 = .ok (.iload_n 0, 1) := by decide +kernel
theorem dX10_isDigit_7 : decode cX10_isDigit 7 = .ok (.bipush 57, 2) := by decide +kernel
theorem dX10_isDigit_9 : decode cX10_isDigit 9 = .ok (.if_icmp .gt 7, 3) := by decide +kernel
theorem dX10_isDigit_12 : decode cX10_isDigit 12 = .ok (.iconst 1, 1) := by decide +kernel
theorem dX10_isDigit_13 : decode cX10_isDigit 13 = .ok (.goto 4, 3) := by decide +kernel
theorem dX10_isDigit_16 : decode cX10_isDigit 16 = .ok (.iconst 0, 1) := by decide +kernel
theorem dX10_isDigit_17 : decode cX10_isDigit 17 = .ok (.ireturn, 1) := by decide +kernel
theorem dX10_number_0 : decode cX10_number 0 = .ok (.aload_n 0, 1) := by decide +kernel
theorem dX10_number_1 : decode cX10_number 1 = .ok (.getfield 94, 3) := by decide +kernel
theorem dX10_number_4 : decode cX10_number 4 = .ok (.iconst (-1), 1) := by decide +kernel
theorem dX10_number_5 : decode cX10_number 5 = .ok (.if_icmp .eq 5, 3) := by decide +kernel
theorem dX10_number_8 : decode cX10_number 8 = .ok (.iload_n 1, 1) := by decide +kernel
theorem dX10_number_9 : decode cX10_number 9 = .ok (.ireturn, 1) := by decide +kernel
theorem dX10_number_10 : decode cX10_number 10 = .ok (.aload_n 0, 1) := by decide +kernel
theorem dX10_number_11 : decode cX10_number 11 = .ok (.invokevirtual 90, 3) := by decide +kernel
theorem dX10_number_14 : decode cX10_number 14 = .ok (.bipush 32, 2) := by decide +kernel
theorem dX10_number_16 : decode cX10_number 16 = .ok (.if_icmp .ne 13, 3) := by decide +kernel
theorem dX10_number_19 : decode cX10_number 19 = .ok (.aload_n 0, 1) := by decide +kernel
theorem dX10_number_20 : decode cX10_number 20 = .ok (.invokevirtual 97, 3) := by decide +kernel
theorem dX10_number_23 : decode cX10_number 23 = .ok (.invokestatic 100, 3) := by decide +kernel
theorem dX10_number_26 : decode cX10_number 26 = .ok (.ifCond .ne 9, 3) := by decide +kernel
theorem dX10_number_29 : decode cX10_number 29 = .ok (.aload_n 0, 1) := by decide +kernel
theorem dX10_number_30 : decode cX10_number 30 = .ok (.invokevirtual 104, 3) := by decide +kernel
theorem dX10_number_33 : decode cX10_number 33 = .ok (.iload_n 1, 1) := by decide +kernel
theorem dX10_number_34 : decode cX10_number 34 = .ok (.ireturn, 1) := by decide +kernel
theorem dX10_number_35 : decode cX10_number 35 = .ok (.aload_n 0, 1) := by decide +kernel
theorem dX10_number_36 : decode cX10_number 36 = .ok (.invokevirtual 90, 3) := by decide +kernel
theorem dX10_number_39 : decode cX10_number 39 = .ok (.bipush 48, 2) := by decide +kernel
theorem dX10_number_41 : decode cX10_number 41 = .ok (.isub, 1) := by decide +kernel
theorem dX10_number_42 : decode cX10_number 42 = .ok (.istore_n 3, 1) := by decide +kernel
theorem dX10_number_43 : decode cX10_number 43 = .ok (.aload_n 0, 1) := by decide +kernel
theorem dX10_number_44 : decode cX10_number 44 = .ok (.dup, 1) := by decide +kernel
theorem dX10_number_45 : decode cX10_number 45 = .ok (.getfield 87, 3) := by decide +kernel
theorem dX10_number_48 : decode cX10_number 48 = .ok (.iconst 1, 1) := by decide +kernel
theorem dX10_number_49 : decode cX10_number 49 = .ok (.iadd, 1) := by decide +kernel
theorem dX10_number_50 : decode cX10_number 50 = .ok (.putfield 87, 3) := by decide +kernel
theorem dX10_number_53 : decode cX10_number 53 = .ok (.aload_n 0, 1) := by decide +kernel
theorem dX10_number_54 : decode cX10_number 54 = .ok (.invokevirtual 90, 3) := by decide +kernel
theorem dX10_number_57 : decode cX10_number 57 = .ok (.invokestatic 100, 3) := by decide +kernel
theorem dX10_number_60 : decode cX10_number 60 = .ok (.ifCond .eq 26, 3) := by decide +kernel
theorem dX10_number_63 : decode cX10_number 63 = .ok (.bipush 10, 2) := by decide +kernel
theorem dX10_number_65 : decode cX10_number 65 = .ok (.iload_n 3, 1) := by decide +kernel
theorem dX10_number_66 : decode cX10_number 66 = .ok (.imul, 1) := by decide +kernel
theorem dX10_number_67 : decode cX10_number 67 = .ok (.aload_n 0, 1) := by decide +kernel
theorem dX10_number_68 : decode cX10_number 68 = .ok (.invokevirtual 90, 3) := by decide +kernel
theorem dX10_number_71 : decode cX10_number 71 = .ok (.iadd, 1) := by decide +kernel
theorem dX10_number_72 : decode cX10_number 72 = .ok (.bipush 48, 2) := by decide +kernel
theorem dX10_number_74 : decode cX10_number 74 = .ok (.isub, 1) := by decide +kernel
theorem dX10_number_75 : decode cX10_number 75 = .ok (.istore_n 3, 1) := by decide +kernel
theorem dX10_number_76 : decode cX10_number 76 = .ok (.aload_n 0, 1) := by decide +kernel
theorem dX10_number_77 : decode cX10_number 77 = .ok (.dup, 1) := by decide +kernel
theorem dX10_number_78 : decode cX10_number 78 = .ok (.getfield 87, 3) := by decide +kernel
theorem dX10_number_81 : decode cX10_number 81 = .ok (.iconst 1, 1) := by decide +kernel
theorem dX10_number_82 : decode cX10_number 82 = .ok (.iadd, 1) := by decide +kernel
theorem dX10_number_83 : decode cX10_number 83 = .ok (.putfield 87, 3) := by decide +kernel
theorem dX10_number_86 : decode cX10_number 86 = .ok (.iload_n 3, 1) := by decide +kernel
theorem dX10_number_87 : decode cX10_number 87 = .ok (.iload_n 1, 1) := by decide +kernel
theorem dX10_number_88 : decode cX10_number 88 = .ok (.iload_n 2, 1) := by decide +kernel
theorem dX10_number_89 : decode cX10_number 89 = .ok (.invokestatic 107, 3) := by decide +kernel
theorem dX10_number_92 : decode cX10_number 92 = .ok (.ifCond .ne 19, 3) := by decide +kernel
theorem dX10_number_95 : decode cX10_number 95 = .ok (.aload_n 0, 1) := by decide +kernel
theorem dX10_number_96 : decode cX10_number 96 = .ok (.dup, 1) := by decide +kernel
theorem dX10_number_97 : decode cX10_number 97 = .ok (.getfield 87, 3) := by decide +kernel
theorem dX10_number_100 : decode cX10_number 100 = .ok (.iconst 1, 1) := by decide +kernel
theorem dX10_number_101 : decode cX10_number 101 = .ok (.isub, 1) := by decide +kernel
theorem dX10_number_102 : decode cX10_number 102 = .ok (.putfield 87, 3) := by decide +kernel
theorem dX10_number_105 : decode cX10_number 105 = .ok (.aload_n 0, 1) := by decide +kernel
theorem dX10_number_106 : decode cX10_number 106 = .ok (.invokevirtual 104, 3) := by decide +kernel
theorem dX10_number_109 : decode cX10_number 109 = .ok (.iload_n 1, 1) := by decide +kernel
theorem dX10_number_110 : decode cX10_number 110 = .ok (.ireturn, 1) := by decide +kernel
theorem dX10_number_111 : decode cX10_number 111 = .ok (.aload_n 0, 1) := by decide +kernel
theorem dX10_number_112 : decode cX10_number 112 = .ok (.invokevirtual 90, 3) := by decide +kernel
theorem dX10_number_115 : decode cX10_number 115 = .ok (.invokestatic 100, 3) := by decide +kernel
theorem dX10_number_118 : decode cX10_number 118 = .ok (.ifCond .eq 7, 3) := by decide +kernel
theorem dX10_number_121 : decode cX10_number 121 = .ok (.aload_n 0, 1) := by decide +kernel
theorem dX10_number_122 : decode cX10_number 122 = .ok (.invokevirtual 104, 3) := by decide +kernel
theorem dX10_number_125 : decode cX10_number 125 = .ok (.iload_n 3, 1) := by decide +kernel
theorem dX10_number_126 : decode cX10_number 126 = .ok (.ireturn, 1) := by decide +kernel
theorem dX10_readSale_0 : decode cX10_readSale 0 = .ok (.aload_n 0, 1) := by decide +kernel
theorem dX10_readSale_1 : decode cX10_readSale 1 = .ok (.iconst 0, 1) := by decide +kernel
theorem dX10_readSale_2 : decode cX10_readSale 2 = .ok (.putfield 87, 3) := by decide +kernel
theorem dX10_readSale_5 : decode cX10_readSale 5 = .ok (.aload_n 0, 1) := by decide +kernel
theorem dX10_readSale_6 : decode cX10_readSale 6 = .ok (.iconst (-1), 1) := by decide +kernel
theorem dX10_readSale_7 : decode cX10_readSale 7 = .ok (.putfield 94, 3) := by decide +kernel
theorem dX10_readSale_10 : decode cX10_readSale 10 = .ok (.aload_n 0, 1) := by decide +kernel
theorem dX10_readSale_11 : decode cX10_readSale 11 = .ok (.getfield 16, 3) := by decide +kernel
theorem dX10_readSale_14 : decode cX10_readSale 14 = .ok (.iload_n 1, 1) := by decide +kernel
theorem dX10_readSale_15 : decode cX10_readSale 15 = .ok (.iconst 0, 1) := by decide +kernel
theorem dX10_readSale_16 : decode cX10_readSale 16 = .ok (.iastore, 1) := by decide +kernel
theorem dX10_readSale_17 : decode cX10_readSale 17 = .ok (.aload_n 0, 1) := by decide +kernel
theorem dX10_readSale_18 : decode cX10_readSale 18 = .ok (.getfield 28, 3) := by decide +kernel
theorem dX10_readSale_21 : decode cX10_readSale 21 = .ok (.iload_n 1, 1) := by decide +kernel
theorem dX10_readSale_22 : decode cX10_readSale 22 = .ok (.iconst 2, 1) := by decide +kernel
theorem dX10_readSale_23 : decode cX10_readSale 23 = .ok (.iastore, 1) := by decide +kernel
theorem dX10_readSale_24 : decode cX10_readSale 24 = .ok (.aload_n 0, 1) := by decide +kernel
theorem dX10_readSale_25 : decode cX10_readSale 25 = .ok (.getfield 31, 3) := by decide +kernel
theorem dX10_readSale_28 : decode cX10_readSale 28 = .ok (.iload_n 1, 1) := by decide +kernel
theorem dX10_readSale_29 : decode cX10_readSale 29 = .ok (.iconst 0, 1) := by decide +kernel
theorem dX10_readSale_30 : decode cX10_readSale 30 = .ok (.iastore, 1) := by decide +kernel
theorem dX10_readSale_31 : decode cX10_readSale 31 = .ok (.aload_n 0, 1) := by decide +kernel
theorem dX10_readSale_32 : decode cX10_readSale 32 = .ok (.getfield 34, 3) := by decide +kernel
theorem dX10_readSale_35 : decode cX10_readSale 35 = .ok (.iload_n 1, 1) := by decide +kernel
theorem dX10_readSale_36 : decode cX10_readSale 36 = .ok (.iconst 0, 1) := by decide +kernel
theorem dX10_readSale_37 : decode cX10_readSale 37 = .ok (.iastore, 1) := by decide +kernel
theorem dX10_readSale_38 : decode cX10_readSale 38 = .ok (.aload_n 0, 1) := by decide +kernel
theorem dX10_readSale_39 : decode cX10_readSale 39 = .ok (.invokevirtual 97, 3) := by decide +kernel
theorem dX10_readSale_42 : decode cX10_readSale 42 = .ok (.bipush 115, 2) := by decide +kernel
theorem dX10_readSale_44 : decode cX10_readSale 44 = .ok (.if_icmp .eq 7, 3) := by decide +kernel
theorem dX10_readSale_47 : decode cX10_readSale 47 = .ok (.aload_n 0, 1) := by decide +kernel
theorem dX10_readSale_48 : decode cX10_readSale 48 = .ok (.invokevirtual 104, 3) := by decide +kernel
theorem dX10_readSale_51 : decode cX10_readSale 51 = .ok (.aload_n 0, 1) := by decide +kernel
theorem dX10_readSale_52 : decode cX10_readSale 52 = .ok (.dup, 1) := by decide +kernel
theorem dX10_readSale_53 : decode cX10_readSale 53 = .ok (.getfield 87, 3) := by decide +kernel
theorem dX10_readSale_56 : decode cX10_readSale 56 = .ok (.iconst 1, 1) := by decide +kernel
theorem dX10_readSale_57 : decode cX10_readSale 57 = .ok (.iadd, 1) := by decide +kernel
theorem dX10_readSale_58 : decode cX10_readSale 58 = .ok (.putfield 87, 3) := by decide +kernel
theorem dX10_readSale_61 : decode cX10_readSale 61 = .ok (.aload_n 0, 1) := by decide +kernel
theorem dX10_readSale_62 : decode cX10_readSale 62 = .ok (.getfield 13, 3) := by decide +kernel
theorem dX10_readSale_65 : decode cX10_readSale 65 = .ok (.iload_n 1, 1) := by decide +kernel
theorem dX10_readSale_66 : decode cX10_readSale 66 = .ok (.aload_n 0, 1) := by decide +kernel
theorem dX10_readSale_67 : decode cX10_readSale 67 = .ok (.iconst 2, 1) := by decide +kernel
theorem dX10_readSale_68 : decode cX10_readSale 68 = .ok (.iconst 5, 1) := by decide +kernel
theorem dX10_readSale_69 : decode cX10_readSale 69 = .ok (.invokevirtual 111, 3) := by decide +kernel
theorem dX10_readSale_72 : decode cX10_readSale 72 = .ok (.iastore, 1) := by decide +kernel
theorem dX10_readSale_73 : decode cX10_readSale 73 = .ok (.aload_n 0, 1) := by decide +kernel
theorem dX10_readSale_74 : decode cX10_readSale 74 = .ok (.getfield 94, 3) := by decide +kernel
theorem dX10_readSale_77 : decode cX10_readSale 77 = .ok (.iconst (-1), 1) := by decide +kernel
theorem dX10_readSale_78 : decode cX10_readSale 78 = .ok (.if_icmp .ne 30, 3) := by decide +kernel
theorem dX10_readSale_81 : decode cX10_readSale 81 = .ok (.aload_n 0, 1) := by decide +kernel
theorem dX10_readSale_82 : decode cX10_readSale 82 = .ok (.invokevirtual 97, 3) := by decide +kernel
theorem dX10_readSale_85 : decode cX10_readSale 85 = .ok (.bipush 59, 2) := by decide +kernel
theorem dX10_readSale_87 : decode cX10_readSale 87 = .ok (.if_icmp .ne 21, 3) := by decide +kernel
theorem dX10_readSale_90 : decode cX10_readSale 90 = .ok (.aload_n 0, 1) := by decide +kernel
theorem dX10_readSale_91 : decode cX10_readSale 91 = .ok (.dup, 1) := by decide +kernel
theorem dX10_readSale_92 : decode cX10_readSale 92 = .ok (.getfield 87, 3) := by decide +kernel
theorem dX10_readSale_95 : decode cX10_readSale 95 = .ok (.iconst 1, 1) := by decide +kernel
theorem dX10_readSale_96 : decode cX10_readSale 96 = .ok (.iadd, 1) := by decide +kernel
theorem dX10_readSale_97 : decode cX10_readSale 97 = .ok (.putfield 87, 3) := by decide +kernel
theorem dX10_readSale_100 : decode cX10_readSale 100 = .ok (.aload_n 0, 1) := by decide +kernel
theorem dX10_readSale_101 : decode cX10_readSale 101 = .ok (.iload_n 1, 1) := by decide +kernel
theorem dX10_readSale_102 : decode cX10_readSale 102 = .ok (.invokevirtual 115, 3) := by decide +kernel
theorem dX10_readSale_105 : decode cX10_readSale 105 = .ok (.goto (-32), 3) := by decide +kernel
theorem dX10_readSale_108 : decode cX10_readSale 108 = .ok (.aload_n 0, 1) := by decide +kernel
theorem dX10_readSale_109 : decode cX10_readSale 109 = .ok (.getfield 94, 3) := by decide +kernel
theorem dX10_readSale_112 : decode cX10_readSale 112 = .ok (.iconst (-1), 1) := by decide +kernel
theorem dX10_readSale_113 : decode cX10_readSale 113 = .ok (.if_icmp .ne 24, 3) := by decide +kernel
theorem dX10_readSale_116 : decode cX10_readSale 116 = .ok (.aload_n 0, 1) := by decide +kernel
theorem dX10_readSale_117 : decode cX10_readSale 117 = .ok (.invokevirtual 97, 3) := by decide +kernel
theorem dX10_readSale_120 : decode cX10_readSale 120 = .ok (.iconst (-1), 1) := by decide +kernel
theorem dX10_readSale_121 : decode cX10_readSale 121 = .ok (.if_icmp .ne 12, 3) := by decide +kernel
theorem dX10_readSale_124 : decode cX10_readSale 124 = .ok (.aload_n 0, 1) := by decide +kernel
theorem dX10_readSale_125 : decode cX10_readSale 125 = .ok (.getfield 16, 3) := by decide +kernel
theorem dX10_readSale_128 : decode cX10_readSale 128 = .ok (.iload_n 1, 1) := by decide +kernel
theorem dX10_readSale_129 : decode cX10_readSale 129 = .ok (.iaload, 1) := by decide +kernel
theorem dX10_readSale_130 : decode cX10_readSale 130 = .ok (.ifCond .ne 7, 3) := by decide +kernel
theorem dX10_readSale_133 : decode cX10_readSale 133 = .ok (.aload_n 0, 1) := by decide +kernel
theorem dX10_readSale_134 : decode cX10_readSale 134 = .ok (.invokevirtual 104, 3) := by decide +kernel
theorem dX10_readSale_137 : decode cX10_readSale 137 = .ok (.aload_n 0, 1) := by decide +kernel
theorem dX10_readSale_138 : decode cX10_readSale 138 = .ok (.getfield 94, 3) := by decide +kernel
theorem dX10_readSale_141 : decode cX10_readSale 141 = .ok (.ireturn, 1) := by decide +kernel
theorem dX10_statement_0 : decode cX10_statement 0 = .ok (.aload_n 0, 1) := by decide +kernel
theorem dX10_statement_1 : decode cX10_statement 1 = .ok (.invokevirtual 97, 3) := by decide +kernel
theorem dX10_statement_4 : decode cX10_statement 4 = .ok (.istore_n 2, 1) := by decide +kernel
theorem dX10_statement_5 : decode cX10_statement 5 = .ok (.iload_n 2, 1) := by decide +kernel
theorem dX10_statement_6 : decode cX10_statement 6 = .ok (.bipush 116, 2) := by decide +kernel
theorem dX10_statement_8 : decode cX10_statement 8 = .ok (.if_icmp .eq 21, 3) := by decide +kernel
theorem dX10_statement_11 : decode cX10_statement 11 = .ok (.iload_n 2, 1) := by decide +kernel
theorem dX10_statement_12 : decode cX10_statement 12 = .ok (.bipush 110, 2) := by decide +kernel
theorem dX10_statement_14 : decode cX10_statement 14 = .ok (.if_icmp .eq 15, 3) := by decide +kernel
theorem dX10_statement_17 : decode cX10_statement 17 = .ok (.iload_n 2, 1) := by decide +kernel
theorem dX10_statement_18 : decode cX10_statement 18 = .ok (.bipush 108, 2) := by decide +kernel
theorem dX10_statement_20 : decode cX10_statement 20 = .ok (.if_icmp .eq 9, 3) := by decide +kernel
theorem dX10_statement_23 : decode cX10_statement 23 = .ok (.iload_n 2, 1) := by decide +kernel
theorem dX10_statement_24 : decode cX10_statement 24 = .ok (.bipush 119, 2) := by decide +kernel
theorem dX10_statement_26 : decode cX10_statement 26 = .ok (.if_icmp .ne 20, 3) := by decide +kernel
theorem dX10_statement_29 : decode cX10_statement 29 = .ok (.iload_n 2, 1) := by decide +kernel
theorem dX10_statement_30 : decode cX10_statement 30 = .ok (.bipush 116, 2) := by decide +kernel
theorem dX10_statement_32 : decode cX10_statement 32 = .ok (.if_icmp .ne 19, 3) := by decide +kernel
theorem dX10_statement_35 : decode cX10_statement 35 = .ok (.aload_n 0, 1) := by decide +kernel
theorem dX10_statement_36 : decode cX10_statement 36 = .ok (.getfield 16, 3) := by decide +kernel
theorem dX10_statement_39 : decode cX10_statement 39 = .ok (.iload_n 1, 1) := by decide +kernel
theorem dX10_statement_40 : decode cX10_statement 40 = .ok (.iaload, 1) := by decide +kernel
theorem dX10_statement_41 : decode cX10_statement 41 = .ok (.bipush 8, 2) := by decide +kernel
theorem dX10_statement_43 : decode cX10_statement 43 = .ok (.if_icmp .ne 8, 3) := by decide +kernel
theorem dX10_statement_46 : decode cX10_statement 46 = .ok (.aload_n 0, 1) := by decide +kernel
theorem dX10_statement_47 : decode cX10_statement 47 = .ok (.invokevirtual 104, 3) := by decide +kernel
theorem dX10_statement_50 : decode cX10_statement 50 = .ok (.return_, 1) := by decide +kernel
theorem dX10_statement_51 : decode cX10_statement 51 = .ok (.aload_n 0, 1) := by decide +kernel
theorem dX10_statement_52 : decode cX10_statement 52 = .ok (.dup, 1) := by decide +kernel
theorem dX10_statement_53 : decode cX10_statement 53 = .ok (.getfield 87, 3) := by decide +kernel
theorem dX10_statement_56 : decode cX10_statement 56 = .ok (.iconst 1, 1) := by decide +kernel
theorem dX10_statement_57 : decode cX10_statement 57 = .ok (.iadd, 1) := by decide +kernel
theorem dX10_statement_58 : decode cX10_statement 58 = .ok (.putfield 87, 3) := by decide +kernel
theorem dX10_statement_61 : decode cX10_statement 61 = .ok (.iload_n 2, 1) := by decide +kernel
theorem dX10_statement_62 : decode cX10_statement 62 = .ok (.bipush 116, 2) := by decide +kernel
theorem dX10_statement_64 : decode cX10_statement 64 = .ok (.if_icmp .ne 11, 3) := by decide +kernel
theorem dX10_statement_67 : decode cX10_statement 67 = .ok (.aload_n 0, 1) := by decide +kernel
theorem dX10_statement_68 : decode cX10_statement 68 = .ok (.iload_n 1, 1) := by decide +kernel
theorem dX10_statement_69 : decode cX10_statement 69 = .ok (.invokevirtual 119, 3) := by decide +kernel
theorem dX10_statement_72 : decode cX10_statement 72 = .ok (.goto 58, 3) := by decide +kernel
theorem dX10_statement_75 : decode cX10_statement 75 = .ok (.iload_n 2, 1) := by decide +kernel
theorem dX10_statement_76 : decode cX10_statement 76 = .ok (.bipush 110, 2) := by decide +kernel
theorem dX10_statement_78 : decode cX10_statement 78 = .ok (.if_icmp .ne 18, 3) := by decide +kernel
theorem dX10_statement_81 : decode cX10_statement 81 = .ok (.aload_n 0, 1) := by decide +kernel
theorem dX10_statement_82 : decode cX10_statement 82 = .ok (.getfield 28, 3) := by decide +kernel
theorem dX10_statement_85 : decode cX10_statement 85 = .ok (.iload_n 1, 1) := by decide +kernel
theorem dX10_statement_86 : decode cX10_statement 86 = .ok (.aload_n 0, 1) := by decide +kernel
theorem dX10_statement_87 : decode cX10_statement 87 = .ok (.iconst 1, 1) := by decide +kernel
theorem dX10_statement_88 : decode cX10_statement 88 = .ok (.iconst 4, 1) := by decide +kernel
theorem dX10_statement_89 : decode cX10_statement 89 = .ok (.invokevirtual 111, 3) := by decide +kernel
theorem dX10_statement_92 : decode cX10_statement 92 = .ok (.iastore, 1) := by decide +kernel
theorem dX10_statement_93 : decode cX10_statement 93 = .ok (.goto 37, 3) := by decide +kernel
theorem dX10_statement_96 : decode cX10_statement 96 = .ok (.iload_n 2, 1) := by decide +kernel
theorem dX10_statement_97 : decode cX10_statement 97 = .ok (.bipush 108, 2) := by decide +kernel
theorem dX10_statement_99 : decode cX10_statement 99 = .ok (.if_icmp .ne 19, 3) := by decide +kernel
theorem dX10_statement_102 : decode cX10_statement 102 = .ok (.aload_n 0, 1) := by decide +kernel
theorem dX10_statement_103 : decode cX10_statement 103 = .ok (.getfield 31, 3) := by decide +kernel
theorem dX10_statement_106 : decode cX10_statement 106 = .ok (.iload_n 1, 1) := by decide +kernel
theorem dX10_statement_107 : decode cX10_statement 107 = .ok (.aload_n 0, 1) := by decide +kernel
theorem dX10_statement_108 : decode cX10_statement 108 = .ok (.iconst 0, 1) := by decide +kernel
theorem dX10_statement_109 : decode cX10_statement 109 = .ok (.bipush 60, 2) := by decide +kernel
theorem dX10_statement_111 : decode cX10_statement 111 = .ok (.invokevirtual 111, 3) := by decide +kernel
theorem dX10_statement_114 : decode cX10_statement 114 = .ok (.iastore, 1) := by decide +kernel
theorem dX10_statement_115 : decode cX10_statement 115 = .ok (.goto 15, 3) := by decide +kernel
theorem dX10_statement_118 : decode cX10_statement 118 = .ok (.aload_n 0, 1) := by decide +kernel
theorem dX10_statement_119 : decode cX10_statement 119 = .ok (.getfield 34, 3) := by decide +kernel
theorem dX10_statement_122 : decode cX10_statement 122 = .ok (.iload_n 1, 1) := by decide +kernel
theorem dX10_statement_123 : decode cX10_statement 123 = .ok (.aload_n 0, 1) := by decide +kernel
theorem dX10_statement_124 : decode cX10_statement 124 = .ok (.iconst 0, 1) := by decide +kernel
theorem dX10_statement_125 : decode cX10_statement 125 = .ok (.iconst 2, 1) := by decide +kernel
theorem dX10_statement_126 : decode cX10_statement 126 = .ok (.invokevirtual 111, 3) := by decide +kernel
theorem dX10_statement_129 : decode cX10_statement 129 = .ok (.iastore, 1) := by decide +kernel
theorem dX10_statement_130 : decode cX10_statement 130 = .ok (.return_, 1) := by decide +kernel
theorem dX10_readTruth_0 : decode cX10_readTruth 0 = .ok (.bipush 8, 2) := by decide +kernel
theorem dX10_readTruth_2 : decode cX10_readTruth 2 = .ok (.iload_n 1, 1) := by decide +kernel
theorem dX10_readTruth_3 : decode cX10_readTruth 3 = .ok (.imul, 1) := by decide +kernel
theorem dX10_readTruth_4 : decode cX10_readTruth 4 = .ok (.aload_n 0, 1) := by decide +kernel
theorem dX10_readTruth_5 : decode cX10_readTruth 5 = .ok (.getfield 16, 3) := by decide +kernel
theorem dX10_readTruth_8 : decode cX10_readTruth 8 = .ok (.iload_n 1, 1) := by decide +kernel
theorem dX10_readTruth_9 : decode cX10_readTruth 9 = .ok (.iaload, 1) := by decide +kernel
theorem dX10_readTruth_10 : decode cX10_readTruth 10 = .ok (.iadd, 1) := by decide +kernel
theorem dX10_readTruth_11 : decode cX10_readTruth 11 = .ok (.istore_n 2, 1) := by decide +kernel
theorem dX10_readTruth_12 : decode cX10_readTruth 12 = .ok (.aload_n 0, 1) := by decide +kernel
theorem dX10_readTruth_13 : decode cX10_readTruth 13 = .ok (.getfield 19, 3) := by decide +kernel
theorem dX10_readTruth_16 : decode cX10_readTruth 16 = .ok (.iload_n 2, 1) := by decide +kernel
theorem dX10_readTruth_17 : decode cX10_readTruth 17 = .ok (.aload_n 0, 1) := by decide +kernel
theorem dX10_readTruth_18 : decode cX10_readTruth 18 = .ok (.iconst 0, 1) := by decide +kernel
theorem dX10_readTruth_19 : decode cX10_readTruth 19 = .ok (.bipush 60, 2) := by decide +kernel
theorem dX10_readTruth_21 : decode cX10_readTruth 21 = .ok (.invokevirtual 111, 3) := by decide +kernel
theorem dX10_readTruth_24 : decode cX10_readTruth 24 = .ok (.iastore, 1) := by decide +kernel
theorem dX10_readTruth_25 : decode cX10_readTruth 25 = .ok (.aload_n 0, 1) := by decide +kernel
theorem dX10_readTruth_26 : decode cX10_readTruth 26 = .ok (.getfield 22, 3) := by decide +kernel
theorem dX10_readTruth_29 : decode cX10_readTruth 29 = .ok (.iload_n 2, 1) := by decide +kernel
theorem dX10_readTruth_30 : decode cX10_readTruth 30 = .ok (.aload_n 0, 1) := by decide +kernel
theorem dX10_readTruth_31 : decode cX10_readTruth 31 = .ok (.iconst 1, 1) := by decide +kernel
theorem dX10_readTruth_32 : decode cX10_readTruth 32 = .ok (.bipush 9, 2) := by decide +kernel
theorem dX10_readTruth_34 : decode cX10_readTruth 34 = .ok (.invokevirtual 111, 3) := by decide +kernel
theorem dX10_readTruth_37 : decode cX10_readTruth 37 = .ok (.iastore, 1) := by decide +kernel
theorem dX10_readTruth_38 : decode cX10_readTruth 38 = .ok (.bipush 10, 2) := by decide +kernel
theorem dX10_readTruth_40 : decode cX10_readTruth 40 = .ok (.istore_n 3, 1) := by decide +kernel
theorem dX10_readTruth_41 : decode cX10_readTruth 41 = .ok (.iconst 0, 1) := by decide +kernel
theorem dX10_readTruth_42 : decode cX10_readTruth 42 = .ok (.istore 4, 2) := by decide +kernel
theorem dX10_readTruth_44 : decode cX10_readTruth 44 = .ok (.iload 4, 2) := by decide +kernel
theorem dX10_readTruth_46 : decode cX10_readTruth 46 = .ok (.aload_n 0, 1) := by decide +kernel
theorem dX10_readTruth_47 : decode cX10_readTruth 47 = .ok (.getfield 13, 3) := by decide +kernel
theorem dX10_readTruth_50 : decode cX10_readTruth 50 = .ok (.iload_n 1, 1) := by decide +kernel
theorem dX10_readTruth_51 : decode cX10_readTruth 51 = .ok (.iaload, 1) := by decide +kernel
theorem dX10_readTruth_52 : decode cX10_readTruth 52 = .ok (.if_icmp .ge 60, 3) := by decide +kernel
theorem dX10_readTruth_55 : decode cX10_readTruth 55 = .ok (.aload_n 0, 1) := by decide +kernel
theorem dX10_readTruth_56 : decode cX10_readTruth 56 = .ok (.getfield 94, 3) := by decide +kernel
theorem dX10_readTruth_59 : decode cX10_readTruth 59 = .ok (.iconst (-1), 1) := by decide +kernel
theorem dX10_readTruth_60 : decode cX10_readTruth 60 = .ok (.if_icmp .ne 52, 3) := by decide +kernel
theorem dX10_readTruth_63 : decode cX10_readTruth 63 = .ok (.aload_n 0, 1) := by decide +kernel
theorem dX10_readTruth_64 : decode cX10_readTruth 64 = .ok (.iload 4, 2) := by decide +kernel
theorem dX10_readTruth_66 : decode cX10_readTruth 66 = .ok (.aload_n 0, 1) := by decide +kernel
theorem dX10_readTruth_67 : decode cX10_readTruth 67 = .ok (.getfield 13, 3) := by decide +kernel
theorem dX10_readTruth_70 : decode cX10_readTruth 70 = .ok (.iload_n 1, 1) := by decide +kernel
theorem dX10_readTruth_71 : decode cX10_readTruth 71 = .ok (.iaload, 1) := by decide +kernel
theorem dX10_readTruth_72 : decode cX10_readTruth 72 = .ok (.iconst 1, 1) := by decide +kernel
theorem dX10_readTruth_73 : decode cX10_readTruth 73 = .ok (.isub, 1) := by decide +kernel
theorem dX10_readTruth_74 : decode cX10_readTruth 74 = .ok (.if_icmp .ne 7, 3) := by decide +kernel
theorem dX10_readTruth_77 : decode cX10_readTruth 77 = .ok (.iload_n 3, 1) := by decide +kernel
theorem dX10_readTruth_78 : decode cX10_readTruth 78 = .ok (.goto 4, 3) := by decide +kernel
theorem dX10_readTruth_81 : decode cX10_readTruth 81 = .ok (.iconst 0, 1) := by decide +kernel
theorem dX10_readTruth_82 : decode cX10_readTruth 82 = .ok (.iload_n 3, 1) := by decide +kernel
theorem dX10_readTruth_83 : decode cX10_readTruth 83 = .ok (.invokevirtual 111, 3) := by decide +kernel
theorem dX10_readTruth_86 : decode cX10_readTruth 86 = .ok (.istore 5, 2) := by decide +kernel
theorem dX10_readTruth_88 : decode cX10_readTruth 88 = .ok (.aload_n 0, 1) := by decide +kernel
theorem dX10_readTruth_89 : decode cX10_readTruth 89 = .ok (.getfield 25, 3) := by decide +kernel
theorem dX10_readTruth_92 : decode cX10_readTruth 92 = .ok (.iconst 5, 1) := by decide +kernel
theorem dX10_readTruth_93 : decode cX10_readTruth 93 = .ok (.iload_n 2, 1) := by decide +kernel
theorem dX10_readTruth_94 : decode cX10_readTruth 94 = .ok (.imul, 1) := by decide +kernel
theorem dX10_readTruth_95 : decode cX10_readTruth 95 = .ok (.iload 4, 2) := by decide +kernel
theorem dX10_readTruth_97 : decode cX10_readTruth 97 = .ok (.iadd, 1) := by decide +kernel
theorem dX10_readTruth_98 : decode cX10_readTruth 98 = .ok (.iload 5, 2) := by decide +kernel
theorem dX10_readTruth_100 : decode cX10_readTruth 100 = .ok (.iastore, 1) := by decide +kernel
theorem dX10_readTruth_101 : decode cX10_readTruth 101 = .ok (.iload_n 3, 1) := by decide +kernel
theorem dX10_readTruth_102 : decode cX10_readTruth 102 = .ok (.iload 5, 2) := by decide +kernel
theorem dX10_readTruth_104 : decode cX10_readTruth 104 = .ok (.isub, 1) := by decide +kernel
theorem dX10_readTruth_105 : decode cX10_readTruth 105 = .ok (.istore_n 3, 1) := by decide +kernel
theorem dX10_readTruth_106 : decode cX10_readTruth 106 = .ok (.iinc 4 1, 3) := by decide +kernel
theorem dX10_readTruth_109 : decode cX10_readTruth 109 = .ok (.goto (-65), 3) := by decide +kernel
theorem dX10_readTruth_112 : decode cX10_readTruth 112 = .ok (.aload_n 0, 1) := by decide +kernel
theorem dX10_readTruth_113 : decode cX10_readTruth 113 = .ok (.getfield 16, 3) := by decide +kernel
theorem dX10_readTruth_116 : decode cX10_readTruth 116 = .ok (.iload_n 1, 1) := by decide +kernel
theorem dX10_readTruth_117 : decode cX10_readTruth 117 = .ok (.dup2, 1) := by decide +kernel
theorem dX10_readTruth_118 : decode cX10_readTruth 118 = .ok (.iaload, 1) := by decide +kernel
theorem dX10_readTruth_119 : decode cX10_readTruth 119 = .ok (.iconst 1, 1) := by decide +kernel
theorem dX10_readTruth_120 : decode cX10_readTruth 120 = .ok (.iadd, 1) := by decide +kernel
theorem dX10_readTruth_121 : decode cX10_readTruth 121 = .ok (.iastore, 1) := by decide +kernel
theorem dX10_readTruth_122 : decode cX10_readTruth 122 = .ok (.return_, 1) := by decide +kernel
theorem dX10_fault_0 : decode cX10_fault 0 = .ok (.aload_n 0, 1) := by decide +kernel
theorem dX10_fault_1 : decode cX10_fault 1 = .ok (.bipush 8, 2) := by decide +kernel
theorem dX10_fault_3 : decode cX10_fault 3 = .ok (.invokevirtual 122, 3) := by decide +kernel
theorem dX10_fault_6 : decode cX10_fault 6 = .ok (.ireturn, 1) := by decide +kernel
theorem dX10_sale_0 : decode cX10_sale 0 = .ok (.aload_n 0, 1) := by decide +kernel
theorem dX10_sale_1 : decode cX10_sale 1 = .ok (.getfield 126, 3) := by decide +kernel
theorem dX10_sale_4 : decode cX10_sale 4 = .ok (.bipush 8, 2) := by decide +kernel
theorem dX10_sale_6 : decode cX10_sale 6 = .ok (.if_icmp .eq 15, 3) := by decide +kernel
theorem dX10_sale_9 : decode cX10_sale 9 = .ok (.aload_n 0, 1) := by decide +kernel
theorem dX10_sale_10 : decode cX10_sale 10 = .ok (.aload_n 0, 1) := by decide +kernel
theorem dX10_sale_11 : decode cX10_sale 11 = .ok (.getfield 126, 3) := by decide +kernel
theorem dX10_sale_14 : decode cX10_sale 14 = .ok (.invokevirtual 122, 3) := by decide +kernel
theorem dX10_sale_17 : decode cX10_sale 17 = .ok (.iconst (-1), 1) := by decide +kernel
theorem dX10_sale_18 : decode cX10_sale 18 = .ok (.if_icmp .eq 5, 3) := by decide +kernel
theorem dX10_sale_21 : decode cX10_sale 21 = .ok (.iconst (-1), 1) := by decide +kernel
theorem dX10_sale_22 : decode cX10_sale 22 = .ok (.ireturn, 1) := by decide +kernel
theorem dX10_sale_23 : decode cX10_sale 23 = .ok (.aload_n 0, 1) := by decide +kernel
theorem dX10_sale_24 : decode cX10_sale 24 = .ok (.iconst 0, 1) := by decide +kernel
theorem dX10_sale_25 : decode cX10_sale 25 = .ok (.putfield 84, 3) := by decide +kernel
theorem dX10_sale_28 : decode cX10_sale 28 = .ok (.aload_n 0, 1) := by decide +kernel
theorem dX10_sale_29 : decode cX10_sale 29 = .ok (.dup, 1) := by decide +kernel
theorem dX10_sale_30 : decode cX10_sale 30 = .ok (.getfield 126, 3) := by decide +kernel
theorem dX10_sale_33 : decode cX10_sale 33 = .ok (.iconst 1, 1) := by decide +kernel
theorem dX10_sale_34 : decode cX10_sale 34 = .ok (.iadd, 1) := by decide +kernel
theorem dX10_sale_35 : decode cX10_sale 35 = .ok (.putfield 126, 3) := by decide +kernel
theorem dX10_sale_38 : decode cX10_sale 38 = .ok (.aload_n 0, 1) := by decide +kernel
theorem dX10_sale_39 : decode cX10_sale 39 = .ok (.getfield 126, 3) := by decide +kernel
theorem dX10_sale_42 : decode cX10_sale 42 = .ok (.iconst 1, 1) := by decide +kernel
theorem dX10_sale_43 : decode cX10_sale 43 = .ok (.isub, 1) := by decide +kernel
theorem dX10_sale_44 : decode cX10_sale 44 = .ok (.ireturn, 1) := by decide +kernel
theorem dX10_isSale_0 : decode cX10_isSale 0 = .ok (.iload_n 1, 1) := by decide +kernel
theorem dX10_isSale_1 : decode cX10_isSale 1 = .ok (.iconst 0, 1) := by decide +kernel
theorem dX10_isSale_2 : decode cX10_isSale 2 = .ok (.aload_n 0, 1) := by decide +kernel
theorem dX10_isSale_3 : decode cX10_isSale 3 = .ok (.getfield 126, 3) := by decide +kernel
theorem dX10_isSale_6 : decode cX10_isSale 6 = .ok (.iconst 1, 1) := by decide +kernel
theorem dX10_isSale_7 : decode cX10_isSale 7 = .ok (.isub, 1) := by decide +kernel
theorem dX10_isSale_8 : decode cX10_isSale 8 = .ok (.invokestatic 107, 3) := by decide +kernel
theorem dX10_isSale_11 : decode cX10_isSale 11 = .ok (.ireturn, 1) := by decide +kernel
theorem dX10_allWeights_0 : decode cX10_allWeights 0 = .ok (.iconst 0, 1) := by decide +kernel
theorem dX10_allWeights_1 : decode cX10_allWeights 1 = .ok (.istore_n 2, 1) := by decide +kernel
theorem dX10_allWeights_2 : decode cX10_allWeights 2 = .ok (.iconst 0, 1) := by decide +kernel
theorem dX10_allWeights_3 : decode cX10_allWeights 3 = .ok (.istore_n 3, 1) := by decide +kernel
theorem dX10_allWeights_4 : decode cX10_allWeights 4 = .ok (.iload_n 3, 1) := by decide +kernel
theorem dX10_allWeights_5 : decode cX10_allWeights 5 = .ok (.aload_n 0, 1) := by decide +kernel
theorem dX10_allWeights_6 : decode cX10_allWeights 6 = .ok (.getfield 16, 3) := by decide +kernel
theorem dX10_allWeights_9 : decode cX10_allWeights 9 = .ok (.iload_n 1, 1) := by decide +kernel
theorem dX10_allWeights_10 : decode cX10_allWeights 10 = .ok (.iaload, 1) := by decide +kernel
theorem dX10_allWeights_11 : decode cX10_allWeights 11 = .ok (.if_icmp .ge 23, 3) := by decide +kernel
theorem dX10_allWeights_14 : decode cX10_allWeights 14 = .ok (.iload_n 2, 1) := by decide +kernel
theorem dX10_allWeights_15 : decode cX10_allWeights 15 = .ok (.aload_n 0, 1) := by decide +kernel
theorem dX10_allWeights_16 : decode cX10_allWeights 16 = .ok (.getfield 22, 3) := by decide +kernel
theorem dX10_allWeights_19 : decode cX10_allWeights 19 = .ok (.bipush 8, 2) := by decide +kernel
theorem dX10_allWeights_21 : decode cX10_allWeights 21 = .ok (.iload_n 1, 1) := by decide +kernel
theorem dX10_allWeights_22 : decode cX10_allWeights 22 = .ok (.imul, 1) := by decide +kernel
theorem dX10_allWeights_23 : decode cX10_allWeights 23 = .ok (.iload_n 3, 1) := by decide +kernel
theorem dX10_allWeights_24 : decode cX10_allWeights 24 = .ok (.iadd, 1) := by decide +kernel
theorem dX10_allWeights_25 : decode cX10_allWeights 25 = .ok (.iaload, 1) := by decide +kernel
theorem dX10_allWeights_26 : decode cX10_allWeights 26 = .ok (.iadd, 1) := by decide +kernel
theorem dX10_allWeights_27 : decode cX10_allWeights 27 = .ok (.istore_n 2, 1) := by decide +kernel
theorem dX10_allWeights_28 : decode cX10_allWeights 28 = .ok (.iinc 3 1, 3) := by decide +kernel
theorem dX10_allWeights_31 : decode cX10_allWeights 31 = .ok (.goto (-27), 3) := by decide +kernel
theorem dX10_allWeights_34 : decode cX10_allWeights 34 = .ok (.iload_n 2, 1) := by decide +kernel
theorem dX10_allWeights_35 : decode cX10_allWeights 35 = .ok (.ireturn, 1) := by decide +kernel
theorem dX10_told_0 : decode cX10_told 0 = .ok (.aload_n 0, 1) := by decide +kernel
theorem dX10_told_1 : decode cX10_told 1 = .ok (.iload_n 1, 1) := by decide +kernel
theorem dX10_told_2 : decode cX10_told 2 = .ok (.invokevirtual 129, 3) := by decide +kernel
theorem dX10_told_5 : decode cX10_told 5 = .ok (.ifCond .eq 12, 3) := by decide +kernel
theorem dX10_told_8 : decode cX10_told 8 = .ok (.iload_n 2, 1) := by decide +kernel
theorem dX10_told_9 : decode cX10_told 9 = .ok (.iconst 0, 1) := by decide +kernel
theorem dX10_told_10 : decode cX10_told 10 = .ok (.iconst 5, 1) := by decide +kernel
theorem dX10_told_11 : decode cX10_told 11 = .ok (.invokestatic 107, 3) := by decide +kernel
theorem dX10_told_14 : decode cX10_told 14 = .ok (.ifCond .ne 5, 3) := by decide +kernel
theorem dX10_told_17 : decode cX10_told 17 = .ok (.iconst (-1), 1) := by decide +kernel
theorem dX10_told_18 : decode cX10_told 18 = .ok (.ireturn, 1) := by decide +kernel
theorem dX10_told_19 : decode cX10_told 19 = .ok (.iload_n 2, 1) := by decide +kernel
theorem dX10_told_20 : decode cX10_told 20 = .ok (.ifCond .ne 12, 3) := by decide +kernel
theorem dX10_told_23 : decode cX10_told 23 = .ok (.aload_n 0, 1) := by decide +kernel
theorem dX10_told_24 : decode cX10_told 24 = .ok (.getfield 13, 3) := by decide +kernel
theorem dX10_told_27 : decode cX10_told 27 = .ok (.iload_n 1, 1) := by decide +kernel
theorem dX10_told_28 : decode cX10_told 28 = .ok (.iaload, 1) := by decide +kernel
theorem dX10_told_29 : decode cX10_told 29 = .ok (.goto 64, 3) := by decide +kernel
theorem dX10_told_32 : decode cX10_told 32 = .ok (.iload_n 2, 1) := by decide +kernel
theorem dX10_told_33 : decode cX10_told 33 = .ok (.iconst 1, 1) := by decide +kernel
theorem dX10_told_34 : decode cX10_told 34 = .ok (.if_icmp .ne 12, 3) := by decide +kernel
theorem dX10_told_37 : decode cX10_told 37 = .ok (.aload_n 0, 1) := by decide +kernel
theorem dX10_told_38 : decode cX10_told 38 = .ok (.getfield 16, 3) := by decide +kernel
theorem dX10_told_41 : decode cX10_told 41 = .ok (.iload_n 1, 1) := by decide +kernel
theorem dX10_told_42 : decode cX10_told 42 = .ok (.iaload, 1) := by decide +kernel
theorem dX10_told_43 : decode cX10_told 43 = .ok (.goto 50, 3) := by decide +kernel
theorem dX10_told_46 : decode cX10_told 46 = .ok (.iload_n 2, 1) := by decide +kernel
theorem dX10_told_47 : decode cX10_told 47 = .ok (.iconst 2, 1) := by decide +kernel
theorem dX10_told_48 : decode cX10_told 48 = .ok (.if_icmp .ne 12, 3) := by decide +kernel
theorem dX10_told_51 : decode cX10_told 51 = .ok (.aload_n 0, 1) := by decide +kernel
theorem dX10_told_52 : decode cX10_told 52 = .ok (.getfield 28, 3) := by decide +kernel
theorem dX10_told_55 : decode cX10_told 55 = .ok (.iload_n 1, 1) := by decide +kernel
theorem dX10_told_56 : decode cX10_told 56 = .ok (.iaload, 1) := by decide +kernel
theorem dX10_told_57 : decode cX10_told 57 = .ok (.goto 36, 3) := by decide +kernel
theorem dX10_told_60 : decode cX10_told 60 = .ok (.iload_n 2, 1) := by decide +kernel
theorem dX10_told_61 : decode cX10_told 61 = .ok (.iconst 3, 1) := by decide +kernel
theorem dX10_told_62 : decode cX10_told 62 = .ok (.if_icmp .ne 12, 3) := by decide +kernel
theorem dX10_told_65 : decode cX10_told 65 = .ok (.aload_n 0, 1) := by decide +kernel
theorem dX10_told_66 : decode cX10_told 66 = .ok (.getfield 31, 3) := by decide +kernel
theorem dX10_told_69 : decode cX10_told 69 = .ok (.iload_n 1, 1) := by decide +kernel
theorem dX10_told_70 : decode cX10_told 70 = .ok (.iaload, 1) := by decide +kernel
theorem dX10_told_71 : decode cX10_told 71 = .ok (.goto 22, 3) := by decide +kernel
theorem dX10_told_74 : decode cX10_told 74 = .ok (.iload_n 2, 1) := by decide +kernel
theorem dX10_told_75 : decode cX10_told 75 = .ok (.iconst 4, 1) := by decide +kernel
theorem dX10_told_76 : decode cX10_told 76 = .ok (.if_icmp .ne 12, 3) := by decide +kernel
theorem dX10_told_79 : decode cX10_told 79 = .ok (.aload_n 0, 1) := by decide +kernel
theorem dX10_told_80 : decode cX10_told 80 = .ok (.getfield 34, 3) := by decide +kernel
theorem dX10_told_83 : decode cX10_told 83 = .ok (.iload_n 1, 1) := by decide +kernel
theorem dX10_told_84 : decode cX10_told 84 = .ok (.iaload, 1) := by decide +kernel
theorem dX10_told_85 : decode cX10_told 85 = .ok (.goto 8, 3) := by decide +kernel
theorem dX10_told_88 : decode cX10_told 88 = .ok (.aload_n 0, 1) := by decide +kernel
theorem dX10_told_89 : decode cX10_told 89 = .ok (.iload_n 1, 1) := by decide +kernel
theorem dX10_told_90 : decode cX10_told 90 = .ok (.invokevirtual 132, 3) := by decide +kernel
theorem dX10_told_93 : decode cX10_told 93 = .ok (.ireturn, 1) := by decide +kernel
theorem dX10_truth_0 : decode cX10_truth 0 = .ok (.aload_n 0, 1) := by decide +kernel
theorem dX10_truth_1 : decode cX10_truth 1 = .ok (.aload_n 0, 1) := by decide +kernel
theorem dX10_truth_2 : decode cX10_truth 2 = .ok (.iload_n 1, 1) := by decide +kernel
theorem dX10_truth_3 : decode cX10_truth 3 = .ok (.invokevirtual 129, 3) := by decide +kernel
theorem dX10_truth_6 : decode cX10_truth 6 = .ok (.ifCond .eq 49, 3) := by decide +kernel
theorem dX10_truth_9 : decode cX10_truth 9 = .ok (.iload_n 2, 1) := by decide +kernel
theorem dX10_truth_10 : decode cX10_truth 10 = .ok (.iconst 0, 1) := by decide +kernel
theorem dX10_truth_11 : decode cX10_truth 11 = .ok (.aload_n 0, 1) := by decide +kernel
theorem dX10_truth_12 : decode cX10_truth 12 = .ok (.getfield 16, 3) := by decide +kernel
theorem dX10_truth_15 : decode cX10_truth 15 = .ok (.iload_n 1, 1) := by decide +kernel
theorem dX10_truth_16 : decode cX10_truth 16 = .ok (.iaload, 1) := by decide +kernel
theorem dX10_truth_17 : decode cX10_truth 17 = .ok (.iconst 1, 1) := by decide +kernel
theorem dX10_truth_18 : decode cX10_truth 18 = .ok (.isub, 1) := by decide +kernel
theorem dX10_truth_19 : decode cX10_truth 19 = .ok (.invokestatic 107, 3) := by decide +kernel
theorem dX10_truth_22 : decode cX10_truth 22 = .ok (.ifCond .eq 33, 3) := by decide +kernel
theorem dX10_truth_25 : decode cX10_truth 25 = .ok (.iload_n 3, 1) := by decide +kernel
theorem dX10_truth_26 : decode cX10_truth 26 = .ok (.iconst 0, 1) := by decide +kernel
theorem dX10_truth_27 : decode cX10_truth 27 = .ok (.aload_n 0, 1) := by decide +kernel
theorem dX10_truth_28 : decode cX10_truth 28 = .ok (.getfield 13, 3) := by decide +kernel
theorem dX10_truth_31 : decode cX10_truth 31 = .ok (.iload_n 1, 1) := by decide +kernel
theorem dX10_truth_32 : decode cX10_truth 32 = .ok (.iaload, 1) := by decide +kernel
theorem dX10_truth_33 : decode cX10_truth 33 = .ok (.iconst 1, 1) := by decide +kernel
theorem dX10_truth_34 : decode cX10_truth 34 = .ok (.isub, 1) := by decide +kernel
theorem dX10_truth_35 : decode cX10_truth 35 = .ok (.invokestatic 107, 3) := by decide +kernel
theorem dX10_truth_38 : decode cX10_truth 38 = .ok (.ifCond .ne 13, 3) := by decide +kernel
theorem dX10_truth_41 : decode cX10_truth 41 = .ok (.iload_n 3, 1) := by decide +kernel
theorem dX10_truth_42 : decode cX10_truth 42 = .ok (.iconst 5, 1) := by decide +kernel
theorem dX10_truth_43 : decode cX10_truth 43 = .ok (.bipush 6, 2) := by decide +kernel
theorem dX10_truth_45 : decode cX10_truth 45 = .ok (.invokestatic 107, 3) := by decide +kernel
theorem dX10_truth_48 : decode cX10_truth 48 = .ok (.ifCond .eq 7, 3) := by decide +kernel
theorem dX10_truth_51 : decode cX10_truth 51 = .ok (.iconst 0, 1) := by decide +kernel
theorem dX10_truth_52 : decode cX10_truth 52 = .ok (.goto 4, 3) := by decide +kernel
theorem dX10_truth_55 : decode cX10_truth 55 = .ok (.iconst 1, 1) := by decide +kernel
theorem dX10_truth_56 : decode cX10_truth 56 = .ok (.putfield 76, 3) := by decide +kernel
theorem dX10_truth_59 : decode cX10_truth 59 = .ok (.aload_n 0, 1) := by decide +kernel
theorem dX10_truth_60 : decode cX10_truth 60 = .ok (.getfield 76, 3) := by decide +kernel
theorem dX10_truth_63 : decode cX10_truth 63 = .ok (.iconst 1, 1) := by decide +kernel
theorem dX10_truth_64 : decode cX10_truth 64 = .ok (.if_icmp .ne 5, 3) := by decide +kernel
theorem dX10_truth_67 : decode cX10_truth 67 = .ok (.iconst 0, 1) := by decide +kernel
theorem dX10_truth_68 : decode cX10_truth 68 = .ok (.ireturn, 1) := by decide +kernel
theorem dX10_truth_69 : decode cX10_truth 69 = .ok (.bipush 8, 2) := by decide +kernel
theorem dX10_truth_71 : decode cX10_truth 71 = .ok (.iload_n 1, 1) := by decide +kernel
theorem dX10_truth_72 : decode cX10_truth 72 = .ok (.imul, 1) := by decide +kernel
theorem dX10_truth_73 : decode cX10_truth 73 = .ok (.iload_n 2, 1) := by decide +kernel
theorem dX10_truth_74 : decode cX10_truth 74 = .ok (.iadd, 1) := by decide +kernel
theorem dX10_truth_75 : decode cX10_truth 75 = .ok (.istore 4, 2) := by decide +kernel
theorem dX10_truth_77 : decode cX10_truth 77 = .ok (.iload_n 3, 1) := by decide +kernel
theorem dX10_truth_78 : decode cX10_truth 78 = .ok (.iconst 5, 1) := by decide +kernel
theorem dX10_truth_79 : decode cX10_truth 79 = .ok (.if_icmp .ne 13, 3) := by decide +kernel
theorem dX10_truth_82 : decode cX10_truth 82 = .ok (.aload_n 0, 1) := by decide +kernel
theorem dX10_truth_83 : decode cX10_truth 83 = .ok (.getfield 19, 3) := by decide +kernel
theorem dX10_truth_86 : decode cX10_truth 86 = .ok (.iload 4, 2) := by decide +kernel
theorem dX10_truth_88 : decode cX10_truth 88 = .ok (.iaload, 1) := by decide +kernel
theorem dX10_truth_89 : decode cX10_truth 89 = .ok (.goto 30, 3) := by decide +kernel
theorem dX10_truth_92 : decode cX10_truth 92 = .ok (.iload_n 3, 1) := by decide +kernel
theorem dX10_truth_93 : decode cX10_truth 93 = .ok (.bipush 6, 2) := by decide +kernel
theorem dX10_truth_95 : decode cX10_truth 95 = .ok (.if_icmp .ne 13, 3) := by decide +kernel
theorem dX10_truth_98 : decode cX10_truth 98 = .ok (.aload_n 0, 1) := by decide +kernel
theorem dX10_truth_99 : decode cX10_truth 99 = .ok (.getfield 22, 3) := by decide +kernel
theorem dX10_truth_102 : decode cX10_truth 102 = .ok (.iload 4, 2) := by decide +kernel
theorem dX10_truth_104 : decode cX10_truth 104 = .ok (.iaload, 1) := by decide +kernel
theorem dX10_truth_105 : decode cX10_truth 105 = .ok (.goto 14, 3) := by decide +kernel
theorem dX10_truth_108 : decode cX10_truth 108 = .ok (.aload_n 0, 1) := by decide +kernel
theorem dX10_truth_109 : decode cX10_truth 109 = .ok (.getfield 25, 3) := by decide +kernel
theorem dX10_truth_112 : decode cX10_truth 112 = .ok (.iconst 5, 1) := by decide +kernel
theorem dX10_truth_113 : decode cX10_truth 113 = .ok (.iload 4, 2) := by decide +kernel
theorem dX10_truth_115 : decode cX10_truth 115 = .ok (.imul, 1) := by decide +kernel
theorem dX10_truth_116 : decode cX10_truth 116 = .ok (.iload_n 3, 1) := by decide +kernel
theorem dX10_truth_117 : decode cX10_truth 117 = .ok (.iadd, 1) := by decide +kernel
theorem dX10_truth_118 : decode cX10_truth 118 = .ok (.iaload, 1) := by decide +kernel
theorem dX10_truth_119 : decode cX10_truth 119 = .ok (.ireturn, 1) := by decide +kernel
theorem dX10_change_0 : decode cX10_change 0 = .ok (.aload_n 0, 1) := by decide +kernel
theorem dX10_change_1 : decode cX10_change 1 = .ok (.iload_n 1, 1) := by decide +kernel
theorem dX10_change_2 : decode cX10_change 2 = .ok (.invokevirtual 129, 3) := by decide +kernel
theorem dX10_change_5 : decode cX10_change 5 = .ok (.ifCond .eq 47, 3) := by decide +kernel
theorem dX10_change_8 : decode cX10_change 8 = .ok (.iload_n 2, 1) := by decide +kernel
theorem dX10_change_9 : decode cX10_change 9 = .ok (.iconst 0, 1) := by decide +kernel
theorem dX10_change_10 : decode cX10_change 10 = .ok (.iconst 2, 1) := by decide +kernel
theorem dX10_change_11 : decode cX10_change 11 = .ok (.invokestatic 107, 3) := by decide +kernel
theorem dX10_change_14 : decode cX10_change 14 = .ok (.ifCond .eq 38, 3) := by decide +kernel
theorem dX10_change_17 : decode cX10_change 17 = .ok (.iload_n 3, 1) := by decide +kernel
theorem dX10_change_18 : decode cX10_change 18 = .ok (.iload_n 2, 1) := by decide +kernel
theorem dX10_change_19 : decode cX10_change 19 = .ok (.ifCond .ne 7, 3) := by decide +kernel
theorem dX10_change_22 : decode cX10_change 22 = .ok (.iconst 1, 1) := by decide +kernel
theorem dX10_change_23 : decode cX10_change 23 = .ok (.goto 4, 3) := by decide +kernel
theorem dX10_change_26 : decode cX10_change 26 = .ok (.iconst 0, 1) := by decide +kernel
theorem dX10_change_27 : decode cX10_change 27 = .ok (.iload_n 2, 1) := by decide +kernel
theorem dX10_change_28 : decode cX10_change 28 = .ok (.ifCond .ne 7, 3) := by decide +kernel
theorem dX10_change_31 : decode cX10_change 31 = .ok (.iconst 4, 1) := by decide +kernel
theorem dX10_change_32 : decode cX10_change 32 = .ok (.goto 14, 3) := by decide +kernel
theorem dX10_change_35 : decode cX10_change 35 = .ok (.iload_n 2, 1) := by decide +kernel
theorem dX10_change_36 : decode cX10_change 36 = .ok (.iconst 1, 1) := by decide +kernel
theorem dX10_change_37 : decode cX10_change 37 = .ok (.if_icmp .ne 8, 3) := by decide +kernel
theorem dX10_change_40 : decode cX10_change 40 = .ok (.bipush 60, 2) := by decide +kernel
theorem dX10_change_42 : decode cX10_change 42 = .ok (.goto 4, 3) := by decide +kernel
theorem dX10_change_45 : decode cX10_change 45 = .ok (.iconst 2, 1) := by decide +kernel
theorem dX10_change_46 : decode cX10_change 46 = .ok (.invokestatic 107, 3) := by decide +kernel
theorem dX10_change_49 : decode cX10_change 49 = .ok (.ifCond .ne 5, 3) := by decide +kernel
theorem dX10_change_52 : decode cX10_change 52 = .ok (.iconst 0, 1) := by decide +kernel
theorem dX10_change_53 : decode cX10_change 53 = .ok (.ireturn, 1) := by decide +kernel
theorem dX10_change_54 : decode cX10_change 54 = .ok (.iload_n 2, 1) := by decide +kernel
theorem dX10_change_55 : decode cX10_change 55 = .ok (.ifCond .ne 13, 3) := by decide +kernel
theorem dX10_change_58 : decode cX10_change 58 = .ok (.aload_n 0, 1) := by decide +kernel
theorem dX10_change_59 : decode cX10_change 59 = .ok (.getfield 28, 3) := by decide +kernel
theorem dX10_change_62 : decode cX10_change 62 = .ok (.iload_n 1, 1) := by decide +kernel
theorem dX10_change_63 : decode cX10_change 63 = .ok (.iload_n 3, 1) := by decide +kernel
theorem dX10_change_64 : decode cX10_change 64 = .ok (.iastore, 1) := by decide +kernel
theorem dX10_change_65 : decode cX10_change 65 = .ok (.goto 25, 3) := by decide +kernel
theorem dX10_change_68 : decode cX10_change 68 = .ok (.iload_n 2, 1) := by decide +kernel
theorem dX10_change_69 : decode cX10_change 69 = .ok (.iconst 1, 1) := by decide +kernel
theorem dX10_change_70 : decode cX10_change 70 = .ok (.if_icmp .ne 13, 3) := by decide +kernel
theorem dX10_change_73 : decode cX10_change 73 = .ok (.aload_n 0, 1) := by decide +kernel
theorem dX10_change_74 : decode cX10_change 74 = .ok (.getfield 31, 3) := by decide +kernel
theorem dX10_change_77 : decode cX10_change 77 = .ok (.iload_n 1, 1) := by decide +kernel
theorem dX10_change_78 : decode cX10_change 78 = .ok (.iload_n 3, 1) := by decide +kernel
theorem dX10_change_79 : decode cX10_change 79 = .ok (.iastore, 1) := by decide +kernel
theorem dX10_change_80 : decode cX10_change 80 = .ok (.goto 10, 3) := by decide +kernel
theorem dX10_change_83 : decode cX10_change 83 = .ok (.aload_n 0, 1) := by decide +kernel
theorem dX10_change_84 : decode cX10_change 84 = .ok (.getfield 34, 3) := by decide +kernel
theorem dX10_change_87 : decode cX10_change 87 = .ok (.iload_n 1, 1) := by decide +kernel
theorem dX10_change_88 : decode cX10_change 88 = .ok (.iload_n 3, 1) := by decide +kernel
theorem dX10_change_89 : decode cX10_change 89 = .ok (.iastore, 1) := by decide +kernel
theorem dX10_change_90 : decode cX10_change 90 = .ok (.iconst 1, 1) := by decide +kernel
theorem dX10_change_91 : decode cX10_change 91 = .ok (.ireturn, 1) := by decide +kernel
theorem dX10_see_0 : decode cX10_see 0 = .ok (.iconst 0, 1) := by decide +kernel
theorem dX10_see_1 : decode cX10_see 1 = .ok (.istore 5, 2) := by decide +kernel
theorem dX10_see_3 : decode cX10_see 3 = .ok (.iload 5, 2) := by decide +kernel
theorem dX10_see_5 : decode cX10_see 5 = .ok (.iconst 5, 1) := by decide +kernel
theorem dX10_see_6 : decode cX10_see 6 = .ok (.if_icmp .ge 64, 3) := by decide +kernel
theorem dX10_see_9 : decode cX10_see 9 = .ok (.aload_n 0, 1) := by decide +kernel
theorem dX10_see_10 : decode cX10_see 10 = .ok (.getfield 40, 3) := by decide +kernel
theorem dX10_see_13 : decode cX10_see 13 = .ok (.iload 5, 2) := by decide +kernel
theorem dX10_see_15 : decode cX10_see 15 = .ok (.iload 5, 2) := by decide +kernel
theorem dX10_see_17 : decode cX10_see 17 = .ok (.iload_n 1, 1) := by decide +kernel
theorem dX10_see_18 : decode cX10_see 18 = .ok (.if_icmp .ne 7, 3) := by decide +kernel
theorem dX10_see_21 : decode cX10_see 21 = .ok (.iconst 1, 1) := by decide +kernel
theorem dX10_see_22 : decode cX10_see 22 = .ok (.goto 4, 3) := by decide +kernel
theorem dX10_see_25 : decode cX10_see 25 = .ok (.iconst 0, 1) := by decide +kernel
theorem dX10_see_26 : decode cX10_see 26 = .ok (.iload 5, 2) := by decide +kernel
theorem dX10_see_28 : decode cX10_see 28 = .ok (.iload_n 2, 1) := by decide +kernel
theorem dX10_see_29 : decode cX10_see 29 = .ok (.if_icmp .ne 7, 3) := by decide +kernel
theorem dX10_see_32 : decode cX10_see 32 = .ok (.iconst 1, 1) := by decide +kernel
theorem dX10_see_33 : decode cX10_see 33 = .ok (.goto 4, 3) := by decide +kernel
theorem dX10_see_36 : decode cX10_see 36 = .ok (.iconst 0, 1) := by decide +kernel
theorem dX10_see_37 : decode cX10_see 37 = .ok (.iadd, 1) := by decide +kernel
theorem dX10_see_38 : decode cX10_see 38 = .ok (.iload 5, 2) := by decide +kernel
theorem dX10_see_40 : decode cX10_see 40 = .ok (.iload_n 3, 1) := by decide +kernel
theorem dX10_see_41 : decode cX10_see 41 = .ok (.if_icmp .ne 7, 3) := by decide +kernel
theorem dX10_see_44 : decode cX10_see 44 = .ok (.iconst 1, 1) := by decide +kernel
theorem dX10_see_45 : decode cX10_see 45 = .ok (.goto 4, 3) := by decide +kernel
theorem dX10_see_48 : decode cX10_see 48 = .ok (.iconst 0, 1) := by decide +kernel
theorem dX10_see_49 : decode cX10_see 49 = .ok (.iadd, 1) := by decide +kernel
theorem dX10_see_50 : decode cX10_see 50 = .ok (.iload 5, 2) := by decide +kernel
theorem dX10_see_52 : decode cX10_see 52 = .ok (.iload 4, 2) := by decide +kernel
theorem dX10_see_54 : decode cX10_see 54 = .ok (.if_icmp .ne 7, 3) := by decide +kernel
theorem dX10_see_57 : decode cX10_see 57 = .ok (.iconst 1, 1) := by decide +kernel
theorem dX10_see_58 : decode cX10_see 58 = .ok (.goto 4, 3) := by decide +kernel
theorem dX10_see_61 : decode cX10_see 61 = .ok (.iconst 0, 1) := by decide +kernel
theorem dX10_see_62 : decode cX10_see 62 = .ok (.iadd, 1) := by decide +kernel
theorem dX10_see_63 : decode cX10_see 63 = .ok (.iastore, 1) := by decide +kernel
theorem dX10_see_64 : decode cX10_see 64 = .ok (.iinc 5 1, 3) := by decide +kernel
theorem dX10_see_67 : decode cX10_see 67 = .ok (.goto (-64), 3) := by decide +kernel
theorem dX10_see_70 : decode cX10_see 70 = .ok (.return_, 1) := by decide +kernel
theorem dX10_weigh_0 : decode cX10_weigh 0 = .ok (.aload_n 0, 1) := by decide +kernel
theorem dX10_weigh_1 : decode cX10_weigh 1 = .ok (.lconst 0, 1) := by decide +kernel
theorem dX10_weigh_2 : decode cX10_weigh 2 = .ok (.putfield 135, 3) := by decide +kernel
theorem dX10_weigh_5 : decode cX10_weigh 5 = .ok (.aload_n 0, 1) := by decide +kernel
theorem dX10_weigh_6 : decode cX10_weigh 6 = .ok (.lconst 0, 1) := by decide +kernel
theorem dX10_weigh_7 : decode cX10_weigh 7 = .ok (.putfield 139, 3) := by decide +kernel
theorem dX10_weigh_10 : decode cX10_weigh 10 = .ok (.iconst 0, 1) := by decide +kernel
theorem dX10_weigh_11 : decode cX10_weigh 11 = .ok (.istore_n 2, 1) := by decide +kernel
theorem dX10_weigh_12 : decode cX10_weigh 12 = .ok (.iload_n 2, 1) := by decide +kernel
theorem dX10_weigh_13 : decode cX10_weigh 13 = .ok (.aload_n 0, 1) := by decide +kernel
theorem dX10_weigh_14 : decode cX10_weigh 14 = .ok (.getfield 16, 3) := by decide +kernel
theorem dX10_weigh_17 : decode cX10_weigh 17 = .ok (.iload_n 1, 1) := by decide +kernel
theorem dX10_weigh_18 : decode cX10_weigh 18 = .ok (.iaload, 1) := by decide +kernel
theorem dX10_weigh_19 : decode cX10_weigh 19 = .ok (.if_icmp .ge 111, 3) := by decide +kernel
theorem dX10_weigh_22 : decode cX10_weigh 22 = .ok (.aload_n 0, 1) := by decide +kernel
theorem dX10_weigh_23 : decode cX10_weigh 23 = .ok (.getfield 22, 3) := by decide +kernel
theorem dX10_weigh_26 : decode cX10_weigh 26 = .ok (.bipush 8, 2) := by decide +kernel
theorem dX10_weigh_28 : decode cX10_weigh 28 = .ok (.iload_n 1, 1) := by decide +kernel
theorem dX10_weigh_29 : decode cX10_weigh 29 = .ok (.imul, 1) := by decide +kernel
theorem dX10_weigh_30 : decode cX10_weigh 30 = .ok (.iload_n 2, 1) := by decide +kernel
theorem dX10_weigh_31 : decode cX10_weigh 31 = .ok (.iadd, 1) := by decide +kernel
theorem dX10_weigh_32 : decode cX10_weigh 32 = .ok (.iaload, 1) := by decide +kernel
theorem dX10_weigh_33 : decode cX10_weigh 33 = .ok (.i2l, 1) := by decide +kernel
theorem dX10_weigh_34 : decode cX10_weigh 34 = .ok (.lstore_n 3, 1) := by decide +kernel
theorem dX10_weigh_35 : decode cX10_weigh 35 = .ok (.iconst 0, 1) := by decide +kernel
theorem dX10_weigh_36 : decode cX10_weigh 36 = .ok (.istore 5, 2) := by decide +kernel
theorem dX10_weigh_38 : decode cX10_weigh 38 = .ok (.iload 5, 2) := by decide +kernel
theorem dX10_weigh_40 : decode cX10_weigh 40 = .ok (.iconst 5, 1) := by decide +kernel
theorem dX10_weigh_41 : decode cX10_weigh 41 = .ok (.if_icmp .ge 50, 3) := by decide +kernel
theorem dX10_weigh_44 : decode cX10_weigh 44 = .ok (.iconst 0, 1) := by decide +kernel
theorem dX10_weigh_45 : decode cX10_weigh 45 = .ok (.istore 6, 2) := by decide +kernel
theorem dX10_weigh_47 : decode cX10_weigh 47 = .ok (.iload 6, 2) := by decide +kernel
theorem dX10_weigh_49 : decode cX10_weigh 49 = .ok (.aload_n 0, 1) := by decide +kernel
theorem dX10_weigh_50 : decode cX10_weigh 50 = .ok (.getfield 40, 3) := by decide +kernel
theorem dX10_weigh_53 : decode cX10_weigh 53 = .ok (.iload 5, 2) := by decide +kernel
theorem dX10_weigh_55 : decode cX10_weigh 55 = .ok (.iaload, 1) := by decide +kernel
theorem dX10_weigh_56 : decode cX10_weigh 56 = .ok (.if_icmp .ge 29, 3) := by decide +kernel
theorem dX10_weigh_59 : decode cX10_weigh 59 = .ok (.lload_n 3, 1) := by decide +kernel
theorem dX10_weigh_60 : decode cX10_weigh 60 = .ok (.aload_n 0, 1) := by decide +kernel
theorem dX10_weigh_61 : decode cX10_weigh 61 = .ok (.getfield 25, 3) := by decide +kernel
theorem dX10_weigh_64 : decode cX10_weigh 64 = .ok (.iconst 5, 1) := by decide +kernel
theorem dX10_weigh_65 : decode cX10_weigh 65 = .ok (.bipush 8, 2) := by decide +kernel
theorem dX10_weigh_67 : decode cX10_weigh 67 = .ok (.iload_n 1, 1) := by decide +kernel
theorem dX10_weigh_68 : decode cX10_weigh 68 = .ok (.imul, 1) := by decide +kernel
theorem dX10_weigh_69 : decode cX10_weigh 69 = .ok (.iload_n 2, 1) := by decide +kernel
theorem dX10_weigh_70 : decode cX10_weigh 70 = .ok (.iadd, 1) := by decide +kernel
theorem dX10_weigh_71 : decode cX10_weigh 71 = .ok (.imul, 1) := by decide +kernel
theorem dX10_weigh_72 : decode cX10_weigh 72 = .ok (.iload 5, 2) := by decide +kernel
theorem dX10_weigh_74 : decode cX10_weigh 74 = .ok (.iadd, 1) := by decide +kernel
theorem dX10_weigh_75 : decode cX10_weigh 75 = .ok (.iaload, 1) := by decide +kernel
theorem dX10_weigh_76 : decode cX10_weigh 76 = .ok (.i2l, 1) := by decide +kernel
theorem dX10_weigh_77 : decode cX10_weigh 77 = .ok (.lmul, 1) := by decide +kernel
theorem dX10_weigh_78 : decode cX10_weigh 78 = .ok (.lstore_n 3, 1) := by decide +kernel
theorem dX10_weigh_79 : decode cX10_weigh 79 = .ok (.iinc 6 1, 3) := by decide +kernel
theorem dX10_weigh_82 : decode cX10_weigh 82 = .ok (.goto (-35), 3) := by decide +kernel
theorem dX10_weigh_85 : decode cX10_weigh 85 = .ok (.iinc 5 1, 3) := by decide +kernel
theorem dX10_weigh_88 : decode cX10_weigh 88 = .ok (.goto (-50), 3) := by decide +kernel
theorem dX10_weigh_91 : decode cX10_weigh 91 = .ok (.aload_n 0, 1) := by decide +kernel
theorem dX10_weigh_92 : decode cX10_weigh 92 = .ok (.dup, 1) := by decide +kernel
theorem dX10_weigh_93 : decode cX10_weigh 93 = .ok (.getfield 135, 3) := by decide +kernel
theorem dX10_weigh_96 : decode cX10_weigh 96 = .ok (.lload_n 3, 1) := by decide +kernel
theorem dX10_weigh_97 : decode cX10_weigh 97 = .ok (.aload_n 0, 1) := by decide +kernel
theorem dX10_weigh_98 : decode cX10_weigh 98 = .ok (.getfield 19, 3) := by decide +kernel
theorem dX10_weigh_101 : decode cX10_weigh 101 = .ok (.bipush 8, 2) := by decide +kernel
theorem dX10_weigh_103 : decode cX10_weigh 103 = .ok (.iload_n 1, 1) := by decide +kernel
theorem dX10_weigh_104 : decode cX10_weigh 104 = .ok (.imul, 1) := by decide +kernel
theorem dX10_weigh_105 : decode cX10_weigh 105 = .ok (.iload_n 2, 1) := by decide +kernel
theorem dX10_weigh_106 : decode cX10_weigh 106 = .ok (.iadd, 1) := by decide +kernel
theorem dX10_weigh_107 : decode cX10_weigh 107 = .ok (.iaload, 1) := by decide +kernel
theorem dX10_weigh_108 : decode cX10_weigh 108 = .ok (.i2l, 1) := by decide +kernel
theorem dX10_weigh_109 : decode cX10_weigh 109 = .ok (.lmul, 1) := by decide +kernel
theorem dX10_weigh_110 : decode cX10_weigh 110 = .ok (.ladd, 1) := by decide +kernel
theorem dX10_weigh_111 : decode cX10_weigh 111 = .ok (.putfield 135, 3) := by decide +kernel
theorem dX10_weigh_114 : decode cX10_weigh 114 = .ok (.aload_n 0, 1) := by decide +kernel
theorem dX10_weigh_115 : decode cX10_weigh 115 = .ok (.dup, 1) := by decide +kernel
theorem dX10_weigh_116 : decode cX10_weigh 116 = .ok (.getfield 139, 3) := by decide +kernel
theorem dX10_weigh_119 : decode cX10_weigh 119 = .ok (.lload_n 3, 1) := by decide +kernel
theorem dX10_weigh_120 : decode cX10_weigh 120 = .ok (.ladd, 1) := by decide +kernel
theorem dX10_weigh_121 : decode cX10_weigh 121 = .ok (.putfield 139, 3) := by decide +kernel
theorem dX10_weigh_124 : decode cX10_weigh 124 = .ok (.iinc 2 1, 3) := by decide +kernel
theorem dX10_weigh_127 : decode cX10_weigh 127 = .ok (.goto (-115), 3) := by decide +kernel
theorem dX10_weigh_130 : decode cX10_weigh 130 = .ok (.return_, 1) := by decide +kernel
theorem dX10_heldNow_0 : decode cX10_heldNow 0 = .ok (.aload_n 0, 1) := by decide +kernel
theorem dX10_heldNow_1 : decode cX10_heldNow 1 = .ok (.iload_n 1, 1) := by decide +kernel
theorem dX10_heldNow_2 : decode cX10_heldNow 2 = .ok (.invokevirtual 142, 3) := by decide +kernel
theorem dX10_heldNow_5 : decode cX10_heldNow 5 = .ok (.aload_n 0, 1) := by decide +kernel
theorem dX10_heldNow_6 : decode cX10_heldNow 6 = .ok (.getfield 139, 3) := by decide +kernel
theorem dX10_heldNow_9 : decode cX10_heldNow 9 = .ok (.lconst 0, 1) := by decide +kernel
theorem dX10_heldNow_10 : decode cX10_heldNow 10 = .ok (.lcmp, 1) := by decide +kernel
theorem dX10_heldNow_11 : decode cX10_heldNow 11 = .ok (.ifCond .ne 7, 3) := by decide +kernel
theorem dX10_heldNow_14 : decode cX10_heldNow 14 = .ok (.iconst 0, 1) := by decide +kernel
theorem dX10_heldNow_15 : decode cX10_heldNow 15 = .ok (.goto 13, 3) := by decide +kernel
theorem dX10_heldNow_18 : decode cX10_heldNow 18 = .ok (.aload_n 0, 1) := by decide +kernel
theorem dX10_heldNow_19 : decode cX10_heldNow 19 = .ok (.getfield 135, 3) := by decide +kernel
theorem dX10_heldNow_22 : decode cX10_heldNow 22 = .ok (.aload_n 0, 1) := by decide +kernel
theorem dX10_heldNow_23 : decode cX10_heldNow 23 = .ok (.getfield 139, 3) := by decide +kernel
theorem dX10_heldNow_26 : decode cX10_heldNow 26 = .ok (.ldiv, 1) := by decide +kernel
theorem dX10_heldNow_27 : decode cX10_heldNow 27 = .ok (.l2i, 1) := by decide +kernel
theorem dX10_heldNow_28 : decode cX10_heldNow 28 = .ok (.ireturn, 1) := by decide +kernel
theorem dX10_held_0 : decode cX10_held 0 = .ok (.aload_n 0, 1) := by decide +kernel
theorem dX10_held_1 : decode cX10_held 1 = .ok (.iload_n 2, 1) := by decide +kernel
theorem dX10_held_2 : decode cX10_held 2 = .ok (.iload_n 3, 1) := by decide +kernel
theorem dX10_held_3 : decode cX10_held 3 = .ok (.iload 4, 2) := by decide +kernel
theorem dX10_held_5 : decode cX10_held 5 = .ok (.iconst (-1), 1) := by decide +kernel
theorem dX10_held_6 : decode cX10_held 6 = .ok (.invokevirtual 145, 3) := by decide +kernel
theorem dX10_held_9 : decode cX10_held 9 = .ok (.aload_n 0, 1) := by decide +kernel
theorem dX10_held_10 : decode cX10_held 10 = .ok (.iload_n 1, 1) := by decide +kernel
theorem dX10_held_11 : decode cX10_held 11 = .ok (.invokevirtual 149, 3) := by decide +kernel
theorem dX10_held_14 : decode cX10_held 14 = .ok (.ireturn, 1) := by decide +kernel
theorem dX10_divisor_0 : decode cX10_divisor 0 = .ok (.lload_n 2, 1) := by decide +kernel
theorem dX10_divisor_1 : decode cX10_divisor 1 = .ok (.lconst 0, 1) := by decide +kernel
theorem dX10_divisor_2 : decode cX10_divisor 2 = .ok (.lcmp, 1) := by decide +kernel
theorem dX10_divisor_3 : decode cX10_divisor 3 = .ok (.ifCond .ne 7, 3) := by decide +kernel
theorem dX10_divisor_6 : decode cX10_divisor 6 = .ok (.lload_n 0, 1) := by decide +kernel
theorem dX10_divisor_7 : decode cX10_divisor 7 = .ok (.goto 10, 3) := by decide +kernel
theorem dX10_divisor_10 : decode cX10_divisor 10 = .ok (.lload_n 2, 1) := by decide +kernel
theorem dX10_divisor_11 : decode cX10_divisor 11 = .ok (.lload_n 0, 1) := by decide +kernel
theorem dX10_divisor_12 : decode cX10_divisor 12 = .ok (.lload_n 2, 1) := by decide +kernel
theorem dX10_divisor_13 : decode cX10_divisor 13 = .ok (.lrem, 1) := by decide +kernel
theorem dX10_divisor_14 : decode cX10_divisor 14 = .ok (.invokestatic 152, 3) := by decide +kernel
theorem dX10_divisor_17 : decode cX10_divisor 17 = .ok (.lreturn, 1) := by decide +kernel
theorem dX10_part_0 : decode cX10_part 0 = .ok (.lload_n 2, 1) := by decide +kernel
theorem dX10_part_1 : decode cX10_part 1 = .ok (.lload_n 0, 1) := by decide +kernel
theorem dX10_part_2 : decode cX10_part 2 = .ok (.invokestatic 156, 3) := by decide +kernel
theorem dX10_part_5 : decode cX10_part 5 = .ok (.invokestatic 152, 3) := by decide +kernel
theorem dX10_part_8 : decode cX10_part 8 = .ok (.lstore 5, 2) := by decide +kernel
theorem dX10_part_10 : decode cX10_part 10 = .ok (.iload 4, 2) := by decide +kernel
theorem dX10_part_12 : decode cX10_part 12 = .ok (.ifCond .ne 10, 3) := by decide +kernel
theorem dX10_part_15 : decode cX10_part 15 = .ok (.lload_n 0, 1) := by decide +kernel
theorem dX10_part_16 : decode cX10_part 16 = .ok (.lload 5, 2) := by decide +kernel
theorem dX10_part_18 : decode cX10_part 18 = .ok (.ldiv, 1) := by decide +kernel
theorem dX10_part_19 : decode cX10_part 19 = .ok (.goto 7, 3) := by decide +kernel
theorem dX10_part_22 : decode cX10_part 22 = .ok (.lload_n 2, 1) := by decide +kernel
theorem dX10_part_23 : decode cX10_part 23 = .ok (.lload 5, 2) := by decide +kernel
theorem dX10_part_25 : decode cX10_part 25 = .ok (.ldiv, 1) := by decide +kernel
theorem dX10_part_26 : decode cX10_part 26 = .ok (.lreturn, 1) := by decide +kernel
theorem dX10_isSign_0 : decode cX10_isSign 0 = .ok (.iload_n 2, 1) := by decide +kernel
theorem dX10_isSign_1 : decode cX10_isSign 1 = .ok (.iconst 0, 1) := by decide +kernel
theorem dX10_isSign_2 : decode cX10_isSign 2 = .ok (.aload_n 0, 1) := by decide +kernel
theorem dX10_isSign_3 : decode cX10_isSign 3 = .ok (.getfield 13, 3) := by decide +kernel
theorem dX10_isSign_6 : decode cX10_isSign 6 = .ok (.iload_n 1, 1) := by decide +kernel
theorem dX10_isSign_7 : decode cX10_isSign 7 = .ok (.iaload, 1) := by decide +kernel
theorem dX10_isSign_8 : decode cX10_isSign 8 = .ok (.iconst 1, 1) := by decide +kernel
theorem dX10_isSign_9 : decode cX10_isSign 9 = .ok (.isub, 1) := by decide +kernel
theorem dX10_isSign_10 : decode cX10_isSign 10 = .ok (.invokestatic 107, 3) := by decide +kernel
theorem dX10_isSign_13 : decode cX10_isSign 13 = .ok (.ireturn, 1) := by decide +kernel
theorem dX10_isSignOrNone_0 : decode cX10_isSignOrNone 0 = .ok (.iload_n 2, 1) := by decide +kernel
theorem dX10_isSignOrNone_1 : decode cX10_isSignOrNone 1 = .ok (.iconst (-1), 1) := by decide +kernel
theorem dX10_isSignOrNone_2 : decode cX10_isSignOrNone 2 = .ok (.if_icmp .eq 12, 3) := by decide +kernel
theorem dX10_isSignOrNone_5 : decode cX10_isSignOrNone 5 = .ok (.aload_n 0, 1) := by decide +kernel
theorem dX10_isSignOrNone_6 : decode cX10_isSignOrNone 6 = .ok (.iload_n 1, 1) := by decide +kernel
theorem dX10_isSignOrNone_7 : decode cX10_isSignOrNone 7 = .ok (.iload_n 2, 1) := by decide +kernel
theorem dX10_isSignOrNone_8 : decode cX10_isSignOrNone 8 = .ok (.invokevirtual 162, 3) := by decide +kernel
theorem dX10_isSignOrNone_11 : decode cX10_isSignOrNone 11 = .ok (.ifCond .eq 7, 3) := by decide +kernel
theorem dX10_isSignOrNone_14 : decode cX10_isSignOrNone 14 = .ok (.iconst 1, 1) := by decide +kernel
theorem dX10_isSignOrNone_15 : decode cX10_isSignOrNone 15 = .ok (.goto 4, 3) := by decide +kernel
theorem dX10_isSignOrNone_18 : decode cX10_isSignOrNone 18 = .ok (.iconst 0, 1) := by decide +kernel
theorem dX10_isSignOrNone_19 : decode cX10_isSignOrNone 19 = .ok (.ireturn, 1) := by decide +kernel
theorem dX10_worth_0 : decode cX10_worth 0 = .ok (.aload_n 0, 1) := by decide +kernel
theorem dX10_worth_1 : decode cX10_worth 1 = .ok (.iload_n 1, 1) := by decide +kernel
theorem dX10_worth_2 : decode cX10_worth 2 = .ok (.invokevirtual 129, 3) := by decide +kernel
theorem dX10_worth_5 : decode cX10_worth 5 = .ok (.ifCond .eq 51, 3) := by decide +kernel
theorem dX10_worth_8 : decode cX10_worth 8 = .ok (.aload_n 0, 1) := by decide +kernel
theorem dX10_worth_9 : decode cX10_worth 9 = .ok (.iload_n 1, 1) := by decide +kernel
theorem dX10_worth_10 : decode cX10_worth 10 = .ok (.iload_n 2, 1) := by decide +kernel
theorem dX10_worth_11 : decode cX10_worth 11 = .ok (.invokevirtual 162, 3) := by decide +kernel
theorem dX10_worth_14 : decode cX10_worth 14 = .ok (.ifCond .eq 42, 3) := by decide +kernel
theorem dX10_worth_17 : decode cX10_worth 17 = .ok (.aload_n 0, 1) := by decide +kernel
theorem dX10_worth_18 : decode cX10_worth 18 = .ok (.iload_n 1, 1) := by decide +kernel
theorem dX10_worth_19 : decode cX10_worth 19 = .ok (.iload_n 3, 1) := by decide +kernel
theorem dX10_worth_20 : decode cX10_worth 20 = .ok (.invokevirtual 166, 3) := by decide +kernel
theorem dX10_worth_23 : decode cX10_worth 23 = .ok (.ifCond .eq 33, 3) := by decide +kernel
theorem dX10_worth_26 : decode cX10_worth 26 = .ok (.aload_n 0, 1) := by decide +kernel
theorem dX10_worth_27 : decode cX10_worth 27 = .ok (.iload_n 1, 1) := by decide +kernel
theorem dX10_worth_28 : decode cX10_worth 28 = .ok (.iload 4, 2) := by decide +kernel
theorem dX10_worth_30 : decode cX10_worth 30 = .ok (.invokevirtual 166, 3) := by decide +kernel
theorem dX10_worth_33 : decode cX10_worth 33 = .ok (.ifCond .eq 23, 3) := by decide +kernel
theorem dX10_worth_36 : decode cX10_worth 36 = .ok (.aload_n 0, 1) := by decide +kernel
theorem dX10_worth_37 : decode cX10_worth 37 = .ok (.iload_n 1, 1) := by decide +kernel
theorem dX10_worth_38 : decode cX10_worth 38 = .ok (.iload 5, 2) := by decide +kernel
theorem dX10_worth_40 : decode cX10_worth 40 = .ok (.invokevirtual 166, 3) := by decide +kernel
theorem dX10_worth_43 : decode cX10_worth 43 = .ok (.ifCond .eq 13, 3) := by decide +kernel
theorem dX10_worth_46 : decode cX10_worth 46 = .ok (.iload 6, 2) := by decide +kernel
theorem dX10_worth_48 : decode cX10_worth 48 = .ok (.iconst 0, 1) := by decide +kernel
theorem dX10_worth_49 : decode cX10_worth 49 = .ok (.iconst 1, 1) := by decide +kernel
theorem dX10_worth_50 : decode cX10_worth 50 = .ok (.invokestatic 107, 3) := by decide +kernel
theorem dX10_worth_53 : decode cX10_worth 53 = .ok (.ifCond .ne 5, 3) := by decide +kernel
theorem dX10_worth_56 : decode cX10_worth 56 = .ok (.iconst (-1), 1) := by decide +kernel
theorem dX10_worth_57 : decode cX10_worth 57 = .ok (.ireturn, 1) := by decide +kernel
theorem dX10_worth_58 : decode cX10_worth 58 = .ok (.aload_n 0, 1) := by decide +kernel
theorem dX10_worth_59 : decode cX10_worth 59 = .ok (.iload_n 2, 1) := by decide +kernel
theorem dX10_worth_60 : decode cX10_worth 60 = .ok (.iload_n 3, 1) := by decide +kernel
theorem dX10_worth_61 : decode cX10_worth 61 = .ok (.iload 4, 2) := by decide +kernel
theorem dX10_worth_63 : decode cX10_worth 63 = .ok (.iload 5, 2) := by decide +kernel
theorem dX10_worth_65 : decode cX10_worth 65 = .ok (.invokevirtual 145, 3) := by decide +kernel
theorem dX10_worth_68 : decode cX10_worth 68 = .ok (.aload_n 0, 1) := by decide +kernel
theorem dX10_worth_69 : decode cX10_worth 69 = .ok (.iload_n 1, 1) := by decide +kernel
theorem dX10_worth_70 : decode cX10_worth 70 = .ok (.invokevirtual 142, 3) := by decide +kernel
theorem dX10_worth_73 : decode cX10_worth 73 = .ok (.aload_n 0, 1) := by decide +kernel
theorem dX10_worth_74 : decode cX10_worth 74 = .ok (.getfield 139, 3) := by decide +kernel
theorem dX10_worth_77 : decode cX10_worth 77 = .ok (.lconst 0, 1) := by decide +kernel
theorem dX10_worth_78 : decode cX10_worth 78 = .ok (.lcmp, 1) := by decide +kernel
theorem dX10_worth_79 : decode cX10_worth 79 = .ok (.ifCond .ne 7, 3) := by decide +kernel
theorem dX10_worth_82 : decode cX10_worth 82 = .ok (.iconst (-1), 1) := by decide +kernel
theorem dX10_worth_83 : decode cX10_worth 83 = .ok (.goto 17, 3) := by decide +kernel
theorem dX10_worth_86 : decode cX10_worth 86 = .ok (.aload_n 0, 1) := by decide +kernel
theorem dX10_worth_87 : decode cX10_worth 87 = .ok (.getfield 135, 3) := by decide +kernel
theorem dX10_worth_90 : decode cX10_worth 90 = .ok (.aload_n 0, 1) := by decide +kernel
theorem dX10_worth_91 : decode cX10_worth 91 = .ok (.getfield 139, 3) := by decide +kernel
theorem dX10_worth_94 : decode cX10_worth 94 = .ok (.iload 6, 2) := by decide +kernel
theorem dX10_worth_96 : decode cX10_worth 96 = .ok (.invokestatic 169, 3) := by decide +kernel
theorem dX10_worth_99 : decode cX10_worth 99 = .ok (.l2i, 1) := by decide +kernel
theorem dX10_worth_100 : decode cX10_worth 100 = .ok (.ireturn, 1) := by decide +kernel
theorem dX10_table_0 : decode cX10_table 0 = .ok (.aload_n 0, 1) := by decide +kernel
theorem dX10_table_1 : decode cX10_table 1 = .ok (.getfield 173, 3) := by decide +kernel
theorem dX10_table_4 : decode cX10_table 4 = .ok (.bipush 10, 2) := by decide +kernel
theorem dX10_table_6 : decode cX10_table 6 = .ok (.if_icmp .ne 5, 3) := by decide +kernel
theorem dX10_table_9 : decode cX10_table 9 = .ok (.iconst (-1), 1) := by decide +kernel
theorem dX10_table_10 : decode cX10_table 10 = .ok (.ireturn, 1) := by decide +kernel
theorem dX10_table_11 : decode cX10_table 11 = .ok (.aload_n 0, 1) := by decide +kernel
theorem dX10_table_12 : decode cX10_table 12 = .ok (.dup, 1) := by decide +kernel
theorem dX10_table_13 : decode cX10_table 13 = .ok (.getfield 173, 3) := by decide +kernel
theorem dX10_table_16 : decode cX10_table 16 = .ok (.iconst 1, 1) := by decide +kernel
theorem dX10_table_17 : decode cX10_table 17 = .ok (.iadd, 1) := by decide +kernel
theorem dX10_table_18 : decode cX10_table 18 = .ok (.putfield 173, 3) := by decide +kernel
theorem dX10_table_21 : decode cX10_table 21 = .ok (.aload_n 0, 1) := by decide +kernel
theorem dX10_table_22 : decode cX10_table 22 = .ok (.getfield 173, 3) := by decide +kernel
theorem dX10_table_25 : decode cX10_table 25 = .ok (.iconst 1, 1) := by decide +kernel
theorem dX10_table_26 : decode cX10_table 26 = .ok (.isub, 1) := by decide +kernel
theorem dX10_table_27 : decode cX10_table 27 = .ok (.ireturn, 1) := by decide +kernel
theorem dX10_bid_0 : decode cX10_bid 0 = .ok (.iload_n 1, 1) := by decide +kernel
theorem dX10_bid_1 : decode cX10_bid 1 = .ok (.iconst 0, 1) := by decide +kernel
theorem dX10_bid_2 : decode cX10_bid 2 = .ok (.aload_n 0, 1) := by decide +kernel
theorem dX10_bid_3 : decode cX10_bid 3 = .ok (.getfield 173, 3) := by decide +kernel
theorem dX10_bid_6 : decode cX10_bid 6 = .ok (.iconst 1, 1) := by decide +kernel
theorem dX10_bid_7 : decode cX10_bid 7 = .ok (.isub, 1) := by decide +kernel
theorem dX10_bid_8 : decode cX10_bid 8 = .ok (.invokestatic 107, 3) := by decide +kernel
theorem dX10_bid_11 : decode cX10_bid 11 = .ok (.ifCond .eq 22, 3) := by decide +kernel
theorem dX10_bid_14 : decode cX10_bid 14 = .ok (.iload_n 2, 1) := by decide +kernel
theorem dX10_bid_15 : decode cX10_bid 15 = .ok (.iconst 0, 1) := by decide +kernel
theorem dX10_bid_16 : decode cX10_bid 16 = .ok (.iconst 4, 1) := by decide +kernel
theorem dX10_bid_17 : decode cX10_bid 17 = .ok (.invokestatic 107, 3) := by decide +kernel
theorem dX10_bid_20 : decode cX10_bid 20 = .ok (.ifCond .eq 13, 3) := by decide +kernel
theorem dX10_bid_23 : decode cX10_bid 23 = .ok (.iload_n 3, 1) := by decide +kernel
theorem dX10_bid_24 : decode cX10_bid 24 = .ok (.iconst 0, 1) := by decide +kernel
theorem dX10_bid_25 : decode cX10_bid 25 = .ok (.bipush 60, 2) := by decide +kernel
theorem dX10_bid_27 : decode cX10_bid 27 = .ok (.invokestatic 107, 3) := by decide +kernel
theorem dX10_bid_30 : decode cX10_bid 30 = .ok (.ifCond .ne 5, 3) := by decide +kernel
theorem dX10_bid_33 : decode cX10_bid 33 = .ok (.iconst 0, 1) := by decide +kernel
theorem dX10_bid_34 : decode cX10_bid 34 = .ok (.ireturn, 1) := by decide +kernel
theorem dX10_bid_35 : decode cX10_bid 35 = .ok (.aload_n 0, 1) := by decide +kernel
theorem dX10_bid_36 : decode cX10_bid 36 = .ok (.getfield 43, 3) := by decide +kernel
theorem dX10_bid_39 : decode cX10_bid 39 = .ok (.iconst 5, 1) := by decide +kernel
theorem dX10_bid_40 : decode cX10_bid 40 = .ok (.iload_n 1, 1) := by decide +kernel
theorem dX10_bid_41 : decode cX10_bid 41 = .ok (.imul, 1) := by decide +kernel
theorem dX10_bid_42 : decode cX10_bid 42 = .ok (.iload_n 2, 1) := by decide +kernel
theorem dX10_bid_43 : decode cX10_bid 43 = .ok (.iadd, 1) := by decide +kernel
theorem dX10_bid_44 : decode cX10_bid 44 = .ok (.iload_n 3, 1) := by decide +kernel
theorem dX10_bid_45 : decode cX10_bid 45 = .ok (.iastore, 1) := by decide +kernel
theorem dX10_bid_46 : decode cX10_bid 46 = .ok (.iconst 1, 1) := by decide +kernel
theorem dX10_bid_47 : decode cX10_bid 47 = .ok (.ireturn, 1) := by decide +kernel
theorem dX10_seat_0 : decode cX10_seat 0 = .ok (.aload_n 0, 1) := by decide +kernel
theorem dX10_seat_1 : decode cX10_seat 1 = .ok (.iload_n 1, 1) := by decide +kernel
theorem dX10_seat_2 : decode cX10_seat 2 = .ok (.invokevirtual 129, 3) := by decide +kernel
theorem dX10_seat_5 : decode cX10_seat 5 = .ok (.ifCond .eq 27, 3) := by decide +kernel
theorem dX10_seat_8 : decode cX10_seat 8 = .ok (.iload_n 2, 1) := by decide +kernel
theorem dX10_seat_9 : decode cX10_seat 9 = .ok (.iconst 0, 1) := by decide +kernel
theorem dX10_seat_10 : decode cX10_seat 10 = .ok (.iconst 3, 1) := by decide +kernel
theorem dX10_seat_11 : decode cX10_seat 11 = .ok (.invokestatic 107, 3) := by decide +kernel
theorem dX10_seat_14 : decode cX10_seat 14 = .ok (.ifCond .eq 18, 3) := by decide +kernel
theorem dX10_seat_17 : decode cX10_seat 17 = .ok (.iload_n 3, 1) := by decide +kernel
theorem dX10_seat_18 : decode cX10_seat 18 = .ok (.bipush (-2), 2) := by decide +kernel
theorem dX10_seat_20 : decode cX10_seat 20 = .ok (.aload_n 0, 1) := by decide +kernel
theorem dX10_seat_21 : decode cX10_seat 21 = .ok (.getfield 173, 3) := by decide +kernel
theorem dX10_seat_24 : decode cX10_seat 24 = .ok (.iconst 1, 1) := by decide +kernel
theorem dX10_seat_25 : decode cX10_seat 25 = .ok (.isub, 1) := by decide +kernel
theorem dX10_seat_26 : decode cX10_seat 26 = .ok (.invokestatic 107, 3) := by decide +kernel
theorem dX10_seat_29 : decode cX10_seat 29 = .ok (.ifCond .ne 5, 3) := by decide +kernel
theorem dX10_seat_32 : decode cX10_seat 32 = .ok (.iconst 0, 1) := by decide +kernel
theorem dX10_seat_33 : decode cX10_seat 33 = .ok (.ireturn, 1) := by decide +kernel
theorem dX10_seat_34 : decode cX10_seat 34 = .ok (.aload_n 0, 1) := by decide +kernel
theorem dX10_seat_35 : decode cX10_seat 35 = .ok (.getfield 37, 3) := by decide +kernel
theorem dX10_seat_38 : decode cX10_seat 38 = .ok (.iconst 4, 1) := by decide +kernel
theorem dX10_seat_39 : decode cX10_seat 39 = .ok (.iload_n 1, 1) := by decide +kernel
theorem dX10_seat_40 : decode cX10_seat 40 = .ok (.imul, 1) := by decide +kernel
theorem dX10_seat_41 : decode cX10_seat 41 = .ok (.iload_n 2, 1) := by decide +kernel
theorem dX10_seat_42 : decode cX10_seat 42 = .ok (.iadd, 1) := by decide +kernel
theorem dX10_seat_43 : decode cX10_seat 43 = .ok (.iload_n 3, 1) := by decide +kernel
theorem dX10_seat_44 : decode cX10_seat 44 = .ok (.iastore, 1) := by decide +kernel
theorem dX10_seat_45 : decode cX10_seat 45 = .ok (.iconst 1, 1) := by decide +kernel
theorem dX10_seat_46 : decode cX10_seat 46 = .ok (.ireturn, 1) := by decide +kernel
theorem dX10_bidBy_0 : decode cX10_bidBy 0 = .ok (.iload_n 2, 1) := by decide +kernel
theorem dX10_bidBy_1 : decode cX10_bidBy 1 = .ok (.ifCond .lt 16, 3) := by decide +kernel
theorem dX10_bidBy_4 : decode cX10_bidBy 4 = .ok (.aload_n 0, 1) := by decide +kernel
theorem dX10_bidBy_5 : decode cX10_bidBy 5 = .ok (.getfield 43, 3) := by decide +kernel
theorem dX10_bidBy_8 : decode cX10_bidBy 8 = .ok (.iconst 5, 1) := by decide +kernel
theorem dX10_bidBy_9 : decode cX10_bidBy 9 = .ok (.iload_n 2, 1) := by decide +kernel
theorem dX10_bidBy_10 : decode cX10_bidBy 10 = .ok (.imul, 1) := by decide +kernel
theorem dX10_bidBy_11 : decode cX10_bidBy 11 = .ok (.iload_n 3, 1) := by decide +kernel
theorem dX10_bidBy_12 : decode cX10_bidBy 12 = .ok (.iadd, 1) := by decide +kernel
theorem dX10_bidBy_13 : decode cX10_bidBy 13 = .ok (.iaload, 1) := by decide +kernel
theorem dX10_bidBy_14 : decode cX10_bidBy 14 = .ok (.goto 38, 3) := by decide +kernel
theorem dX10_bidBy_17 : decode cX10_bidBy 17 = .ok (.iload_n 2, 1) := by decide +kernel
theorem dX10_bidBy_18 : decode cX10_bidBy 18 = .ok (.bipush (-2), 2) := by decide +kernel
theorem dX10_bidBy_20 : decode cX10_bidBy 20 = .ok (.if_icmp .ne 23, 3) := by decide +kernel
theorem dX10_bidBy_23 : decode cX10_bidBy 23 = .ok (.aload_n 0, 1) := by decide +kernel
theorem dX10_bidBy_24 : decode cX10_bidBy 24 = .ok (.getfield 176, 3) := by decide +kernel
theorem dX10_bidBy_27 : decode cX10_bidBy 27 = .ok (.iconst 1, 1) := by decide +kernel
theorem dX10_bidBy_28 : decode cX10_bidBy 28 = .ok (.if_icmp .le 15, 3) := by decide +kernel
theorem dX10_bidBy_31 : decode cX10_bidBy 31 = .ok (.aload_n 0, 1) := by decide +kernel
theorem dX10_bidBy_32 : decode cX10_bidBy 32 = .ok (.iload_n 1, 1) := by decide +kernel
theorem dX10_bidBy_33 : decode cX10_bidBy 33 = .ok (.iload_n 3, 1) := by decide +kernel
theorem dX10_bidBy_34 : decode cX10_bidBy 34 = .ok (.iload_n 3, 1) := by decide +kernel
theorem dX10_bidBy_35 : decode cX10_bidBy 35 = .ok (.iload 4, 2) := by decide +kernel
theorem dX10_bidBy_37 : decode cX10_bidBy 37 = .ok (.invokevirtual 179, 3) := by decide +kernel
theorem dX10_bidBy_40 : decode cX10_bidBy 40 = .ok (.goto 12, 3) := by decide +kernel
theorem dX10_bidBy_43 : decode cX10_bidBy 43 = .ok (.aload_n 0, 1) := by decide +kernel
theorem dX10_bidBy_44 : decode cX10_bidBy 44 = .ok (.iload_n 1, 1) := by decide +kernel
theorem dX10_bidBy_45 : decode cX10_bidBy 45 = .ok (.iload_n 3, 1) := by decide +kernel
theorem dX10_bidBy_46 : decode cX10_bidBy 46 = .ok (.iload 4, 2) := by decide +kernel
theorem dX10_bidBy_48 : decode cX10_bidBy 48 = .ok (.iconst (-1), 1) := by decide +kernel
theorem dX10_bidBy_49 : decode cX10_bidBy 49 = .ok (.invokevirtual 179, 3) := by decide +kernel
theorem dX10_bidBy_52 : decode cX10_bidBy 52 = .ok (.ireturn, 1) := by decide +kernel
theorem dX10_begin_0 : decode cX10_begin 0 = .ok (.aload_n 0, 1) := by decide +kernel
theorem dX10_begin_1 : decode cX10_begin 1 = .ok (.aload_n 0, 1) := by decide +kernel
theorem dX10_begin_2 : decode cX10_begin 2 = .ok (.getfield 28, 3) := by decide +kernel
theorem dX10_begin_5 : decode cX10_begin 5 = .ok (.iload_n 1, 1) := by decide +kernel
theorem dX10_begin_6 : decode cX10_begin 6 = .ok (.iaload, 1) := by decide +kernel
theorem dX10_begin_7 : decode cX10_begin 7 = .ok (.putfield 176, 3) := by decide +kernel
theorem dX10_begin_10 : decode cX10_begin 10 = .ok (.aload_n 0, 1) := by decide +kernel
theorem dX10_begin_11 : decode cX10_begin 11 = .ok (.aload_n 0, 1) := by decide +kernel
theorem dX10_begin_12 : decode cX10_begin 12 = .ok (.getfield 31, 3) := by decide +kernel
theorem dX10_begin_15 : decode cX10_begin 15 = .ok (.iload_n 1, 1) := by decide +kernel
theorem dX10_begin_16 : decode cX10_begin 16 = .ok (.iaload, 1) := by decide +kernel
theorem dX10_begin_17 : decode cX10_begin 17 = .ok (.putfield 183, 3) := by decide +kernel
theorem dX10_begin_20 : decode cX10_begin 20 = .ok (.aload_n 0, 1) := by decide +kernel
theorem dX10_begin_21 : decode cX10_begin 21 = .ok (.aload_n 0, 1) := by decide +kernel
theorem dX10_begin_22 : decode cX10_begin 22 = .ok (.getfield 34, 3) := by decide +kernel
theorem dX10_begin_25 : decode cX10_begin 25 = .ok (.iload_n 1, 1) := by decide +kernel
theorem dX10_begin_26 : decode cX10_begin 26 = .ok (.iaload, 1) := by decide +kernel
theorem dX10_begin_27 : decode cX10_begin 27 = .ok (.putfield 186, 3) := by decide +kernel
theorem dX10_begin_30 : decode cX10_begin 30 = .ok (.aload_n 0, 1) := by decide +kernel
theorem dX10_begin_31 : decode cX10_begin 31 = .ok (.iload_n 1, 1) := by decide +kernel
theorem dX10_begin_32 : decode cX10_begin 32 = .ok (.iconst (-1), 1) := by decide +kernel
theorem dX10_begin_33 : decode cX10_begin 33 = .ok (.invokevirtual 189, 3) := by decide +kernel
theorem dX10_begin_36 : decode cX10_begin 36 = .ok (.return_, 1) := by decide +kernel
theorem dX10_fill_0 : decode cX10_fill 0 = .ok (.iconst 0, 1) := by decide +kernel
theorem dX10_fill_1 : decode cX10_fill 1 = .ok (.istore_n 3, 1) := by decide +kernel
theorem dX10_fill_2 : decode cX10_fill 2 = .ok (.iload_n 3, 1) := by decide +kernel
theorem dX10_fill_3 : decode cX10_fill 3 = .ok (.aload_n 0, 1) := by decide +kernel
theorem dX10_fill_4 : decode cX10_fill 4 = .ok (.getfield 176, 3) := by decide +kernel
theorem dX10_fill_7 : decode cX10_fill 7 = .ok (.if_icmp .ge 58, 3) := by decide +kernel
theorem dX10_fill_10 : decode cX10_fill 10 = .ok (.iconst 0, 1) := by decide +kernel
theorem dX10_fill_11 : decode cX10_fill 11 = .ok (.istore 4, 2) := by decide +kernel
theorem dX10_fill_13 : decode cX10_fill 13 = .ok (.iload 4, 2) := by decide +kernel
theorem dX10_fill_15 : decode cX10_fill 15 = .ok (.aload_n 0, 1) := by decide +kernel
theorem dX10_fill_16 : decode cX10_fill 16 = .ok (.getfield 13, 3) := by decide +kernel
theorem dX10_fill_19 : decode cX10_fill 19 = .ok (.iload_n 1, 1) := by decide +kernel
theorem dX10_fill_20 : decode cX10_fill 20 = .ok (.iaload, 1) := by decide +kernel
theorem dX10_fill_21 : decode cX10_fill 21 = .ok (.if_icmp .ge 38, 3) := by decide +kernel
theorem dX10_fill_24 : decode cX10_fill 24 = .ok (.aload_n 0, 1) := by decide +kernel
theorem dX10_fill_25 : decode cX10_fill 25 = .ok (.getfield 46, 3) := by decide +kernel
theorem dX10_fill_28 : decode cX10_fill 28 = .ok (.iconst 5, 1) := by decide +kernel
theorem dX10_fill_29 : decode cX10_fill 29 = .ok (.iload_n 3, 1) := by decide +kernel
theorem dX10_fill_30 : decode cX10_fill 30 = .ok (.imul, 1) := by decide +kernel
theorem dX10_fill_31 : decode cX10_fill 31 = .ok (.iload 4, 2) := by decide +kernel
theorem dX10_fill_33 : decode cX10_fill 33 = .ok (.iadd, 1) := by decide +kernel
theorem dX10_fill_34 : decode cX10_fill 34 = .ok (.aload_n 0, 1) := by decide +kernel
theorem dX10_fill_35 : decode cX10_fill 35 = .ok (.iload_n 1, 1) := by decide +kernel
theorem dX10_fill_36 : decode cX10_fill 36 = .ok (.aload_n 0, 1) := by decide +kernel
theorem dX10_fill_37 : decode cX10_fill 37 = .ok (.getfield 37, 3) := by decide +kernel
theorem dX10_fill_40 : decode cX10_fill 40 = .ok (.iconst 4, 1) := by decide +kernel
theorem dX10_fill_41 : decode cX10_fill 41 = .ok (.iload_n 1, 1) := by decide +kernel
theorem dX10_fill_42 : decode cX10_fill 42 = .ok (.imul, 1) := by decide +kernel
theorem dX10_fill_43 : decode cX10_fill 43 = .ok (.iload_n 3, 1) := by decide +kernel
theorem dX10_fill_44 : decode cX10_fill 44 = .ok (.iadd, 1) := by decide +kernel
theorem dX10_fill_45 : decode cX10_fill 45 = .ok (.iaload, 1) := by decide +kernel
theorem dX10_fill_46 : decode cX10_fill 46 = .ok (.iload 4, 2) := by decide +kernel
theorem dX10_fill_48 : decode cX10_fill 48 = .ok (.iload_n 2, 1) := by decide +kernel
theorem dX10_fill_49 : decode cX10_fill 49 = .ok (.invokevirtual 193, 3) := by decide +kernel
theorem dX10_fill_52 : decode cX10_fill 52 = .ok (.iastore, 1) := by decide +kernel
theorem dX10_fill_53 : decode cX10_fill 53 = .ok (.iinc 4 1, 3) := by decide +kernel
theorem dX10_fill_56 : decode cX10_fill 56 = .ok (.goto (-43), 3) := by decide +kernel
theorem dX10_fill_59 : decode cX10_fill 59 = .ok (.iinc 3 1, 3) := by decide +kernel
theorem dX10_fill_62 : decode cX10_fill 62 = .ok (.goto (-60), 3) := by decide +kernel
theorem dX10_fill_65 : decode cX10_fill 65 = .ok (.return_, 1) := by decide +kernel
theorem dX10_fillAll_0 : decode cX10_fillAll 0 = .ok (.iconst 0, 1) := by decide +kernel
theorem dX10_fillAll_1 : decode cX10_fillAll 1 = .ok (.istore_n 3, 1) := by decide +kernel
theorem dX10_fillAll_2 : decode cX10_fillAll 2 = .ok (.iload_n 3, 1) := by decide +kernel
theorem dX10_fillAll_3 : decode cX10_fillAll 3 = .ok (.aload_n 0, 1) := by decide +kernel
theorem dX10_fillAll_4 : decode cX10_fillAll 4 = .ok (.getfield 176, 3) := by decide +kernel
theorem dX10_fillAll_7 : decode cX10_fillAll 7 = .ok (.if_icmp .ge 49, 3) := by decide +kernel
theorem dX10_fillAll_10 : decode cX10_fillAll 10 = .ok (.iconst 0, 1) := by decide +kernel
theorem dX10_fillAll_11 : decode cX10_fillAll 11 = .ok (.istore 4, 2) := by decide +kernel
theorem dX10_fillAll_13 : decode cX10_fillAll 13 = .ok (.iload 4, 2) := by decide +kernel
theorem dX10_fillAll_15 : decode cX10_fillAll 15 = .ok (.aload_n 0, 1) := by decide +kernel
theorem dX10_fillAll_16 : decode cX10_fillAll 16 = .ok (.getfield 13, 3) := by decide +kernel
theorem dX10_fillAll_19 : decode cX10_fillAll 19 = .ok (.iload_n 1, 1) := by decide +kernel
theorem dX10_fillAll_20 : decode cX10_fillAll 20 = .ok (.iaload, 1) := by decide +kernel
theorem dX10_fillAll_21 : decode cX10_fillAll 21 = .ok (.if_icmp .ge 29, 3) := by decide +kernel
theorem dX10_fillAll_24 : decode cX10_fillAll 24 = .ok (.aload_n 0, 1) := by decide +kernel
theorem dX10_fillAll_25 : decode cX10_fillAll 25 = .ok (.getfield 46, 3) := by decide +kernel
theorem dX10_fillAll_28 : decode cX10_fillAll 28 = .ok (.iconst 5, 1) := by decide +kernel
theorem dX10_fillAll_29 : decode cX10_fillAll 29 = .ok (.iload_n 3, 1) := by decide +kernel
theorem dX10_fillAll_30 : decode cX10_fillAll 30 = .ok (.imul, 1) := by decide +kernel
theorem dX10_fillAll_31 : decode cX10_fillAll 31 = .ok (.iload 4, 2) := by decide +kernel
theorem dX10_fillAll_33 : decode cX10_fillAll 33 = .ok (.iadd, 1) := by decide +kernel
theorem dX10_fillAll_34 : decode cX10_fillAll 34 = .ok (.aload_n 0, 1) := by decide +kernel
theorem dX10_fillAll_35 : decode cX10_fillAll 35 = .ok (.iload_n 1, 1) := by decide +kernel
theorem dX10_fillAll_36 : decode cX10_fillAll 36 = .ok (.iload_n 2, 1) := by decide +kernel
theorem dX10_fillAll_37 : decode cX10_fillAll 37 = .ok (.iload 4, 2) := by decide +kernel
theorem dX10_fillAll_39 : decode cX10_fillAll 39 = .ok (.iconst (-1), 1) := by decide +kernel
theorem dX10_fillAll_40 : decode cX10_fillAll 40 = .ok (.invokevirtual 193, 3) := by decide +kernel
theorem dX10_fillAll_43 : decode cX10_fillAll 43 = .ok (.iastore, 1) := by decide +kernel
theorem dX10_fillAll_44 : decode cX10_fillAll 44 = .ok (.iinc 4 1, 3) := by decide +kernel
theorem dX10_fillAll_47 : decode cX10_fillAll 47 = .ok (.goto (-34), 3) := by decide +kernel
theorem dX10_fillAll_50 : decode cX10_fillAll 50 = .ok (.iinc 3 1, 3) := by decide +kernel
theorem dX10_fillAll_53 : decode cX10_fillAll 53 = .ok (.goto (-51), 3) := by decide +kernel
theorem dX10_fillAll_56 : decode cX10_fillAll 56 = .ok (.return_, 1) := by decide +kernel
theorem dX10_isSeat_0 : decode cX10_isSeat 0 = .ok (.aload_n 0, 1) := by decide +kernel
theorem dX10_isSeat_1 : decode cX10_isSeat 1 = .ok (.iload_n 1, 1) := by decide +kernel
theorem dX10_isSeat_2 : decode cX10_isSeat 2 = .ok (.invokevirtual 129, 3) := by decide +kernel
theorem dX10_isSeat_5 : decode cX10_isSeat 5 = .ok (.ifCond .eq 23, 3) := by decide +kernel
theorem dX10_isSeat_8 : decode cX10_isSeat 8 = .ok (.iload_n 2, 1) := by decide +kernel
theorem dX10_isSeat_9 : decode cX10_isSeat 9 = .ok (.iconst 0, 1) := by decide +kernel
theorem dX10_isSeat_10 : decode cX10_isSeat 10 = .ok (.aload_n 0, 1) := by decide +kernel
theorem dX10_isSeat_11 : decode cX10_isSeat 11 = .ok (.getfield 28, 3) := by decide +kernel
theorem dX10_isSeat_14 : decode cX10_isSeat 14 = .ok (.iload_n 1, 1) := by decide +kernel
theorem dX10_isSeat_15 : decode cX10_isSeat 15 = .ok (.iaload, 1) := by decide +kernel
theorem dX10_isSeat_16 : decode cX10_isSeat 16 = .ok (.iconst 1, 1) := by decide +kernel
theorem dX10_isSeat_17 : decode cX10_isSeat 17 = .ok (.isub, 1) := by decide +kernel
theorem dX10_isSeat_18 : decode cX10_isSeat 18 = .ok (.invokestatic 107, 3) := by decide +kernel
theorem dX10_isSeat_21 : decode cX10_isSeat 21 = .ok (.ifCond .eq 7, 3) := by decide +kernel
theorem dX10_isSeat_24 : decode cX10_isSeat 24 = .ok (.iconst 1, 1) := by decide +kernel
theorem dX10_isSeat_25 : decode cX10_isSeat 25 = .ok (.goto 4, 3) := by decide +kernel
theorem dX10_isSeat_28 : decode cX10_isSeat 28 = .ok (.iconst 0, 1) := by decide +kernel
theorem dX10_isSeat_29 : decode cX10_isSeat 29 = .ok (.ireturn, 1) := by decide +kernel
theorem dX10_bids_0 : decode cX10_bids 0 = .ok (.aload_n 0, 1) := by decide +kernel
theorem dX10_bids_1 : decode cX10_bids 1 = .ok (.iload_n 1, 1) := by decide +kernel
theorem dX10_bids_2 : decode cX10_bids 2 = .ok (.iload_n 2, 1) := by decide +kernel
theorem dX10_bids_3 : decode cX10_bids 3 = .ok (.invokevirtual 196, 3) := by decide +kernel
theorem dX10_bids_6 : decode cX10_bids 6 = .ok (.ifCond .eq 12, 3) := by decide +kernel
theorem dX10_bids_9 : decode cX10_bids 9 = .ok (.aload_n 0, 1) := by decide +kernel
theorem dX10_bids_10 : decode cX10_bids 10 = .ok (.iload_n 1, 1) := by decide +kernel
theorem dX10_bids_11 : decode cX10_bids 11 = .ok (.iload_n 3, 1) := by decide +kernel
theorem dX10_bids_12 : decode cX10_bids 12 = .ok (.invokevirtual 162, 3) := by decide +kernel
theorem dX10_bids_15 : decode cX10_bids 15 = .ok (.ifCond .ne 5, 3) := by decide +kernel
theorem dX10_bids_18 : decode cX10_bids 18 = .ok (.iconst (-1), 1) := by decide +kernel
theorem dX10_bids_19 : decode cX10_bids 19 = .ok (.ireturn, 1) := by decide +kernel
theorem dX10_bids_20 : decode cX10_bids 20 = .ok (.aload_n 0, 1) := by decide +kernel
theorem dX10_bids_21 : decode cX10_bids 21 = .ok (.iload_n 1, 1) := by decide +kernel
theorem dX10_bids_22 : decode cX10_bids 22 = .ok (.invokevirtual 199, 3) := by decide +kernel
theorem dX10_bids_25 : decode cX10_bids 25 = .ok (.aload_n 0, 1) := by decide +kernel
theorem dX10_bids_26 : decode cX10_bids 26 = .ok (.getfield 46, 3) := by decide +kernel
theorem dX10_bids_29 : decode cX10_bids 29 = .ok (.iconst 5, 1) := by decide +kernel
theorem dX10_bids_30 : decode cX10_bids 30 = .ok (.iload_n 2, 1) := by decide +kernel
theorem dX10_bids_31 : decode cX10_bids 31 = .ok (.imul, 1) := by decide +kernel
theorem dX10_bids_32 : decode cX10_bids 32 = .ok (.iload_n 3, 1) := by decide +kernel
theorem dX10_bids_33 : decode cX10_bids 33 = .ok (.iadd, 1) := by decide +kernel
theorem dX10_bids_34 : decode cX10_bids 34 = .ok (.iaload, 1) := by decide +kernel
theorem dX10_bids_35 : decode cX10_bids 35 = .ok (.ireturn, 1) := by decide +kernel
theorem dX10_settle_0 : decode cX10_settle 0 = .ok (.aload_n 0, 1) := by decide +kernel
theorem dX10_settle_1 : decode cX10_settle 1 = .ok (.iconst (-1), 1) := by decide +kernel
theorem dX10_settle_2 : decode cX10_settle 2 = .ok (.putfield 202, 3) := by decide +kernel
theorem dX10_settle_5 : decode cX10_settle 5 = .ok (.aload_n 0, 1) := by decide +kernel
theorem dX10_settle_6 : decode cX10_settle 6 = .ok (.iconst 0, 1) := by decide +kernel
theorem dX10_settle_7 : decode cX10_settle 7 = .ok (.putfield 205, 3) := by decide +kernel
theorem dX10_settle_10 : decode cX10_settle 10 = .ok (.iconst 0, 1) := by decide +kernel
theorem dX10_settle_11 : decode cX10_settle 11 = .ok (.istore_n 1, 1) := by decide +kernel
theorem dX10_settle_12 : decode cX10_settle 12 = .ok (.iload_n 1, 1) := by decide +kernel
theorem dX10_settle_13 : decode cX10_settle 13 = .ok (.aload_n 0, 1) := by decide +kernel
theorem dX10_settle_14 : decode cX10_settle 14 = .ok (.getfield 176, 3) := by decide +kernel
theorem dX10_settle_17 : decode cX10_settle 17 = .ok (.if_icmp .ge 110, 3) := by decide +kernel
theorem dX10_settle_20 : decode cX10_settle 20 = .ok (.aload_n 0, 1) := by decide +kernel
theorem dX10_settle_21 : decode cX10_settle 21 = .ok (.getfield 49, 3) := by decide +kernel
theorem dX10_settle_24 : decode cX10_settle 24 = .ok (.iload_n 1, 1) := by decide +kernel
theorem dX10_settle_25 : decode cX10_settle 25 = .ok (.aload_n 0, 1) := by decide +kernel
theorem dX10_settle_26 : decode cX10_settle 26 = .ok (.getfield 49, 3) := by decide +kernel
theorem dX10_settle_29 : decode cX10_settle 29 = .ok (.iload_n 1, 1) := by decide +kernel
theorem dX10_settle_30 : decode cX10_settle 30 = .ok (.iaload, 1) := by decide +kernel
theorem dX10_settle_31 : decode cX10_settle 31 = .ok (.aload_n 0, 1) := by decide +kernel
theorem dX10_settle_32 : decode cX10_settle 32 = .ok (.getfield 183, 3) := by decide +kernel
theorem dX10_settle_35 : decode cX10_settle 35 = .ok (.if_icmp .ge 7, 3) := by decide +kernel
theorem dX10_settle_38 : decode cX10_settle 38 = .ok (.iconst (-1), 1) := by decide +kernel
theorem dX10_settle_39 : decode cX10_settle 39 = .ok (.goto 9, 3) := by decide +kernel
theorem dX10_settle_42 : decode cX10_settle 42 = .ok (.aload_n 0, 1) := by decide +kernel
theorem dX10_settle_43 : decode cX10_settle 43 = .ok (.getfield 49, 3) := by decide +kernel
theorem dX10_settle_46 : decode cX10_settle 46 = .ok (.iload_n 1, 1) := by decide +kernel
theorem dX10_settle_47 : decode cX10_settle 47 = .ok (.iaload, 1) := by decide +kernel
theorem dX10_settle_48 : decode cX10_settle 48 = .ok (.iastore, 1) := by decide +kernel
theorem dX10_settle_49 : decode cX10_settle 49 = .ok (.aload_n 0, 1) := by decide +kernel
theorem dX10_settle_50 : decode cX10_settle 50 = .ok (.aload_n 0, 1) := by decide +kernel
theorem dX10_settle_51 : decode cX10_settle 51 = .ok (.getfield 49, 3) := by decide +kernel
theorem dX10_settle_54 : decode cX10_settle 54 = .ok (.iload_n 1, 1) := by decide +kernel
theorem dX10_settle_55 : decode cX10_settle 55 = .ok (.iaload, 1) := by decide +kernel
theorem dX10_settle_56 : decode cX10_settle 56 = .ok (.aload_n 0, 1) := by decide +kernel
theorem dX10_settle_57 : decode cX10_settle 57 = .ok (.getfield 202, 3) := by decide +kernel
theorem dX10_settle_60 : decode cX10_settle 60 = .ok (.if_icmp .le 7, 3) := by decide +kernel
theorem dX10_settle_63 : decode cX10_settle 63 = .ok (.iconst 1, 1) := by decide +kernel
theorem dX10_settle_64 : decode cX10_settle 64 = .ok (.goto 37, 3) := by decide +kernel
theorem dX10_settle_67 : decode cX10_settle 67 = .ok (.aload_n 0, 1) := by decide +kernel
theorem dX10_settle_68 : decode cX10_settle 68 = .ok (.getfield 49, 3) := by decide +kernel
theorem dX10_settle_71 : decode cX10_settle 71 = .ok (.iload_n 1, 1) := by decide +kernel
theorem dX10_settle_72 : decode cX10_settle 72 = .ok (.iaload, 1) := by decide +kernel
theorem dX10_settle_73 : decode cX10_settle 73 = .ok (.aload_n 0, 1) := by decide +kernel
theorem dX10_settle_74 : decode cX10_settle 74 = .ok (.getfield 202, 3) := by decide +kernel
theorem dX10_settle_77 : decode cX10_settle 77 = .ok (.if_icmp .ne 20, 3) := by decide +kernel
theorem dX10_settle_80 : decode cX10_settle 80 = .ok (.aload_n 0, 1) := by decide +kernel
theorem dX10_settle_81 : decode cX10_settle 81 = .ok (.getfield 202, 3) := by decide +kernel
theorem dX10_settle_84 : decode cX10_settle 84 = .ok (.iconst (-1), 1) := by decide +kernel
theorem dX10_settle_85 : decode cX10_settle 85 = .ok (.if_icmp .eq 12, 3) := by decide +kernel
theorem dX10_settle_88 : decode cX10_settle 88 = .ok (.aload_n 0, 1) := by decide +kernel
theorem dX10_settle_89 : decode cX10_settle 89 = .ok (.getfield 205, 3) := by decide +kernel
theorem dX10_settle_92 : decode cX10_settle 92 = .ok (.iconst 1, 1) := by decide +kernel
theorem dX10_settle_93 : decode cX10_settle 93 = .ok (.iadd, 1) := by decide +kernel
theorem dX10_settle_94 : decode cX10_settle 94 = .ok (.goto 7, 3) := by decide +kernel
theorem dX10_settle_97 : decode cX10_settle 97 = .ok (.aload_n 0, 1) := by decide +kernel
theorem dX10_settle_98 : decode cX10_settle 98 = .ok (.getfield 205, 3) := by decide +kernel
theorem dX10_settle_101 : decode cX10_settle 101 = .ok (.putfield 205, 3) := by decide +kernel
theorem dX10_settle_104 : decode cX10_settle 104 = .ok (.aload_n 0, 1) := by decide +kernel
theorem dX10_settle_105 : decode cX10_settle 105 = .ok (.aload_n 0, 1) := by decide +kernel
theorem dX10_settle_106 : decode cX10_settle 106 = .ok (.getfield 202, 3) := by decide +kernel
theorem dX10_settle_109 : decode cX10_settle 109 = .ok (.aload_n 0, 1) := by decide +kernel
theorem dX10_settle_110 : decode cX10_settle 110 = .ok (.getfield 49, 3) := by decide +kernel
theorem dX10_settle_113 : decode cX10_settle 113 = .ok (.iload_n 1, 1) := by decide +kernel
theorem dX10_settle_114 : decode cX10_settle 114 = .ok (.iaload, 1) := by decide +kernel
theorem dX10_settle_115 : decode cX10_settle 115 = .ok (.invokestatic 208, 3) := by decide +kernel
theorem dX10_settle_118 : decode cX10_settle 118 = .ok (.putfield 202, 3) := by decide +kernel
theorem dX10_settle_121 : decode cX10_settle 121 = .ok (.iinc 1 1, 3) := by decide +kernel
theorem dX10_settle_124 : decode cX10_settle 124 = .ok (.goto (-112), 3) := by decide +kernel
theorem dX10_settle_127 : decode cX10_settle 127 = .ok (.return_, 1) := by decide +kernel
theorem dX10_pays_0 : decode cX10_pays 0 = .ok (.aload_n 0, 1) := by decide +kernel
theorem dX10_pays_1 : decode cX10_pays 1 = .ok (.getfield 186, 3) := by decide +kernel
theorem dX10_pays_4 : decode cX10_pays 4 = .ok (.iconst 1, 1) := by decide +kernel
theorem dX10_pays_5 : decode cX10_pays 5 = .ok (.if_icmp .ne 11, 3) := by decide +kernel
theorem dX10_pays_8 : decode cX10_pays 8 = .ok (.aload_n 0, 1) := by decide +kernel
theorem dX10_pays_9 : decode cX10_pays 9 = .ok (.getfield 205, 3) := by decide +kernel
theorem dX10_pays_12 : decode cX10_pays 12 = .ok (.iconst 1, 1) := by decide +kernel
theorem dX10_pays_13 : decode cX10_pays 13 = .ok (.if_icmp .le 8, 3) := by decide +kernel
theorem dX10_pays_16 : decode cX10_pays 16 = .ok (.aload_n 0, 1) := by decide +kernel
theorem dX10_pays_17 : decode cX10_pays 17 = .ok (.getfield 202, 3) := by decide +kernel
theorem dX10_pays_20 : decode cX10_pays 20 = .ok (.ireturn, 1) := by decide +kernel
theorem dX10_pays_21 : decode cX10_pays 21 = .ok (.aload_n 0, 1) := by decide +kernel
theorem dX10_pays_22 : decode cX10_pays 22 = .ok (.getfield 183, 3) := by decide +kernel
theorem dX10_pays_25 : decode cX10_pays 25 = .ok (.istore_n 1, 1) := by decide +kernel
theorem dX10_pays_26 : decode cX10_pays 26 = .ok (.iconst 0, 1) := by decide +kernel
theorem dX10_pays_27 : decode cX10_pays 27 = .ok (.istore_n 2, 1) := by decide +kernel
theorem dX10_pays_28 : decode cX10_pays 28 = .ok (.iload_n 2, 1) := by decide +kernel
theorem dX10_pays_29 : decode cX10_pays 29 = .ok (.aload_n 0, 1) := by decide +kernel
theorem dX10_pays_30 : decode cX10_pays 30 = .ok (.getfield 176, 3) := by decide +kernel
theorem dX10_pays_33 : decode cX10_pays 33 = .ok (.if_icmp .ge 37, 3) := by decide +kernel
theorem dX10_pays_36 : decode cX10_pays 36 = .ok (.aload_n 0, 1) := by decide +kernel
theorem dX10_pays_37 : decode cX10_pays 37 = .ok (.getfield 49, 3) := by decide +kernel
theorem dX10_pays_40 : decode cX10_pays 40 = .ok (.iload_n 2, 1) := by decide +kernel
theorem dX10_pays_41 : decode cX10_pays 41 = .ok (.iaload, 1) := by decide +kernel
theorem dX10_pays_42 : decode cX10_pays 42 = .ok (.aload_n 0, 1) := by decide +kernel
theorem dX10_pays_43 : decode cX10_pays 43 = .ok (.getfield 202, 3) := by decide +kernel
theorem dX10_pays_46 : decode cX10_pays 46 = .ok (.if_icmp .ge 16, 3) := by decide +kernel
theorem dX10_pays_49 : decode cX10_pays 49 = .ok (.iload_n 1, 1) := by decide +kernel
theorem dX10_pays_50 : decode cX10_pays 50 = .ok (.aload_n 0, 1) := by decide +kernel
theorem dX10_pays_51 : decode cX10_pays 51 = .ok (.getfield 49, 3) := by decide +kernel
theorem dX10_pays_54 : decode cX10_pays 54 = .ok (.iload_n 2, 1) := by decide +kernel
theorem dX10_pays_55 : decode cX10_pays 55 = .ok (.iaload, 1) := by decide +kernel
theorem dX10_pays_56 : decode cX10_pays 56 = .ok (.invokestatic 208, 3) := by decide +kernel
theorem dX10_pays_59 : decode cX10_pays 59 = .ok (.goto 4, 3) := by decide +kernel
theorem dX10_pays_62 : decode cX10_pays 62 = .ok (.iload_n 1, 1) := by decide +kernel
theorem dX10_pays_63 : decode cX10_pays 63 = .ok (.istore_n 1, 1) := by decide +kernel
theorem dX10_pays_64 : decode cX10_pays 64 = .ok (.iinc 2 1, 3) := by decide +kernel
theorem dX10_pays_67 : decode cX10_pays 67 = .ok (.goto (-39), 3) := by decide +kernel
theorem dX10_pays_70 : decode cX10_pays 70 = .ok (.iload_n 1, 1) := by decide +kernel
theorem dX10_pays_71 : decode cX10_pays 71 = .ok (.ireturn, 1) := by decide +kernel
theorem dX10_gains_0 : decode cX10_gains 0 = .ok (.aload_n 0, 1) := by decide +kernel
theorem dX10_gains_1 : decode cX10_gains 1 = .ok (.getfield 49, 3) := by decide +kernel
theorem dX10_gains_4 : decode cX10_gains 4 = .ok (.iload_n 1, 1) := by decide +kernel
theorem dX10_gains_5 : decode cX10_gains 5 = .ok (.iaload, 1) := by decide +kernel
theorem dX10_gains_6 : decode cX10_gains 6 = .ok (.iconst (-1), 1) := by decide +kernel
theorem dX10_gains_7 : decode cX10_gains 7 = .ok (.if_icmp .ne 5, 3) := by decide +kernel
theorem dX10_gains_10 : decode cX10_gains 10 = .ok (.lconst 0, 1) := by decide +kernel
theorem dX10_gains_11 : decode cX10_gains 11 = .ok (.lreturn, 1) := by decide +kernel
theorem dX10_gains_12 : decode cX10_gains 12 = .ok (.aload_n 0, 1) := by decide +kernel
theorem dX10_gains_13 : decode cX10_gains 13 = .ok (.getfield 49, 3) := by decide +kernel
theorem dX10_gains_16 : decode cX10_gains 16 = .ok (.iload_n 1, 1) := by decide +kernel
theorem dX10_gains_17 : decode cX10_gains 17 = .ok (.iaload, 1) := by decide +kernel
theorem dX10_gains_18 : decode cX10_gains 18 = .ok (.aload_n 0, 1) := by decide +kernel
theorem dX10_gains_19 : decode cX10_gains 19 = .ok (.getfield 202, 3) := by decide +kernel
theorem dX10_gains_22 : decode cX10_gains 22 = .ok (.if_icmp .ne 15, 3) := by decide +kernel
theorem dX10_gains_25 : decode cX10_gains 25 = .ok (.ldc2_w 211, 3) := by decide +kernel
theorem dX10_gains_28 : decode cX10_gains 28 = .ok (.aload_n 0, 1) := by decide +kernel
theorem dX10_gains_29 : decode cX10_gains 29 = .ok (.getfield 205, 3) := by decide +kernel
theorem dX10_gains_32 : decode cX10_gains 32 = .ok (.i2l, 1) := by decide +kernel
theorem dX10_gains_33 : decode cX10_gains 33 = .ok (.ldiv, 1) := by decide +kernel
theorem dX10_gains_34 : decode cX10_gains 34 = .ok (.goto 4, 3) := by decide +kernel
theorem dX10_gains_37 : decode cX10_gains 37 = .ok (.lconst 0, 1) := by decide +kernel
theorem dX10_gains_38 : decode cX10_gains 38 = .ok (.lstore_n 3, 1) := by decide +kernel
theorem dX10_gains_39 : decode cX10_gains 39 = .ok (.aload_n 0, 1) := by decide +kernel
theorem dX10_gains_40 : decode cX10_gains 40 = .ok (.getfield 186, 3) := by decide +kernel
theorem dX10_gains_43 : decode cX10_gains 43 = .ok (.iconst 2, 1) := by decide +kernel
theorem dX10_gains_44 : decode cX10_gains 44 = .ok (.if_icmp .ne 22, 3) := by decide +kernel
theorem dX10_gains_47 : decode cX10_gains 47 = .ok (.lload_n 3, 1) := by decide +kernel
theorem dX10_gains_48 : decode cX10_gains 48 = .ok (.iload_n 2, 1) := by decide +kernel
theorem dX10_gains_49 : decode cX10_gains 49 = .ok (.i2l, 1) := by decide +kernel
theorem dX10_gains_50 : decode cX10_gains 50 = .ok (.lmul, 1) := by decide +kernel
theorem dX10_gains_51 : decode cX10_gains 51 = .ok (.ldc2_w 211, 3) := by decide +kernel
theorem dX10_gains_54 : decode cX10_gains 54 = .ok (.aload_n 0, 1) := by decide +kernel
theorem dX10_gains_55 : decode cX10_gains 55 = .ok (.getfield 49, 3) := by decide +kernel
theorem dX10_gains_58 : decode cX10_gains 58 = .ok (.iload_n 1, 1) := by decide +kernel
theorem dX10_gains_59 : decode cX10_gains 59 = .ok (.iaload, 1) := by decide +kernel
theorem dX10_gains_60 : decode cX10_gains 60 = .ok (.i2l, 1) := by decide +kernel
theorem dX10_gains_61 : decode cX10_gains 61 = .ok (.lmul, 1) := by decide +kernel
theorem dX10_gains_62 : decode cX10_gains 62 = .ok (.lsub, 1) := by decide +kernel
theorem dX10_gains_63 : decode cX10_gains 63 = .ok (.goto 12, 3) := by decide +kernel
theorem dX10_gains_66 : decode cX10_gains 66 = .ok (.lload_n 3, 1) := by decide +kernel
theorem dX10_gains_67 : decode cX10_gains 67 = .ok (.iload_n 2, 1) := by decide +kernel
theorem dX10_gains_68 : decode cX10_gains 68 = .ok (.aload_n 0, 1) := by decide +kernel
theorem dX10_gains_69 : decode cX10_gains 69 = .ok (.invokevirtual 213, 3) := by decide +kernel
theorem dX10_gains_72 : decode cX10_gains 72 = .ok (.isub, 1) := by decide +kernel
theorem dX10_gains_73 : decode cX10_gains 73 = .ok (.i2l, 1) := by decide +kernel
theorem dX10_gains_74 : decode cX10_gains 74 = .ok (.lmul, 1) := by decide +kernel
theorem dX10_gains_75 : decode cX10_gains 75 = .ok (.lreturn, 1) := by decide +kernel
theorem dX10_taken_0 : decode cX10_taken 0 = .ok (.aload_n 0, 1) := by decide +kernel
theorem dX10_taken_1 : decode cX10_taken 1 = .ok (.getfield 202, 3) := by decide +kernel
theorem dX10_taken_4 : decode cX10_taken 4 = .ok (.iconst (-1), 1) := by decide +kernel
theorem dX10_taken_5 : decode cX10_taken 5 = .ok (.if_icmp .ne 5, 3) := by decide +kernel
theorem dX10_taken_8 : decode cX10_taken 8 = .ok (.lconst 0, 1) := by decide +kernel
theorem dX10_taken_9 : decode cX10_taken 9 = .ok (.lreturn, 1) := by decide +kernel
theorem dX10_taken_10 : decode cX10_taken 10 = .ok (.aload_n 0, 1) := by decide +kernel
theorem dX10_taken_11 : decode cX10_taken 11 = .ok (.getfield 186, 3) := by decide +kernel
theorem dX10_taken_14 : decode cX10_taken 14 = .ok (.iconst 2, 1) := by decide +kernel
theorem dX10_taken_15 : decode cX10_taken 15 = .ok (.if_icmp .eq 13, 3) := by decide +kernel
theorem dX10_taken_18 : decode cX10_taken 18 = .ok (.ldc2_w 211, 3) := by decide +kernel
theorem dX10_taken_21 : decode cX10_taken 21 = .ok (.aload_n 0, 1) := by decide +kernel
theorem dX10_taken_22 : decode cX10_taken 22 = .ok (.invokevirtual 213, 3) := by decide +kernel
theorem dX10_taken_25 : decode cX10_taken 25 = .ok (.i2l, 1) := by decide +kernel
theorem dX10_taken_26 : decode cX10_taken 26 = .ok (.lmul, 1) := by decide +kernel
theorem dX10_taken_27 : decode cX10_taken 27 = .ok (.lreturn, 1) := by decide +kernel
theorem dX10_taken_28 : decode cX10_taken 28 = .ok (.lconst 0, 1) := by decide +kernel
theorem dX10_taken_29 : decode cX10_taken 29 = .ok (.lstore_n 1, 1) := by decide +kernel
theorem dX10_taken_30 : decode cX10_taken 30 = .ok (.iconst 0, 1) := by decide +kernel
theorem dX10_taken_31 : decode cX10_taken 31 = .ok (.istore_n 3, 1) := by decide +kernel
theorem dX10_taken_32 : decode cX10_taken 32 = .ok (.iload_n 3, 1) := by decide +kernel
theorem dX10_taken_33 : decode cX10_taken 33 = .ok (.aload_n 0, 1) := by decide +kernel
theorem dX10_taken_34 : decode cX10_taken 34 = .ok (.getfield 176, 3) := by decide +kernel
theorem dX10_taken_37 : decode cX10_taken 37 = .ok (.if_icmp .ge 23, 3) := by decide +kernel
theorem dX10_taken_40 : decode cX10_taken 40 = .ok (.lload_n 1, 1) := by decide +kernel
theorem dX10_taken_41 : decode cX10_taken 41 = .ok (.iconst 0, 1) := by decide +kernel
theorem dX10_taken_42 : decode cX10_taken 42 = .ok (.aload_n 0, 1) := by decide +kernel
theorem dX10_taken_43 : decode cX10_taken 43 = .ok (.getfield 49, 3) := by decide +kernel
theorem dX10_taken_46 : decode cX10_taken 46 = .ok (.iload_n 3, 1) := by decide +kernel
theorem dX10_taken_47 : decode cX10_taken 47 = .ok (.iaload, 1) := by decide +kernel
theorem dX10_taken_48 : decode cX10_taken 48 = .ok (.invokestatic 208, 3) := by decide +kernel
theorem dX10_taken_51 : decode cX10_taken 51 = .ok (.i2l, 1) := by decide +kernel
theorem dX10_taken_52 : decode cX10_taken 52 = .ok (.ladd, 1) := by decide +kernel
theorem dX10_taken_53 : decode cX10_taken 53 = .ok (.lstore_n 1, 1) := by decide +kernel
theorem dX10_taken_54 : decode cX10_taken 54 = .ok (.iinc 3 1, 3) := by decide +kernel
theorem dX10_taken_57 : decode cX10_taken 57 = .ok (.goto (-25), 3) := by decide +kernel
theorem dX10_taken_60 : decode cX10_taken 60 = .ok (.ldc2_w 211, 3) := by decide +kernel
theorem dX10_taken_63 : decode cX10_taken 63 = .ok (.lload_n 1, 1) := by decide +kernel
theorem dX10_taken_64 : decode cX10_taken 64 = .ok (.lmul, 1) := by decide +kernel
theorem dX10_taken_65 : decode cX10_taken 65 = .ok (.lreturn, 1) := by decide +kernel
theorem dX10_ask_0 : decode cX10_ask 0 = .ok (.aload_n 0, 1) := by decide +kernel
theorem dX10_ask_1 : decode cX10_ask 1 = .ok (.iload_n 1, 1) := by decide +kernel
theorem dX10_ask_2 : decode cX10_ask 2 = .ok (.putfield 216, 3) := by decide +kernel
theorem dX10_ask_5 : decode cX10_ask 5 = .ok (.aload_n 0, 1) := by decide +kernel
theorem dX10_ask_6 : decode cX10_ask 6 = .ok (.iload_n 2, 1) := by decide +kernel
theorem dX10_ask_7 : decode cX10_ask 7 = .ok (.putfield 219, 3) := by decide +kernel
theorem dX10_ask_10 : decode cX10_ask 10 = .ok (.aload_n 0, 1) := by decide +kernel
theorem dX10_ask_11 : decode cX10_ask 11 = .ok (.iload_n 3, 1) := by decide +kernel
theorem dX10_ask_12 : decode cX10_ask 12 = .ok (.putfield 222, 3) := by decide +kernel
theorem dX10_ask_15 : decode cX10_ask 15 = .ok (.aload_n 0, 1) := by decide +kernel
theorem dX10_ask_16 : decode cX10_ask 16 = .ok (.iconst (-1), 1) := by decide +kernel
theorem dX10_ask_17 : decode cX10_ask 17 = .ok (.putfield 225, 3) := by decide +kernel
theorem dX10_ask_20 : decode cX10_ask 20 = .ok (.aload_n 0, 1) := by decide +kernel
theorem dX10_ask_21 : decode cX10_ask 21 = .ok (.iconst (-1), 1) := by decide +kernel
theorem dX10_ask_22 : decode cX10_ask 22 = .ok (.putfield 228, 3) := by decide +kernel
theorem dX10_ask_25 : decode cX10_ask 25 = .ok (.aload_n 0, 1) := by decide +kernel
theorem dX10_ask_26 : decode cX10_ask 26 = .ok (.lconst 0, 1) := by decide +kernel
theorem dX10_ask_27 : decode cX10_ask 27 = .ok (.putfield 231, 3) := by decide +kernel
theorem dX10_ask_30 : decode cX10_ask 30 = .ok (.aload_n 0, 1) := by decide +kernel
theorem dX10_ask_31 : decode cX10_ask 31 = .ok (.lconst 0, 1) := by decide +kernel
theorem dX10_ask_32 : decode cX10_ask 32 = .ok (.putfield 234, 3) := by decide +kernel
theorem dX10_ask_35 : decode cX10_ask 35 = .ok (.aload_n 0, 1) := by decide +kernel
theorem dX10_ask_36 : decode cX10_ask 36 = .ok (.lconst 0, 1) := by decide +kernel
theorem dX10_ask_37 : decode cX10_ask 37 = .ok (.putfield 237, 3) := by decide +kernel
theorem dX10_ask_40 : decode cX10_ask 40 = .ok (.aload_n 0, 1) := by decide +kernel
theorem dX10_ask_41 : decode cX10_ask 41 = .ok (.lconst 0, 1) := by decide +kernel
theorem dX10_ask_42 : decode cX10_ask 42 = .ok (.putfield 240, 3) := by decide +kernel
theorem dX10_ask_45 : decode cX10_ask 45 = .ok (.aload_n 0, 1) := by decide +kernel
theorem dX10_ask_46 : decode cX10_ask 46 = .ok (.lconst 0, 1) := by decide +kernel
theorem dX10_ask_47 : decode cX10_ask 47 = .ok (.putfield 243, 3) := by decide +kernel
theorem dX10_ask_50 : decode cX10_ask 50 = .ok (.aload_n 0, 1) := by decide +kernel
theorem dX10_ask_51 : decode cX10_ask 51 = .ok (.lconst 0, 1) := by decide +kernel
theorem dX10_ask_52 : decode cX10_ask 52 = .ok (.putfield 246, 3) := by decide +kernel
theorem dX10_ask_55 : decode cX10_ask 55 = .ok (.aload_n 0, 1) := by decide +kernel
theorem dX10_ask_56 : decode cX10_ask 56 = .ok (.lconst 0, 1) := by decide +kernel
theorem dX10_ask_57 : decode cX10_ask 57 = .ok (.putfield 249, 3) := by decide +kernel
theorem dX10_ask_60 : decode cX10_ask 60 = .ok (.return_, 1) := by decide +kernel
theorem dX10_goThrough_0 : decode cX10_goThrough 0 = .ok (.iconst 1, 1) := by decide +kernel
theorem dX10_goThrough_1 : decode cX10_goThrough 1 = .ok (.istore_n 3, 1) := by decide +kernel
theorem dX10_goThrough_2 : decode cX10_goThrough 2 = .ok (.iconst 0, 1) := by decide +kernel
theorem dX10_goThrough_3 : decode cX10_goThrough 3 = .ok (.istore 4, 2) := by decide +kernel
theorem dX10_goThrough_5 : decode cX10_goThrough 5 = .ok (.iload 4, 2) := by decide +kernel
theorem dX10_goThrough_7 : decode cX10_goThrough 7 = .ok (.aload_n 0, 1) := by decide +kernel
theorem dX10_goThrough_8 : decode cX10_goThrough 8 = .ok (.getfield 176, 3) := by decide +kernel
theorem dX10_goThrough_11 : decode cX10_goThrough 11 = .ok (.if_icmp .ge 18, 3) := by decide +kernel
theorem dX10_goThrough_14 : decode cX10_goThrough 14 = .ok (.iload_n 3, 1) := by decide +kernel
theorem dX10_goThrough_15 : decode cX10_goThrough 15 = .ok (.aload_n 0, 1) := by decide +kernel
theorem dX10_goThrough_16 : decode cX10_goThrough 16 = .ok (.getfield 13, 3) := by decide +kernel
theorem dX10_goThrough_19 : decode cX10_goThrough 19 = .ok (.iload_n 1, 1) := by decide +kernel
theorem dX10_goThrough_20 : decode cX10_goThrough 20 = .ok (.iaload, 1) := by decide +kernel
theorem dX10_goThrough_21 : decode cX10_goThrough 21 = .ok (.imul, 1) := by decide +kernel
theorem dX10_goThrough_22 : decode cX10_goThrough 22 = .ok (.istore_n 3, 1) := by decide +kernel
theorem dX10_goThrough_23 : decode cX10_goThrough 23 = .ok (.iinc 4 1, 3) := by decide +kernel
theorem dX10_goThrough_26 : decode cX10_goThrough 26 = .ok (.goto (-21), 3) := by decide +kernel
theorem dX10_goThrough_29 : decode cX10_goThrough 29 = .ok (.iconst 0, 1) := by decide +kernel
theorem dX10_goThrough_30 : decode cX10_goThrough 30 = .ok (.istore 4, 2) := by decide +kernel
theorem dX10_goThrough_32 : decode cX10_goThrough 32 = .ok (.iload 4, 2) := by decide +kernel
theorem dX10_goThrough_34 : decode cX10_goThrough 34 = .ok (.iload_n 3, 1) := by decide +kernel
theorem dX10_goThrough_35 : decode cX10_goThrough 35 = .ok (.if_icmp .ge 122, 3) := by decide +kernel
theorem dX10_goThrough_38 : decode cX10_goThrough 38 = .ok (.iload 4, 2) := by decide +kernel
theorem dX10_goThrough_40 : decode cX10_goThrough 40 = .ok (.istore 5, 2) := by decide +kernel
theorem dX10_goThrough_42 : decode cX10_goThrough 42 = .ok (.iconst 0, 1) := by decide +kernel
theorem dX10_goThrough_43 : decode cX10_goThrough 43 = .ok (.istore 6, 2) := by decide +kernel
theorem dX10_goThrough_45 : decode cX10_goThrough 45 = .ok (.iload 6, 2) := by decide +kernel
theorem dX10_goThrough_47 : decode cX10_goThrough 47 = .ok (.aload_n 0, 1) := by decide +kernel
theorem dX10_goThrough_48 : decode cX10_goThrough 48 = .ok (.getfield 176, 3) := by decide +kernel
theorem dX10_goThrough_51 : decode cX10_goThrough 51 = .ok (.if_icmp .ge 36, 3) := by decide +kernel
theorem dX10_goThrough_54 : decode cX10_goThrough 54 = .ok (.aload_n 0, 1) := by decide +kernel
theorem dX10_goThrough_55 : decode cX10_goThrough 55 = .ok (.getfield 52, 3) := by decide +kernel
theorem dX10_goThrough_58 : decode cX10_goThrough 58 = .ok (.iload 6, 2) := by decide +kernel
theorem dX10_goThrough_60 : decode cX10_goThrough 60 = .ok (.iload 5, 2) := by decide +kernel
theorem dX10_goThrough_62 : decode cX10_goThrough 62 = .ok (.aload_n 0, 1) := by decide +kernel
theorem dX10_goThrough_63 : decode cX10_goThrough 63 = .ok (.getfield 13, 3) := by decide +kernel
theorem dX10_goThrough_66 : decode cX10_goThrough 66 = .ok (.iload_n 1, 1) := by decide +kernel
theorem dX10_goThrough_67 : decode cX10_goThrough 67 = .ok (.iaload, 1) := by decide +kernel
theorem dX10_goThrough_68 : decode cX10_goThrough 68 = .ok (.irem, 1) := by decide +kernel
theorem dX10_goThrough_69 : decode cX10_goThrough 69 = .ok (.iastore, 1) := by decide +kernel
theorem dX10_goThrough_70 : decode cX10_goThrough 70 = .ok (.iload 5, 2) := by decide +kernel
theorem dX10_goThrough_72 : decode cX10_goThrough 72 = .ok (.aload_n 0, 1) := by decide +kernel
theorem dX10_goThrough_73 : decode cX10_goThrough 73 = .ok (.getfield 13, 3) := by decide +kernel
theorem dX10_goThrough_76 : decode cX10_goThrough 76 = .ok (.iload_n 1, 1) := by decide +kernel
theorem dX10_goThrough_77 : decode cX10_goThrough 77 = .ok (.iaload, 1) := by decide +kernel
theorem dX10_goThrough_78 : decode cX10_goThrough 78 = .ok (.idiv, 1) := by decide +kernel
theorem dX10_goThrough_79 : decode cX10_goThrough 79 = .ok (.istore 5, 2) := by decide +kernel
theorem dX10_goThrough_81 : decode cX10_goThrough 81 = .ok (.iinc 6 1, 3) := by decide +kernel
theorem dX10_goThrough_84 : decode cX10_goThrough 84 = .ok (.goto (-39), 3) := by decide +kernel
theorem dX10_goThrough_87 : decode cX10_goThrough 87 = .ok (.aload_n 0, 1) := by decide +kernel
theorem dX10_goThrough_88 : decode cX10_goThrough 88 = .ok (.getfield 219, 3) := by decide +kernel
theorem dX10_goThrough_91 : decode cX10_goThrough 91 = .ok (.iconst (-1), 1) := by decide +kernel
theorem dX10_goThrough_92 : decode cX10_goThrough 92 = .ok (.if_icmp .eq 19, 3) := by decide +kernel
theorem dX10_goThrough_95 : decode cX10_goThrough 95 = .ok (.aload_n 0, 1) := by decide +kernel
theorem dX10_goThrough_96 : decode cX10_goThrough 96 = .ok (.getfield 52, 3) := by decide +kernel
theorem dX10_goThrough_99 : decode cX10_goThrough 99 = .ok (.aload_n 0, 1) := by decide +kernel
theorem dX10_goThrough_100 : decode cX10_goThrough 100 = .ok (.getfield 216, 3) := by decide +kernel
theorem dX10_goThrough_103 : decode cX10_goThrough 103 = .ok (.iaload, 1) := by decide +kernel
theorem dX10_goThrough_104 : decode cX10_goThrough 104 = .ok (.aload_n 0, 1) := by decide +kernel
theorem dX10_goThrough_105 : decode cX10_goThrough 105 = .ok (.getfield 219, 3) := by decide +kernel
theorem dX10_goThrough_108 : decode cX10_goThrough 108 = .ok (.if_icmp .ne 7, 3) := by decide +kernel
theorem dX10_goThrough_111 : decode cX10_goThrough 111 = .ok (.iconst 1, 1) := by decide +kernel
theorem dX10_goThrough_112 : decode cX10_goThrough 112 = .ok (.goto 4, 3) := by decide +kernel
theorem dX10_goThrough_115 : decode cX10_goThrough 115 = .ok (.iconst 0, 1) := by decide +kernel
theorem dX10_goThrough_116 : decode cX10_goThrough 116 = .ok (.istore 6, 2) := by decide +kernel
theorem dX10_goThrough_118 : decode cX10_goThrough 118 = .ok (.iload 6, 2) := by decide +kernel
theorem dX10_goThrough_120 : decode cX10_goThrough 120 = .ok (.ifCond .eq 31, 3) := by decide +kernel
theorem dX10_goThrough_123 : decode cX10_goThrough 123 = .ok (.aload_n 0, 1) := by decide +kernel
theorem dX10_goThrough_124 : decode cX10_goThrough 124 = .ok (.getfield 225, 3) := by decide +kernel
theorem dX10_goThrough_127 : decode cX10_goThrough 127 = .ok (.iconst (-1), 1) := by decide +kernel
theorem dX10_goThrough_128 : decode cX10_goThrough 128 = .ok (.if_icmp .eq 12, 3) := by decide +kernel
theorem dX10_goThrough_131 : decode cX10_goThrough 131 = .ok (.aload_n 0, 1) := by decide +kernel
theorem dX10_goThrough_132 : decode cX10_goThrough 132 = .ok (.getfield 52, 3) := by decide +kernel
theorem dX10_goThrough_135 : decode cX10_goThrough 135 = .ok (.iconst 0, 1) := by decide +kernel
theorem dX10_goThrough_136 : decode cX10_goThrough 136 = .ok (.iaload, 1) := by decide +kernel
theorem dX10_goThrough_137 : decode cX10_goThrough 137 = .ok (.ifCond .ne 14, 3) := by decide +kernel
theorem dX10_goThrough_140 : decode cX10_goThrough 140 = .ok (.aload_n 0, 1) := by decide +kernel
theorem dX10_goThrough_141 : decode cX10_goThrough 141 = .ok (.iload_n 1, 1) := by decide +kernel
theorem dX10_goThrough_142 : decode cX10_goThrough 142 = .ok (.invokevirtual 252, 3) := by decide +kernel
theorem dX10_goThrough_145 : decode cX10_goThrough 145 = .ok (.aload_n 0, 1) := by decide +kernel
theorem dX10_goThrough_146 : decode cX10_goThrough 146 = .ok (.iload_n 1, 1) := by decide +kernel
theorem dX10_goThrough_147 : decode cX10_goThrough 147 = .ok (.iload_n 2, 1) := by decide +kernel
theorem dX10_goThrough_148 : decode cX10_goThrough 148 = .ok (.invokevirtual 255, 3) := by decide +kernel
theorem dX10_goThrough_151 : decode cX10_goThrough 151 = .ok (.iinc 4 1, 3) := by decide +kernel
theorem dX10_goThrough_154 : decode cX10_goThrough 154 = .ok (.goto (-122), 3) := by decide +kernel
theorem dX10_goThrough_157 : decode cX10_goThrough 157 = .ok (.return_, 1) := by decide +kernel
theorem dX10_lay_0 : decode cX10_lay 0 = .ok (.iconst 0, 1) := by decide +kernel
theorem dX10_lay_1 : decode cX10_lay 1 = .ok (.istore_n 2, 1) := by decide +kernel
theorem dX10_lay_2 : decode cX10_lay 2 = .ok (.iload_n 2, 1) := by decide +kernel
theorem dX10_lay_3 : decode cX10_lay 3 = .ok (.aload_n 0, 1) := by decide +kernel
theorem dX10_lay_4 : decode cX10_lay 4 = .ok (.getfield 176, 3) := by decide +kernel
theorem dX10_lay_7 : decode cX10_lay 7 = .ok (.if_icmp .ge 53, 3) := by decide +kernel
theorem dX10_lay_10 : decode cX10_lay 10 = .ok (.aload_n 0, 1) := by decide +kernel
theorem dX10_lay_11 : decode cX10_lay 11 = .ok (.getfield 49, 3) := by decide +kernel
theorem dX10_lay_14 : decode cX10_lay 14 = .ok (.iload_n 2, 1) := by decide +kernel
theorem dX10_lay_15 : decode cX10_lay 15 = .ok (.iload_n 2, 1) := by decide +kernel
theorem dX10_lay_16 : decode cX10_lay 16 = .ok (.aload_n 0, 1) := by decide +kernel
theorem dX10_lay_17 : decode cX10_lay 17 = .ok (.getfield 216, 3) := by decide +kernel
theorem dX10_lay_20 : decode cX10_lay 20 = .ok (.if_icmp .ne 18, 3) := by decide +kernel
theorem dX10_lay_23 : decode cX10_lay 23 = .ok (.aload_n 0, 1) := by decide +kernel
theorem dX10_lay_24 : decode cX10_lay 24 = .ok (.getfield 222, 3) := by decide +kernel
theorem dX10_lay_27 : decode cX10_lay 27 = .ok (.iconst (-1), 1) := by decide +kernel
theorem dX10_lay_28 : decode cX10_lay 28 = .ok (.if_icmp .eq 10, 3) := by decide +kernel
theorem dX10_lay_31 : decode cX10_lay 31 = .ok (.aload_n 0, 1) := by decide +kernel
theorem dX10_lay_32 : decode cX10_lay 32 = .ok (.getfield 222, 3) := by decide +kernel
theorem dX10_lay_35 : decode cX10_lay 35 = .ok (.goto 18, 3) := by decide +kernel
theorem dX10_lay_38 : decode cX10_lay 38 = .ok (.aload_n 0, 1) := by decide +kernel
theorem dX10_lay_39 : decode cX10_lay 39 = .ok (.getfield 46, 3) := by decide +kernel
theorem dX10_lay_42 : decode cX10_lay 42 = .ok (.iconst 5, 1) := by decide +kernel
theorem dX10_lay_43 : decode cX10_lay 43 = .ok (.iload_n 2, 1) := by decide +kernel
theorem dX10_lay_44 : decode cX10_lay 44 = .ok (.imul, 1) := by decide +kernel
theorem dX10_lay_45 : decode cX10_lay 45 = .ok (.aload_n 0, 1) := by decide +kernel
theorem dX10_lay_46 : decode cX10_lay 46 = .ok (.getfield 52, 3) := by decide +kernel
theorem dX10_lay_49 : decode cX10_lay 49 = .ok (.iload_n 2, 1) := by decide +kernel
theorem dX10_lay_50 : decode cX10_lay 50 = .ok (.iaload, 1) := by decide +kernel
theorem dX10_lay_51 : decode cX10_lay 51 = .ok (.iadd, 1) := by decide +kernel
theorem dX10_lay_52 : decode cX10_lay 52 = .ok (.iaload, 1) := by decide +kernel
theorem dX10_lay_53 : decode cX10_lay 53 = .ok (.iastore, 1) := by decide +kernel
theorem dX10_lay_54 : decode cX10_lay 54 = .ok (.iinc 2 1, 3) := by decide +kernel
theorem dX10_lay_57 : decode cX10_lay 57 = .ok (.goto (-55), 3) := by decide +kernel
theorem dX10_lay_60 : decode cX10_lay 60 = .ok (.aload_n 0, 1) := by decide +kernel
theorem dX10_lay_61 : decode cX10_lay 61 = .ok (.getfield 228, 3) := by decide +kernel
theorem dX10_lay_64 : decode cX10_lay 64 = .ok (.iconst (-1), 1) := by decide +kernel
theorem dX10_lay_65 : decode cX10_lay 65 = .ok (.if_icmp .eq 34, 3) := by decide +kernel
theorem dX10_lay_68 : decode cX10_lay 68 = .ok (.aload_n 0, 1) := by decide +kernel
theorem dX10_lay_69 : decode cX10_lay 69 = .ok (.getfield 49, 3) := by decide +kernel
theorem dX10_lay_72 : decode cX10_lay 72 = .ok (.iconst 0, 1) := by decide +kernel
theorem dX10_lay_73 : decode cX10_lay 73 = .ok (.aload_n 0, 1) := by decide +kernel
theorem dX10_lay_74 : decode cX10_lay 74 = .ok (.iload_n 1, 1) := by decide +kernel
theorem dX10_lay_75 : decode cX10_lay 75 = .ok (.aload_n 0, 1) := by decide +kernel
theorem dX10_lay_76 : decode cX10_lay 76 = .ok (.getfield 52, 3) := by decide +kernel
theorem dX10_lay_79 : decode cX10_lay 79 = .ok (.iconst 0, 1) := by decide +kernel
theorem dX10_lay_80 : decode cX10_lay 80 = .ok (.iaload, 1) := by decide +kernel
theorem dX10_lay_81 : decode cX10_lay 81 = .ok (.aload_n 0, 1) := by decide +kernel
theorem dX10_lay_82 : decode cX10_lay 82 = .ok (.getfield 52, 3) := by decide +kernel
theorem dX10_lay_85 : decode cX10_lay 85 = .ok (.iconst 1, 1) := by decide +kernel
theorem dX10_lay_86 : decode cX10_lay 86 = .ok (.iaload, 1) := by decide +kernel
theorem dX10_lay_87 : decode cX10_lay 87 = .ok (.iconst (-1), 1) := by decide +kernel
theorem dX10_lay_88 : decode cX10_lay 88 = .ok (.invokevirtual 179, 3) := by decide +kernel
theorem dX10_lay_91 : decode cX10_lay 91 = .ok (.iastore, 1) := by decide +kernel
theorem dX10_lay_92 : decode cX10_lay 92 = .ok (.aload_n 0, 1) := by decide +kernel
theorem dX10_lay_93 : decode cX10_lay 93 = .ok (.getfield 49, 3) := by decide +kernel
theorem dX10_lay_96 : decode cX10_lay 96 = .ok (.iconst 1, 1) := by decide +kernel
theorem dX10_lay_97 : decode cX10_lay 97 = .ok (.iconst (-1), 1) := by decide +kernel
theorem dX10_lay_98 : decode cX10_lay 98 = .ok (.iastore, 1) := by decide +kernel
theorem dX10_lay_99 : decode cX10_lay 99 = .ok (.aload_n 0, 1) := by decide +kernel
theorem dX10_lay_100 : decode cX10_lay 100 = .ok (.invokevirtual 258, 3) := by decide +kernel
theorem dX10_lay_103 : decode cX10_lay 103 = .ok (.return_, 1) := by decide +kernel
theorem dX10_count_0 : decode cX10_count 0 = .ok (.iconst 0, 1) := by decide +kernel
theorem dX10_count_1 : decode cX10_count 1 = .ok (.istore_n 3, 1) := by decide +kernel
theorem dX10_count_2 : decode cX10_count 2 = .ok (.iload_n 3, 1) := by decide +kernel
theorem dX10_count_3 : decode cX10_count 3 = .ok (.aload_n 0, 1) := by decide +kernel
theorem dX10_count_4 : decode cX10_count 4 = .ok (.getfield 16, 3) := by decide +kernel
theorem dX10_count_7 : decode cX10_count 7 = .ok (.iload_n 1, 1) := by decide +kernel
theorem dX10_count_8 : decode cX10_count 8 = .ok (.iaload, 1) := by decide +kernel
theorem dX10_count_9 : decode cX10_count 9 = .ok (.if_icmp .ge 332, 3) := by decide +kernel
theorem dX10_count_12 : decode cX10_count 12 = .ok (.bipush 8, 2) := by decide +kernel
theorem dX10_count_14 : decode cX10_count 14 = .ok (.iload_n 1, 1) := by decide +kernel
theorem dX10_count_15 : decode cX10_count 15 = .ok (.imul, 1) := by decide +kernel
theorem dX10_count_16 : decode cX10_count 16 = .ok (.iload_n 3, 1) := by decide +kernel
theorem dX10_count_17 : decode cX10_count 17 = .ok (.iadd, 1) := by decide +kernel
theorem dX10_count_18 : decode cX10_count 18 = .ok (.istore 4, 2) := by decide +kernel
theorem dX10_count_20 : decode cX10_count 20 = .ok (.aload_n 0, 1) := by decide +kernel
theorem dX10_count_21 : decode cX10_count 21 = .ok (.getfield 225, 3) := by decide +kernel
theorem dX10_count_24 : decode cX10_count 24 = .ok (.iconst (-1), 1) := by decide +kernel
theorem dX10_count_25 : decode cX10_count 25 = .ok (.if_icmp .eq 14, 3) := by decide +kernel
theorem dX10_count_28 : decode cX10_count 28 = .ok (.aload_n 0, 1) := by decide +kernel
theorem dX10_count_29 : decode cX10_count 29 = .ok (.getfield 225, 3) := by decide +kernel
theorem dX10_count_32 : decode cX10_count 32 = .ok (.iload_n 3, 1) := by decide +kernel
theorem dX10_count_33 : decode cX10_count 33 = .ok (.if_icmp .eq 6, 3) := by decide +kernel
theorem dX10_count_36 : decode cX10_count 36 = .ok (.goto 299, 3) := by decide +kernel
theorem dX10_count_39 : decode cX10_count 39 = .ok (.aload_n 0, 1) := by decide +kernel
theorem dX10_count_40 : decode cX10_count 40 = .ok (.getfield 22, 3) := by decide +kernel
theorem dX10_count_43 : decode cX10_count 43 = .ok (.iload 4, 2) := by decide +kernel
theorem dX10_count_45 : decode cX10_count 45 = .ok (.iaload, 1) := by decide +kernel
theorem dX10_count_46 : decode cX10_count 46 = .ok (.iload_n 2, 1) := by decide +kernel
theorem dX10_count_47 : decode cX10_count 47 = .ok (.iconst (-1), 1) := by decide +kernel
theorem dX10_count_48 : decode cX10_count 48 = .ok (.if_icmp .ne 7, 3) := by decide +kernel
theorem dX10_count_51 : decode cX10_count 51 = .ok (.iconst 1, 1) := by decide +kernel
theorem dX10_count_52 : decode cX10_count 52 = .ok (.goto 14, 3) := by decide +kernel
theorem dX10_count_55 : decode cX10_count 55 = .ok (.aload_n 0, 1) := by decide +kernel
theorem dX10_count_56 : decode cX10_count 56 = .ok (.getfield 25, 3) := by decide +kernel
theorem dX10_count_59 : decode cX10_count 59 = .ok (.iconst 5, 1) := by decide +kernel
theorem dX10_count_60 : decode cX10_count 60 = .ok (.iload 4, 2) := by decide +kernel
theorem dX10_count_62 : decode cX10_count 62 = .ok (.imul, 1) := by decide +kernel
theorem dX10_count_63 : decode cX10_count 63 = .ok (.iload_n 2, 1) := by decide +kernel
theorem dX10_count_64 : decode cX10_count 64 = .ok (.iadd, 1) := by decide +kernel
theorem dX10_count_65 : decode cX10_count 65 = .ok (.iaload, 1) := by decide +kernel
theorem dX10_count_66 : decode cX10_count 66 = .ok (.imul, 1) := by decide +kernel
theorem dX10_count_67 : decode cX10_count 67 = .ok (.i2l, 1) := by decide +kernel
theorem dX10_count_68 : decode cX10_count 68 = .ok (.lstore 5, 2) := by decide +kernel
theorem dX10_count_70 : decode cX10_count 70 = .ok (.aload_n 0, 1) := by decide +kernel
theorem dX10_count_71 : decode cX10_count 71 = .ok (.getfield 225, 3) := by decide +kernel
theorem dX10_count_74 : decode cX10_count 74 = .ok (.iconst (-1), 1) := by decide +kernel
theorem dX10_count_75 : decode cX10_count 75 = .ok (.if_icmp .ne 7, 3) := by decide +kernel
theorem dX10_count_78 : decode cX10_count 78 = .ok (.iconst 0, 1) := by decide +kernel
theorem dX10_count_79 : decode cX10_count 79 = .ok (.goto 4, 3) := by decide +kernel
theorem dX10_count_82 : decode cX10_count 82 = .ok (.iconst 1, 1) := by decide +kernel
theorem dX10_count_83 : decode cX10_count 83 = .ok (.istore 7, 2) := by decide +kernel
theorem dX10_count_85 : decode cX10_count 85 = .ok (.iload 7, 2) := by decide +kernel
theorem dX10_count_87 : decode cX10_count 87 = .ok (.aload_n 0, 1) := by decide +kernel
theorem dX10_count_88 : decode cX10_count 88 = .ok (.getfield 176, 3) := by decide +kernel
theorem dX10_count_91 : decode cX10_count 91 = .ok (.if_icmp .ge 32, 3) := by decide +kernel
theorem dX10_count_94 : decode cX10_count 94 = .ok (.lload 5, 2) := by decide +kernel
theorem dX10_count_96 : decode cX10_count 96 = .ok (.aload_n 0, 1) := by decide +kernel
theorem dX10_count_97 : decode cX10_count 97 = .ok (.getfield 25, 3) := by decide +kernel
theorem dX10_count_100 : decode cX10_count 100 = .ok (.iconst 5, 1) := by decide +kernel
theorem dX10_count_101 : decode cX10_count 101 = .ok (.iload 4, 2) := by decide +kernel
theorem dX10_count_103 : decode cX10_count 103 = .ok (.imul, 1) := by decide +kernel
theorem dX10_count_104 : decode cX10_count 104 = .ok (.aload_n 0, 1) := by decide +kernel
theorem dX10_count_105 : decode cX10_count 105 = .ok (.getfield 52, 3) := by decide +kernel
theorem dX10_count_108 : decode cX10_count 108 = .ok (.iload 7, 2) := by decide +kernel
theorem dX10_count_110 : decode cX10_count 110 = .ok (.iaload, 1) := by decide +kernel
theorem dX10_count_111 : decode cX10_count 111 = .ok (.iadd, 1) := by decide +kernel
theorem dX10_count_112 : decode cX10_count 112 = .ok (.iaload, 1) := by decide +kernel
theorem dX10_count_113 : decode cX10_count 113 = .ok (.i2l, 1) := by decide +kernel
theorem dX10_count_114 : decode cX10_count 114 = .ok (.lmul, 1) := by decide +kernel
theorem dX10_count_115 : decode cX10_count 115 = .ok (.lstore 5, 2) := by decide +kernel
theorem dX10_count_117 : decode cX10_count 117 = .ok (.iinc 7 1, 3) := by decide +kernel
theorem dX10_count_120 : decode cX10_count 120 = .ok (.goto (-35), 3) := by decide +kernel
theorem dX10_count_123 : decode cX10_count 123 = .ok (.aload_n 0, 1) := by decide +kernel
theorem dX10_count_124 : decode cX10_count 124 = .ok (.dup, 1) := by decide +kernel
theorem dX10_count_125 : decode cX10_count 125 = .ok (.getfield 231, 3) := by decide +kernel
theorem dX10_count_128 : decode cX10_count 128 = .ok (.ldc2_w 211, 3) := by decide +kernel
theorem dX10_count_131 : decode cX10_count 131 = .ok (.lload 5, 2) := by decide +kernel
theorem dX10_count_133 : decode cX10_count 133 = .ok (.lmul, 1) := by decide +kernel
theorem dX10_count_134 : decode cX10_count 134 = .ok (.ladd, 1) := by decide +kernel
theorem dX10_count_135 : decode cX10_count 135 = .ok (.putfield 231, 3) := by decide +kernel
theorem dX10_count_138 : decode cX10_count 138 = .ok (.aload_n 0, 1) := by decide +kernel
theorem dX10_count_139 : decode cX10_count 139 = .ok (.dup, 1) := by decide +kernel
theorem dX10_count_140 : decode cX10_count 140 = .ok (.getfield 234, 3) := by decide +kernel
theorem dX10_count_143 : decode cX10_count 143 = .ok (.lload 5, 2) := by decide +kernel
theorem dX10_count_145 : decode cX10_count 145 = .ok (.aload_n 0, 1) := by decide +kernel
theorem dX10_count_146 : decode cX10_count 146 = .ok (.invokevirtual 261, 3) := by decide +kernel
theorem dX10_count_149 : decode cX10_count 149 = .ok (.lmul, 1) := by decide +kernel
theorem dX10_count_150 : decode cX10_count 150 = .ok (.ladd, 1) := by decide +kernel
theorem dX10_count_151 : decode cX10_count 151 = .ok (.putfield 234, 3) := by decide +kernel
theorem dX10_count_154 : decode cX10_count 154 = .ok (.aload_n 0, 1) := by decide +kernel
theorem dX10_count_155 : decode cX10_count 155 = .ok (.dup, 1) := by decide +kernel
theorem dX10_count_156 : decode cX10_count 156 = .ok (.getfield 240, 3) := by decide +kernel
theorem dX10_count_159 : decode cX10_count 159 = .ok (.aload_n 0, 1) := by decide +kernel
theorem dX10_count_160 : decode cX10_count 160 = .ok (.getfield 202, 3) := by decide +kernel
theorem dX10_count_163 : decode cX10_count 163 = .ok (.iconst (-1), 1) := by decide +kernel
theorem dX10_count_164 : decode cX10_count 164 = .ok (.if_icmp .ne 12, 3) := by decide +kernel
theorem dX10_count_167 : decode cX10_count 167 = .ok (.ldc2_w 211, 3) := by decide +kernel
theorem dX10_count_170 : decode cX10_count 170 = .ok (.lload 5, 2) := by decide +kernel
theorem dX10_count_172 : decode cX10_count 172 = .ok (.lmul, 1) := by decide +kernel
theorem dX10_count_173 : decode cX10_count 173 = .ok (.goto 4, 3) := by decide +kernel
theorem dX10_count_176 : decode cX10_count 176 = .ok (.lconst 0, 1) := by decide +kernel
theorem dX10_count_177 : decode cX10_count 177 = .ok (.ladd, 1) := by decide +kernel
theorem dX10_count_178 : decode cX10_count 178 = .ok (.putfield 240, 3) := by decide +kernel
theorem dX10_count_181 : decode cX10_count 181 = .ok (.aload_n 0, 1) := by decide +kernel
theorem dX10_count_182 : decode cX10_count 182 = .ok (.dup, 1) := by decide +kernel
theorem dX10_count_183 : decode cX10_count 183 = .ok (.getfield 237, 3) := by decide +kernel
theorem dX10_count_186 : decode cX10_count 186 = .ok (.aload_n 0, 1) := by decide +kernel
theorem dX10_count_187 : decode cX10_count 187 = .ok (.getfield 202, 3) := by decide +kernel
theorem dX10_count_190 : decode cX10_count 190 = .ok (.iconst (-1), 1) := by decide +kernel
theorem dX10_count_191 : decode cX10_count 191 = .ok (.if_icmp .eq 26, 3) := by decide +kernel
theorem dX10_count_194 : decode cX10_count 194 = .ok (.aload_n 0, 1) := by decide +kernel
theorem dX10_count_195 : decode cX10_count 195 = .ok (.invokevirtual 213, 3) := by decide +kernel
theorem dX10_count_198 : decode cX10_count 198 = .ok (.aload_n 0, 1) := by decide +kernel
theorem dX10_count_199 : decode cX10_count 199 = .ok (.getfield 19, 3) := by decide +kernel
theorem dX10_count_202 : decode cX10_count 202 = .ok (.iload 4, 2) := by decide +kernel
theorem dX10_count_204 : decode cX10_count 204 = .ok (.iaload, 1) := by decide +kernel
theorem dX10_count_205 : decode cX10_count 205 = .ok (.if_icmp .le 12, 3) := by decide +kernel
theorem dX10_count_208 : decode cX10_count 208 = .ok (.ldc2_w 211, 3) := by decide +kernel
theorem dX10_count_211 : decode cX10_count 211 = .ok (.lload 5, 2) := by decide +kernel
theorem dX10_count_213 : decode cX10_count 213 = .ok (.lmul, 1) := by decide +kernel
theorem dX10_count_214 : decode cX10_count 214 = .ok (.goto 4, 3) := by decide +kernel
theorem dX10_count_217 : decode cX10_count 217 = .ok (.lconst 0, 1) := by decide +kernel
theorem dX10_count_218 : decode cX10_count 218 = .ok (.ladd, 1) := by decide +kernel
theorem dX10_count_219 : decode cX10_count 219 = .ok (.putfield 237, 3) := by decide +kernel
theorem dX10_count_222 : decode cX10_count 222 = .ok (.aload_n 0, 1) := by decide +kernel
theorem dX10_count_223 : decode cX10_count 223 = .ok (.getfield 216, 3) := by decide +kernel
theorem dX10_count_226 : decode cX10_count 226 = .ok (.iconst (-1), 1) := by decide +kernel
theorem dX10_count_227 : decode cX10_count 227 = .ok (.if_icmp .eq 108, 3) := by decide +kernel
theorem dX10_count_230 : decode cX10_count 230 = .ok (.aload_n 0, 1) := by decide +kernel
theorem dX10_count_231 : decode cX10_count 231 = .ok (.dup, 1) := by decide +kernel
theorem dX10_count_232 : decode cX10_count 232 = .ok (.getfield 243, 3) := by decide +kernel
theorem dX10_count_235 : decode cX10_count 235 = .ok (.lload 5, 2) := by decide +kernel
theorem dX10_count_237 : decode cX10_count 237 = .ok (.aload_n 0, 1) := by decide +kernel
theorem dX10_count_238 : decode cX10_count 238 = .ok (.aload_n 0, 1) := by decide +kernel
theorem dX10_count_239 : decode cX10_count 239 = .ok (.getfield 216, 3) := by decide +kernel
theorem dX10_count_242 : decode cX10_count 242 = .ok (.aload_n 0, 1) := by decide +kernel
theorem dX10_count_243 : decode cX10_count 243 = .ok (.getfield 19, 3) := by decide +kernel
theorem dX10_count_246 : decode cX10_count 246 = .ok (.iload 4, 2) := by decide +kernel
theorem dX10_count_248 : decode cX10_count 248 = .ok (.iaload, 1) := by decide +kernel
theorem dX10_count_249 : decode cX10_count 249 = .ok (.invokevirtual 265, 3) := by decide +kernel
theorem dX10_count_252 : decode cX10_count 252 = .ok (.lmul, 1) := by decide +kernel
theorem dX10_count_253 : decode cX10_count 253 = .ok (.ladd, 1) := by decide +kernel
theorem dX10_count_254 : decode cX10_count 254 = .ok (.putfield 243, 3) := by decide +kernel
theorem dX10_count_257 : decode cX10_count 257 = .ok (.aload_n 0, 1) := by decide +kernel
theorem dX10_count_258 : decode cX10_count 258 = .ok (.getfield 49, 3) := by decide +kernel
theorem dX10_count_261 : decode cX10_count 261 = .ok (.aload_n 0, 1) := by decide +kernel
theorem dX10_count_262 : decode cX10_count 262 = .ok (.getfield 216, 3) := by decide +kernel
theorem dX10_count_265 : decode cX10_count 265 = .ok (.iaload, 1) := by decide +kernel
theorem dX10_count_266 : decode cX10_count 266 = .ok (.iconst (-1), 1) := by decide +kernel
theorem dX10_count_267 : decode cX10_count 267 = .ok (.if_icmp .eq 34, 3) := by decide +kernel
theorem dX10_count_270 : decode cX10_count 270 = .ok (.aload_n 0, 1) := by decide +kernel
theorem dX10_count_271 : decode cX10_count 271 = .ok (.getfield 49, 3) := by decide +kernel
theorem dX10_count_274 : decode cX10_count 274 = .ok (.aload_n 0, 1) := by decide +kernel
theorem dX10_count_275 : decode cX10_count 275 = .ok (.getfield 216, 3) := by decide +kernel
theorem dX10_count_278 : decode cX10_count 278 = .ok (.iaload, 1) := by decide +kernel
theorem dX10_count_279 : decode cX10_count 279 = .ok (.aload_n 0, 1) := by decide +kernel
theorem dX10_count_280 : decode cX10_count 280 = .ok (.getfield 202, 3) := by decide +kernel
theorem dX10_count_283 : decode cX10_count 283 = .ok (.if_icmp .ne 18, 3) := by decide +kernel
theorem dX10_count_286 : decode cX10_count 286 = .ok (.lload 5, 2) := by decide +kernel
theorem dX10_count_288 : decode cX10_count 288 = .ok (.ldc2_w 211, 3) := by decide +kernel
theorem dX10_count_291 : decode cX10_count 291 = .ok (.aload_n 0, 1) := by decide +kernel
theorem dX10_count_292 : decode cX10_count 292 = .ok (.getfield 205, 3) := by decide +kernel
theorem dX10_count_295 : decode cX10_count 295 = .ok (.i2l, 1) := by decide +kernel
theorem dX10_count_296 : decode cX10_count 296 = .ok (.ldiv, 1) := by decide +kernel
theorem dX10_count_297 : decode cX10_count 297 = .ok (.lmul, 1) := by decide +kernel
theorem dX10_count_298 : decode cX10_count 298 = .ok (.goto 4, 3) := by decide +kernel
theorem dX10_count_301 : decode cX10_count 301 = .ok (.lconst 0, 1) := by decide +kernel
theorem dX10_count_302 : decode cX10_count 302 = .ok (.lstore 7, 2) := by decide +kernel
theorem dX10_count_304 : decode cX10_count 304 = .ok (.aload_n 0, 1) := by decide +kernel
theorem dX10_count_305 : decode cX10_count 305 = .ok (.dup, 1) := by decide +kernel
theorem dX10_count_306 : decode cX10_count 306 = .ok (.getfield 246, 3) := by decide +kernel
theorem dX10_count_309 : decode cX10_count 309 = .ok (.lload 7, 2) := by decide +kernel
theorem dX10_count_311 : decode cX10_count 311 = .ok (.aload_n 0, 1) := by decide +kernel
theorem dX10_count_312 : decode cX10_count 312 = .ok (.getfield 19, 3) := by decide +kernel
theorem dX10_count_315 : decode cX10_count 315 = .ok (.iload 4, 2) := by decide +kernel
theorem dX10_count_317 : decode cX10_count 317 = .ok (.iaload, 1) := by decide +kernel
theorem dX10_count_318 : decode cX10_count 318 = .ok (.i2l, 1) := by decide +kernel
theorem dX10_count_319 : decode cX10_count 319 = .ok (.lmul, 1) := by decide +kernel
theorem dX10_count_320 : decode cX10_count 320 = .ok (.ladd, 1) := by decide +kernel
theorem dX10_count_321 : decode cX10_count 321 = .ok (.putfield 246, 3) := by decide +kernel
theorem dX10_count_324 : decode cX10_count 324 = .ok (.aload_n 0, 1) := by decide +kernel
theorem dX10_count_325 : decode cX10_count 325 = .ok (.dup, 1) := by decide +kernel
theorem dX10_count_326 : decode cX10_count 326 = .ok (.getfield 249, 3) := by decide +kernel
theorem dX10_count_329 : decode cX10_count 329 = .ok (.lload 7, 2) := by decide +kernel
theorem dX10_count_331 : decode cX10_count 331 = .ok (.ladd, 1) := by decide +kernel
theorem dX10_count_332 : decode cX10_count 332 = .ok (.putfield 249, 3) := by decide +kernel
theorem dX10_count_335 : decode cX10_count 335 = .ok (.iinc 3 1, 3) := by decide +kernel
theorem dX10_count_338 : decode cX10_count 338 = .ok (.goto (-336), 3) := by decide +kernel
theorem dX10_count_341 : decode cX10_count 341 = .ok (.return_, 1) := by decide +kernel
theorem dX10_cases_0 : decode cX10_cases 0 = .ok (.aload_n 0, 1) := by decide +kernel
theorem dX10_cases_1 : decode cX10_cases 1 = .ok (.iload_n 1, 1) := by decide +kernel
theorem dX10_cases_2 : decode cX10_cases 2 = .ok (.invokevirtual 129, 3) := by decide +kernel
theorem dX10_cases_5 : decode cX10_cases 5 = .ok (.ifCond .eq 12, 3) := by decide +kernel
theorem dX10_cases_8 : decode cX10_cases 8 = .ok (.iload_n 2, 1) := by decide +kernel
theorem dX10_cases_9 : decode cX10_cases 9 = .ok (.iconst 0, 1) := by decide +kernel
theorem dX10_cases_10 : decode cX10_cases 10 = .ok (.iconst 3, 1) := by decide +kernel
theorem dX10_cases_11 : decode cX10_cases 11 = .ok (.invokestatic 107, 3) := by decide +kernel
theorem dX10_cases_14 : decode cX10_cases 14 = .ok (.ifCond .ne 7, 3) := by decide +kernel
theorem dX10_cases_17 : decode cX10_cases 17 = .ok (.ldc2_w 269, 3) := by decide +kernel
theorem dX10_cases_20 : decode cX10_cases 20 = .ok (.lreturn, 1) := by decide +kernel
theorem dX10_cases_21 : decode cX10_cases 21 = .ok (.aload_n 0, 1) := by decide +kernel
theorem dX10_cases_22 : decode cX10_cases 22 = .ok (.iload_n 1, 1) := by decide +kernel
theorem dX10_cases_23 : decode cX10_cases 23 = .ok (.invokevirtual 199, 3) := by decide +kernel
theorem dX10_cases_26 : decode cX10_cases 26 = .ok (.aload_n 0, 1) := by decide +kernel
theorem dX10_cases_27 : decode cX10_cases 27 = .ok (.iconst (-1), 1) := by decide +kernel
theorem dX10_cases_28 : decode cX10_cases 28 = .ok (.iconst (-1), 1) := by decide +kernel
theorem dX10_cases_29 : decode cX10_cases 29 = .ok (.iconst (-1), 1) := by decide +kernel
theorem dX10_cases_30 : decode cX10_cases 30 = .ok (.invokevirtual 271, 3) := by decide +kernel
theorem dX10_cases_33 : decode cX10_cases 33 = .ok (.aload_n 0, 1) := by decide +kernel
theorem dX10_cases_34 : decode cX10_cases 34 = .ok (.iload_n 1, 1) := by decide +kernel
theorem dX10_cases_35 : decode cX10_cases 35 = .ok (.iconst (-1), 1) := by decide +kernel
theorem dX10_cases_36 : decode cX10_cases 36 = .ok (.invokevirtual 275, 3) := by decide +kernel
theorem dX10_cases_39 : decode cX10_cases 39 = .ok (.iload_n 2, 1) := by decide +kernel
theorem dX10_cases_40 : decode cX10_cases 40 = .ok (.ifCond .ne 10, 3) := by decide +kernel
theorem dX10_cases_43 : decode cX10_cases 43 = .ok (.aload_n 0, 1) := by decide +kernel
theorem dX10_cases_44 : decode cX10_cases 44 = .ok (.getfield 231, 3) := by decide +kernel
theorem dX10_cases_47 : decode cX10_cases 47 = .ok (.goto 31, 3) := by decide +kernel
theorem dX10_cases_50 : decode cX10_cases 50 = .ok (.iload_n 2, 1) := by decide +kernel
theorem dX10_cases_51 : decode cX10_cases 51 = .ok (.iconst 1, 1) := by decide +kernel
theorem dX10_cases_52 : decode cX10_cases 52 = .ok (.if_icmp .ne 10, 3) := by decide +kernel
theorem dX10_cases_55 : decode cX10_cases 55 = .ok (.aload_n 0, 1) := by decide +kernel
theorem dX10_cases_56 : decode cX10_cases 56 = .ok (.getfield 234, 3) := by decide +kernel
theorem dX10_cases_59 : decode cX10_cases 59 = .ok (.goto 19, 3) := by decide +kernel
theorem dX10_cases_62 : decode cX10_cases 62 = .ok (.iload_n 2, 1) := by decide +kernel
theorem dX10_cases_63 : decode cX10_cases 63 = .ok (.iconst 2, 1) := by decide +kernel
theorem dX10_cases_64 : decode cX10_cases 64 = .ok (.if_icmp .ne 10, 3) := by decide +kernel
theorem dX10_cases_67 : decode cX10_cases 67 = .ok (.aload_n 0, 1) := by decide +kernel
theorem dX10_cases_68 : decode cX10_cases 68 = .ok (.getfield 237, 3) := by decide +kernel
theorem dX10_cases_71 : decode cX10_cases 71 = .ok (.goto 7, 3) := by decide +kernel
theorem dX10_cases_74 : decode cX10_cases 74 = .ok (.aload_n 0, 1) := by decide +kernel
theorem dX10_cases_75 : decode cX10_cases 75 = .ok (.getfield 240, 3) := by decide +kernel
theorem dX10_cases_78 : decode cX10_cases 78 = .ok (.lreturn, 1) := by decide +kernel
theorem dX10_gain_0 : decode cX10_gain 0 = .ok (.aload_n 0, 1) := by decide +kernel
theorem dX10_gain_1 : decode cX10_gain 1 = .ok (.iload_n 1, 1) := by decide +kernel
theorem dX10_gain_2 : decode cX10_gain 2 = .ok (.iload_n 2, 1) := by decide +kernel
theorem dX10_gain_3 : decode cX10_gain 3 = .ok (.invokevirtual 196, 3) := by decide +kernel
theorem dX10_gain_6 : decode cX10_gain 6 = .ok (.ifCond .ne 7, 3) := by decide +kernel
theorem dX10_gain_9 : decode cX10_gain 9 = .ok (.ldc2_w 278, 3) := by decide +kernel
theorem dX10_gain_12 : decode cX10_gain 12 = .ok (.lreturn, 1) := by decide +kernel
theorem dX10_gain_13 : decode cX10_gain 13 = .ok (.aload_n 0, 1) := by decide +kernel
theorem dX10_gain_14 : decode cX10_gain 14 = .ok (.iload_n 1, 1) := by decide +kernel
theorem dX10_gain_15 : decode cX10_gain 15 = .ok (.invokevirtual 199, 3) := by decide +kernel
theorem dX10_gain_18 : decode cX10_gain 18 = .ok (.aload_n 0, 1) := by decide +kernel
theorem dX10_gain_19 : decode cX10_gain 19 = .ok (.iload_n 2, 1) := by decide +kernel
theorem dX10_gain_20 : decode cX10_gain 20 = .ok (.iconst (-1), 1) := by decide +kernel
theorem dX10_gain_21 : decode cX10_gain 21 = .ok (.iconst (-1), 1) := by decide +kernel
theorem dX10_gain_22 : decode cX10_gain 22 = .ok (.invokevirtual 271, 3) := by decide +kernel
theorem dX10_gain_25 : decode cX10_gain 25 = .ok (.aload_n 0, 1) := by decide +kernel
theorem dX10_gain_26 : decode cX10_gain 26 = .ok (.iload_n 1, 1) := by decide +kernel
theorem dX10_gain_27 : decode cX10_gain 27 = .ok (.iconst (-1), 1) := by decide +kernel
theorem dX10_gain_28 : decode cX10_gain 28 = .ok (.invokevirtual 275, 3) := by decide +kernel
theorem dX10_gain_31 : decode cX10_gain 31 = .ok (.aload_n 0, 1) := by decide +kernel
theorem dX10_gain_32 : decode cX10_gain 32 = .ok (.getfield 243, 3) := by decide +kernel
theorem dX10_gain_35 : decode cX10_gain 35 = .ok (.lreturn, 1) := by decide +kernel
theorem dX10_findWon_0 : decode cX10_findWon 0 = .ok (.aload_n 0, 1) := by decide +kernel
theorem dX10_findWon_1 : decode cX10_findWon 1 = .ok (.iload_n 1, 1) := by decide +kernel
theorem dX10_findWon_2 : decode cX10_findWon 2 = .ok (.iload_n 2, 1) := by decide +kernel
theorem dX10_findWon_3 : decode cX10_findWon 3 = .ok (.invokevirtual 196, 3) := by decide +kernel
theorem dX10_findWon_6 : decode cX10_findWon 6 = .ok (.ifCond .eq 12, 3) := by decide +kernel
theorem dX10_findWon_9 : decode cX10_findWon 9 = .ok (.aload_n 0, 1) := by decide +kernel
theorem dX10_findWon_10 : decode cX10_findWon 10 = .ok (.iload_n 1, 1) := by decide +kernel
theorem dX10_findWon_11 : decode cX10_findWon 11 = .ok (.iload_n 3, 1) := by decide +kernel
theorem dX10_findWon_12 : decode cX10_findWon 12 = .ok (.invokevirtual 162, 3) := by decide +kernel
theorem dX10_findWon_15 : decode cX10_findWon 15 = .ok (.ifCond .ne 5, 3) := by decide +kernel
theorem dX10_findWon_18 : decode cX10_findWon 18 = .ok (.iconst 0, 1) := by decide +kernel
theorem dX10_findWon_19 : decode cX10_findWon 19 = .ok (.ireturn, 1) := by decide +kernel
theorem dX10_findWon_20 : decode cX10_findWon 20 = .ok (.aload_n 0, 1) := by decide +kernel
theorem dX10_findWon_21 : decode cX10_findWon 21 = .ok (.iload_n 1, 1) := by decide +kernel
theorem dX10_findWon_22 : decode cX10_findWon 22 = .ok (.invokevirtual 199, 3) := by decide +kernel
theorem dX10_findWon_25 : decode cX10_findWon 25 = .ok (.aload_n 0, 1) := by decide +kernel
theorem dX10_findWon_26 : decode cX10_findWon 26 = .ok (.iload_n 2, 1) := by decide +kernel
theorem dX10_findWon_27 : decode cX10_findWon 27 = .ok (.iload_n 3, 1) := by decide +kernel
theorem dX10_findWon_28 : decode cX10_findWon 28 = .ok (.iconst (-1), 1) := by decide +kernel
theorem dX10_findWon_29 : decode cX10_findWon 29 = .ok (.invokevirtual 271, 3) := by decide +kernel
theorem dX10_findWon_32 : decode cX10_findWon 32 = .ok (.aload_n 0, 1) := by decide +kernel
theorem dX10_findWon_33 : decode cX10_findWon 33 = .ok (.iload_n 1, 1) := by decide +kernel
theorem dX10_findWon_34 : decode cX10_findWon 34 = .ok (.iconst (-1), 1) := by decide +kernel
theorem dX10_findWon_35 : decode cX10_findWon 35 = .ok (.invokevirtual 275, 3) := by decide +kernel
theorem dX10_findWon_38 : decode cX10_findWon 38 = .ok (.aload_n 0, 1) := by decide +kernel
theorem dX10_findWon_39 : decode cX10_findWon 39 = .ok (.getfield 249, 3) := by decide +kernel
theorem dX10_findWon_42 : decode cX10_findWon 42 = .ok (.lconst 0, 1) := by decide +kernel
theorem dX10_findWon_43 : decode cX10_findWon 43 = .ok (.lcmp, 1) := by decide +kernel
theorem dX10_findWon_44 : decode cX10_findWon 44 = .ok (.ifCond .le 7, 3) := by decide +kernel
theorem dX10_findWon_47 : decode cX10_findWon 47 = .ok (.iconst 1, 1) := by decide +kernel
theorem dX10_findWon_48 : decode cX10_findWon 48 = .ok (.goto 4, 3) := by decide +kernel
theorem dX10_findWon_51 : decode cX10_findWon 51 = .ok (.iconst 0, 1) := by decide +kernel
theorem dX10_findWon_52 : decode cX10_findWon 52 = .ok (.ireturn, 1) := by decide +kernel
theorem dX10_won_0 : decode cX10_won 0 = .ok (.iload 4, 2) := by decide +kernel
theorem dX10_won_2 : decode cX10_won 2 = .ok (.iconst 0, 1) := by decide +kernel
theorem dX10_won_3 : decode cX10_won 3 = .ok (.iconst 1, 1) := by decide +kernel
theorem dX10_won_4 : decode cX10_won 4 = .ok (.invokestatic 107, 3) := by decide +kernel
theorem dX10_won_7 : decode cX10_won 7 = .ok (.ifCond .eq 29, 3) := by decide +kernel
theorem dX10_won_10 : decode cX10_won 10 = .ok (.aload_n 0, 1) := by decide +kernel
theorem dX10_won_11 : decode cX10_won 11 = .ok (.iload_n 1, 1) := by decide +kernel
theorem dX10_won_12 : decode cX10_won 12 = .ok (.iload_n 2, 1) := by decide +kernel
theorem dX10_won_13 : decode cX10_won 13 = .ok (.iload_n 3, 1) := by decide +kernel
theorem dX10_won_14 : decode cX10_won 14 = .ok (.invokevirtual 280, 3) := by decide +kernel
theorem dX10_won_17 : decode cX10_won 17 = .ok (.ifCond .eq 19, 3) := by decide +kernel
theorem dX10_won_20 : decode cX10_won 20 = .ok (.aload_n 0, 1) := by decide +kernel
theorem dX10_won_21 : decode cX10_won 21 = .ok (.getfield 246, 3) := by decide +kernel
theorem dX10_won_24 : decode cX10_won 24 = .ok (.aload_n 0, 1) := by decide +kernel
theorem dX10_won_25 : decode cX10_won 25 = .ok (.getfield 249, 3) := by decide +kernel
theorem dX10_won_28 : decode cX10_won 28 = .ok (.iload 4, 2) := by decide +kernel
theorem dX10_won_30 : decode cX10_won 30 = .ok (.invokestatic 169, 3) := by decide +kernel
theorem dX10_won_33 : decode cX10_won 33 = .ok (.goto 6, 3) := by decide +kernel
theorem dX10_won_36 : decode cX10_won 36 = .ok (.ldc2_w 269, 3) := by decide +kernel
theorem dX10_won_39 : decode cX10_won 39 = .ok (.lreturn, 1) := by decide +kernel
theorem dX10_less_0 : decode cX10_less 0 = .ok (.iload 4, 2) := by decide +kernel
theorem dX10_less_2 : decode cX10_less 2 = .ok (.iconst 0, 1) := by decide +kernel
theorem dX10_less_3 : decode cX10_less 3 = .ok (.iconst 1, 1) := by decide +kernel
theorem dX10_less_4 : decode cX10_less 4 = .ok (.invokestatic 107, 3) := by decide +kernel
theorem dX10_less_7 : decode cX10_less 7 = .ok (.ifCond .eq 13, 3) := by decide +kernel
theorem dX10_less_10 : decode cX10_less 10 = .ok (.aload_n 0, 1) := by decide +kernel
theorem dX10_less_11 : decode cX10_less 11 = .ok (.iload_n 1, 1) := by decide +kernel
theorem dX10_less_12 : decode cX10_less 12 = .ok (.iload_n 2, 1) := by decide +kernel
theorem dX10_less_13 : decode cX10_less 13 = .ok (.iload_n 3, 1) := by decide +kernel
theorem dX10_less_14 : decode cX10_less 14 = .ok (.invokevirtual 280, 3) := by decide +kernel
theorem dX10_less_17 : decode cX10_less 17 = .ok (.ifCond .ne 7, 3) := by decide +kernel
theorem dX10_less_20 : decode cX10_less 20 = .ok (.ldc2_w 278, 3) := by decide +kernel
theorem dX10_less_23 : decode cX10_less 23 = .ok (.lreturn, 1) := by decide +kernel
theorem dX10_less_24 : decode cX10_less 24 = .ok (.aload_n 0, 1) := by decide +kernel
theorem dX10_less_25 : decode cX10_less 25 = .ok (.getfield 246, 3) := by decide +kernel
theorem dX10_less_28 : decode cX10_less 28 = .ok (.aload_n 0, 1) := by decide +kernel
theorem dX10_less_29 : decode cX10_less 29 = .ok (.getfield 249, 3) := by decide +kernel
theorem dX10_less_32 : decode cX10_less 32 = .ok (.iconst 0, 1) := by decide +kernel
theorem dX10_less_33 : decode cX10_less 33 = .ok (.invokestatic 169, 3) := by decide +kernel
theorem dX10_less_36 : decode cX10_less 36 = .ok (.lstore 5, 2) := by decide +kernel
theorem dX10_less_38 : decode cX10_less 38 = .ok (.aload_n 0, 1) := by decide +kernel
theorem dX10_less_39 : decode cX10_less 39 = .ok (.getfield 246, 3) := by decide +kernel
theorem dX10_less_42 : decode cX10_less 42 = .ok (.aload_n 0, 1) := by decide +kernel
theorem dX10_less_43 : decode cX10_less 43 = .ok (.getfield 249, 3) := by decide +kernel
theorem dX10_less_46 : decode cX10_less 46 = .ok (.iconst 1, 1) := by decide +kernel
theorem dX10_less_47 : decode cX10_less 47 = .ok (.invokestatic 169, 3) := by decide +kernel
theorem dX10_less_50 : decode cX10_less 50 = .ok (.lstore 7, 2) := by decide +kernel
theorem dX10_less_52 : decode cX10_less 52 = .ok (.aload_n 0, 1) := by decide +kernel
theorem dX10_less_53 : decode cX10_less 53 = .ok (.iload_n 3, 1) := by decide +kernel
theorem dX10_less_54 : decode cX10_less 54 = .ok (.iconst (-1), 1) := by decide +kernel
theorem dX10_less_55 : decode cX10_less 55 = .ok (.iconst (-1), 1) := by decide +kernel
theorem dX10_less_56 : decode cX10_less 56 = .ok (.iconst (-1), 1) := by decide +kernel
theorem dX10_less_57 : decode cX10_less 57 = .ok (.invokevirtual 145, 3) := by decide +kernel
theorem dX10_less_60 : decode cX10_less 60 = .ok (.aload_n 0, 1) := by decide +kernel
theorem dX10_less_61 : decode cX10_less 61 = .ok (.iload_n 1, 1) := by decide +kernel
theorem dX10_less_62 : decode cX10_less 62 = .ok (.invokevirtual 142, 3) := by decide +kernel
theorem dX10_less_65 : decode cX10_less 65 = .ok (.aload_n 0, 1) := by decide +kernel
theorem dX10_less_66 : decode cX10_less 66 = .ok (.getfield 135, 3) := by decide +kernel
theorem dX10_less_69 : decode cX10_less 69 = .ok (.lload 7, 2) := by decide +kernel
theorem dX10_less_71 : decode cX10_less 71 = .ok (.lmul, 1) := by decide +kernel
theorem dX10_less_72 : decode cX10_less 72 = .ok (.lload 5, 2) := by decide +kernel
theorem dX10_less_74 : decode cX10_less 74 = .ok (.aload_n 0, 1) := by decide +kernel
theorem dX10_less_75 : decode cX10_less 75 = .ok (.getfield 139, 3) := by decide +kernel
theorem dX10_less_78 : decode cX10_less 78 = .ok (.lmul, 1) := by decide +kernel
theorem dX10_less_79 : decode cX10_less 79 = .ok (.lsub, 1) := by decide +kernel
theorem dX10_less_80 : decode cX10_less 80 = .ok (.aload_n 0, 1) := by decide +kernel
theorem dX10_less_81 : decode cX10_less 81 = .ok (.getfield 139, 3) := by decide +kernel
theorem dX10_less_84 : decode cX10_less 84 = .ok (.lload 7, 2) := by decide +kernel
theorem dX10_less_86 : decode cX10_less 86 = .ok (.lmul, 1) := by decide +kernel
theorem dX10_less_87 : decode cX10_less 87 = .ok (.iload 4, 2) := by decide +kernel
theorem dX10_less_89 : decode cX10_less 89 = .ok (.invokestatic 169, 3) := by decide +kernel
theorem dX10_less_92 : decode cX10_less 92 = .ok (.lreturn, 1) := by decide +kernel
theorem dX10_gainBy_0 : decode cX10_gainBy 0 = .ok (.aload_n 0, 1) := by decide +kernel
theorem dX10_gainBy_1 : decode cX10_gainBy 1 = .ok (.iload_n 2, 1) := by decide +kernel
theorem dX10_gainBy_2 : decode cX10_gainBy 2 = .ok (.iload_n 3, 1) := by decide +kernel
theorem dX10_gainBy_3 : decode cX10_gainBy 3 = .ok (.iload 4, 2) := by decide +kernel
theorem dX10_gainBy_5 : decode cX10_gainBy 5 = .ok (.invokevirtual 271, 3) := by decide +kernel
theorem dX10_gainBy_8 : decode cX10_gainBy 8 = .ok (.aload_n 0, 1) := by decide +kernel
theorem dX10_gainBy_9 : decode cX10_gainBy 9 = .ok (.iload_n 1, 1) := by decide +kernel
theorem dX10_gainBy_10 : decode cX10_gainBy 10 = .ok (.iconst (-1), 1) := by decide +kernel
theorem dX10_gainBy_11 : decode cX10_gainBy 11 = .ok (.invokevirtual 275, 3) := by decide +kernel
theorem dX10_gainBy_14 : decode cX10_gainBy 14 = .ok (.aload_n 0, 1) := by decide +kernel
theorem dX10_gainBy_15 : decode cX10_gainBy 15 = .ok (.getfield 243, 3) := by decide +kernel
theorem dX10_gainBy_18 : decode cX10_gainBy 18 = .ok (.lreturn, 1) := by decide +kernel
theorem dX10_bestOf_0 : decode cX10_bestOf 0 = .ok (.iconst 0, 1) := by decide +kernel
theorem dX10_bestOf_1 : decode cX10_bestOf 1 = .ok (.istore 4, 2) := by decide +kernel
theorem dX10_bestOf_3 : decode cX10_bestOf 3 = .ok (.aload_n 0, 1) := by decide +kernel
theorem dX10_bestOf_4 : decode cX10_bestOf 4 = .ok (.iload_n 1, 1) := by decide +kernel
theorem dX10_bestOf_5 : decode cX10_bestOf 5 = .ok (.iload_n 2, 1) := by decide +kernel
theorem dX10_bestOf_6 : decode cX10_bestOf 6 = .ok (.iload_n 3, 1) := by decide +kernel
theorem dX10_bestOf_7 : decode cX10_bestOf 7 = .ok (.iconst 0, 1) := by decide +kernel
theorem dX10_bestOf_8 : decode cX10_bestOf 8 = .ok (.invokevirtual 283, 3) := by decide +kernel
theorem dX10_bestOf_11 : decode cX10_bestOf 11 = .ok (.lstore 5, 2) := by decide +kernel
theorem dX10_bestOf_13 : decode cX10_bestOf 13 = .ok (.iconst 1, 1) := by decide +kernel
theorem dX10_bestOf_14 : decode cX10_bestOf 14 = .ok (.istore 7, 2) := by decide +kernel
theorem dX10_bestOf_16 : decode cX10_bestOf 16 = .ok (.iload 7, 2) := by decide +kernel
theorem dX10_bestOf_18 : decode cX10_bestOf 18 = .ok (.bipush 60, 2) := by decide +kernel
theorem dX10_bestOf_20 : decode cX10_bestOf 20 = .ok (.if_icmp .gt 36, 3) := by decide +kernel
theorem dX10_bestOf_23 : decode cX10_bestOf 23 = .ok (.aload_n 0, 1) := by decide +kernel
theorem dX10_bestOf_24 : decode cX10_bestOf 24 = .ok (.iload_n 1, 1) := by decide +kernel
theorem dX10_bestOf_25 : decode cX10_bestOf 25 = .ok (.iload_n 2, 1) := by decide +kernel
theorem dX10_bestOf_26 : decode cX10_bestOf 26 = .ok (.iload_n 3, 1) := by decide +kernel
theorem dX10_bestOf_27 : decode cX10_bestOf 27 = .ok (.iload 7, 2) := by decide +kernel
theorem dX10_bestOf_29 : decode cX10_bestOf 29 = .ok (.invokevirtual 283, 3) := by decide +kernel
theorem dX10_bestOf_32 : decode cX10_bestOf 32 = .ok (.lstore 8, 2) := by decide +kernel
theorem dX10_bestOf_34 : decode cX10_bestOf 34 = .ok (.lload 8, 2) := by decide +kernel
theorem dX10_bestOf_36 : decode cX10_bestOf 36 = .ok (.lload 5, 2) := by decide +kernel
theorem dX10_bestOf_38 : decode cX10_bestOf 38 = .ok (.lcmp, 1) := by decide +kernel
theorem dX10_bestOf_39 : decode cX10_bestOf 39 = .ok (.ifCond .le 11, 3) := by decide +kernel
theorem dX10_bestOf_42 : decode cX10_bestOf 42 = .ok (.iload 7, 2) := by decide +kernel
theorem dX10_bestOf_44 : decode cX10_bestOf 44 = .ok (.istore 4, 2) := by decide +kernel
theorem dX10_bestOf_46 : decode cX10_bestOf 46 = .ok (.lload 8, 2) := by decide +kernel
theorem dX10_bestOf_48 : decode cX10_bestOf 48 = .ok (.lstore 5, 2) := by decide +kernel
theorem dX10_bestOf_50 : decode cX10_bestOf 50 = .ok (.iinc 7 1, 3) := by decide +kernel
theorem dX10_bestOf_53 : decode cX10_bestOf 53 = .ok (.goto (-37), 3) := by decide +kernel
theorem dX10_bestOf_56 : decode cX10_bestOf 56 = .ok (.iload 4, 2) := by decide +kernel
theorem dX10_bestOf_58 : decode cX10_bestOf 58 = .ok (.ireturn, 1) := by decide +kernel
theorem dX10_best_0 : decode cX10_best 0 = .ok (.aload_n 0, 1) := by decide +kernel
theorem dX10_best_1 : decode cX10_best 1 = .ok (.iload_n 1, 1) := by decide +kernel
theorem dX10_best_2 : decode cX10_best 2 = .ok (.iload_n 2, 1) := by decide +kernel
theorem dX10_best_3 : decode cX10_best 3 = .ok (.invokevirtual 196, 3) := by decide +kernel
theorem dX10_best_6 : decode cX10_best 6 = .ok (.ifCond .eq 12, 3) := by decide +kernel
theorem dX10_best_9 : decode cX10_best 9 = .ok (.aload_n 0, 1) := by decide +kernel
theorem dX10_best_10 : decode cX10_best 10 = .ok (.iload_n 1, 1) := by decide +kernel
theorem dX10_best_11 : decode cX10_best 11 = .ok (.iload_n 3, 1) := by decide +kernel
theorem dX10_best_12 : decode cX10_best 12 = .ok (.invokevirtual 162, 3) := by decide +kernel
theorem dX10_best_15 : decode cX10_best 15 = .ok (.ifCond .ne 5, 3) := by decide +kernel
theorem dX10_best_18 : decode cX10_best 18 = .ok (.iconst (-1), 1) := by decide +kernel
theorem dX10_best_19 : decode cX10_best 19 = .ok (.ireturn, 1) := by decide +kernel
theorem dX10_best_20 : decode cX10_best 20 = .ok (.aload_n 0, 1) := by decide +kernel
theorem dX10_best_21 : decode cX10_best 21 = .ok (.iload_n 1, 1) := by decide +kernel
theorem dX10_best_22 : decode cX10_best 22 = .ok (.invokevirtual 199, 3) := by decide +kernel
theorem dX10_best_25 : decode cX10_best 25 = .ok (.aload_n 0, 1) := by decide +kernel
theorem dX10_best_26 : decode cX10_best 26 = .ok (.iload_n 1, 1) := by decide +kernel
theorem dX10_best_27 : decode cX10_best 27 = .ok (.iload_n 2, 1) := by decide +kernel
theorem dX10_best_28 : decode cX10_best 28 = .ok (.iload_n 3, 1) := by decide +kernel
theorem dX10_best_29 : decode cX10_best 29 = .ok (.invokevirtual 287, 3) := by decide +kernel
theorem dX10_best_32 : decode cX10_best 32 = .ok (.ireturn, 1) := by decide +kernel
theorem dX10_judge_0 : decode cX10_judge 0 = .ok (.aload_n 0, 1) := by decide +kernel
theorem dX10_judge_1 : decode cX10_judge 1 = .ok (.iload_n 1, 1) := by decide +kernel
theorem dX10_judge_2 : decode cX10_judge 2 = .ok (.invokevirtual 129, 3) := by decide +kernel
theorem dX10_judge_5 : decode cX10_judge 5 = .ok (.ifCond .ne 5, 3) := by decide +kernel
theorem dX10_judge_8 : decode cX10_judge 8 = .ok (.iconst (-1), 1) := by decide +kernel
theorem dX10_judge_9 : decode cX10_judge 9 = .ok (.ireturn, 1) := by decide +kernel
theorem dX10_judge_10 : decode cX10_judge 10 = .ok (.aload_n 0, 1) := by decide +kernel
theorem dX10_judge_11 : decode cX10_judge 11 = .ok (.iload_n 1, 1) := by decide +kernel
theorem dX10_judge_12 : decode cX10_judge 12 = .ok (.invokevirtual 199, 3) := by decide +kernel
theorem dX10_judge_15 : decode cX10_judge 15 = .ok (.iconst 0, 1) := by decide +kernel
theorem dX10_judge_16 : decode cX10_judge 16 = .ok (.istore_n 2, 1) := by decide +kernel
theorem dX10_judge_17 : decode cX10_judge 17 = .ok (.iload_n 2, 1) := by decide +kernel
theorem dX10_judge_18 : decode cX10_judge 18 = .ok (.aload_n 0, 1) := by decide +kernel
theorem dX10_judge_19 : decode cX10_judge 19 = .ok (.getfield 176, 3) := by decide +kernel
theorem dX10_judge_22 : decode cX10_judge 22 = .ok (.if_icmp .ge 73, 3) := by decide +kernel
theorem dX10_judge_25 : decode cX10_judge 25 = .ok (.iconst 0, 1) := by decide +kernel
theorem dX10_judge_26 : decode cX10_judge 26 = .ok (.istore_n 3, 1) := by decide +kernel
theorem dX10_judge_27 : decode cX10_judge 27 = .ok (.iload_n 3, 1) := by decide +kernel
theorem dX10_judge_28 : decode cX10_judge 28 = .ok (.aload_n 0, 1) := by decide +kernel
theorem dX10_judge_29 : decode cX10_judge 29 = .ok (.getfield 13, 3) := by decide +kernel
theorem dX10_judge_32 : decode cX10_judge 32 = .ok (.iload_n 1, 1) := by decide +kernel
theorem dX10_judge_33 : decode cX10_judge 33 = .ok (.iaload, 1) := by decide +kernel
theorem dX10_judge_34 : decode cX10_judge 34 = .ok (.if_icmp .ge 55, 3) := by decide +kernel
theorem dX10_judge_37 : decode cX10_judge 37 = .ok (.aload_n 0, 1) := by decide +kernel
theorem dX10_judge_38 : decode cX10_judge 38 = .ok (.iload_n 1, 1) := by decide +kernel
theorem dX10_judge_39 : decode cX10_judge 39 = .ok (.iload_n 2, 1) := by decide +kernel
theorem dX10_judge_40 : decode cX10_judge 40 = .ok (.iload_n 3, 1) := by decide +kernel
theorem dX10_judge_41 : decode cX10_judge 41 = .ok (.aload_n 0, 1) := by decide +kernel
theorem dX10_judge_42 : decode cX10_judge 42 = .ok (.getfield 46, 3) := by decide +kernel
theorem dX10_judge_45 : decode cX10_judge 45 = .ok (.iconst 5, 1) := by decide +kernel
theorem dX10_judge_46 : decode cX10_judge 46 = .ok (.iload_n 2, 1) := by decide +kernel
theorem dX10_judge_47 : decode cX10_judge 47 = .ok (.imul, 1) := by decide +kernel
theorem dX10_judge_48 : decode cX10_judge 48 = .ok (.iload_n 3, 1) := by decide +kernel
theorem dX10_judge_49 : decode cX10_judge 49 = .ok (.iadd, 1) := by decide +kernel
theorem dX10_judge_50 : decode cX10_judge 50 = .ok (.iaload, 1) := by decide +kernel
theorem dX10_judge_51 : decode cX10_judge 51 = .ok (.invokevirtual 283, 3) := by decide +kernel
theorem dX10_judge_54 : decode cX10_judge 54 = .ok (.lstore 4, 2) := by decide +kernel
theorem dX10_judge_56 : decode cX10_judge 56 = .ok (.lload 4, 2) := by decide +kernel
theorem dX10_judge_58 : decode cX10_judge 58 = .ok (.aload_n 0, 1) := by decide +kernel
theorem dX10_judge_59 : decode cX10_judge 59 = .ok (.iload_n 1, 1) := by decide +kernel
theorem dX10_judge_60 : decode cX10_judge 60 = .ok (.iload_n 2, 1) := by decide +kernel
theorem dX10_judge_61 : decode cX10_judge 61 = .ok (.iload_n 3, 1) := by decide +kernel
theorem dX10_judge_62 : decode cX10_judge 62 = .ok (.aload_n 0, 1) := by decide +kernel
theorem dX10_judge_63 : decode cX10_judge 63 = .ok (.iload_n 1, 1) := by decide +kernel
theorem dX10_judge_64 : decode cX10_judge 64 = .ok (.iload_n 2, 1) := by decide +kernel
theorem dX10_judge_65 : decode cX10_judge 65 = .ok (.iload_n 3, 1) := by decide +kernel
theorem dX10_judge_66 : decode cX10_judge 66 = .ok (.invokevirtual 287, 3) := by decide +kernel
theorem dX10_judge_69 : decode cX10_judge 69 = .ok (.invokevirtual 283, 3) := by decide +kernel
theorem dX10_judge_72 : decode cX10_judge 72 = .ok (.lcmp, 1) := by decide +kernel
theorem dX10_judge_73 : decode cX10_judge 73 = .ok (.ifCond .ge 10, 3) := by decide +kernel
theorem dX10_judge_76 : decode cX10_judge 76 = .ok (.bipush 10, 2) := by decide +kernel
theorem dX10_judge_78 : decode cX10_judge 78 = .ok (.iload_n 2, 1) := by decide +kernel
theorem dX10_judge_79 : decode cX10_judge 79 = .ok (.imul, 1) := by decide +kernel
theorem dX10_judge_80 : decode cX10_judge 80 = .ok (.iload_n 3, 1) := by decide +kernel
theorem dX10_judge_81 : decode cX10_judge 81 = .ok (.iadd, 1) := by decide +kernel
theorem dX10_judge_82 : decode cX10_judge 82 = .ok (.ireturn, 1) := by decide +kernel
theorem dX10_judge_83 : decode cX10_judge 83 = .ok (.iinc 3 1, 3) := by decide +kernel
theorem dX10_judge_86 : decode cX10_judge 86 = .ok (.goto (-59), 3) := by decide +kernel
theorem dX10_judge_89 : decode cX10_judge 89 = .ok (.iinc 2 1, 3) := by decide +kernel
theorem dX10_judge_92 : decode cX10_judge 92 = .ok (.goto (-75), 3) := by decide +kernel
theorem dX10_judge_95 : decode cX10_judge 95 = .ok (.iconst (-1), 1) := by decide +kernel
theorem dX10_judge_96 : decode cX10_judge 96 = .ok (.ireturn, 1) := by decide +kernel
theorem dX10_keep_0 : decode cX10_keep 0 = .ok (.iconst 0, 1) := by decide +kernel
theorem dX10_keep_1 : decode cX10_keep 1 = .ok (.istore_n 3, 1) := by decide +kernel
theorem dX10_keep_2 : decode cX10_keep 2 = .ok (.iload_n 3, 1) := by decide +kernel
theorem dX10_keep_3 : decode cX10_keep 3 = .ok (.aload_n 0, 1) := by decide +kernel
theorem dX10_keep_4 : decode cX10_keep 4 = .ok (.getfield 13, 3) := by decide +kernel
theorem dX10_keep_7 : decode cX10_keep 7 = .ok (.iload_n 1, 1) := by decide +kernel
theorem dX10_keep_8 : decode cX10_keep 8 = .ok (.iaload, 1) := by decide +kernel
theorem dX10_keep_9 : decode cX10_keep 9 = .ok (.if_icmp .ge 25, 3) := by decide +kernel
theorem dX10_keep_12 : decode cX10_keep 12 = .ok (.aload_n 0, 1) := by decide +kernel
theorem dX10_keep_13 : decode cX10_keep 13 = .ok (.getfield 55, 3) := by decide +kernel
theorem dX10_keep_16 : decode cX10_keep 16 = .ok (.iconst 5, 1) := by decide +kernel
theorem dX10_keep_17 : decode cX10_keep 17 = .ok (.iload_n 2, 1) := by decide +kernel
theorem dX10_keep_18 : decode cX10_keep 18 = .ok (.imul, 1) := by decide +kernel
theorem dX10_keep_19 : decode cX10_keep 19 = .ok (.iload_n 3, 1) := by decide +kernel
theorem dX10_keep_20 : decode cX10_keep 20 = .ok (.iadd, 1) := by decide +kernel
theorem dX10_keep_21 : decode cX10_keep 21 = .ok (.aload_n 0, 1) := by decide +kernel
theorem dX10_keep_22 : decode cX10_keep 22 = .ok (.getfield 46, 3) := by decide +kernel
theorem dX10_keep_25 : decode cX10_keep 25 = .ok (.iload_n 3, 1) := by decide +kernel
theorem dX10_keep_26 : decode cX10_keep 26 = .ok (.iaload, 1) := by decide +kernel
theorem dX10_keep_27 : decode cX10_keep 27 = .ok (.iastore, 1) := by decide +kernel
theorem dX10_keep_28 : decode cX10_keep 28 = .ok (.iinc 3 1, 3) := by decide +kernel
theorem dX10_keep_31 : decode cX10_keep 31 = .ok (.goto (-29), 3) := by decide +kernel
theorem dX10_keep_34 : decode cX10_keep 34 = .ok (.return_, 1) := by decide +kernel
theorem dX10_isKept_0 : decode cX10_isKept 0 = .ok (.iconst 0, 1) := by decide +kernel
theorem dX10_isKept_1 : decode cX10_isKept 1 = .ok (.istore_n 3, 1) := by decide +kernel
theorem dX10_isKept_2 : decode cX10_isKept 2 = .ok (.iload_n 3, 1) := by decide +kernel
theorem dX10_isKept_3 : decode cX10_isKept 3 = .ok (.aload_n 0, 1) := by decide +kernel
theorem dX10_isKept_4 : decode cX10_isKept 4 = .ok (.getfield 13, 3) := by decide +kernel
theorem dX10_isKept_7 : decode cX10_isKept 7 = .ok (.iload_n 1, 1) := by decide +kernel
theorem dX10_isKept_8 : decode cX10_isKept 8 = .ok (.iaload, 1) := by decide +kernel
theorem dX10_isKept_9 : decode cX10_isKept 9 = .ok (.if_icmp .ge 30, 3) := by decide +kernel
theorem dX10_isKept_12 : decode cX10_isKept 12 = .ok (.aload_n 0, 1) := by decide +kernel
theorem dX10_isKept_13 : decode cX10_isKept 13 = .ok (.getfield 55, 3) := by decide +kernel
theorem dX10_isKept_16 : decode cX10_isKept 16 = .ok (.iconst 5, 1) := by decide +kernel
theorem dX10_isKept_17 : decode cX10_isKept 17 = .ok (.iload_n 2, 1) := by decide +kernel
theorem dX10_isKept_18 : decode cX10_isKept 18 = .ok (.imul, 1) := by decide +kernel
theorem dX10_isKept_19 : decode cX10_isKept 19 = .ok (.iload_n 3, 1) := by decide +kernel
theorem dX10_isKept_20 : decode cX10_isKept 20 = .ok (.iadd, 1) := by decide +kernel
theorem dX10_isKept_21 : decode cX10_isKept 21 = .ok (.iaload, 1) := by decide +kernel
theorem dX10_isKept_22 : decode cX10_isKept 22 = .ok (.aload_n 0, 1) := by decide +kernel
theorem dX10_isKept_23 : decode cX10_isKept 23 = .ok (.getfield 46, 3) := by decide +kernel
theorem dX10_isKept_26 : decode cX10_isKept 26 = .ok (.iload_n 3, 1) := by decide +kernel
theorem dX10_isKept_27 : decode cX10_isKept 27 = .ok (.iaload, 1) := by decide +kernel
theorem dX10_isKept_28 : decode cX10_isKept 28 = .ok (.if_icmp .eq 5, 3) := by decide +kernel
theorem dX10_isKept_31 : decode cX10_isKept 31 = .ok (.iconst 0, 1) := by decide +kernel
theorem dX10_isKept_32 : decode cX10_isKept 32 = .ok (.ireturn, 1) := by decide +kernel
theorem dX10_isKept_33 : decode cX10_isKept 33 = .ok (.iinc 3 1, 3) := by decide +kernel
theorem dX10_isKept_36 : decode cX10_isKept 36 = .ok (.goto (-34), 3) := by decide +kernel
theorem dX10_isKept_39 : decode cX10_isKept 39 = .ok (.iconst 1, 1) := by decide +kernel
theorem dX10_isKept_40 : decode cX10_isKept 40 = .ok (.ireturn, 1) := by decide +kernel
theorem dX10_turns_0 : decode cX10_turns 0 = .ok (.iconst 1, 1) := by decide +kernel
theorem dX10_turns_1 : decode cX10_turns 1 = .ok (.istore_n 2, 1) := by decide +kernel
theorem dX10_turns_2 : decode cX10_turns 2 = .ok (.iload_n 2, 1) := by decide +kernel
theorem dX10_turns_3 : decode cX10_turns 3 = .ok (.bipush 20, 2) := by decide +kernel
theorem dX10_turns_5 : decode cX10_turns 5 = .ok (.if_icmp .gt 139, 3) := by decide +kernel
theorem dX10_turns_8 : decode cX10_turns 8 = .ok (.iconst 0, 1) := by decide +kernel
theorem dX10_turns_9 : decode cX10_turns 9 = .ok (.istore_n 3, 1) := by decide +kernel
theorem dX10_turns_10 : decode cX10_turns 10 = .ok (.iload_n 3, 1) := by decide +kernel
theorem dX10_turns_11 : decode cX10_turns 11 = .ok (.aload_n 0, 1) := by decide +kernel
theorem dX10_turns_12 : decode cX10_turns 12 = .ok (.getfield 13, 3) := by decide +kernel
theorem dX10_turns_15 : decode cX10_turns 15 = .ok (.iload_n 1, 1) := by decide +kernel
theorem dX10_turns_16 : decode cX10_turns 16 = .ok (.iaload, 1) := by decide +kernel
theorem dX10_turns_17 : decode cX10_turns 17 = .ok (.if_icmp .ge 22, 3) := by decide +kernel
theorem dX10_turns_20 : decode cX10_turns 20 = .ok (.aload_n 0, 1) := by decide +kernel
theorem dX10_turns_21 : decode cX10_turns 21 = .ok (.getfield 58, 3) := by decide +kernel
theorem dX10_turns_24 : decode cX10_turns 24 = .ok (.iload_n 3, 1) := by decide +kernel
theorem dX10_turns_25 : decode cX10_turns 25 = .ok (.aload_n 0, 1) := by decide +kernel
theorem dX10_turns_26 : decode cX10_turns 26 = .ok (.iload_n 1, 1) := by decide +kernel
theorem dX10_turns_27 : decode cX10_turns 27 = .ok (.iconst 0, 1) := by decide +kernel
theorem dX10_turns_28 : decode cX10_turns 28 = .ok (.iload_n 3, 1) := by decide +kernel
theorem dX10_turns_29 : decode cX10_turns 29 = .ok (.invokevirtual 287, 3) := by decide +kernel
theorem dX10_turns_32 : decode cX10_turns 32 = .ok (.iastore, 1) := by decide +kernel
theorem dX10_turns_33 : decode cX10_turns 33 = .ok (.iinc 3 1, 3) := by decide +kernel
theorem dX10_turns_36 : decode cX10_turns 36 = .ok (.goto (-26), 3) := by decide +kernel
theorem dX10_turns_39 : decode cX10_turns 39 = .ok (.iconst 0, 1) := by decide +kernel
theorem dX10_turns_40 : decode cX10_turns 40 = .ok (.istore_n 3, 1) := by decide +kernel
theorem dX10_turns_41 : decode cX10_turns 41 = .ok (.iload_n 3, 1) := by decide +kernel
theorem dX10_turns_42 : decode cX10_turns 42 = .ok (.aload_n 0, 1) := by decide +kernel
theorem dX10_turns_43 : decode cX10_turns 43 = .ok (.getfield 176, 3) := by decide +kernel
theorem dX10_turns_46 : decode cX10_turns 46 = .ok (.if_icmp .ge 47, 3) := by decide +kernel
theorem dX10_turns_49 : decode cX10_turns 49 = .ok (.iconst 0, 1) := by decide +kernel
theorem dX10_turns_50 : decode cX10_turns 50 = .ok (.istore 4, 2) := by decide +kernel
theorem dX10_turns_52 : decode cX10_turns 52 = .ok (.iload 4, 2) := by decide +kernel
theorem dX10_turns_54 : decode cX10_turns 54 = .ok (.aload_n 0, 1) := by decide +kernel
theorem dX10_turns_55 : decode cX10_turns 55 = .ok (.getfield 13, 3) := by decide +kernel
theorem dX10_turns_58 : decode cX10_turns 58 = .ok (.iload_n 1, 1) := by decide +kernel
theorem dX10_turns_59 : decode cX10_turns 59 = .ok (.iaload, 1) := by decide +kernel
theorem dX10_turns_60 : decode cX10_turns 60 = .ok (.if_icmp .ge 27, 3) := by decide +kernel
theorem dX10_turns_63 : decode cX10_turns 63 = .ok (.aload_n 0, 1) := by decide +kernel
theorem dX10_turns_64 : decode cX10_turns 64 = .ok (.getfield 46, 3) := by decide +kernel
theorem dX10_turns_67 : decode cX10_turns 67 = .ok (.iconst 5, 1) := by decide +kernel
theorem dX10_turns_68 : decode cX10_turns 68 = .ok (.iload_n 3, 1) := by decide +kernel
theorem dX10_turns_69 : decode cX10_turns 69 = .ok (.imul, 1) := by decide +kernel
theorem dX10_turns_70 : decode cX10_turns 70 = .ok (.iload 4, 2) := by decide +kernel
theorem dX10_turns_72 : decode cX10_turns 72 = .ok (.iadd, 1) := by decide +kernel
theorem dX10_turns_73 : decode cX10_turns 73 = .ok (.aload_n 0, 1) := by decide +kernel
theorem dX10_turns_74 : decode cX10_turns 74 = .ok (.getfield 58, 3) := by decide +kernel
theorem dX10_turns_77 : decode cX10_turns 77 = .ok (.iload 4, 2) := by decide +kernel
theorem dX10_turns_79 : decode cX10_turns 79 = .ok (.iaload, 1) := by decide +kernel
theorem dX10_turns_80 : decode cX10_turns 80 = .ok (.iastore, 1) := by decide +kernel
theorem dX10_turns_81 : decode cX10_turns 81 = .ok (.iinc 4 1, 3) := by decide +kernel
theorem dX10_turns_84 : decode cX10_turns 84 = .ok (.goto (-32), 3) := by decide +kernel
theorem dX10_turns_87 : decode cX10_turns 87 = .ok (.iinc 3 1, 3) := by decide +kernel
theorem dX10_turns_90 : decode cX10_turns 90 = .ok (.goto (-49), 3) := by decide +kernel
theorem dX10_turns_93 : decode cX10_turns 93 = .ok (.aload_n 0, 1) := by decide +kernel
theorem dX10_turns_94 : decode cX10_turns 94 = .ok (.iload_n 1, 1) := by decide +kernel
theorem dX10_turns_95 : decode cX10_turns 95 = .ok (.iload_n 2, 1) := by decide +kernel
theorem dX10_turns_96 : decode cX10_turns 96 = .ok (.iconst 1, 1) := by decide +kernel
theorem dX10_turns_97 : decode cX10_turns 97 = .ok (.isub, 1) := by decide +kernel
theorem dX10_turns_98 : decode cX10_turns 98 = .ok (.invokevirtual 291, 3) := by decide +kernel
theorem dX10_turns_101 : decode cX10_turns 101 = .ok (.ifCond .eq 5, 3) := by decide +kernel
theorem dX10_turns_104 : decode cX10_turns 104 = .ok (.iconst 0, 1) := by decide +kernel
theorem dX10_turns_105 : decode cX10_turns 105 = .ok (.ireturn, 1) := by decide +kernel
theorem dX10_turns_106 : decode cX10_turns 106 = .ok (.iconst 0, 1) := by decide +kernel
theorem dX10_turns_107 : decode cX10_turns 107 = .ok (.istore_n 3, 1) := by decide +kernel
theorem dX10_turns_108 : decode cX10_turns 108 = .ok (.iload_n 3, 1) := by decide +kernel
theorem dX10_turns_109 : decode cX10_turns 109 = .ok (.iload_n 2, 1) := by decide +kernel
theorem dX10_turns_110 : decode cX10_turns 110 = .ok (.iconst 1, 1) := by decide +kernel
theorem dX10_turns_111 : decode cX10_turns 111 = .ok (.isub, 1) := by decide +kernel
theorem dX10_turns_112 : decode cX10_turns 112 = .ok (.if_icmp .ge 20, 3) := by decide +kernel
theorem dX10_turns_115 : decode cX10_turns 115 = .ok (.aload_n 0, 1) := by decide +kernel
theorem dX10_turns_116 : decode cX10_turns 116 = .ok (.iload_n 1, 1) := by decide +kernel
theorem dX10_turns_117 : decode cX10_turns 117 = .ok (.iload_n 3, 1) := by decide +kernel
theorem dX10_turns_118 : decode cX10_turns 118 = .ok (.invokevirtual 291, 3) := by decide +kernel
theorem dX10_turns_121 : decode cX10_turns 121 = .ok (.ifCond .eq 5, 3) := by decide +kernel
theorem dX10_turns_124 : decode cX10_turns 124 = .ok (.iconst 1, 1) := by decide +kernel
theorem dX10_turns_125 : decode cX10_turns 125 = .ok (.ireturn, 1) := by decide +kernel
theorem dX10_turns_126 : decode cX10_turns 126 = .ok (.iinc 3 1, 3) := by decide +kernel
theorem dX10_turns_129 : decode cX10_turns 129 = .ok (.goto (-21), 3) := by decide +kernel
theorem dX10_turns_132 : decode cX10_turns 132 = .ok (.aload_n 0, 1) := by decide +kernel
theorem dX10_turns_133 : decode cX10_turns 133 = .ok (.iload_n 1, 1) := by decide +kernel
theorem dX10_turns_134 : decode cX10_turns 134 = .ok (.iload_n 2, 1) := by decide +kernel
theorem dX10_turns_135 : decode cX10_turns 135 = .ok (.invokevirtual 294, 3) := by decide +kernel
theorem dX10_turns_138 : decode cX10_turns 138 = .ok (.iinc 2 1, 3) := by decide +kernel
theorem dX10_turns_141 : decode cX10_turns 141 = .ok (.goto (-139), 3) := by decide +kernel
theorem dX10_turns_144 : decode cX10_turns 144 = .ok (.iconst 2, 1) := by decide +kernel
theorem dX10_turns_145 : decode cX10_turns 145 = .ok (.ireturn, 1) := by decide +kernel
theorem dX10_find_0 : decode cX10_find 0 = .ok (.aload_n 0, 1) := by decide +kernel
theorem dX10_find_1 : decode cX10_find 1 = .ok (.iload_n 1, 1) := by decide +kernel
theorem dX10_find_2 : decode cX10_find 2 = .ok (.invokevirtual 129, 3) := by decide +kernel
theorem dX10_find_5 : decode cX10_find 5 = .ok (.ifCond .eq 17, 3) := by decide +kernel
theorem dX10_find_8 : decode cX10_find 8 = .ok (.iload_n 2, 1) := by decide +kernel
theorem dX10_find_9 : decode cX10_find 9 = .ok (.iconst 0, 1) := by decide +kernel
theorem dX10_find_10 : decode cX10_find 10 = .ok (.aload_n 0, 1) := by decide +kernel
theorem dX10_find_11 : decode cX10_find 11 = .ok (.getfield 173, 3) := by decide +kernel
theorem dX10_find_14 : decode cX10_find 14 = .ok (.iconst 1, 1) := by decide +kernel
theorem dX10_find_15 : decode cX10_find 15 = .ok (.isub, 1) := by decide +kernel
theorem dX10_find_16 : decode cX10_find 16 = .ok (.invokestatic 107, 3) := by decide +kernel
theorem dX10_find_19 : decode cX10_find 19 = .ok (.ifCond .ne 5, 3) := by decide +kernel
theorem dX10_find_22 : decode cX10_find 22 = .ok (.iconst (-1), 1) := by decide +kernel
theorem dX10_find_23 : decode cX10_find 23 = .ok (.ireturn, 1) := by decide +kernel
theorem dX10_find_24 : decode cX10_find 24 = .ok (.aload_n 0, 1) := by decide +kernel
theorem dX10_find_25 : decode cX10_find 25 = .ok (.iload_n 1, 1) := by decide +kernel
theorem dX10_find_26 : decode cX10_find 26 = .ok (.invokevirtual 199, 3) := by decide +kernel
theorem dX10_find_29 : decode cX10_find 29 = .ok (.aload_n 0, 1) := by decide +kernel
theorem dX10_find_30 : decode cX10_find 30 = .ok (.iload_n 1, 1) := by decide +kernel
theorem dX10_find_31 : decode cX10_find 31 = .ok (.iconst (-1), 1) := by decide +kernel
theorem dX10_find_32 : decode cX10_find 32 = .ok (.invokevirtual 297, 3) := by decide +kernel
theorem dX10_find_35 : decode cX10_find 35 = .ok (.aload_n 0, 1) := by decide +kernel
theorem dX10_find_36 : decode cX10_find 36 = .ok (.iload_n 1, 1) := by decide +kernel
theorem dX10_find_37 : decode cX10_find 37 = .ok (.iconst 0, 1) := by decide +kernel
theorem dX10_find_38 : decode cX10_find 38 = .ok (.invokevirtual 294, 3) := by decide +kernel
theorem dX10_find_41 : decode cX10_find 41 = .ok (.aload_n 0, 1) := by decide +kernel
theorem dX10_find_42 : decode cX10_find 42 = .ok (.iload_n 1, 1) := by decide +kernel
theorem dX10_find_43 : decode cX10_find 43 = .ok (.invokevirtual 300, 3) := by decide +kernel
theorem dX10_find_46 : decode cX10_find 46 = .ok (.istore_n 3, 1) := by decide +kernel
theorem dX10_find_47 : decode cX10_find 47 = .ok (.iconst 0, 1) := by decide +kernel
theorem dX10_find_48 : decode cX10_find 48 = .ok (.istore 4, 2) := by decide +kernel
theorem dX10_find_50 : decode cX10_find 50 = .ok (.iload 4, 2) := by decide +kernel
theorem dX10_find_52 : decode cX10_find 52 = .ok (.aload_n 0, 1) := by decide +kernel
theorem dX10_find_53 : decode cX10_find 53 = .ok (.getfield 13, 3) := by decide +kernel
theorem dX10_find_56 : decode cX10_find 56 = .ok (.iload_n 1, 1) := by decide +kernel
theorem dX10_find_57 : decode cX10_find 57 = .ok (.iaload, 1) := by decide +kernel
theorem dX10_find_58 : decode cX10_find 58 = .ok (.if_icmp .ge 27, 3) := by decide +kernel
theorem dX10_find_61 : decode cX10_find 61 = .ok (.aload_n 0, 1) := by decide +kernel
theorem dX10_find_62 : decode cX10_find 62 = .ok (.getfield 43, 3) := by decide +kernel
theorem dX10_find_65 : decode cX10_find 65 = .ok (.iconst 5, 1) := by decide +kernel
theorem dX10_find_66 : decode cX10_find 66 = .ok (.iload_n 2, 1) := by decide +kernel
theorem dX10_find_67 : decode cX10_find 67 = .ok (.imul, 1) := by decide +kernel
theorem dX10_find_68 : decode cX10_find 68 = .ok (.iload 4, 2) := by decide +kernel
theorem dX10_find_70 : decode cX10_find 70 = .ok (.iadd, 1) := by decide +kernel
theorem dX10_find_71 : decode cX10_find 71 = .ok (.aload_n 0, 1) := by decide +kernel
theorem dX10_find_72 : decode cX10_find 72 = .ok (.getfield 46, 3) := by decide +kernel
theorem dX10_find_75 : decode cX10_find 75 = .ok (.iload 4, 2) := by decide +kernel
theorem dX10_find_77 : decode cX10_find 77 = .ok (.iaload, 1) := by decide +kernel
theorem dX10_find_78 : decode cX10_find 78 = .ok (.iastore, 1) := by decide +kernel
theorem dX10_find_79 : decode cX10_find 79 = .ok (.iinc 4 1, 3) := by decide +kernel
theorem dX10_find_82 : decode cX10_find 82 = .ok (.goto (-32), 3) := by decide +kernel
theorem dX10_find_85 : decode cX10_find 85 = .ok (.iload_n 3, 1) := by decide +kernel
theorem dX10_find_86 : decode cX10_find 86 = .ok (.ireturn, 1) := by decide +kernel
theorem dX10_sell_0 : decode cX10_sell 0 = .ok (.aload_n 0, 1) := by decide +kernel
theorem dX10_sell_1 : decode cX10_sell 1 = .ok (.iload_n 1, 1) := by decide +kernel
theorem dX10_sell_2 : decode cX10_sell 2 = .ok (.invokevirtual 199, 3) := by decide +kernel
theorem dX10_sell_5 : decode cX10_sell 5 = .ok (.aload_n 0, 1) := by decide +kernel
theorem dX10_sell_6 : decode cX10_sell 6 = .ok (.iload_n 2, 1) := by decide +kernel
theorem dX10_sell_7 : decode cX10_sell 7 = .ok (.putfield 176, 3) := by decide +kernel
theorem dX10_sell_10 : decode cX10_sell 10 = .ok (.aload_n 0, 1) := by decide +kernel
theorem dX10_sell_11 : decode cX10_sell 11 = .ok (.iload_n 3, 1) := by decide +kernel
theorem dX10_sell_12 : decode cX10_sell 12 = .ok (.putfield 183, 3) := by decide +kernel
theorem dX10_sell_15 : decode cX10_sell 15 = .ok (.aload_n 0, 1) := by decide +kernel
theorem dX10_sell_16 : decode cX10_sell 16 = .ok (.iload_n 1, 1) := by decide +kernel
theorem dX10_sell_17 : decode cX10_sell 17 = .ok (.iload 4, 2) := by decide +kernel
theorem dX10_sell_19 : decode cX10_sell 19 = .ok (.invokevirtual 297, 3) := by decide +kernel
theorem dX10_sell_22 : decode cX10_sell 22 = .ok (.aload_n 0, 1) := by decide +kernel
theorem dX10_sell_23 : decode cX10_sell 23 = .ok (.iconst (-1), 1) := by decide +kernel
theorem dX10_sell_24 : decode cX10_sell 24 = .ok (.iconst (-1), 1) := by decide +kernel
theorem dX10_sell_25 : decode cX10_sell 25 = .ok (.iconst (-1), 1) := by decide +kernel
theorem dX10_sell_26 : decode cX10_sell 26 = .ok (.invokevirtual 271, 3) := by decide +kernel
theorem dX10_sell_29 : decode cX10_sell 29 = .ok (.aload_n 0, 1) := by decide +kernel
theorem dX10_sell_30 : decode cX10_sell 30 = .ok (.iload_n 1, 1) := by decide +kernel
theorem dX10_sell_31 : decode cX10_sell 31 = .ok (.iconst (-1), 1) := by decide +kernel
theorem dX10_sell_32 : decode cX10_sell 32 = .ok (.invokevirtual 275, 3) := by decide +kernel
theorem dX10_sell_35 : decode cX10_sell 35 = .ok (.return_, 1) := by decide +kernel
theorem dX10_by_0 : decode cX10_by 0 = .ok (.aload_n 0, 1) := by decide +kernel
theorem dX10_by_1 : decode cX10_by 1 = .ok (.iload_n 1, 1) := by decide +kernel
theorem dX10_by_2 : decode cX10_by 2 = .ok (.invokevirtual 129, 3) := by decide +kernel
theorem dX10_by_5 : decode cX10_by 5 = .ok (.ifCond .eq 22, 3) := by decide +kernel
theorem dX10_by_8 : decode cX10_by 8 = .ok (.iload_n 2, 1) := by decide +kernel
theorem dX10_by_9 : decode cX10_by 9 = .ok (.iconst 1, 1) := by decide +kernel
theorem dX10_by_10 : decode cX10_by 10 = .ok (.iconst 4, 1) := by decide +kernel
theorem dX10_by_11 : decode cX10_by 11 = .ok (.invokestatic 107, 3) := by decide +kernel
theorem dX10_by_14 : decode cX10_by 14 = .ok (.ifCond .eq 13, 3) := by decide +kernel
theorem dX10_by_17 : decode cX10_by 17 = .ok (.iload 4, 2) := by decide +kernel
theorem dX10_by_19 : decode cX10_by 19 = .ok (.iconst 0, 1) := by decide +kernel
theorem dX10_by_20 : decode cX10_by 20 = .ok (.iconst 1, 1) := by decide +kernel
theorem dX10_by_21 : decode cX10_by 21 = .ok (.invokestatic 107, 3) := by decide +kernel
theorem dX10_by_24 : decode cX10_by 24 = .ok (.ifCond .ne 7, 3) := by decide +kernel
theorem dX10_by_27 : decode cX10_by 27 = .ok (.ldc2_w 269, 3) := by decide +kernel
theorem dX10_by_30 : decode cX10_by 30 = .ok (.lreturn, 1) := by decide +kernel
theorem dX10_by_31 : decode cX10_by 31 = .ok (.aload_n 0, 1) := by decide +kernel
theorem dX10_by_32 : decode cX10_by 32 = .ok (.iload_n 1, 1) := by decide +kernel
theorem dX10_by_33 : decode cX10_by 33 = .ok (.iload_n 2, 1) := by decide +kernel
theorem dX10_by_34 : decode cX10_by 34 = .ok (.aload_n 0, 1) := by decide +kernel
theorem dX10_by_35 : decode cX10_by 35 = .ok (.getfield 31, 3) := by decide +kernel
theorem dX10_by_38 : decode cX10_by 38 = .ok (.iload_n 1, 1) := by decide +kernel
theorem dX10_by_39 : decode cX10_by 39 = .ok (.iaload, 1) := by decide +kernel
theorem dX10_by_40 : decode cX10_by 40 = .ok (.iload_n 3, 1) := by decide +kernel
theorem dX10_by_41 : decode cX10_by 41 = .ok (.ifCond .eq 8, 3) := by decide +kernel
theorem dX10_by_44 : decode cX10_by 44 = .ok (.bipush (-2), 2) := by decide +kernel
theorem dX10_by_46 : decode cX10_by 46 = .ok (.goto 4, 3) := by decide +kernel
theorem dX10_by_49 : decode cX10_by 49 = .ok (.iconst (-1), 1) := by decide +kernel
theorem dX10_by_50 : decode cX10_by 50 = .ok (.invokevirtual 303, 3) := by decide +kernel
theorem dX10_by_53 : decode cX10_by 53 = .ok (.aload_n 0, 1) := by decide +kernel
theorem dX10_by_54 : decode cX10_by 54 = .ok (.getfield 234, 3) := by decide +kernel
theorem dX10_by_57 : decode cX10_by 57 = .ok (.aload_n 0, 1) := by decide +kernel
theorem dX10_by_58 : decode cX10_by 58 = .ok (.getfield 231, 3) := by decide +kernel
theorem dX10_by_61 : decode cX10_by 61 = .ok (.iload 4, 2) := by decide +kernel
theorem dX10_by_63 : decode cX10_by 63 = .ok (.invokestatic 169, 3) := by decide +kernel
theorem dX10_by_66 : decode cX10_by 66 = .ok (.lreturn, 1) := by decide +kernel
theorem dX10_bar_0 : decode cX10_bar 0 = .ok (.aload_n 0, 1) := by decide +kernel
theorem dX10_bar_1 : decode cX10_bar 1 = .ok (.iload_n 1, 1) := by decide +kernel
theorem dX10_bar_2 : decode cX10_bar 2 = .ok (.invokevirtual 129, 3) := by decide +kernel
theorem dX10_bar_5 : decode cX10_bar 5 = .ok (.ifCond .ne 5, 3) := by decide +kernel
theorem dX10_bar_8 : decode cX10_bar 8 = .ok (.iconst (-1), 1) := by decide +kernel
theorem dX10_bar_9 : decode cX10_bar 9 = .ok (.ireturn, 1) := by decide +kernel
theorem dX10_bar_10 : decode cX10_bar 10 = .ok (.iconst (-1), 1) := by decide +kernel
theorem dX10_bar_11 : decode cX10_bar 11 = .ok (.istore_n 3, 1) := by decide +kernel
theorem dX10_bar_12 : decode cX10_bar 12 = .ok (.lconst 0, 1) := by decide +kernel
theorem dX10_bar_13 : decode cX10_bar 13 = .ok (.lstore 4, 2) := by decide +kernel
theorem dX10_bar_15 : decode cX10_bar 15 = .ok (.iconst 0, 1) := by decide +kernel
theorem dX10_bar_16 : decode cX10_bar 16 = .ok (.istore 6, 2) := by decide +kernel
theorem dX10_bar_18 : decode cX10_bar 18 = .ok (.iload 6, 2) := by decide +kernel
theorem dX10_bar_20 : decode cX10_bar 20 = .ok (.bipush 60, 2) := by decide +kernel
theorem dX10_bar_22 : decode cX10_bar 22 = .ok (.if_icmp .gt 56, 3) := by decide +kernel
theorem dX10_bar_25 : decode cX10_bar 25 = .ok (.aload_n 0, 1) := by decide +kernel
theorem dX10_bar_26 : decode cX10_bar 26 = .ok (.iload_n 1, 1) := by decide +kernel
theorem dX10_bar_27 : decode cX10_bar 27 = .ok (.aload_n 0, 1) := by decide +kernel
theorem dX10_bar_28 : decode cX10_bar 28 = .ok (.getfield 28, 3) := by decide +kernel
theorem dX10_bar_31 : decode cX10_bar 31 = .ok (.iload_n 1, 1) := by decide +kernel
theorem dX10_bar_32 : decode cX10_bar 32 = .ok (.iaload, 1) := by decide +kernel
theorem dX10_bar_33 : decode cX10_bar 33 = .ok (.iload 6, 2) := by decide +kernel
theorem dX10_bar_35 : decode cX10_bar 35 = .ok (.iload_n 2, 1) := by decide +kernel
theorem dX10_bar_36 : decode cX10_bar 36 = .ok (.ifCond .eq 8, 3) := by decide +kernel
theorem dX10_bar_39 : decode cX10_bar 39 = .ok (.bipush (-2), 2) := by decide +kernel
theorem dX10_bar_41 : decode cX10_bar 41 = .ok (.goto 4, 3) := by decide +kernel
theorem dX10_bar_44 : decode cX10_bar 44 = .ok (.iconst (-1), 1) := by decide +kernel
theorem dX10_bar_45 : decode cX10_bar 45 = .ok (.invokevirtual 303, 3) := by decide +kernel
theorem dX10_bar_48 : decode cX10_bar 48 = .ok (.iload_n 3, 1) := by decide +kernel
theorem dX10_bar_49 : decode cX10_bar 49 = .ok (.iconst (-1), 1) := by decide +kernel
theorem dX10_bar_50 : decode cX10_bar 50 = .ok (.if_icmp .eq 13, 3) := by decide +kernel
theorem dX10_bar_53 : decode cX10_bar 53 = .ok (.aload_n 0, 1) := by decide +kernel
theorem dX10_bar_54 : decode cX10_bar 54 = .ok (.getfield 234, 3) := by decide +kernel
theorem dX10_bar_57 : decode cX10_bar 57 = .ok (.lload 4, 2) := by decide +kernel
theorem dX10_bar_59 : decode cX10_bar 59 = .ok (.lcmp, 1) := by decide +kernel
theorem dX10_bar_60 : decode cX10_bar 60 = .ok (.ifCond .le 12, 3) := by decide +kernel
theorem dX10_bar_63 : decode cX10_bar 63 = .ok (.iload 6, 2) := by decide +kernel
theorem dX10_bar_65 : decode cX10_bar 65 = .ok (.istore_n 3, 1) := by decide +kernel
theorem dX10_bar_66 : decode cX10_bar 66 = .ok (.aload_n 0, 1) := by decide +kernel
theorem dX10_bar_67 : decode cX10_bar 67 = .ok (.getfield 234, 3) := by decide +kernel
theorem dX10_bar_70 : decode cX10_bar 70 = .ok (.lstore 4, 2) := by decide +kernel
theorem dX10_bar_72 : decode cX10_bar 72 = .ok (.iinc 6 1, 3) := by decide +kernel
theorem dX10_bar_75 : decode cX10_bar 75 = .ok (.goto (-57), 3) := by decide +kernel
theorem dX10_bar_78 : decode cX10_bar 78 = .ok (.iload_n 3, 1) := by decide +kernel
theorem dX10_bar_79 : decode cX10_bar 79 = .ok (.ireturn, 1) := by decide +kernel
theorem dX10_telling_0 : decode cX10_telling 0 = .ok (.aload_n 0, 1) := by decide +kernel
theorem dX10_telling_1 : decode cX10_telling 1 = .ok (.iload_n 1, 1) := by decide +kernel
theorem dX10_telling_2 : decode cX10_telling 2 = .ok (.invokevirtual 129, 3) := by decide +kernel
theorem dX10_telling_5 : decode cX10_telling 5 = .ok (.ifCond .ne 7, 3) := by decide +kernel
theorem dX10_telling_8 : decode cX10_telling 8 = .ok (.ldc2_w 269, 3) := by decide +kernel
theorem dX10_telling_11 : decode cX10_telling 11 = .ok (.lreturn, 1) := by decide +kernel
theorem dX10_telling_12 : decode cX10_telling 12 = .ok (.aload_n 0, 1) := by decide +kernel
theorem dX10_telling_13 : decode cX10_telling 13 = .ok (.iload_n 1, 1) := by decide +kernel
theorem dX10_telling_14 : decode cX10_telling 14 = .ok (.invokevirtual 199, 3) := by decide +kernel
theorem dX10_telling_17 : decode cX10_telling 17 = .ok (.lconst 0, 1) := by decide +kernel
theorem dX10_telling_18 : decode cX10_telling 18 = .ok (.lstore_n 2, 1) := by decide +kernel
theorem dX10_telling_19 : decode cX10_telling 19 = .ok (.iconst 0, 1) := by decide +kernel
theorem dX10_telling_20 : decode cX10_telling 20 = .ok (.istore 4, 2) := by decide +kernel
theorem dX10_telling_22 : decode cX10_telling 22 = .ok (.iload 4, 2) := by decide +kernel
theorem dX10_telling_24 : decode cX10_telling 24 = .ok (.aload_n 0, 1) := by decide +kernel
theorem dX10_telling_25 : decode cX10_telling 25 = .ok (.getfield 13, 3) := by decide +kernel
theorem dX10_telling_28 : decode cX10_telling 28 = .ok (.iload_n 1, 1) := by decide +kernel
theorem dX10_telling_29 : decode cX10_telling 29 = .ok (.iaload, 1) := by decide +kernel
theorem dX10_telling_30 : decode cX10_telling 30 = .ok (.if_icmp .ge 37, 3) := by decide +kernel
theorem dX10_telling_33 : decode cX10_telling 33 = .ok (.aload_n 0, 1) := by decide +kernel
theorem dX10_telling_34 : decode cX10_telling 34 = .ok (.iload_n 1, 1) := by decide +kernel
theorem dX10_telling_35 : decode cX10_telling 35 = .ok (.iload 4, 2) := by decide +kernel
theorem dX10_telling_37 : decode cX10_telling 37 = .ok (.invokevirtual 189, 3) := by decide +kernel
theorem dX10_telling_40 : decode cX10_telling 40 = .ok (.aload_n 0, 1) := by decide +kernel
theorem dX10_telling_41 : decode cX10_telling 41 = .ok (.iconst (-1), 1) := by decide +kernel
theorem dX10_telling_42 : decode cX10_telling 42 = .ok (.iconst (-1), 1) := by decide +kernel
theorem dX10_telling_43 : decode cX10_telling 43 = .ok (.iconst (-1), 1) := by decide +kernel
theorem dX10_telling_44 : decode cX10_telling 44 = .ok (.invokevirtual 271, 3) := by decide +kernel
theorem dX10_telling_47 : decode cX10_telling 47 = .ok (.aload_n 0, 1) := by decide +kernel
theorem dX10_telling_48 : decode cX10_telling 48 = .ok (.iload_n 1, 1) := by decide +kernel
theorem dX10_telling_49 : decode cX10_telling 49 = .ok (.iload 4, 2) := by decide +kernel
theorem dX10_telling_51 : decode cX10_telling 51 = .ok (.invokevirtual 275, 3) := by decide +kernel
theorem dX10_telling_54 : decode cX10_telling 54 = .ok (.lload_n 2, 1) := by decide +kernel
theorem dX10_telling_55 : decode cX10_telling 55 = .ok (.aload_n 0, 1) := by decide +kernel
theorem dX10_telling_56 : decode cX10_telling 56 = .ok (.getfield 234, 3) := by decide +kernel
theorem dX10_telling_59 : decode cX10_telling 59 = .ok (.ladd, 1) := by decide +kernel
theorem dX10_telling_60 : decode cX10_telling 60 = .ok (.lstore_n 2, 1) := by decide +kernel
theorem dX10_telling_61 : decode cX10_telling 61 = .ok (.iinc 4 1, 3) := by decide +kernel
theorem dX10_telling_64 : decode cX10_telling 64 = .ok (.goto (-42), 3) := by decide +kernel
theorem dX10_telling_67 : decode cX10_telling 67 = .ok (.lload_n 2, 1) := by decide +kernel
theorem dX10_telling_68 : decode cX10_telling 68 = .ok (.lreturn, 1) := by decide +kernel
theorem dX10_nearBy_0 : decode cX10_nearBy 0 = .ok (.aload_n 0, 1) := by decide +kernel
theorem dX10_nearBy_1 : decode cX10_nearBy 1 = .ok (.iconst 0, 1) := by decide +kernel
theorem dX10_nearBy_2 : decode cX10_nearBy 2 = .ok (.iconst (-1), 1) := by decide +kernel
theorem dX10_nearBy_3 : decode cX10_nearBy 3 = .ok (.iload_n 3, 1) := by decide +kernel
theorem dX10_nearBy_4 : decode cX10_nearBy 4 = .ok (.invokevirtual 271, 3) := by decide +kernel
theorem dX10_nearBy_7 : decode cX10_nearBy 7 = .ok (.aload_n 0, 1) := by decide +kernel
theorem dX10_nearBy_8 : decode cX10_nearBy 8 = .ok (.iload_n 2, 1) := by decide +kernel
theorem dX10_nearBy_9 : decode cX10_nearBy 9 = .ok (.putfield 225, 3) := by decide +kernel
theorem dX10_nearBy_12 : decode cX10_nearBy 12 = .ok (.aload_n 0, 1) := by decide +kernel
theorem dX10_nearBy_13 : decode cX10_nearBy 13 = .ok (.iload_n 1, 1) := by decide +kernel
theorem dX10_nearBy_14 : decode cX10_nearBy 14 = .ok (.iconst (-1), 1) := by decide +kernel
theorem dX10_nearBy_15 : decode cX10_nearBy 15 = .ok (.invokevirtual 275, 3) := by decide +kernel
theorem dX10_nearBy_18 : decode cX10_nearBy 18 = .ok (.aload_n 0, 1) := by decide +kernel
theorem dX10_nearBy_19 : decode cX10_nearBy 19 = .ok (.getfield 243, 3) := by decide +kernel
theorem dX10_nearBy_22 : decode cX10_nearBy 22 = .ok (.lreturn, 1) := by decide +kernel
theorem dX10_nearBest_0 : decode cX10_nearBest 0 = .ok (.iconst 0, 1) := by decide +kernel
theorem dX10_nearBest_1 : decode cX10_nearBest 1 = .ok (.istore_n 3, 1) := by decide +kernel
theorem dX10_nearBest_2 : decode cX10_nearBest 2 = .ok (.iconst 1, 1) := by decide +kernel
theorem dX10_nearBest_3 : decode cX10_nearBest 3 = .ok (.istore 4, 2) := by decide +kernel
theorem dX10_nearBest_5 : decode cX10_nearBest 5 = .ok (.iload 4, 2) := by decide +kernel
theorem dX10_nearBest_7 : decode cX10_nearBest 7 = .ok (.bipush 60, 2) := by decide +kernel
theorem dX10_nearBest_9 : decode cX10_nearBest 9 = .ok (.if_icmp .gt 35, 3) := by decide +kernel
theorem dX10_nearBest_12 : decode cX10_nearBest 12 = .ok (.aload_n 0, 1) := by decide +kernel
theorem dX10_nearBest_13 : decode cX10_nearBest 13 = .ok (.iload_n 1, 1) := by decide +kernel
theorem dX10_nearBest_14 : decode cX10_nearBest 14 = .ok (.iload_n 2, 1) := by decide +kernel
theorem dX10_nearBest_15 : decode cX10_nearBest 15 = .ok (.iload 4, 2) := by decide +kernel
theorem dX10_nearBest_17 : decode cX10_nearBest 17 = .ok (.invokevirtual 306, 3) := by decide +kernel
theorem dX10_nearBest_20 : decode cX10_nearBest 20 = .ok (.aload_n 0, 1) := by decide +kernel
theorem dX10_nearBest_21 : decode cX10_nearBest 21 = .ok (.iload_n 1, 1) := by decide +kernel
theorem dX10_nearBest_22 : decode cX10_nearBest 22 = .ok (.iload_n 2, 1) := by decide +kernel
theorem dX10_nearBest_23 : decode cX10_nearBest 23 = .ok (.iload_n 3, 1) := by decide +kernel
theorem dX10_nearBest_24 : decode cX10_nearBest 24 = .ok (.invokevirtual 306, 3) := by decide +kernel
theorem dX10_nearBest_27 : decode cX10_nearBest 27 = .ok (.lcmp, 1) := by decide +kernel
theorem dX10_nearBest_28 : decode cX10_nearBest 28 = .ok (.ifCond .le 8, 3) := by decide +kernel
theorem dX10_nearBest_31 : decode cX10_nearBest 31 = .ok (.iload 4, 2) := by decide +kernel
theorem dX10_nearBest_33 : decode cX10_nearBest 33 = .ok (.goto 4, 3) := by decide +kernel
theorem dX10_nearBest_36 : decode cX10_nearBest 36 = .ok (.iload_n 3, 1) := by decide +kernel
theorem dX10_nearBest_37 : decode cX10_nearBest 37 = .ok (.istore_n 3, 1) := by decide +kernel
theorem dX10_nearBest_38 : decode cX10_nearBest 38 = .ok (.iinc 4 1, 3) := by decide +kernel
theorem dX10_nearBest_41 : decode cX10_nearBest 41 = .ok (.goto (-36), 3) := by decide +kernel
theorem dX10_nearBest_44 : decode cX10_nearBest 44 = .ok (.iload_n 3, 1) := by decide +kernel
theorem dX10_nearBest_45 : decode cX10_nearBest 45 = .ok (.ireturn, 1) := by decide +kernel
theorem dX10_near_0 : decode cX10_near 0 = .ok (.aload_n 0, 1) := by decide +kernel
theorem dX10_near_1 : decode cX10_near 1 = .ok (.iload_n 1, 1) := by decide +kernel
theorem dX10_near_2 : decode cX10_near 2 = .ok (.invokevirtual 129, 3) := by decide +kernel
theorem dX10_near_5 : decode cX10_near 5 = .ok (.ifCond .eq 19, 3) := by decide +kernel
theorem dX10_near_8 : decode cX10_near 8 = .ok (.iload_n 2, 1) := by decide +kernel
theorem dX10_near_9 : decode cX10_near 9 = .ok (.iconst 0, 1) := by decide +kernel
theorem dX10_near_10 : decode cX10_near 10 = .ok (.aload_n 0, 1) := by decide +kernel
theorem dX10_near_11 : decode cX10_near 11 = .ok (.getfield 16, 3) := by decide +kernel
theorem dX10_near_14 : decode cX10_near 14 = .ok (.iload_n 1, 1) := by decide +kernel
theorem dX10_near_15 : decode cX10_near 15 = .ok (.iaload, 1) := by decide +kernel
theorem dX10_near_16 : decode cX10_near 16 = .ok (.iconst 1, 1) := by decide +kernel
theorem dX10_near_17 : decode cX10_near 17 = .ok (.isub, 1) := by decide +kernel
theorem dX10_near_18 : decode cX10_near 18 = .ok (.invokestatic 107, 3) := by decide +kernel
theorem dX10_near_21 : decode cX10_near 21 = .ok (.ifCond .ne 5, 3) := by decide +kernel
theorem dX10_near_24 : decode cX10_near 24 = .ok (.iconst (-1), 1) := by decide +kernel
theorem dX10_near_25 : decode cX10_near 25 = .ok (.ireturn, 1) := by decide +kernel
theorem dX10_near_26 : decode cX10_near 26 = .ok (.aload_n 0, 1) := by decide +kernel
theorem dX10_near_27 : decode cX10_near 27 = .ok (.iload_n 1, 1) := by decide +kernel
theorem dX10_near_28 : decode cX10_near 28 = .ok (.invokevirtual 199, 3) := by decide +kernel
theorem dX10_near_31 : decode cX10_near 31 = .ok (.aload_n 0, 1) := by decide +kernel
theorem dX10_near_32 : decode cX10_near 32 = .ok (.iload_n 1, 1) := by decide +kernel
theorem dX10_near_33 : decode cX10_near 33 = .ok (.iload_n 2, 1) := by decide +kernel
theorem dX10_near_34 : decode cX10_near 34 = .ok (.invokevirtual 310, 3) := by decide +kernel
theorem dX10_near_37 : decode cX10_near 37 = .ok (.ireturn, 1) := by decide +kernel
theorem dX10_nearGain_0 : decode cX10_nearGain 0 = .ok (.aload_n 0, 1) := by decide +kernel
theorem dX10_nearGain_1 : decode cX10_nearGain 1 = .ok (.iload_n 1, 1) := by decide +kernel
theorem dX10_nearGain_2 : decode cX10_nearGain 2 = .ok (.invokevirtual 129, 3) := by decide +kernel
theorem dX10_nearGain_5 : decode cX10_nearGain 5 = .ok (.ifCond .ne 7, 3) := by decide +kernel
theorem dX10_nearGain_8 : decode cX10_nearGain 8 = .ok (.ldc2_w 278, 3) := by decide +kernel
theorem dX10_nearGain_11 : decode cX10_nearGain 11 = .ok (.lreturn, 1) := by decide +kernel
theorem dX10_nearGain_12 : decode cX10_nearGain 12 = .ok (.aload_n 0, 1) := by decide +kernel
theorem dX10_nearGain_13 : decode cX10_nearGain 13 = .ok (.iload_n 1, 1) := by decide +kernel
theorem dX10_nearGain_14 : decode cX10_nearGain 14 = .ok (.invokevirtual 199, 3) := by decide +kernel
theorem dX10_nearGain_17 : decode cX10_nearGain 17 = .ok (.lconst 0, 1) := by decide +kernel
theorem dX10_nearGain_18 : decode cX10_nearGain 18 = .ok (.lstore_n 2, 1) := by decide +kernel
theorem dX10_nearGain_19 : decode cX10_nearGain 19 = .ok (.iconst 0, 1) := by decide +kernel
theorem dX10_nearGain_20 : decode cX10_nearGain 20 = .ok (.istore 4, 2) := by decide +kernel
theorem dX10_nearGain_22 : decode cX10_nearGain 22 = .ok (.iload 4, 2) := by decide +kernel
theorem dX10_nearGain_24 : decode cX10_nearGain 24 = .ok (.aload_n 0, 1) := by decide +kernel
theorem dX10_nearGain_25 : decode cX10_nearGain 25 = .ok (.getfield 16, 3) := by decide +kernel
theorem dX10_nearGain_28 : decode cX10_nearGain 28 = .ok (.iload_n 1, 1) := by decide +kernel
theorem dX10_nearGain_29 : decode cX10_nearGain 29 = .ok (.iaload, 1) := by decide +kernel
theorem dX10_nearGain_30 : decode cX10_nearGain 30 = .ok (.if_icmp .ge 26, 3) := by decide +kernel
theorem dX10_nearGain_33 : decode cX10_nearGain 33 = .ok (.lload_n 2, 1) := by decide +kernel
theorem dX10_nearGain_34 : decode cX10_nearGain 34 = .ok (.aload_n 0, 1) := by decide +kernel
theorem dX10_nearGain_35 : decode cX10_nearGain 35 = .ok (.iload_n 1, 1) := by decide +kernel
theorem dX10_nearGain_36 : decode cX10_nearGain 36 = .ok (.iload 4, 2) := by decide +kernel
theorem dX10_nearGain_38 : decode cX10_nearGain 38 = .ok (.aload_n 0, 1) := by decide +kernel
theorem dX10_nearGain_39 : decode cX10_nearGain 39 = .ok (.iload_n 1, 1) := by decide +kernel
theorem dX10_nearGain_40 : decode cX10_nearGain 40 = .ok (.iload 4, 2) := by decide +kernel
theorem dX10_nearGain_42 : decode cX10_nearGain 42 = .ok (.invokevirtual 310, 3) := by decide +kernel
theorem dX10_nearGain_45 : decode cX10_nearGain 45 = .ok (.invokevirtual 306, 3) := by decide +kernel
theorem dX10_nearGain_48 : decode cX10_nearGain 48 = .ok (.ladd, 1) := by decide +kernel
theorem dX10_nearGain_49 : decode cX10_nearGain 49 = .ok (.lstore_n 2, 1) := by decide +kernel
theorem dX10_nearGain_50 : decode cX10_nearGain 50 = .ok (.iinc 4 1, 3) := by decide +kernel
theorem dX10_nearGain_53 : decode cX10_nearGain 53 = .ok (.goto (-31), 3) := by decide +kernel
theorem dX10_nearGain_56 : decode cX10_nearGain 56 = .ok (.lload_n 2, 1) := by decide +kernel
theorem dX10_nearGain_57 : decode cX10_nearGain 57 = .ok (.lreturn, 1) := by decide +kernel
theorem dX10_asOne_0 : decode cX10_asOne 0 = .ok (.aload_n 0, 1) := by decide +kernel
theorem dX10_asOne_1 : decode cX10_asOne 1 = .ok (.iload_n 1, 1) := by decide +kernel
theorem dX10_asOne_2 : decode cX10_asOne 2 = .ok (.invokevirtual 129, 3) := by decide +kernel
theorem dX10_asOne_5 : decode cX10_asOne 5 = .ok (.ifCond .eq 13, 3) := by decide +kernel
theorem dX10_asOne_8 : decode cX10_asOne 8 = .ok (.aload_n 0, 1) := by decide +kernel
theorem dX10_asOne_9 : decode cX10_asOne 9 = .ok (.getfield 28, 3) := by decide +kernel
theorem dX10_asOne_12 : decode cX10_asOne 12 = .ok (.iload_n 1, 1) := by decide +kernel
theorem dX10_asOne_13 : decode cX10_asOne 13 = .ok (.iaload, 1) := by decide +kernel
theorem dX10_asOne_14 : decode cX10_asOne 14 = .ok (.iconst 2, 1) := by decide +kernel
theorem dX10_asOne_15 : decode cX10_asOne 15 = .ok (.if_icmp .ge 7, 3) := by decide +kernel
theorem dX10_asOne_18 : decode cX10_asOne 18 = .ok (.ldc2_w 269, 3) := by decide +kernel
theorem dX10_asOne_21 : decode cX10_asOne 21 = .ok (.lreturn, 1) := by decide +kernel
theorem dX10_asOne_22 : decode cX10_asOne 22 = .ok (.aload_n 0, 1) := by decide +kernel
theorem dX10_asOne_23 : decode cX10_asOne 23 = .ok (.iload_n 1, 1) := by decide +kernel
theorem dX10_asOne_24 : decode cX10_asOne 24 = .ok (.invokevirtual 199, 3) := by decide +kernel
theorem dX10_asOne_27 : decode cX10_asOne 27 = .ok (.aload_n 0, 1) := by decide +kernel
theorem dX10_asOne_28 : decode cX10_asOne 28 = .ok (.iconst (-1), 1) := by decide +kernel
theorem dX10_asOne_29 : decode cX10_asOne 29 = .ok (.iconst (-1), 1) := by decide +kernel
theorem dX10_asOne_30 : decode cX10_asOne 30 = .ok (.iconst (-1), 1) := by decide +kernel
theorem dX10_asOne_31 : decode cX10_asOne 31 = .ok (.invokevirtual 271, 3) := by decide +kernel
theorem dX10_asOne_34 : decode cX10_asOne 34 = .ok (.aload_n 0, 1) := by decide +kernel
theorem dX10_asOne_35 : decode cX10_asOne 35 = .ok (.iconst 1, 1) := by decide +kernel
theorem dX10_asOne_36 : decode cX10_asOne 36 = .ok (.putfield 228, 3) := by decide +kernel
theorem dX10_asOne_39 : decode cX10_asOne 39 = .ok (.aload_n 0, 1) := by decide +kernel
theorem dX10_asOne_40 : decode cX10_asOne 40 = .ok (.iload_n 1, 1) := by decide +kernel
theorem dX10_asOne_41 : decode cX10_asOne 41 = .ok (.iconst (-1), 1) := by decide +kernel
theorem dX10_asOne_42 : decode cX10_asOne 42 = .ok (.invokevirtual 275, 3) := by decide +kernel
theorem dX10_asOne_45 : decode cX10_asOne 45 = .ok (.aload_n 0, 1) := by decide +kernel
theorem dX10_asOne_46 : decode cX10_asOne 46 = .ok (.getfield 234, 3) := by decide +kernel
theorem dX10_asOne_49 : decode cX10_asOne 49 = .ok (.lreturn, 1) := by decide +kernel
theorem dX10_lay__0 : decode cX10_lay_ 0 = .ok (.iload_n 1, 1) := by decide +kernel
theorem dX10_lay__1 : decode cX10_lay_ 1 = .ok (.iconst 0, 1) := by decide +kernel
theorem dX10_lay__2 : decode cX10_lay_ 2 = .ok (.iconst 3, 1) := by decide +kernel
theorem dX10_lay__3 : decode cX10_lay_ 3 = .ok (.invokestatic 107, 3) := by decide +kernel
theorem dX10_lay__6 : decode cX10_lay_ 6 = .ok (.ifCond .eq 12, 3) := by decide +kernel
theorem dX10_lay__9 : decode cX10_lay_ 9 = .ok (.iload_n 2, 1) := by decide +kernel
theorem dX10_lay__10 : decode cX10_lay_ 10 = .ok (.iconst 0, 1) := by decide +kernel
theorem dX10_lay__11 : decode cX10_lay_ 11 = .ok (.iconst 4, 1) := by decide +kernel
theorem dX10_lay__12 : decode cX10_lay_ 12 = .ok (.invokestatic 107, 3) := by decide +kernel
theorem dX10_lay__15 : decode cX10_lay_ 15 = .ok (.ifCond .ne 5, 3) := by decide +kernel
theorem dX10_lay__18 : decode cX10_lay_ 18 = .ok (.iconst 0, 1) := by decide +kernel
theorem dX10_lay__19 : decode cX10_lay_ 19 = .ok (.ireturn, 1) := by decide +kernel
theorem dX10_lay__20 : decode cX10_lay_ 20 = .ok (.aload_n 0, 1) := by decide +kernel
theorem dX10_lay__21 : decode cX10_lay_ 21 = .ok (.getfield 61, 3) := by decide +kernel
theorem dX10_lay__24 : decode cX10_lay_ 24 = .ok (.iload_n 1, 1) := by decide +kernel
theorem dX10_lay__25 : decode cX10_lay_ 25 = .ok (.iload_n 2, 1) := by decide +kernel
theorem dX10_lay__26 : decode cX10_lay_ 26 = .ok (.iastore, 1) := by decide +kernel
theorem dX10_lay__27 : decode cX10_lay_ 27 = .ok (.iconst 1, 1) := by decide +kernel
theorem dX10_lay__28 : decode cX10_lay_ 28 = .ok (.ireturn, 1) := by decide +kernel
theorem dX10_rise_0 : decode cX10_rise 0 = .ok (.aload_n 0, 1) := by decide +kernel
theorem dX10_rise_1 : decode cX10_rise 1 = .ok (.iload_n 1, 1) := by decide +kernel
theorem dX10_rise_2 : decode cX10_rise 2 = .ok (.invokevirtual 129, 3) := by decide +kernel
theorem dX10_rise_5 : decode cX10_rise 5 = .ok (.ifCond .ne 5, 3) := by decide +kernel
theorem dX10_rise_8 : decode cX10_rise 8 = .ok (.iconst 0, 1) := by decide +kernel
theorem dX10_rise_9 : decode cX10_rise 9 = .ok (.ireturn, 1) := by decide +kernel
theorem dX10_rise_10 : decode cX10_rise 10 = .ok (.aload_n 0, 1) := by decide +kernel
theorem dX10_rise_11 : decode cX10_rise 11 = .ok (.aload_n 0, 1) := by decide +kernel
theorem dX10_rise_12 : decode cX10_rise 12 = .ok (.getfield 28, 3) := by decide +kernel
theorem dX10_rise_15 : decode cX10_rise 15 = .ok (.iload_n 1, 1) := by decide +kernel
theorem dX10_rise_16 : decode cX10_rise 16 = .ok (.iaload, 1) := by decide +kernel
theorem dX10_rise_17 : decode cX10_rise 17 = .ok (.putfield 176, 3) := by decide +kernel
theorem dX10_rise_20 : decode cX10_rise 20 = .ok (.iconst 0, 1) := by decide +kernel
theorem dX10_rise_21 : decode cX10_rise 21 = .ok (.istore_n 2, 1) := by decide +kernel
theorem dX10_rise_22 : decode cX10_rise 22 = .ok (.iload_n 2, 1) := by decide +kernel
theorem dX10_rise_23 : decode cX10_rise 23 = .ok (.aload_n 0, 1) := by decide +kernel
theorem dX10_rise_24 : decode cX10_rise 24 = .ok (.getfield 176, 3) := by decide +kernel
theorem dX10_rise_27 : decode cX10_rise 27 = .ok (.if_icmp .ge 26, 3) := by decide +kernel
theorem dX10_rise_30 : decode cX10_rise 30 = .ok (.aload_n 0, 1) := by decide +kernel
theorem dX10_rise_31 : decode cX10_rise 31 = .ok (.getfield 61, 3) := by decide +kernel
theorem dX10_rise_34 : decode cX10_rise 34 = .ok (.iload_n 2, 1) := by decide +kernel
theorem dX10_rise_35 : decode cX10_rise 35 = .ok (.iaload, 1) := by decide +kernel
theorem dX10_rise_36 : decode cX10_rise 36 = .ok (.aload_n 0, 1) := by decide +kernel
theorem dX10_rise_37 : decode cX10_rise 37 = .ok (.getfield 13, 3) := by decide +kernel
theorem dX10_rise_40 : decode cX10_rise 40 = .ok (.iload_n 1, 1) := by decide +kernel
theorem dX10_rise_41 : decode cX10_rise 41 = .ok (.iaload, 1) := by decide +kernel
theorem dX10_rise_42 : decode cX10_rise 42 = .ok (.if_icmp .lt 5, 3) := by decide +kernel
theorem dX10_rise_45 : decode cX10_rise 45 = .ok (.iconst 0, 1) := by decide +kernel
theorem dX10_rise_46 : decode cX10_rise 46 = .ok (.ireturn, 1) := by decide +kernel
theorem dX10_rise_47 : decode cX10_rise 47 = .ok (.iinc 2 1, 3) := by decide +kernel
theorem dX10_rise_50 : decode cX10_rise 50 = .ok (.goto (-28), 3) := by decide +kernel
theorem dX10_rise_53 : decode cX10_rise 53 = .ok (.aload_n 0, 1) := by decide +kernel
theorem dX10_rise_54 : decode cX10_rise 54 = .ok (.iconst 0, 1) := by decide +kernel
theorem dX10_rise_55 : decode cX10_rise 55 = .ok (.putfield 313, 3) := by decide +kernel
theorem dX10_rise_58 : decode cX10_rise 58 = .ok (.aload_n 0, 1) := by decide +kernel
theorem dX10_rise_59 : decode cX10_rise 59 = .ok (.aload_n 0, 1) := by decide +kernel
theorem dX10_rise_60 : decode cX10_rise 60 = .ok (.getfield 31, 3) := by decide +kernel
theorem dX10_rise_63 : decode cX10_rise 63 = .ok (.iload_n 1, 1) := by decide +kernel
theorem dX10_rise_64 : decode cX10_rise 64 = .ok (.iaload, 1) := by decide +kernel
theorem dX10_rise_65 : decode cX10_rise 65 = .ok (.putfield 316, 3) := by decide +kernel
theorem dX10_rise_68 : decode cX10_rise 68 = .ok (.iconst 1, 1) := by decide +kernel
theorem dX10_rise_69 : decode cX10_rise 69 = .ok (.aload_n 0, 1) := by decide +kernel
theorem dX10_rise_70 : decode cX10_rise 70 = .ok (.getfield 176, 3) := by decide +kernel
theorem dX10_rise_73 : decode cX10_rise 73 = .ok (.ishl, 1) := by decide +kernel
theorem dX10_rise_74 : decode cX10_rise 74 = .ok (.iconst 1, 1) := by decide +kernel
theorem dX10_rise_75 : decode cX10_rise 75 = .ok (.isub, 1) := by decide +kernel
theorem dX10_rise_76 : decode cX10_rise 76 = .ok (.istore_n 2, 1) := by decide +kernel
theorem dX10_rise_77 : decode cX10_rise 77 = .ok (.iload_n 2, 1) := by decide +kernel
theorem dX10_rise_78 : decode cX10_rise 78 = .ok (.invokestatic 319, 3) := by decide +kernel
theorem dX10_rise_81 : decode cX10_rise 81 = .ok (.iconst 1, 1) := by decide +kernel
theorem dX10_rise_82 : decode cX10_rise 82 = .ok (.if_icmp .le 124, 3) := by decide +kernel
theorem dX10_rise_85 : decode cX10_rise 85 = .ok (.iconst (-1), 1) := by decide +kernel
theorem dX10_rise_86 : decode cX10_rise 86 = .ok (.istore_n 3, 1) := by decide +kernel
theorem dX10_rise_87 : decode cX10_rise 87 = .ok (.iconst 0, 1) := by decide +kernel
theorem dX10_rise_88 : decode cX10_rise 88 = .ok (.istore 4, 2) := by decide +kernel
theorem dX10_rise_90 : decode cX10_rise 90 = .ok (.iconst 0, 1) := by decide +kernel
theorem dX10_rise_91 : decode cX10_rise 91 = .ok (.istore 5, 2) := by decide +kernel
theorem dX10_rise_93 : decode cX10_rise 93 = .ok (.iload 5, 2) := by decide +kernel
theorem dX10_rise_95 : decode cX10_rise 95 = .ok (.aload_n 0, 1) := by decide +kernel
theorem dX10_rise_96 : decode cX10_rise 96 = .ok (.getfield 176, 3) := by decide +kernel
theorem dX10_rise_99 : decode cX10_rise 99 = .ok (.if_icmp .ge 50, 3) := by decide +kernel
theorem dX10_rise_102 : decode cX10_rise 102 = .ok (.iload_n 2, 1) := by decide +kernel
theorem dX10_rise_103 : decode cX10_rise 103 = .ok (.iload 5, 2) := by decide +kernel
theorem dX10_rise_105 : decode cX10_rise 105 = .ok (.ishr, 1) := by decide +kernel
theorem dX10_rise_106 : decode cX10_rise 106 = .ok (.iconst 1, 1) := by decide +kernel
theorem dX10_rise_107 : decode cX10_rise 107 = .ok (.iand, 1) := by decide +kernel
theorem dX10_rise_108 : decode cX10_rise 108 = .ok (.ifCond .ne 6, 3) := by decide +kernel
theorem dX10_rise_111 : decode cX10_rise 111 = .ok (.goto 32, 3) := by decide +kernel
theorem dX10_rise_114 : decode cX10_rise 114 = .ok (.aload_n 0, 1) := by decide +kernel
theorem dX10_rise_115 : decode cX10_rise 115 = .ok (.iload_n 1, 1) := by decide +kernel
theorem dX10_rise_116 : decode cX10_rise 116 = .ok (.iload 5, 2) := by decide +kernel
theorem dX10_rise_118 : decode cX10_rise 118 = .ok (.iload_n 2, 1) := by decide +kernel
theorem dX10_rise_119 : decode cX10_rise 119 = .ok (.invokevirtual 324, 3) := by decide +kernel
theorem dX10_rise_122 : decode cX10_rise 122 = .ok (.istore 6, 2) := by decide +kernel
theorem dX10_rise_124 : decode cX10_rise 124 = .ok (.iload_n 3, 1) := by decide +kernel
theorem dX10_rise_125 : decode cX10_rise 125 = .ok (.iconst (-1), 1) := by decide +kernel
theorem dX10_rise_126 : decode cX10_rise 126 = .ok (.if_icmp .eq 10, 3) := by decide +kernel
theorem dX10_rise_129 : decode cX10_rise 129 = .ok (.iload 6, 2) := by decide +kernel
theorem dX10_rise_131 : decode cX10_rise 131 = .ok (.iload 4, 2) := by decide +kernel
theorem dX10_rise_133 : decode cX10_rise 133 = .ok (.if_icmp .ge 10, 3) := by decide +kernel
theorem dX10_rise_136 : decode cX10_rise 136 = .ok (.iload 5, 2) := by decide +kernel
theorem dX10_rise_138 : decode cX10_rise 138 = .ok (.istore_n 3, 1) := by decide +kernel
theorem dX10_rise_139 : decode cX10_rise 139 = .ok (.iload 6, 2) := by decide +kernel
theorem dX10_rise_141 : decode cX10_rise 141 = .ok (.istore 4, 2) := by decide +kernel
theorem dX10_rise_143 : decode cX10_rise 143 = .ok (.iinc 5 1, 3) := by decide +kernel
theorem dX10_rise_146 : decode cX10_rise 146 = .ok (.goto (-53), 3) := by decide +kernel
theorem dX10_rise_149 : decode cX10_rise 149 = .ok (.aload_n 0, 1) := by decide +kernel
theorem dX10_rise_150 : decode cX10_rise 150 = .ok (.aload_n 0, 1) := by decide +kernel
theorem dX10_rise_151 : decode cX10_rise 151 = .ok (.getfield 316, 3) := by decide +kernel
theorem dX10_rise_154 : decode cX10_rise 154 = .ok (.iload 4, 2) := by decide +kernel
theorem dX10_rise_156 : decode cX10_rise 156 = .ok (.invokestatic 208, 3) := by decide +kernel
theorem dX10_rise_159 : decode cX10_rise 159 = .ok (.putfield 316, 3) := by decide +kernel
theorem dX10_rise_162 : decode cX10_rise 162 = .ok (.aload_n 0, 1) := by decide +kernel
theorem dX10_rise_163 : decode cX10_rise 163 = .ok (.getfield 64, 3) := by decide +kernel
theorem dX10_rise_166 : decode cX10_rise 166 = .ok (.aload_n 0, 1) := by decide +kernel
theorem dX10_rise_167 : decode cX10_rise 167 = .ok (.getfield 313, 3) := by decide +kernel
theorem dX10_rise_170 : decode cX10_rise 170 = .ok (.iload_n 3, 1) := by decide +kernel
theorem dX10_rise_171 : decode cX10_rise 171 = .ok (.iastore, 1) := by decide +kernel
theorem dX10_rise_172 : decode cX10_rise 172 = .ok (.aload_n 0, 1) := by decide +kernel
theorem dX10_rise_173 : decode cX10_rise 173 = .ok (.getfield 67, 3) := by decide +kernel
theorem dX10_rise_176 : decode cX10_rise 176 = .ok (.aload_n 0, 1) := by decide +kernel
theorem dX10_rise_177 : decode cX10_rise 177 = .ok (.getfield 313, 3) := by decide +kernel
theorem dX10_rise_180 : decode cX10_rise 180 = .ok (.aload_n 0, 1) := by decide +kernel
theorem dX10_rise_181 : decode cX10_rise 181 = .ok (.getfield 316, 3) := by decide +kernel
theorem dX10_rise_184 : decode cX10_rise 184 = .ok (.iastore, 1) := by decide +kernel
theorem dX10_rise_185 : decode cX10_rise 185 = .ok (.aload_n 0, 1) := by decide +kernel
theorem dX10_rise_186 : decode cX10_rise 186 = .ok (.dup, 1) := by decide +kernel
theorem dX10_rise_187 : decode cX10_rise 187 = .ok (.getfield 313, 3) := by decide +kernel
theorem dX10_rise_190 : decode cX10_rise 190 = .ok (.iconst 1, 1) := by decide +kernel
theorem dX10_rise_191 : decode cX10_rise 191 = .ok (.iadd, 1) := by decide +kernel
theorem dX10_rise_192 : decode cX10_rise 192 = .ok (.putfield 313, 3) := by decide +kernel
theorem dX10_rise_195 : decode cX10_rise 195 = .ok (.iload_n 2, 1) := by decide +kernel
theorem dX10_rise_196 : decode cX10_rise 196 = .ok (.iconst 1, 1) := by decide +kernel
theorem dX10_rise_197 : decode cX10_rise 197 = .ok (.iload_n 3, 1) := by decide +kernel
theorem dX10_rise_198 : decode cX10_rise 198 = .ok (.ishl, 1) := by decide +kernel
theorem dX10_rise_199 : decode cX10_rise 199 = .ok (.iconst (-1), 1) := by decide +kernel
theorem dX10_rise_200 : decode cX10_rise 200 = .ok (.ixor, 1) := by decide +kernel
theorem dX10_rise_201 : decode cX10_rise 201 = .ok (.iand, 1) := by decide +kernel
theorem dX10_rise_202 : decode cX10_rise 202 = .ok (.istore_n 2, 1) := by decide +kernel
theorem dX10_rise_203 : decode cX10_rise 203 = .ok (.goto (-126), 3) := by decide +kernel
theorem dX10_rise_206 : decode cX10_rise 206 = .ok (.aload_n 0, 1) := by decide +kernel
theorem dX10_rise_207 : decode cX10_rise 207 = .ok (.iload_n 2, 1) := by decide +kernel
theorem dX10_rise_208 : decode cX10_rise 208 = .ok (.invokestatic 327, 3) := by decide +kernel
theorem dX10_rise_211 : decode cX10_rise 211 = .ok (.putfield 330, 3) := by decide +kernel
theorem dX10_rise_214 : decode cX10_rise 214 = .ok (.iconst 1, 1) := by decide +kernel
theorem dX10_rise_215 : decode cX10_rise 215 = .ok (.ireturn, 1) := by decide +kernel
theorem dX10_heldOf_0 : decode cX10_heldOf 0 = .ok (.iconst 0, 1) := by decide +kernel
theorem dX10_heldOf_1 : decode cX10_heldOf 1 = .ok (.istore 4, 2) := by decide +kernel
theorem dX10_heldOf_3 : decode cX10_heldOf 3 = .ok (.iload 4, 2) := by decide +kernel
theorem dX10_heldOf_5 : decode cX10_heldOf 5 = .ok (.iconst 5, 1) := by decide +kernel
theorem dX10_heldOf_6 : decode cX10_heldOf 6 = .ok (.if_icmp .ge 35, 3) := by decide +kernel
theorem dX10_heldOf_9 : decode cX10_heldOf 9 = .ok (.aload_n 0, 1) := by decide +kernel
theorem dX10_heldOf_10 : decode cX10_heldOf 10 = .ok (.getfield 40, 3) := by decide +kernel
theorem dX10_heldOf_13 : decode cX10_heldOf 13 = .ok (.iload 4, 2) := by decide +kernel
theorem dX10_heldOf_15 : decode cX10_heldOf 15 = .ok (.iload 4, 2) := by decide +kernel
theorem dX10_heldOf_17 : decode cX10_heldOf 17 = .ok (.aload_n 0, 1) := by decide +kernel
theorem dX10_heldOf_18 : decode cX10_heldOf 18 = .ok (.getfield 61, 3) := by decide +kernel
theorem dX10_heldOf_21 : decode cX10_heldOf 21 = .ok (.iload_n 2, 1) := by decide +kernel
theorem dX10_heldOf_22 : decode cX10_heldOf 22 = .ok (.iaload, 1) := by decide +kernel
theorem dX10_heldOf_23 : decode cX10_heldOf 23 = .ok (.if_icmp .ne 10, 3) := by decide +kernel
theorem dX10_heldOf_26 : decode cX10_heldOf 26 = .ok (.iload_n 3, 1) := by decide +kernel
theorem dX10_heldOf_27 : decode cX10_heldOf 27 = .ok (.invokestatic 319, 3) := by decide +kernel
theorem dX10_heldOf_30 : decode cX10_heldOf 30 = .ok (.goto 4, 3) := by decide +kernel
theorem dX10_heldOf_33 : decode cX10_heldOf 33 = .ok (.iconst 0, 1) := by decide +kernel
theorem dX10_heldOf_34 : decode cX10_heldOf 34 = .ok (.iastore, 1) := by decide +kernel
theorem dX10_heldOf_35 : decode cX10_heldOf 35 = .ok (.iinc 4 1, 3) := by decide +kernel
theorem dX10_heldOf_38 : decode cX10_heldOf 38 = .ok (.goto (-35), 3) := by decide +kernel
theorem dX10_heldOf_41 : decode cX10_heldOf 41 = .ok (.iconst 0, 1) := by decide +kernel
theorem dX10_heldOf_42 : decode cX10_heldOf 42 = .ok (.istore 4, 2) := by decide +kernel
theorem dX10_heldOf_44 : decode cX10_heldOf 44 = .ok (.iload 4, 2) := by decide +kernel
theorem dX10_heldOf_46 : decode cX10_heldOf 46 = .ok (.aload_n 0, 1) := by decide +kernel
theorem dX10_heldOf_47 : decode cX10_heldOf 47 = .ok (.getfield 176, 3) := by decide +kernel
theorem dX10_heldOf_50 : decode cX10_heldOf 50 = .ok (.if_icmp .ge 38, 3) := by decide +kernel
theorem dX10_heldOf_53 : decode cX10_heldOf 53 = .ok (.aload_n 0, 1) := by decide +kernel
theorem dX10_heldOf_54 : decode cX10_heldOf 54 = .ok (.getfield 40, 3) := by decide +kernel
theorem dX10_heldOf_57 : decode cX10_heldOf 57 = .ok (.aload_n 0, 1) := by decide +kernel
theorem dX10_heldOf_58 : decode cX10_heldOf 58 = .ok (.getfield 61, 3) := by decide +kernel
theorem dX10_heldOf_61 : decode cX10_heldOf 61 = .ok (.iload 4, 2) := by decide +kernel
theorem dX10_heldOf_63 : decode cX10_heldOf 63 = .ok (.iaload, 1) := by decide +kernel
theorem dX10_heldOf_64 : decode cX10_heldOf 64 = .ok (.dup2, 1) := by decide +kernel
theorem dX10_heldOf_65 : decode cX10_heldOf 65 = .ok (.iaload, 1) := by decide +kernel
theorem dX10_heldOf_66 : decode cX10_heldOf 66 = .ok (.iload_n 3, 1) := by decide +kernel
theorem dX10_heldOf_67 : decode cX10_heldOf 67 = .ok (.iload 4, 2) := by decide +kernel
theorem dX10_heldOf_69 : decode cX10_heldOf 69 = .ok (.ishr, 1) := by decide +kernel
theorem dX10_heldOf_70 : decode cX10_heldOf 70 = .ok (.iconst 1, 1) := by decide +kernel
theorem dX10_heldOf_71 : decode cX10_heldOf 71 = .ok (.iand, 1) := by decide +kernel
theorem dX10_heldOf_72 : decode cX10_heldOf 72 = .ok (.ifCond .ne 7, 3) := by decide +kernel
theorem dX10_heldOf_75 : decode cX10_heldOf 75 = .ok (.iconst 1, 1) := by decide +kernel
theorem dX10_heldOf_76 : decode cX10_heldOf 76 = .ok (.goto 4, 3) := by decide +kernel
theorem dX10_heldOf_79 : decode cX10_heldOf 79 = .ok (.iconst 0, 1) := by decide +kernel
theorem dX10_heldOf_80 : decode cX10_heldOf 80 = .ok (.iadd, 1) := by decide +kernel
theorem dX10_heldOf_81 : decode cX10_heldOf 81 = .ok (.iastore, 1) := by decide +kernel
theorem dX10_heldOf_82 : decode cX10_heldOf 82 = .ok (.iinc 4 1, 3) := by decide +kernel
theorem dX10_heldOf_85 : decode cX10_heldOf 85 = .ok (.goto (-41), 3) := by decide +kernel
theorem dX10_heldOf_88 : decode cX10_heldOf 88 = .ok (.aload_n 0, 1) := by decide +kernel
theorem dX10_heldOf_89 : decode cX10_heldOf 89 = .ok (.iload_n 1, 1) := by decide +kernel
theorem dX10_heldOf_90 : decode cX10_heldOf 90 = .ok (.invokevirtual 149, 3) := by decide +kernel
theorem dX10_heldOf_93 : decode cX10_heldOf 93 = .ok (.ireturn, 1) := by decide +kernel
theorem dX10_open_0 : decode cX10_open 0 = .ok (.iload_n 2, 1) := by decide +kernel
theorem dX10_open_1 : decode cX10_open 1 = .ok (.iconst 0, 1) := by decide +kernel
theorem dX10_open_2 : decode cX10_open 2 = .ok (.iconst 1, 1) := by decide +kernel
theorem dX10_open_3 : decode cX10_open 3 = .ok (.invokestatic 107, 3) := by decide +kernel
theorem dX10_open_6 : decode cX10_open 6 = .ok (.ifCond .eq 29, 3) := by decide +kernel
theorem dX10_open_9 : decode cX10_open 9 = .ok (.aload_n 0, 1) := by decide +kernel
theorem dX10_open_10 : decode cX10_open 10 = .ok (.iload_n 1, 1) := by decide +kernel
theorem dX10_open_11 : decode cX10_open 11 = .ok (.invokevirtual 333, 3) := by decide +kernel
theorem dX10_open_14 : decode cX10_open 14 = .ok (.ifCond .eq 21, 3) := by decide +kernel
theorem dX10_open_17 : decode cX10_open 17 = .ok (.iload_n 2, 1) := by decide +kernel
theorem dX10_open_18 : decode cX10_open 18 = .ok (.ifCond .ne 10, 3) := by decide +kernel
theorem dX10_open_21 : decode cX10_open 21 = .ok (.aload_n 0, 1) := by decide +kernel
theorem dX10_open_22 : decode cX10_open 22 = .ok (.getfield 330, 3) := by decide +kernel
theorem dX10_open_25 : decode cX10_open 25 = .ok (.goto 11, 3) := by decide +kernel
theorem dX10_open_28 : decode cX10_open 28 = .ok (.aload_n 0, 1) := by decide +kernel
theorem dX10_open_29 : decode cX10_open 29 = .ok (.getfield 316, 3) := by decide +kernel
theorem dX10_open_32 : decode cX10_open 32 = .ok (.goto 4, 3) := by decide +kernel
theorem dX10_open_35 : decode cX10_open 35 = .ok (.iconst (-1), 1) := by decide +kernel
theorem dX10_open_36 : decode cX10_open 36 = .ok (.ireturn, 1) := by decide +kernel
theorem dX10_leaves_0 : decode cX10_leaves 0 = .ok (.iload_n 3, 1) := by decide +kernel
theorem dX10_leaves_1 : decode cX10_leaves 1 = .ok (.iconst 0, 1) := by decide +kernel
theorem dX10_leaves_2 : decode cX10_leaves 2 = .ok (.iconst 1, 1) := by decide +kernel
theorem dX10_leaves_3 : decode cX10_leaves 3 = .ok (.invokestatic 107, 3) := by decide +kernel
theorem dX10_leaves_6 : decode cX10_leaves 6 = .ok (.ifCond .eq 47, 3) := by decide +kernel
theorem dX10_leaves_9 : decode cX10_leaves 9 = .ok (.aload_n 0, 1) := by decide +kernel
theorem dX10_leaves_10 : decode cX10_leaves 10 = .ok (.iload_n 1, 1) := by decide +kernel
theorem dX10_leaves_11 : decode cX10_leaves 11 = .ok (.invokevirtual 333, 3) := by decide +kernel
theorem dX10_leaves_14 : decode cX10_leaves 14 = .ok (.ifCond .eq 39, 3) := by decide +kernel
theorem dX10_leaves_17 : decode cX10_leaves 17 = .ok (.iload_n 2, 1) := by decide +kernel
theorem dX10_leaves_18 : decode cX10_leaves 18 = .ok (.iconst 0, 1) := by decide +kernel
theorem dX10_leaves_19 : decode cX10_leaves 19 = .ok (.aload_n 0, 1) := by decide +kernel
theorem dX10_leaves_20 : decode cX10_leaves 20 = .ok (.getfield 313, 3) := by decide +kernel
theorem dX10_leaves_23 : decode cX10_leaves 23 = .ok (.iconst 1, 1) := by decide +kernel
theorem dX10_leaves_24 : decode cX10_leaves 24 = .ok (.isub, 1) := by decide +kernel
theorem dX10_leaves_25 : decode cX10_leaves 25 = .ok (.invokestatic 107, 3) := by decide +kernel
theorem dX10_leaves_28 : decode cX10_leaves 28 = .ok (.ifCond .eq 25, 3) := by decide +kernel
theorem dX10_leaves_31 : decode cX10_leaves 31 = .ok (.iload_n 3, 1) := by decide +kernel
theorem dX10_leaves_32 : decode cX10_leaves 32 = .ok (.ifCond .ne 12, 3) := by decide +kernel
theorem dX10_leaves_35 : decode cX10_leaves 35 = .ok (.aload_n 0, 1) := by decide +kernel
theorem dX10_leaves_36 : decode cX10_leaves 36 = .ok (.getfield 64, 3) := by decide +kernel
theorem dX10_leaves_39 : decode cX10_leaves 39 = .ok (.iload_n 2, 1) := by decide +kernel
theorem dX10_leaves_40 : decode cX10_leaves 40 = .ok (.iaload, 1) := by decide +kernel
theorem dX10_leaves_41 : decode cX10_leaves 41 = .ok (.goto 13, 3) := by decide +kernel
theorem dX10_leaves_44 : decode cX10_leaves 44 = .ok (.aload_n 0, 1) := by decide +kernel
theorem dX10_leaves_45 : decode cX10_leaves 45 = .ok (.getfield 67, 3) := by decide +kernel
theorem dX10_leaves_48 : decode cX10_leaves 48 = .ok (.iload_n 2, 1) := by decide +kernel
theorem dX10_leaves_49 : decode cX10_leaves 49 = .ok (.iaload, 1) := by decide +kernel
theorem dX10_leaves_50 : decode cX10_leaves 50 = .ok (.goto 4, 3) := by decide +kernel
theorem dX10_leaves_53 : decode cX10_leaves 53 = .ok (.iconst (-1), 1) := by decide +kernel
theorem dX10_leaves_54 : decode cX10_leaves 54 = .ok (.ireturn, 1) := by decide +kernel
theorem dX10_draw_0 : decode cX10_draw 0 = .ok (.aload_n 0, 1) := by decide +kernel
theorem dX10_draw_1 : decode cX10_draw 1 = .ok (.aload_n 0, 1) := by decide +kernel
theorem dX10_draw_2 : decode cX10_draw 2 = .ok (.getfield 336, 3) := by decide +kernel
theorem dX10_draw_5 : decode cX10_draw 5 = .ok (.ldc2_w 339, 3) := by decide +kernel
theorem dX10_draw_8 : decode cX10_draw 8 = .ok (.lmul, 1) := by decide +kernel
theorem dX10_draw_9 : decode cX10_draw 9 = .ok (.ldc2_w 341, 3) := by decide +kernel
theorem dX10_draw_12 : decode cX10_draw 12 = .ok (.ladd, 1) := by decide +kernel
theorem dX10_draw_13 : decode cX10_draw 13 = .ok (.putfield 336, 3) := by decide +kernel
theorem dX10_draw_16 : decode cX10_draw 16 = .ok (.aload_n 0, 1) := by decide +kernel
theorem dX10_draw_17 : decode cX10_draw 17 = .ok (.getfield 336, 3) := by decide +kernel
theorem dX10_draw_20 : decode cX10_draw 20 = .ok (.bipush 33, 2) := by decide +kernel
theorem dX10_draw_22 : decode cX10_draw 22 = .ok (.lushr, 1) := by decide +kernel
theorem dX10_draw_23 : decode cX10_draw 23 = .ok (.iload_n 1, 1) := by decide +kernel
theorem dX10_draw_24 : decode cX10_draw 24 = .ok (.i2l, 1) := by decide +kernel
theorem dX10_draw_25 : decode cX10_draw 25 = .ok (.lrem, 1) := by decide +kernel
theorem dX10_draw_26 : decode cX10_draw 26 = .ok (.l2i, 1) := by decide +kernel
theorem dX10_draw_27 : decode cX10_draw 27 = .ok (.ireturn, 1) := by decide +kernel
theorem dX10_drawTruth_0 : decode cX10_drawTruth 0 = .ok (.aload_n 0, 1) := by decide +kernel
theorem dX10_drawTruth_1 : decode cX10_drawTruth 1 = .ok (.aload_n 0, 1) := by decide +kernel
theorem dX10_drawTruth_2 : decode cX10_drawTruth 2 = .ok (.iload_n 1, 1) := by decide +kernel
theorem dX10_drawTruth_3 : decode cX10_drawTruth 3 = .ok (.invokevirtual 132, 3) := by decide +kernel
theorem dX10_drawTruth_6 : decode cX10_drawTruth 6 = .ok (.invokevirtual 343, 3) := by decide +kernel
theorem dX10_drawTruth_9 : decode cX10_drawTruth 9 = .ok (.istore_n 2, 1) := by decide +kernel
theorem dX10_drawTruth_10 : decode cX10_drawTruth 10 = .ok (.iconst 0, 1) := by decide +kernel
theorem dX10_drawTruth_11 : decode cX10_drawTruth 11 = .ok (.istore_n 3, 1) := by decide +kernel
theorem dX10_drawTruth_12 : decode cX10_drawTruth 12 = .ok (.iload_n 2, 1) := by decide +kernel
theorem dX10_drawTruth_13 : decode cX10_drawTruth 13 = .ok (.aload_n 0, 1) := by decide +kernel
theorem dX10_drawTruth_14 : decode cX10_drawTruth 14 = .ok (.getfield 22, 3) := by decide +kernel
theorem dX10_drawTruth_17 : decode cX10_drawTruth 17 = .ok (.bipush 8, 2) := by decide +kernel
theorem dX10_drawTruth_19 : decode cX10_drawTruth 19 = .ok (.iload_n 1, 1) := by decide +kernel
theorem dX10_drawTruth_20 : decode cX10_drawTruth 20 = .ok (.imul, 1) := by decide +kernel
theorem dX10_drawTruth_21 : decode cX10_drawTruth 21 = .ok (.iload_n 3, 1) := by decide +kernel
theorem dX10_drawTruth_22 : decode cX10_drawTruth 22 = .ok (.iadd, 1) := by decide +kernel
theorem dX10_drawTruth_23 : decode cX10_drawTruth 23 = .ok (.iaload, 1) := by decide +kernel
theorem dX10_drawTruth_24 : decode cX10_drawTruth 24 = .ok (.if_icmp .lt 23, 3) := by decide +kernel
theorem dX10_drawTruth_27 : decode cX10_drawTruth 27 = .ok (.iload_n 2, 1) := by decide +kernel
theorem dX10_drawTruth_28 : decode cX10_drawTruth 28 = .ok (.aload_n 0, 1) := by decide +kernel
theorem dX10_drawTruth_29 : decode cX10_drawTruth 29 = .ok (.getfield 22, 3) := by decide +kernel
theorem dX10_drawTruth_32 : decode cX10_drawTruth 32 = .ok (.bipush 8, 2) := by decide +kernel
theorem dX10_drawTruth_34 : decode cX10_drawTruth 34 = .ok (.iload_n 1, 1) := by decide +kernel
theorem dX10_drawTruth_35 : decode cX10_drawTruth 35 = .ok (.imul, 1) := by decide +kernel
theorem dX10_drawTruth_36 : decode cX10_drawTruth 36 = .ok (.iload_n 3, 1) := by decide +kernel
theorem dX10_drawTruth_37 : decode cX10_drawTruth 37 = .ok (.iadd, 1) := by decide +kernel
theorem dX10_drawTruth_38 : decode cX10_drawTruth 38 = .ok (.iaload, 1) := by decide +kernel
theorem dX10_drawTruth_39 : decode cX10_drawTruth 39 = .ok (.isub, 1) := by decide +kernel
theorem dX10_drawTruth_40 : decode cX10_drawTruth 40 = .ok (.istore_n 2, 1) := by decide +kernel
theorem dX10_drawTruth_41 : decode cX10_drawTruth 41 = .ok (.iinc 3 1, 3) := by decide +kernel
theorem dX10_drawTruth_44 : decode cX10_drawTruth 44 = .ok (.goto (-32), 3) := by decide +kernel
theorem dX10_drawTruth_47 : decode cX10_drawTruth 47 = .ok (.iload_n 3, 1) := by decide +kernel
theorem dX10_drawTruth_48 : decode cX10_drawTruth 48 = .ok (.ireturn, 1) := by decide +kernel
theorem dX10_drawSign_0 : decode cX10_drawSign 0 = .ok (.aload_n 0, 1) := by decide +kernel
theorem dX10_drawSign_1 : decode cX10_drawSign 1 = .ok (.bipush 10, 2) := by decide +kernel
theorem dX10_drawSign_3 : decode cX10_drawSign 3 = .ok (.invokevirtual 343, 3) := by decide +kernel
theorem dX10_drawSign_6 : decode cX10_drawSign 6 = .ok (.istore_n 3, 1) := by decide +kernel
theorem dX10_drawSign_7 : decode cX10_drawSign 7 = .ok (.iconst 0, 1) := by decide +kernel
theorem dX10_drawSign_8 : decode cX10_drawSign 8 = .ok (.istore 4, 2) := by decide +kernel
theorem dX10_drawSign_10 : decode cX10_drawSign 10 = .ok (.iload_n 3, 1) := by decide +kernel
theorem dX10_drawSign_11 : decode cX10_drawSign 11 = .ok (.aload_n 0, 1) := by decide +kernel
theorem dX10_drawSign_12 : decode cX10_drawSign 12 = .ok (.getfield 25, 3) := by decide +kernel
theorem dX10_drawSign_15 : decode cX10_drawSign 15 = .ok (.iconst 5, 1) := by decide +kernel
theorem dX10_drawSign_16 : decode cX10_drawSign 16 = .ok (.bipush 8, 2) := by decide +kernel
theorem dX10_drawSign_18 : decode cX10_drawSign 18 = .ok (.iload_n 1, 1) := by decide +kernel
theorem dX10_drawSign_19 : decode cX10_drawSign 19 = .ok (.imul, 1) := by decide +kernel
theorem dX10_drawSign_20 : decode cX10_drawSign 20 = .ok (.iload_n 2, 1) := by decide +kernel
theorem dX10_drawSign_21 : decode cX10_drawSign 21 = .ok (.iadd, 1) := by decide +kernel
theorem dX10_drawSign_22 : decode cX10_drawSign 22 = .ok (.imul, 1) := by decide +kernel
theorem dX10_drawSign_23 : decode cX10_drawSign 23 = .ok (.iload 4, 2) := by decide +kernel
theorem dX10_drawSign_25 : decode cX10_drawSign 25 = .ok (.iadd, 1) := by decide +kernel
theorem dX10_drawSign_26 : decode cX10_drawSign 26 = .ok (.iaload, 1) := by decide +kernel
theorem dX10_drawSign_27 : decode cX10_drawSign 27 = .ok (.if_icmp .lt 28, 3) := by decide +kernel
theorem dX10_drawSign_30 : decode cX10_drawSign 30 = .ok (.iload_n 3, 1) := by decide +kernel
theorem dX10_drawSign_31 : decode cX10_drawSign 31 = .ok (.aload_n 0, 1) := by decide +kernel
theorem dX10_drawSign_32 : decode cX10_drawSign 32 = .ok (.getfield 25, 3) := by decide +kernel
theorem dX10_drawSign_35 : decode cX10_drawSign 35 = .ok (.iconst 5, 1) := by decide +kernel
theorem dX10_drawSign_36 : decode cX10_drawSign 36 = .ok (.bipush 8, 2) := by decide +kernel
theorem dX10_drawSign_38 : decode cX10_drawSign 38 = .ok (.iload_n 1, 1) := by decide +kernel
theorem dX10_drawSign_39 : decode cX10_drawSign 39 = .ok (.imul, 1) := by decide +kernel
theorem dX10_drawSign_40 : decode cX10_drawSign 40 = .ok (.iload_n 2, 1) := by decide +kernel
theorem dX10_drawSign_41 : decode cX10_drawSign 41 = .ok (.iadd, 1) := by decide +kernel
theorem dX10_drawSign_42 : decode cX10_drawSign 42 = .ok (.imul, 1) := by decide +kernel
theorem dX10_drawSign_43 : decode cX10_drawSign 43 = .ok (.iload 4, 2) := by decide +kernel
theorem dX10_drawSign_45 : decode cX10_drawSign 45 = .ok (.iadd, 1) := by decide +kernel
theorem dX10_drawSign_46 : decode cX10_drawSign 46 = .ok (.iaload, 1) := by decide +kernel
theorem dX10_drawSign_47 : decode cX10_drawSign 47 = .ok (.isub, 1) := by decide +kernel
theorem dX10_drawSign_48 : decode cX10_drawSign 48 = .ok (.istore_n 3, 1) := by decide +kernel
theorem dX10_drawSign_49 : decode cX10_drawSign 49 = .ok (.iinc 4 1, 3) := by decide +kernel
theorem dX10_drawSign_52 : decode cX10_drawSign 52 = .ok (.goto (-42), 3) := by decide +kernel
theorem dX10_drawSign_55 : decode cX10_drawSign 55 = .ok (.iload 4, 2) := by decide +kernel
theorem dX10_drawSign_57 : decode cX10_drawSign 57 = .ok (.ireturn, 1) := by decide +kernel
theorem dX10_learn_0 : decode cX10_learn 0 = .ok (.aload_n 0, 1) := by decide +kernel
theorem dX10_learn_1 : decode cX10_learn 1 = .ok (.iload_n 1, 1) := by decide +kernel
theorem dX10_learn_2 : decode cX10_learn 2 = .ok (.invokevirtual 129, 3) := by decide +kernel
theorem dX10_learn_5 : decode cX10_learn 5 = .ok (.ifCond .eq 15, 3) := by decide +kernel
theorem dX10_learn_8 : decode cX10_learn 8 = .ok (.iload 4, 2) := by decide +kernel
theorem dX10_learn_10 : decode cX10_learn 10 = .ok (.iconst 1, 1) := by decide +kernel
theorem dX10_learn_11 : decode cX10_learn 11 = .ok (.sipush 400, 3) := by decide +kernel
theorem dX10_learn_14 : decode cX10_learn 14 = .ok (.invokestatic 107, 3) := by decide +kernel
theorem dX10_learn_17 : decode cX10_learn 17 = .ok (.ifCond .ne 5, 3) := by decide +kernel
theorem dX10_learn_20 : decode cX10_learn 20 = .ok (.iconst (-1), 1) := by decide +kernel
theorem dX10_learn_21 : decode cX10_learn 21 = .ok (.ireturn, 1) := by decide +kernel
theorem dX10_learn_22 : decode cX10_learn 22 = .ok (.aload_n 0, 1) := by decide +kernel
theorem dX10_learn_23 : decode cX10_learn 23 = .ok (.iload_n 1, 1) := by decide +kernel
theorem dX10_learn_24 : decode cX10_learn 24 = .ok (.invokevirtual 199, 3) := by decide +kernel
theorem dX10_learn_27 : decode cX10_learn 27 = .ok (.aload_n 0, 1) := by decide +kernel
theorem dX10_learn_28 : decode cX10_learn 28 = .ok (.aload_n 0, 1) := by decide +kernel
theorem dX10_learn_29 : decode cX10_learn 29 = .ok (.getfield 176, 3) := by decide +kernel
theorem dX10_learn_32 : decode cX10_learn 32 = .ok (.putfield 346, 3) := by decide +kernel
theorem dX10_learn_35 : decode cX10_learn 35 = .ok (.aload_n 0, 1) := by decide +kernel
theorem dX10_learn_36 : decode cX10_learn 36 = .ok (.aload_n 0, 1) := by decide +kernel
theorem dX10_learn_37 : decode cX10_learn 37 = .ok (.getfield 13, 3) := by decide +kernel
theorem dX10_learn_40 : decode cX10_learn 40 = .ok (.iload_n 1, 1) := by decide +kernel
theorem dX10_learn_41 : decode cX10_learn 41 = .ok (.iaload, 1) := by decide +kernel
theorem dX10_learn_42 : decode cX10_learn 42 = .ok (.putfield 349, 3) := by decide +kernel
theorem dX10_learn_45 : decode cX10_learn 45 = .ok (.aload_n 0, 1) := by decide +kernel
theorem dX10_learn_46 : decode cX10_learn 46 = .ok (.iconst 0, 1) := by decide +kernel
theorem dX10_learn_47 : decode cX10_learn 47 = .ok (.putfield 352, 3) := by decide +kernel
theorem dX10_learn_50 : decode cX10_learn 50 = .ok (.aload_n 0, 1) := by decide +kernel
theorem dX10_learn_51 : decode cX10_learn 51 = .ok (.lload_n 2, 1) := by decide +kernel
theorem dX10_learn_52 : decode cX10_learn 52 = .ok (.putfield 336, 3) := by decide +kernel
theorem dX10_learn_55 : decode cX10_learn 55 = .ok (.iconst 0, 1) := by decide +kernel
theorem dX10_learn_56 : decode cX10_learn 56 = .ok (.istore 5, 2) := by decide +kernel
theorem dX10_learn_58 : decode cX10_learn 58 = .ok (.iload 5, 2) := by decide +kernel
theorem dX10_learn_60 : decode cX10_learn 60 = .ok (.bipush 20, 2) := by decide +kernel
theorem dX10_learn_62 : decode cX10_learn 62 = .ok (.if_icmp .ge 23, 3) := by decide +kernel
theorem dX10_learn_65 : decode cX10_learn 65 = .ok (.aload_n 0, 1) := by decide +kernel
theorem dX10_learn_66 : decode cX10_learn 66 = .ok (.getfield 70, 3) := by decide +kernel
theorem dX10_learn_69 : decode cX10_learn 69 = .ok (.iload 5, 2) := by decide +kernel
theorem dX10_learn_71 : decode cX10_learn 71 = .ok (.aload_n 0, 1) := by decide +kernel
theorem dX10_learn_72 : decode cX10_learn 72 = .ok (.getfield 46, 3) := by decide +kernel
theorem dX10_learn_75 : decode cX10_learn 75 = .ok (.iload 5, 2) := by decide +kernel
theorem dX10_learn_77 : decode cX10_learn 77 = .ok (.iaload, 1) := by decide +kernel
theorem dX10_learn_78 : decode cX10_learn 78 = .ok (.iastore, 1) := by decide +kernel
theorem dX10_learn_79 : decode cX10_learn 79 = .ok (.iinc 5 1, 3) := by decide +kernel
theorem dX10_learn_82 : decode cX10_learn 82 = .ok (.goto (-24), 3) := by decide +kernel
theorem dX10_learn_85 : decode cX10_learn 85 = .ok (.iconst 0, 1) := by decide +kernel
theorem dX10_learn_86 : decode cX10_learn 86 = .ok (.istore 5, 2) := by decide +kernel
theorem dX10_learn_88 : decode cX10_learn 88 = .ok (.iload 5, 2) := by decide +kernel
theorem dX10_learn_90 : decode cX10_learn 90 = .ok (.iconst 4, 1) := by decide +kernel
theorem dX10_learn_91 : decode cX10_learn 91 = .ok (.if_icmp .ge 17, 3) := by decide +kernel
theorem dX10_learn_94 : decode cX10_learn 94 = .ok (.aload_n 0, 1) := by decide +kernel
theorem dX10_learn_95 : decode cX10_learn 95 = .ok (.getfield 73, 3) := by decide +kernel
theorem dX10_learn_98 : decode cX10_learn 98 = .ok (.iload 5, 2) := by decide +kernel
theorem dX10_learn_100 : decode cX10_learn 100 = .ok (.iconst 0, 1) := by decide +kernel
theorem dX10_learn_101 : decode cX10_learn 101 = .ok (.iastore, 1) := by decide +kernel
theorem dX10_learn_102 : decode cX10_learn 102 = .ok (.iinc 5 1, 3) := by decide +kernel
theorem dX10_learn_105 : decode cX10_learn 105 = .ok (.goto (-17), 3) := by decide +kernel
theorem dX10_learn_108 : decode cX10_learn 108 = .ok (.iconst 0, 1) := by decide +kernel
theorem dX10_learn_109 : decode cX10_learn 109 = .ok (.istore 5, 2) := by decide +kernel
theorem dX10_learn_111 : decode cX10_learn 111 = .ok (.iconst 0, 1) := by decide +kernel
theorem dX10_learn_112 : decode cX10_learn 112 = .ok (.istore 6, 2) := by decide +kernel
theorem dX10_learn_114 : decode cX10_learn 114 = .ok (.iload 6, 2) := by decide +kernel
theorem dX10_learn_116 : decode cX10_learn 116 = .ok (.iload 4, 2) := by decide +kernel
theorem dX10_learn_118 : decode cX10_learn 118 = .ok (.if_icmp .ge 27, 3) := by decide +kernel
theorem dX10_learn_121 : decode cX10_learn 121 = .ok (.iload 5, 2) := by decide +kernel
theorem dX10_learn_123 : decode cX10_learn 123 = .ok (.aload_n 0, 1) := by decide +kernel
theorem dX10_learn_124 : decode cX10_learn 124 = .ok (.iload_n 1, 1) := by decide +kernel
theorem dX10_learn_125 : decode cX10_learn 125 = .ok (.invokevirtual 355, 3) := by decide +kernel
theorem dX10_learn_128 : decode cX10_learn 128 = .ok (.ifCond .eq 7, 3) := by decide +kernel
theorem dX10_learn_131 : decode cX10_learn 131 = .ok (.iconst 1, 1) := by decide +kernel
theorem dX10_learn_132 : decode cX10_learn 132 = .ok (.goto 4, 3) := by decide +kernel
theorem dX10_learn_135 : decode cX10_learn 135 = .ok (.iconst 0, 1) := by decide +kernel
theorem dX10_learn_136 : decode cX10_learn 136 = .ok (.iadd, 1) := by decide +kernel
theorem dX10_learn_137 : decode cX10_learn 137 = .ok (.istore 5, 2) := by decide +kernel
theorem dX10_learn_139 : decode cX10_learn 139 = .ok (.iinc 6 1, 3) := by decide +kernel
theorem dX10_learn_142 : decode cX10_learn 142 = .ok (.goto (-28), 3) := by decide +kernel
theorem dX10_learn_145 : decode cX10_learn 145 = .ok (.iload 5, 2) := by decide +kernel
theorem dX10_learn_147 : decode cX10_learn 147 = .ok (.ireturn, 1) := by decide +kernel
theorem dX10_round_0 : decode cX10_round 0 = .ok (.aload_n 0, 1) := by decide +kernel
theorem dX10_round_1 : decode cX10_round 1 = .ok (.iload_n 1, 1) := by decide +kernel
theorem dX10_round_2 : decode cX10_round 2 = .ok (.invokevirtual 358, 3) := by decide +kernel
theorem dX10_round_5 : decode cX10_round 5 = .ok (.istore_n 2, 1) := by decide +kernel
theorem dX10_round_6 : decode cX10_round 6 = .ok (.aload_n 0, 1) := by decide +kernel
theorem dX10_round_7 : decode cX10_round 7 = .ok (.getfield 19, 3) := by decide +kernel
theorem dX10_round_10 : decode cX10_round 10 = .ok (.bipush 8, 2) := by decide +kernel
theorem dX10_round_12 : decode cX10_round 12 = .ok (.iload_n 1, 1) := by decide +kernel
theorem dX10_round_13 : decode cX10_round 13 = .ok (.imul, 1) := by decide +kernel
theorem dX10_round_14 : decode cX10_round 14 = .ok (.iload_n 2, 1) := by decide +kernel
theorem dX10_round_15 : decode cX10_round 15 = .ok (.iadd, 1) := by decide +kernel
theorem dX10_round_16 : decode cX10_round 16 = .ok (.iaload, 1) := by decide +kernel
theorem dX10_round_17 : decode cX10_round 17 = .ok (.istore_n 3, 1) := by decide +kernel
theorem dX10_round_18 : decode cX10_round 18 = .ok (.iconst 0, 1) := by decide +kernel
theorem dX10_round_19 : decode cX10_round 19 = .ok (.istore 4, 2) := by decide +kernel
theorem dX10_round_21 : decode cX10_round 21 = .ok (.iload 4, 2) := by decide +kernel
theorem dX10_round_23 : decode cX10_round 23 = .ok (.aload_n 0, 1) := by decide +kernel
theorem dX10_round_24 : decode cX10_round 24 = .ok (.getfield 176, 3) := by decide +kernel
theorem dX10_round_27 : decode cX10_round 27 = .ok (.if_icmp .ge 46, 3) := by decide +kernel
theorem dX10_round_30 : decode cX10_round 30 = .ok (.aload_n 0, 1) := by decide +kernel
theorem dX10_round_31 : decode cX10_round 31 = .ok (.getfield 52, 3) := by decide +kernel
theorem dX10_round_34 : decode cX10_round 34 = .ok (.iload 4, 2) := by decide +kernel
theorem dX10_round_36 : decode cX10_round 36 = .ok (.aload_n 0, 1) := by decide +kernel
theorem dX10_round_37 : decode cX10_round 37 = .ok (.iload_n 1, 1) := by decide +kernel
theorem dX10_round_38 : decode cX10_round 38 = .ok (.iload_n 2, 1) := by decide +kernel
theorem dX10_round_39 : decode cX10_round 39 = .ok (.invokevirtual 361, 3) := by decide +kernel
theorem dX10_round_42 : decode cX10_round 42 = .ok (.iastore, 1) := by decide +kernel
theorem dX10_round_43 : decode cX10_round 43 = .ok (.aload_n 0, 1) := by decide +kernel
theorem dX10_round_44 : decode cX10_round 44 = .ok (.getfield 49, 3) := by decide +kernel
theorem dX10_round_47 : decode cX10_round 47 = .ok (.iload 4, 2) := by decide +kernel
theorem dX10_round_49 : decode cX10_round 49 = .ok (.aload_n 0, 1) := by decide +kernel
theorem dX10_round_50 : decode cX10_round 50 = .ok (.getfield 70, 3) := by decide +kernel
theorem dX10_round_53 : decode cX10_round 53 = .ok (.iconst 5, 1) := by decide +kernel
theorem dX10_round_54 : decode cX10_round 54 = .ok (.iload 4, 2) := by decide +kernel
theorem dX10_round_56 : decode cX10_round 56 = .ok (.imul, 1) := by decide +kernel
theorem dX10_round_57 : decode cX10_round 57 = .ok (.aload_n 0, 1) := by decide +kernel
theorem dX10_round_58 : decode cX10_round 58 = .ok (.getfield 52, 3) := by decide +kernel
theorem dX10_round_61 : decode cX10_round 61 = .ok (.iload 4, 2) := by decide +kernel
theorem dX10_round_63 : decode cX10_round 63 = .ok (.iaload, 1) := by decide +kernel
theorem dX10_round_64 : decode cX10_round 64 = .ok (.iadd, 1) := by decide +kernel
theorem dX10_round_65 : decode cX10_round 65 = .ok (.iaload, 1) := by decide +kernel
theorem dX10_round_66 : decode cX10_round 66 = .ok (.iastore, 1) := by decide +kernel
theorem dX10_round_67 : decode cX10_round 67 = .ok (.iinc 4 1, 3) := by decide +kernel
theorem dX10_round_70 : decode cX10_round 70 = .ok (.goto (-49), 3) := by decide +kernel
theorem dX10_round_73 : decode cX10_round 73 = .ok (.aload_n 0, 1) := by decide +kernel
theorem dX10_round_74 : decode cX10_round 74 = .ok (.invokevirtual 258, 3) := by decide +kernel
theorem dX10_round_77 : decode cX10_round 77 = .ok (.aload_n 0, 1) := by decide +kernel
theorem dX10_round_78 : decode cX10_round 78 = .ok (.getfield 202, 3) := by decide +kernel
theorem dX10_round_81 : decode cX10_round 81 = .ok (.iconst (-1), 1) := by decide +kernel
theorem dX10_round_82 : decode cX10_round 82 = .ok (.if_icmp .ne 38, 3) := by decide +kernel
theorem dX10_round_85 : decode cX10_round 85 = .ok (.iconst 0, 1) := by decide +kernel
theorem dX10_round_86 : decode cX10_round 86 = .ok (.istore 4, 2) := by decide +kernel
theorem dX10_round_88 : decode cX10_round 88 = .ok (.iload 4, 2) := by decide +kernel
theorem dX10_round_90 : decode cX10_round 90 = .ok (.aload_n 0, 1) := by decide +kernel
theorem dX10_round_91 : decode cX10_round 91 = .ok (.getfield 176, 3) := by decide +kernel
theorem dX10_round_94 : decode cX10_round 94 = .ok (.if_icmp .ge 24, 3) := by decide +kernel
theorem dX10_round_97 : decode cX10_round 97 = .ok (.iload_n 3, 1) := by decide +kernel
theorem dX10_round_98 : decode cX10_round 98 = .ok (.aload_n 0, 1) := by decide +kernel
theorem dX10_round_99 : decode cX10_round 99 = .ok (.getfield 183, 3) := by decide +kernel
theorem dX10_round_102 : decode cX10_round 102 = .ok (.if_icmp .lt 16, 3) := by decide +kernel
theorem dX10_round_105 : decode cX10_round 105 = .ok (.aload_n 0, 1) := by decide +kernel
theorem dX10_round_106 : decode cX10_round 106 = .ok (.iload 4, 2) := by decide +kernel
theorem dX10_round_108 : decode cX10_round 108 = .ok (.iconst 1, 1) := by decide +kernel
theorem dX10_round_109 : decode cX10_round 109 = .ok (.invokevirtual 364, 3) := by decide +kernel
theorem dX10_round_112 : decode cX10_round 112 = .ok (.iinc 4 1, 3) := by decide +kernel
theorem dX10_round_115 : decode cX10_round 115 = .ok (.goto (-27), 3) := by decide +kernel
theorem dX10_round_118 : decode cX10_round 118 = .ok (.iconst 0, 1) := by decide +kernel
theorem dX10_round_119 : decode cX10_round 119 = .ok (.ireturn, 1) := by decide +kernel
theorem dX10_round_120 : decode cX10_round 120 = .ok (.aload_n 0, 1) := by decide +kernel
theorem dX10_round_121 : decode cX10_round 121 = .ok (.aload_n 0, 1) := by decide +kernel
theorem dX10_round_122 : decode cX10_round 122 = .ok (.getfield 205, 3) := by decide +kernel
theorem dX10_round_125 : decode cX10_round 125 = .ok (.invokevirtual 343, 3) := by decide +kernel
theorem dX10_round_128 : decode cX10_round 128 = .ok (.istore 4, 2) := by decide +kernel
theorem dX10_round_130 : decode cX10_round 130 = .ok (.iconst (-1), 1) := by decide +kernel
theorem dX10_round_131 : decode cX10_round 131 = .ok (.istore 5, 2) := by decide +kernel
theorem dX10_round_133 : decode cX10_round 133 = .ok (.iconst 0, 1) := by decide +kernel
theorem dX10_round_134 : decode cX10_round 134 = .ok (.istore 6, 2) := by decide +kernel
theorem dX10_round_136 : decode cX10_round 136 = .ok (.iload 6, 2) := by decide +kernel
theorem dX10_round_138 : decode cX10_round 138 = .ok (.aload_n 0, 1) := by decide +kernel
theorem dX10_round_139 : decode cX10_round 139 = .ok (.getfield 176, 3) := by decide +kernel
theorem dX10_round_142 : decode cX10_round 142 = .ok (.if_icmp .ge 40, 3) := by decide +kernel
theorem dX10_round_145 : decode cX10_round 145 = .ok (.aload_n 0, 1) := by decide +kernel
theorem dX10_round_146 : decode cX10_round 146 = .ok (.getfield 49, 3) := by decide +kernel
theorem dX10_round_149 : decode cX10_round 149 = .ok (.iload 6, 2) := by decide +kernel
theorem dX10_round_151 : decode cX10_round 151 = .ok (.iaload, 1) := by decide +kernel
theorem dX10_round_152 : decode cX10_round 152 = .ok (.aload_n 0, 1) := by decide +kernel
theorem dX10_round_153 : decode cX10_round 153 = .ok (.getfield 202, 3) := by decide +kernel
theorem dX10_round_156 : decode cX10_round 156 = .ok (.if_icmp .ne 20, 3) := by decide +kernel
theorem dX10_round_159 : decode cX10_round 159 = .ok (.iload 4, 2) := by decide +kernel
theorem dX10_round_161 : decode cX10_round 161 = .ok (.ifCond .ne 8, 3) := by decide +kernel
theorem dX10_round_164 : decode cX10_round 164 = .ok (.iload 6, 2) := by decide +kernel
theorem dX10_round_166 : decode cX10_round 166 = .ok (.goto 5, 3) := by decide +kernel
theorem dX10_round_169 : decode cX10_round 169 = .ok (.iload 5, 2) := by decide +kernel
theorem dX10_round_171 : decode cX10_round 171 = .ok (.istore 5, 2) := by decide +kernel
theorem dX10_round_173 : decode cX10_round 173 = .ok (.iinc 4 (-1), 3) := by decide +kernel
theorem dX10_round_176 : decode cX10_round 176 = .ok (.iinc 6 1, 3) := by decide +kernel
theorem dX10_round_179 : decode cX10_round 179 = .ok (.goto (-43), 3) := by decide +kernel
theorem dX10_round_182 : decode cX10_round 182 = .ok (.aload_n 0, 1) := by decide +kernel
theorem dX10_round_183 : decode cX10_round 183 = .ok (.invokevirtual 213, 3) := by decide +kernel
theorem dX10_round_186 : decode cX10_round 186 = .ok (.istore 6, 2) := by decide +kernel
theorem dX10_round_188 : decode cX10_round 188 = .ok (.iconst 0, 1) := by decide +kernel
theorem dX10_round_189 : decode cX10_round 189 = .ok (.istore 7, 2) := by decide +kernel
theorem dX10_round_191 : decode cX10_round 191 = .ok (.iload 7, 2) := by decide +kernel
theorem dX10_round_193 : decode cX10_round 193 = .ok (.aload_n 0, 1) := by decide +kernel
theorem dX10_round_194 : decode cX10_round 194 = .ok (.getfield 176, 3) := by decide +kernel
theorem dX10_round_197 : decode cX10_round 197 = .ok (.if_icmp .ge 82, 3) := by decide +kernel
theorem dX10_round_200 : decode cX10_round 200 = .ok (.iload 7, 2) := by decide +kernel
theorem dX10_round_202 : decode cX10_round 202 = .ok (.iload 5, 2) := by decide +kernel
theorem dX10_round_204 : decode cX10_round 204 = .ok (.if_icmp .ne 8, 3) := by decide +kernel
theorem dX10_round_207 : decode cX10_round 207 = .ok (.iload 6, 2) := by decide +kernel
theorem dX10_round_209 : decode cX10_round 209 = .ok (.goto 26, 3) := by decide +kernel
theorem dX10_round_212 : decode cX10_round 212 = .ok (.aload_n 0, 1) := by decide +kernel
theorem dX10_round_213 : decode cX10_round 213 = .ok (.getfield 186, 3) := by decide +kernel
theorem dX10_round_216 : decode cX10_round 216 = .ok (.iconst 2, 1) := by decide +kernel
theorem dX10_round_217 : decode cX10_round 217 = .ok (.if_icmp .ne 17, 3) := by decide +kernel
theorem dX10_round_220 : decode cX10_round 220 = .ok (.iconst 0, 1) := by decide +kernel
theorem dX10_round_221 : decode cX10_round 221 = .ok (.aload_n 0, 1) := by decide +kernel
theorem dX10_round_222 : decode cX10_round 222 = .ok (.getfield 49, 3) := by decide +kernel
theorem dX10_round_225 : decode cX10_round 225 = .ok (.iload 7, 2) := by decide +kernel
theorem dX10_round_227 : decode cX10_round 227 = .ok (.iaload, 1) := by decide +kernel
theorem dX10_round_228 : decode cX10_round 228 = .ok (.invokestatic 208, 3) := by decide +kernel
theorem dX10_round_231 : decode cX10_round 231 = .ok (.goto 4, 3) := by decide +kernel
theorem dX10_round_234 : decode cX10_round 234 = .ok (.iconst 0, 1) := by decide +kernel
theorem dX10_round_235 : decode cX10_round 235 = .ok (.istore 8, 2) := by decide +kernel
theorem dX10_round_237 : decode cX10_round 237 = .ok (.aload_n 0, 1) := by decide +kernel
theorem dX10_round_238 : decode cX10_round 238 = .ok (.getfield 73, 3) := by decide +kernel
theorem dX10_round_241 : decode cX10_round 241 = .ok (.iload 7, 2) := by decide +kernel
theorem dX10_round_243 : decode cX10_round 243 = .ok (.dup2, 1) := by decide +kernel
theorem dX10_round_244 : decode cX10_round 244 = .ok (.iaload, 1) := by decide +kernel
theorem dX10_round_245 : decode cX10_round 245 = .ok (.iload 7, 2) := by decide +kernel
theorem dX10_round_247 : decode cX10_round 247 = .ok (.iload 5, 2) := by decide +kernel
theorem dX10_round_249 : decode cX10_round 249 = .ok (.if_icmp .ne 7, 3) := by decide +kernel
theorem dX10_round_252 : decode cX10_round 252 = .ok (.iload_n 3, 1) := by decide +kernel
theorem dX10_round_253 : decode cX10_round 253 = .ok (.goto 4, 3) := by decide +kernel
theorem dX10_round_256 : decode cX10_round 256 = .ok (.iconst 0, 1) := by decide +kernel
theorem dX10_round_257 : decode cX10_round 257 = .ok (.iload 8, 2) := by decide +kernel
theorem dX10_round_259 : decode cX10_round 259 = .ok (.isub, 1) := by decide +kernel
theorem dX10_round_260 : decode cX10_round 260 = .ok (.iadd, 1) := by decide +kernel
theorem dX10_round_261 : decode cX10_round 261 = .ok (.iastore, 1) := by decide +kernel
theorem dX10_round_262 : decode cX10_round 262 = .ok (.aload_n 0, 1) := by decide +kernel
theorem dX10_round_263 : decode cX10_round 263 = .ok (.dup, 1) := by decide +kernel
theorem dX10_round_264 : decode cX10_round 264 = .ok (.getfield 352, 3) := by decide +kernel
theorem dX10_round_267 : decode cX10_round 267 = .ok (.iload 8, 2) := by decide +kernel
theorem dX10_round_269 : decode cX10_round 269 = .ok (.iadd, 1) := by decide +kernel
theorem dX10_round_270 : decode cX10_round 270 = .ok (.putfield 352, 3) := by decide +kernel
theorem dX10_round_273 : decode cX10_round 273 = .ok (.iinc 7 1, 3) := by decide +kernel
theorem dX10_round_276 : decode cX10_round 276 = .ok (.goto (-85), 3) := by decide +kernel
theorem dX10_round_279 : decode cX10_round 279 = .ok (.iconst 0, 1) := by decide +kernel
theorem dX10_round_280 : decode cX10_round 280 = .ok (.istore 7, 2) := by decide +kernel
theorem dX10_round_282 : decode cX10_round 282 = .ok (.iload 7, 2) := by decide +kernel
theorem dX10_round_284 : decode cX10_round 284 = .ok (.aload_n 0, 1) := by decide +kernel
theorem dX10_round_285 : decode cX10_round 285 = .ok (.getfield 176, 3) := by decide +kernel
theorem dX10_round_288 : decode cX10_round 288 = .ok (.if_icmp .ge 49, 3) := by decide +kernel
theorem dX10_round_291 : decode cX10_round 291 = .ok (.iload 7, 2) := by decide +kernel
theorem dX10_round_293 : decode cX10_round 293 = .ok (.iload 5, 2) := by decide +kernel
theorem dX10_round_295 : decode cX10_round 295 = .ok (.if_icmp .ne 12, 3) := by decide +kernel
theorem dX10_round_298 : decode cX10_round 298 = .ok (.iload 6, 2) := by decide +kernel
theorem dX10_round_300 : decode cX10_round 300 = .ok (.iload_n 3, 1) := by decide +kernel
theorem dX10_round_301 : decode cX10_round 301 = .ok (.if_icmp .le 30, 3) := by decide +kernel
theorem dX10_round_304 : decode cX10_round 304 = .ok (.goto 9, 3) := by decide +kernel
theorem dX10_round_307 : decode cX10_round 307 = .ok (.iload_n 3, 1) := by decide +kernel
theorem dX10_round_308 : decode cX10_round 308 = .ok (.iload 6, 2) := by decide +kernel
theorem dX10_round_310 : decode cX10_round 310 = .ok (.if_icmp .le 21, 3) := by decide +kernel
theorem dX10_round_313 : decode cX10_round 313 = .ok (.aload_n 0, 1) := by decide +kernel
theorem dX10_round_314 : decode cX10_round 314 = .ok (.iload 7, 2) := by decide +kernel
theorem dX10_round_316 : decode cX10_round 316 = .ok (.iload 7, 2) := by decide +kernel
theorem dX10_round_318 : decode cX10_round 318 = .ok (.iload 5, 2) := by decide +kernel
theorem dX10_round_320 : decode cX10_round 320 = .ok (.if_icmp .ne 7, 3) := by decide +kernel
theorem dX10_round_323 : decode cX10_round 323 = .ok (.iconst (-1), 1) := by decide +kernel
theorem dX10_round_324 : decode cX10_round 324 = .ok (.goto 4, 3) := by decide +kernel
theorem dX10_round_327 : decode cX10_round 327 = .ok (.iconst 1, 1) := by decide +kernel
theorem dX10_round_328 : decode cX10_round 328 = .ok (.invokevirtual 364, 3) := by decide +kernel
theorem dX10_round_331 : decode cX10_round 331 = .ok (.iinc 7 1, 3) := by decide +kernel
theorem dX10_round_334 : decode cX10_round 334 = .ok (.goto (-52), 3) := by decide +kernel
theorem dX10_round_337 : decode cX10_round 337 = .ok (.iload 6, 2) := by decide +kernel
theorem dX10_round_339 : decode cX10_round 339 = .ok (.iload_n 3, 1) := by decide +kernel
theorem dX10_round_340 : decode cX10_round 340 = .ok (.if_icmp .le 7, 3) := by decide +kernel
theorem dX10_round_343 : decode cX10_round 343 = .ok (.iconst 1, 1) := by decide +kernel
theorem dX10_round_344 : decode cX10_round 344 = .ok (.goto 4, 3) := by decide +kernel
theorem dX10_round_347 : decode cX10_round 347 = .ok (.iconst 0, 1) := by decide +kernel
theorem dX10_round_348 : decode cX10_round 348 = .ok (.ireturn, 1) := by decide +kernel
theorem dX10_change__0 : decode cX10_change_ 0 = .ok (.iconst 5, 1) := by decide +kernel
theorem dX10_change__1 : decode cX10_change_ 1 = .ok (.iload_n 1, 1) := by decide +kernel
theorem dX10_change__2 : decode cX10_change_ 2 = .ok (.imul, 1) := by decide +kernel
theorem dX10_change__3 : decode cX10_change_ 3 = .ok (.aload_n 0, 1) := by decide +kernel
theorem dX10_change__4 : decode cX10_change_ 4 = .ok (.getfield 52, 3) := by decide +kernel
theorem dX10_change__7 : decode cX10_change_ 7 = .ok (.iload_n 1, 1) := by decide +kernel
theorem dX10_change__8 : decode cX10_change_ 8 = .ok (.iaload, 1) := by decide +kernel
theorem dX10_change__9 : decode cX10_change_ 9 = .ok (.iadd, 1) := by decide +kernel
theorem dX10_change__10 : decode cX10_change_ 10 = .ok (.istore_n 3, 1) := by decide +kernel
theorem dX10_change__11 : decode cX10_change_ 11 = .ok (.aload_n 0, 1) := by decide +kernel
theorem dX10_change__12 : decode cX10_change_ 12 = .ok (.getfield 70, 3) := by decide +kernel
theorem dX10_change__15 : decode cX10_change_ 15 = .ok (.iload_n 3, 1) := by decide +kernel
theorem dX10_change__16 : decode cX10_change_ 16 = .ok (.iconst 0, 1) := by decide +kernel
theorem dX10_change__17 : decode cX10_change_ 17 = .ok (.bipush 60, 2) := by decide +kernel
theorem dX10_change__19 : decode cX10_change_ 19 = .ok (.aload_n 0, 1) := by decide +kernel
theorem dX10_change__20 : decode cX10_change_ 20 = .ok (.getfield 70, 3) := by decide +kernel
theorem dX10_change__23 : decode cX10_change_ 23 = .ok (.iload_n 3, 1) := by decide +kernel
theorem dX10_change__24 : decode cX10_change_ 24 = .ok (.iaload, 1) := by decide +kernel
theorem dX10_change__25 : decode cX10_change_ 25 = .ok (.iload_n 2, 1) := by decide +kernel
theorem dX10_change__26 : decode cX10_change_ 26 = .ok (.iadd, 1) := by decide +kernel
theorem dX10_change__27 : decode cX10_change_ 27 = .ok (.invokestatic 367, 3) := by decide +kernel
theorem dX10_change__30 : decode cX10_change_ 30 = .ok (.invokestatic 208, 3) := by decide +kernel
theorem dX10_change__33 : decode cX10_change_ 33 = .ok (.iastore, 1) := by decide +kernel
theorem dX10_change__34 : decode cX10_change_ 34 = .ok (.return_, 1) := by decide +kernel
theorem dX10_learned_0 : decode cX10_learned 0 = .ok (.aload_n 0, 1) := by decide +kernel
theorem dX10_learned_1 : decode cX10_learned 1 = .ok (.iload_n 1, 1) := by decide +kernel
theorem dX10_learned_2 : decode cX10_learned 2 = .ok (.iconst 0, 1) := by decide +kernel
theorem dX10_learned_3 : decode cX10_learned 3 = .ok (.aload_n 0, 1) := by decide +kernel
theorem dX10_learned_4 : decode cX10_learned 4 = .ok (.getfield 346, 3) := by decide +kernel
theorem dX10_learned_7 : decode cX10_learned 7 = .ok (.iconst 1, 1) := by decide +kernel
theorem dX10_learned_8 : decode cX10_learned 8 = .ok (.isub, 1) := by decide +kernel
theorem dX10_learned_9 : decode cX10_learned 9 = .ok (.invokestatic 107, 3) := by decide +kernel
theorem dX10_learned_12 : decode cX10_learned 12 = .ok (.ifCond .eq 16, 3) := by decide +kernel
theorem dX10_learned_15 : decode cX10_learned 15 = .ok (.iload_n 2, 1) := by decide +kernel
theorem dX10_learned_16 : decode cX10_learned 16 = .ok (.iconst 0, 1) := by decide +kernel
theorem dX10_learned_17 : decode cX10_learned 17 = .ok (.iconst 5, 1) := by decide +kernel
theorem dX10_learned_18 : decode cX10_learned 18 = .ok (.invokestatic 107, 3) := by decide +kernel
theorem dX10_learned_21 : decode cX10_learned 21 = .ok (.ifCond .eq 7, 3) := by decide +kernel
theorem dX10_learned_24 : decode cX10_learned 24 = .ok (.iconst 0, 1) := by decide +kernel
theorem dX10_learned_25 : decode cX10_learned 25 = .ok (.goto 4, 3) := by decide +kernel
theorem dX10_learned_28 : decode cX10_learned 28 = .ok (.iconst 1, 1) := by decide +kernel
theorem dX10_learned_29 : decode cX10_learned 29 = .ok (.putfield 76, 3) := by decide +kernel
theorem dX10_learned_32 : decode cX10_learned 32 = .ok (.aload_n 0, 1) := by decide +kernel
theorem dX10_learned_33 : decode cX10_learned 33 = .ok (.getfield 76, 3) := by decide +kernel
theorem dX10_learned_36 : decode cX10_learned 36 = .ok (.iconst 1, 1) := by decide +kernel
theorem dX10_learned_37 : decode cX10_learned 37 = .ok (.if_icmp .ne 7, 3) := by decide +kernel
theorem dX10_learned_40 : decode cX10_learned 40 = .ok (.iconst 0, 1) := by decide +kernel
theorem dX10_learned_41 : decode cX10_learned 41 = .ok (.goto 39, 3) := by decide +kernel
theorem dX10_learned_44 : decode cX10_learned 44 = .ok (.iload_n 2, 1) := by decide +kernel
theorem dX10_learned_45 : decode cX10_learned 45 = .ok (.iconst 5, 1) := by decide +kernel
theorem dX10_learned_46 : decode cX10_learned 46 = .ok (.if_icmp .ne 12, 3) := by decide +kernel
theorem dX10_learned_49 : decode cX10_learned 49 = .ok (.aload_n 0, 1) := by decide +kernel
theorem dX10_learned_50 : decode cX10_learned 50 = .ok (.getfield 73, 3) := by decide +kernel
theorem dX10_learned_53 : decode cX10_learned 53 = .ok (.iload_n 1, 1) := by decide +kernel
theorem dX10_learned_54 : decode cX10_learned 54 = .ok (.iaload, 1) := by decide +kernel
theorem dX10_learned_55 : decode cX10_learned 55 = .ok (.goto 25, 3) := by decide +kernel
theorem dX10_learned_58 : decode cX10_learned 58 = .ok (.iload_n 2, 1) := by decide +kernel
theorem dX10_learned_59 : decode cX10_learned 59 = .ok (.aload_n 0, 1) := by decide +kernel
theorem dX10_learned_60 : decode cX10_learned 60 = .ok (.getfield 349, 3) := by decide +kernel
theorem dX10_learned_63 : decode cX10_learned 63 = .ok (.if_icmp .ge 16, 3) := by decide +kernel
theorem dX10_learned_66 : decode cX10_learned 66 = .ok (.aload_n 0, 1) := by decide +kernel
theorem dX10_learned_67 : decode cX10_learned 67 = .ok (.getfield 70, 3) := by decide +kernel
theorem dX10_learned_70 : decode cX10_learned 70 = .ok (.iconst 5, 1) := by decide +kernel
theorem dX10_learned_71 : decode cX10_learned 71 = .ok (.iload_n 1, 1) := by decide +kernel
theorem dX10_learned_72 : decode cX10_learned 72 = .ok (.imul, 1) := by decide +kernel
theorem dX10_learned_73 : decode cX10_learned 73 = .ok (.iload_n 2, 1) := by decide +kernel
theorem dX10_learned_74 : decode cX10_learned 74 = .ok (.iadd, 1) := by decide +kernel
theorem dX10_learned_75 : decode cX10_learned 75 = .ok (.iaload, 1) := by decide +kernel
theorem dX10_learned_76 : decode cX10_learned 76 = .ok (.goto 4, 3) := by decide +kernel
theorem dX10_learned_79 : decode cX10_learned 79 = .ok (.iconst 0, 1) := by decide +kernel
theorem dX10_learned_80 : decode cX10_learned 80 = .ok (.ireturn, 1) := by decide +kernel
theorem dX10_got_0 : decode cX10_got 0 = .ok (.aload_n 0, 1) := by decide +kernel
theorem dX10_got_1 : decode cX10_got 1 = .ok (.getfield 352, 3) := by decide +kernel
theorem dX10_got_4 : decode cX10_got 4 = .ok (.ireturn, 1) := by decide +kernel
theorem dX10_count__0 : decode cX10_count_ 0 = .ok (.iload_n 1, 1) := by decide +kernel
theorem dX10_count__1 : decode cX10_count_ 1 = .ok (.ifCond .ne 10, 3) := by decide +kernel
theorem dX10_count__4 : decode cX10_count_ 4 = .ok (.aload_n 0, 1) := by decide +kernel
theorem dX10_count__5 : decode cX10_count_ 5 = .ok (.getfield 126, 3) := by decide +kernel
theorem dX10_count__8 : decode cX10_count_ 8 = .ok (.goto 28, 3) := by decide +kernel
theorem dX10_count__11 : decode cX10_count_ 11 = .ok (.iload_n 1, 1) := by decide +kernel
theorem dX10_count__12 : decode cX10_count_ 12 = .ok (.iconst 1, 1) := by decide +kernel
theorem dX10_count__13 : decode cX10_count_ 13 = .ok (.if_icmp .ne 10, 3) := by decide +kernel
theorem dX10_count__16 : decode cX10_count_ 16 = .ok (.aload_n 0, 1) := by decide +kernel
theorem dX10_count__17 : decode cX10_count_ 17 = .ok (.getfield 173, 3) := by decide +kernel
theorem dX10_count__20 : decode cX10_count_ 20 = .ok (.goto 16, 3) := by decide +kernel
theorem dX10_count__23 : decode cX10_count_ 23 = .ok (.iload_n 1, 1) := by decide +kernel
theorem dX10_count__24 : decode cX10_count_ 24 = .ok (.iconst 2, 1) := by decide +kernel
theorem dX10_count__25 : decode cX10_count_ 25 = .ok (.if_icmp .ne 10, 3) := by decide +kernel
theorem dX10_count__28 : decode cX10_count_ 28 = .ok (.aload_n 0, 1) := by decide +kernel
theorem dX10_count__29 : decode cX10_count_ 29 = .ok (.getfield 84, 3) := by decide +kernel
theorem dX10_count__32 : decode cX10_count_ 32 = .ok (.goto 4, 3) := by decide +kernel
theorem dX10_count__35 : decode cX10_count_ 35 = .ok (.iconst (-1), 1) := by decide +kernel
theorem dX10_count__36 : decode cX10_count_ 36 = .ok (.ireturn, 1) := by decide +kernel
theorem dJ6_numberOfTrailingZeros_0f7a4_0 : decode cJ6_numberOfTrailingZeros_0f7a4 0 = .ok (.iload_n 0, 1) := by decide +kernel
theorem dJ6_numberOfTrailingZeros_0f7a4_1 : decode cJ6_numberOfTrailingZeros_0f7a4 1 = .ok (.iconst (-1), 1) := by decide +kernel
theorem dJ6_numberOfTrailingZeros_0f7a4_2 : decode cJ6_numberOfTrailingZeros_0f7a4 2 = .ok (.ixor, 1) := by decide +kernel
theorem dJ6_numberOfTrailingZeros_0f7a4_3 : decode cJ6_numberOfTrailingZeros_0f7a4 3 = .ok (.iload_n 0, 1) := by decide +kernel
theorem dJ6_numberOfTrailingZeros_0f7a4_4 : decode cJ6_numberOfTrailingZeros_0f7a4 4 = .ok (.iconst 1, 1) := by decide +kernel
theorem dJ6_numberOfTrailingZeros_0f7a4_5 : decode cJ6_numberOfTrailingZeros_0f7a4 5 = .ok (.isub, 1) := by decide +kernel
theorem dJ6_numberOfTrailingZeros_0f7a4_6 : decode cJ6_numberOfTrailingZeros_0f7a4 6 = .ok (.iand, 1) := by decide +kernel
theorem dJ6_numberOfTrailingZeros_0f7a4_7 : decode cJ6_numberOfTrailingZeros_0f7a4 7 = .ok (.istore_n 0, 1) := by decide +kernel
theorem dJ6_numberOfTrailingZeros_0f7a4_8 : decode cJ6_numberOfTrailingZeros_0f7a4 8 = .ok (.iload_n 0, 1) := by decide +kernel
theorem dJ6_numberOfTrailingZeros_0f7a4_9 : decode cJ6_numberOfTrailingZeros_0f7a4 9 = .ok (.ifCond .gt 8, 3) := by decide +kernel
theorem dJ6_numberOfTrailingZeros_0f7a4_12 : decode cJ6_numberOfTrailingZeros_0f7a4 12 = .ok (.iload_n 0, 1) := by decide +kernel
theorem dJ6_numberOfTrailingZeros_0f7a4_13 : decode cJ6_numberOfTrailingZeros_0f7a4 13 = .ok (.bipush 32, 2) := by decide +kernel
theorem dJ6_numberOfTrailingZeros_0f7a4_15 : decode cJ6_numberOfTrailingZeros_0f7a4 15 = .ok (.iand, 1) := by decide +kernel
theorem dJ6_numberOfTrailingZeros_0f7a4_16 : decode cJ6_numberOfTrailingZeros_0f7a4 16 = .ok (.ireturn, 1) := by decide +kernel
theorem dJ6_numberOfTrailingZeros_0f7a4_17 : decode cJ6_numberOfTrailingZeros_0f7a4 17 = .ok (.iconst 1, 1) := by decide +kernel
theorem dJ6_numberOfTrailingZeros_0f7a4_18 : decode cJ6_numberOfTrailingZeros_0f7a4 18 = .ok (.istore_n 1, 1) := by decide +kernel
theorem dJ6_numberOfTrailingZeros_0f7a4_19 : decode cJ6_numberOfTrailingZeros_0f7a4 19 = .ok (.iload_n 0, 1) := by decide +kernel
theorem dJ6_numberOfTrailingZeros_0f7a4_20 : decode cJ6_numberOfTrailingZeros_0f7a4 20 = .ok (.ldc_w 264, 3) := by decide +kernel
theorem dJ6_numberOfTrailingZeros_0f7a4_23 : decode cJ6_numberOfTrailingZeros_0f7a4 23 = .ok (.if_icmp .le 11, 3) := by decide +kernel
theorem dJ6_numberOfTrailingZeros_0f7a4_26 : decode cJ6_numberOfTrailingZeros_0f7a4 26 = .ok (.iinc 1 16, 3) := by decide +kernel
theorem dJ6_numberOfTrailingZeros_0f7a4_29 : decode cJ6_numberOfTrailingZeros_0f7a4 29 = .ok (.iload_n 0, 1) := by decide +kernel
theorem dJ6_numberOfTrailingZeros_0f7a4_30 : decode cJ6_numberOfTrailingZeros_0f7a4 30 = .ok (.bipush 16, 2) := by decide +kernel
theorem dJ6_numberOfTrailingZeros_0f7a4_32 : decode cJ6_numberOfTrailingZeros_0f7a4 32 = .ok (.iushr, 1) := by decide +kernel
theorem dJ6_numberOfTrailingZeros_0f7a4_33 : decode cJ6_numberOfTrailingZeros_0f7a4 33 = .ok (.istore_n 0, 1) := by decide +kernel
theorem dJ6_numberOfTrailingZeros_0f7a4_34 : decode cJ6_numberOfTrailingZeros_0f7a4 34 = .ok (.iload_n 0, 1) := by decide +kernel
theorem dJ6_numberOfTrailingZeros_0f7a4_35 : decode cJ6_numberOfTrailingZeros_0f7a4 35 = .ok (.sipush 256, 3) := by decide +kernel
theorem dJ6_numberOfTrailingZeros_0f7a4_38 : decode cJ6_numberOfTrailingZeros_0f7a4 38 = .ok (.if_icmp .le 11, 3) := by decide +kernel
theorem dJ6_numberOfTrailingZeros_0f7a4_41 : decode cJ6_numberOfTrailingZeros_0f7a4 41 = .ok (.iinc 1 8, 3) := by decide +kernel
theorem dJ6_numberOfTrailingZeros_0f7a4_44 : decode cJ6_numberOfTrailingZeros_0f7a4 44 = .ok (.iload_n 0, 1) := by decide +kernel
theorem dJ6_numberOfTrailingZeros_0f7a4_45 : decode cJ6_numberOfTrailingZeros_0f7a4 45 = .ok (.bipush 8, 2) := by decide +kernel
theorem dJ6_numberOfTrailingZeros_0f7a4_47 : decode cJ6_numberOfTrailingZeros_0f7a4 47 = .ok (.iushr, 1) := by decide +kernel
theorem dJ6_numberOfTrailingZeros_0f7a4_48 : decode cJ6_numberOfTrailingZeros_0f7a4 48 = .ok (.istore_n 0, 1) := by decide +kernel
theorem dJ6_numberOfTrailingZeros_0f7a4_49 : decode cJ6_numberOfTrailingZeros_0f7a4 49 = .ok (.iload_n 0, 1) := by decide +kernel
theorem dJ6_numberOfTrailingZeros_0f7a4_50 : decode cJ6_numberOfTrailingZeros_0f7a4 50 = .ok (.bipush 16, 2) := by decide +kernel
theorem dJ6_numberOfTrailingZeros_0f7a4_52 : decode cJ6_numberOfTrailingZeros_0f7a4 52 = .ok (.if_icmp .le 10, 3) := by decide +kernel
theorem dJ6_numberOfTrailingZeros_0f7a4_55 : decode cJ6_numberOfTrailingZeros_0f7a4 55 = .ok (.iinc 1 4, 3) := by decide +kernel
theorem dJ6_numberOfTrailingZeros_0f7a4_58 : decode cJ6_numberOfTrailingZeros_0f7a4 58 = .ok (.iload_n 0, 1) := by decide +kernel
theorem dJ6_numberOfTrailingZeros_0f7a4_59 : decode cJ6_numberOfTrailingZeros_0f7a4 59 = .ok (.iconst 4, 1) := by decide +kernel
theorem dJ6_numberOfTrailingZeros_0f7a4_60 : decode cJ6_numberOfTrailingZeros_0f7a4 60 = .ok (.iushr, 1) := by decide +kernel
theorem dJ6_numberOfTrailingZeros_0f7a4_61 : decode cJ6_numberOfTrailingZeros_0f7a4 61 = .ok (.istore_n 0, 1) := by decide +kernel
theorem dJ6_numberOfTrailingZeros_0f7a4_62 : decode cJ6_numberOfTrailingZeros_0f7a4 62 = .ok (.iload_n 0, 1) := by decide +kernel
theorem dJ6_numberOfTrailingZeros_0f7a4_63 : decode cJ6_numberOfTrailingZeros_0f7a4 63 = .ok (.iconst 4, 1) := by decide +kernel
theorem dJ6_numberOfTrailingZeros_0f7a4_64 : decode cJ6_numberOfTrailingZeros_0f7a4 64 = .ok (.if_icmp .le 10, 3) := by decide +kernel
theorem dJ6_numberOfTrailingZeros_0f7a4_67 : decode cJ6_numberOfTrailingZeros_0f7a4 67 = .ok (.iinc 1 2, 3) := by decide +kernel
theorem dJ6_numberOfTrailingZeros_0f7a4_70 : decode cJ6_numberOfTrailingZeros_0f7a4 70 = .ok (.iload_n 0, 1) := by decide +kernel
theorem dJ6_numberOfTrailingZeros_0f7a4_71 : decode cJ6_numberOfTrailingZeros_0f7a4 71 = .ok (.iconst 2, 1) := by decide +kernel
theorem dJ6_numberOfTrailingZeros_0f7a4_72 : decode cJ6_numberOfTrailingZeros_0f7a4 72 = .ok (.iushr, 1) := by decide +kernel
theorem dJ6_numberOfTrailingZeros_0f7a4_73 : decode cJ6_numberOfTrailingZeros_0f7a4 73 = .ok (.istore_n 0, 1) := by decide +kernel
theorem dJ6_numberOfTrailingZeros_0f7a4_74 : decode cJ6_numberOfTrailingZeros_0f7a4 74 = .ok (.iload_n 1, 1) := by decide +kernel
theorem dJ6_numberOfTrailingZeros_0f7a4_75 : decode cJ6_numberOfTrailingZeros_0f7a4 75 = .ok (.iload_n 0, 1) := by decide +kernel
theorem dJ6_numberOfTrailingZeros_0f7a4_76 : decode cJ6_numberOfTrailingZeros_0f7a4 76 = .ok (.iconst 1, 1) := by decide +kernel
theorem dJ6_numberOfTrailingZeros_0f7a4_77 : decode cJ6_numberOfTrailingZeros_0f7a4 77 = .ok (.iushr, 1) := by decide +kernel
theorem dJ6_numberOfTrailingZeros_0f7a4_78 : decode cJ6_numberOfTrailingZeros_0f7a4 78 = .ok (.iadd, 1) := by decide +kernel
theorem dJ6_numberOfTrailingZeros_0f7a4_79 : decode cJ6_numberOfTrailingZeros_0f7a4 79 = .ok (.ireturn, 1) := by decide +kernel
theorem dJ6_bitCount_0f7a4_0 : decode cJ6_bitCount_0f7a4 0 = .ok (.iload_n 0, 1) := by decide +kernel
theorem dJ6_bitCount_0f7a4_1 : decode cJ6_bitCount_0f7a4 1 = .ok (.iload_n 0, 1) := by decide +kernel
theorem dJ6_bitCount_0f7a4_2 : decode cJ6_bitCount_0f7a4 2 = .ok (.iconst 1, 1) := by decide +kernel
theorem dJ6_bitCount_0f7a4_3 : decode cJ6_bitCount_0f7a4 3 = .ok (.iushr, 1) := by decide +kernel
theorem dJ6_bitCount_0f7a4_4 : decode cJ6_bitCount_0f7a4 4 = .ok (.ldc_w 265, 3) := by decide +kernel
theorem dJ6_bitCount_0f7a4_7 : decode cJ6_bitCount_0f7a4 7 = .ok (.iand, 1) := by decide +kernel
theorem dJ6_bitCount_0f7a4_8 : decode cJ6_bitCount_0f7a4 8 = .ok (.isub, 1) := by decide +kernel
theorem dJ6_bitCount_0f7a4_9 : decode cJ6_bitCount_0f7a4 9 = .ok (.istore_n 0, 1) := by decide +kernel
theorem dJ6_bitCount_0f7a4_10 : decode cJ6_bitCount_0f7a4 10 = .ok (.iload_n 0, 1) := by decide +kernel
theorem dJ6_bitCount_0f7a4_11 : decode cJ6_bitCount_0f7a4 11 = .ok (.ldc_w 266, 3) := by decide +kernel
theorem dJ6_bitCount_0f7a4_14 : decode cJ6_bitCount_0f7a4 14 = .ok (.iand, 1) := by decide +kernel
theorem dJ6_bitCount_0f7a4_15 : decode cJ6_bitCount_0f7a4 15 = .ok (.iload_n 0, 1) := by decide +kernel
theorem dJ6_bitCount_0f7a4_16 : decode cJ6_bitCount_0f7a4 16 = .ok (.iconst 2, 1) := by decide +kernel
theorem dJ6_bitCount_0f7a4_17 : decode cJ6_bitCount_0f7a4 17 = .ok (.iushr, 1) := by decide +kernel
theorem dJ6_bitCount_0f7a4_18 : decode cJ6_bitCount_0f7a4 18 = .ok (.ldc_w 266, 3) := by decide +kernel
theorem dJ6_bitCount_0f7a4_21 : decode cJ6_bitCount_0f7a4 21 = .ok (.iand, 1) := by decide +kernel
theorem dJ6_bitCount_0f7a4_22 : decode cJ6_bitCount_0f7a4 22 = .ok (.iadd, 1) := by decide +kernel
theorem dJ6_bitCount_0f7a4_23 : decode cJ6_bitCount_0f7a4 23 = .ok (.istore_n 0, 1) := by decide +kernel
theorem dJ6_bitCount_0f7a4_24 : decode cJ6_bitCount_0f7a4 24 = .ok (.iload_n 0, 1) := by decide +kernel
theorem dJ6_bitCount_0f7a4_25 : decode cJ6_bitCount_0f7a4 25 = .ok (.iload_n 0, 1) := by decide +kernel
theorem dJ6_bitCount_0f7a4_26 : decode cJ6_bitCount_0f7a4 26 = .ok (.iconst 4, 1) := by decide +kernel
theorem dJ6_bitCount_0f7a4_27 : decode cJ6_bitCount_0f7a4 27 = .ok (.iushr, 1) := by decide +kernel
theorem dJ6_bitCount_0f7a4_28 : decode cJ6_bitCount_0f7a4 28 = .ok (.iadd, 1) := by decide +kernel
theorem dJ6_bitCount_0f7a4_29 : decode cJ6_bitCount_0f7a4 29 = .ok (.ldc_w 267, 3) := by decide +kernel
theorem dJ6_bitCount_0f7a4_32 : decode cJ6_bitCount_0f7a4 32 = .ok (.iand, 1) := by decide +kernel
theorem dJ6_bitCount_0f7a4_33 : decode cJ6_bitCount_0f7a4 33 = .ok (.istore_n 0, 1) := by decide +kernel
theorem dJ6_bitCount_0f7a4_34 : decode cJ6_bitCount_0f7a4 34 = .ok (.iload_n 0, 1) := by decide +kernel
theorem dJ6_bitCount_0f7a4_35 : decode cJ6_bitCount_0f7a4 35 = .ok (.iload_n 0, 1) := by decide +kernel
theorem dJ6_bitCount_0f7a4_36 : decode cJ6_bitCount_0f7a4 36 = .ok (.bipush 8, 2) := by decide +kernel
theorem dJ6_bitCount_0f7a4_38 : decode cJ6_bitCount_0f7a4 38 = .ok (.iushr, 1) := by decide +kernel
theorem dJ6_bitCount_0f7a4_39 : decode cJ6_bitCount_0f7a4 39 = .ok (.iadd, 1) := by decide +kernel
theorem dJ6_bitCount_0f7a4_40 : decode cJ6_bitCount_0f7a4 40 = .ok (.istore_n 0, 1) := by decide +kernel
theorem dJ6_bitCount_0f7a4_41 : decode cJ6_bitCount_0f7a4 41 = .ok (.iload_n 0, 1) := by decide +kernel
theorem dJ6_bitCount_0f7a4_42 : decode cJ6_bitCount_0f7a4 42 = .ok (.iload_n 0, 1) := by decide +kernel
theorem dJ6_bitCount_0f7a4_43 : decode cJ6_bitCount_0f7a4 43 = .ok (.bipush 16, 2) := by decide +kernel
theorem dJ6_bitCount_0f7a4_45 : decode cJ6_bitCount_0f7a4 45 = .ok (.iushr, 1) := by decide +kernel
theorem dJ6_bitCount_0f7a4_46 : decode cJ6_bitCount_0f7a4 46 = .ok (.iadd, 1) := by decide +kernel
theorem dJ6_bitCount_0f7a4_47 : decode cJ6_bitCount_0f7a4 47 = .ok (.istore_n 0, 1) := by decide +kernel
theorem dJ6_bitCount_0f7a4_48 : decode cJ6_bitCount_0f7a4 48 = .ok (.iload_n 0, 1) := by decide +kernel
theorem dJ6_bitCount_0f7a4_49 : decode cJ6_bitCount_0f7a4 49 = .ok (.bipush 63, 2) := by decide +kernel
theorem dJ6_bitCount_0f7a4_51 : decode cJ6_bitCount_0f7a4 51 = .ok (.iand, 1) := by decide +kernel
theorem dJ6_bitCount_0f7a4_52 : decode cJ6_bitCount_0f7a4 52 = .ok (.ireturn, 1) := by decide +kernel
theorem dJ9_abs_067f4_0 : decode cJ9_abs_067f4 0 = .ok (.lload_n 0, 1) := by decide +kernel
theorem dJ9_abs_067f4_1 : decode cJ9_abs_067f4 1 = .ok (.lconst 0, 1) := by decide +kernel
theorem dJ9_abs_067f4_2 : decode cJ9_abs_067f4 2 = .ok (.lcmp, 1) := by decide +kernel
theorem dJ9_abs_067f4_3 : decode cJ9_abs_067f4 3 = .ok (.ifCond .ge 8, 3) := by decide +kernel
theorem dJ9_abs_067f4_6 : decode cJ9_abs_067f4 6 = .ok (.lload_n 0, 1) := by decide +kernel
theorem dJ9_abs_067f4_7 : decode cJ9_abs_067f4 7 = .ok (.lneg, 1) := by decide +kernel
theorem dJ9_abs_067f4_8 : decode cJ9_abs_067f4 8 = .ok (.goto 4, 3) := by decide +kernel
theorem dJ9_abs_067f4_11 : decode cJ9_abs_067f4 11 = .ok (.lload_n 0, 1) := by decide +kernel
theorem dJ9_abs_067f4_12 : decode cJ9_abs_067f4 12 = .ok (.lreturn, 1) := by decide +kernel
theorem dJ9_max_7cf53_0 : decode cJ9_max_7cf53 0 = .ok (.iload_n 0, 1) := by decide +kernel
theorem dJ9_max_7cf53_1 : decode cJ9_max_7cf53 1 = .ok (.iload_n 1, 1) := by decide +kernel
theorem dJ9_max_7cf53_2 : decode cJ9_max_7cf53 2 = .ok (.if_icmp .lt 7, 3) := by decide +kernel
theorem dJ9_max_7cf53_5 : decode cJ9_max_7cf53 5 = .ok (.iload_n 0, 1) := by decide +kernel
theorem dJ9_max_7cf53_6 : decode cJ9_max_7cf53 6 = .ok (.goto 4, 3) := by decide +kernel
theorem dJ9_max_7cf53_9 : decode cJ9_max_7cf53 9 = .ok (.iload_n 1, 1) := by decide +kernel
theorem dJ9_max_7cf53_10 : decode cJ9_max_7cf53 10 = .ok (.ireturn, 1) := by decide +kernel
theorem dJ9_min_7cf53_0 : decode cJ9_min_7cf53 0 = .ok (.iload_n 0, 1) := by decide +kernel
theorem dJ9_min_7cf53_1 : decode cJ9_min_7cf53 1 = .ok (.iload_n 1, 1) := by decide +kernel
theorem dJ9_min_7cf53_2 : decode cJ9_min_7cf53 2 = .ok (.if_icmp .gt 7, 3) := by decide +kernel
theorem dJ9_min_7cf53_5 : decode cJ9_min_7cf53 5 = .ok (.iload_n 0, 1) := by decide +kernel
theorem dJ9_min_7cf53_6 : decode cJ9_min_7cf53 6 = .ok (.goto 4, 3) := by decide +kernel
theorem dJ9_min_7cf53_9 : decode cJ9_min_7cf53 9 = .ok (.iload_n 1, 1) := by decide +kernel
theorem dJ9_min_7cf53_10 : decode cJ9_min_7cf53 10 = .ok (.ireturn, 1) := by decide +kernel
theorem dL_truth_0 : decode cL_truth 0 = .ok (.aload 4, 2) := by decide +kernel
theorem dL_truth_2 : decode cL_truth 2 = .ok (.iconst 0, 1) := by decide +kernel
theorem dL_truth_3 : decode cL_truth 3 = .ok (.aload_n 0, 1) := by decide +kernel
theorem dL_truth_4 : decode cL_truth 4 = .ok (.iload_n 1, 1) := by decide +kernel
theorem dL_truth_5 : decode cL_truth 5 = .ok (.iload_n 2, 1) := by decide +kernel
theorem dL_truth_6 : decode cL_truth 6 = .ok (.iload_n 3, 1) := by decide +kernel
theorem dL_truth_7 : decode cL_truth 7 = .ok (.invokevirtual 7, 3) := by decide +kernel
theorem dL_truth_10 : decode cL_truth 10 = .ok (.i2l, 1) := by decide +kernel
theorem dL_truth_11 : decode cL_truth 11 = .ok (.lastore, 1) := by decide +kernel
theorem dL_truth_12 : decode cL_truth 12 = .ok (.goto 7, 3) := by decide +kernel
theorem dL_truth_15 : decode cL_truth 15 = .ok (.astore 5, 2) := by decide +kernel
theorem dL_truth_17 : decode cL_truth 17 = .ok (.iconst 1, 1) := by decide +kernel
theorem dL_truth_18 : decode cL_truth 18 = .ok (.ireturn, 1) := by decide +kernel
theorem dL_truth_19 : decode cL_truth 19 = .ok (.iconst 0, 1) := by decide +kernel
theorem dL_truth_20 : decode cL_truth 20 = .ok (.ireturn, 1) := by decide +kernel
theorem dL_learned_0 : decode cL_learned 0 = .ok (.aload_n 3, 1) := by decide +kernel
theorem dL_learned_1 : decode cL_learned 1 = .ok (.iconst 0, 1) := by decide +kernel
theorem dL_learned_2 : decode cL_learned 2 = .ok (.aload_n 0, 1) := by decide +kernel
theorem dL_learned_3 : decode cL_learned 3 = .ok (.iload_n 1, 1) := by decide +kernel
theorem dL_learned_4 : decode cL_learned 4 = .ok (.iload_n 2, 1) := by decide +kernel
theorem dL_learned_5 : decode cL_learned 5 = .ok (.invokevirtual 15, 3) := by decide +kernel
theorem dL_learned_8 : decode cL_learned 8 = .ok (.i2l, 1) := by decide +kernel
theorem dL_learned_9 : decode cL_learned 9 = .ok (.lastore, 1) := by decide +kernel
theorem dL_learned_10 : decode cL_learned 10 = .ok (.goto 7, 3) := by decide +kernel
theorem dL_learned_13 : decode cL_learned 13 = .ok (.astore 4, 2) := by decide +kernel
theorem dL_learned_15 : decode cL_learned 15 = .ok (.iconst 1, 1) := by decide +kernel
theorem dL_learned_16 : decode cL_learned 16 = .ok (.ireturn, 1) := by decide +kernel
theorem dL_learned_17 : decode cL_learned 17 = .ok (.iconst 0, 1) := by decide +kernel
theorem dL_learned_18 : decode cL_learned 18 = .ok (.ireturn, 1) := by decide +kernel
theorem dL_law_0 : decode cL_law 0 = .ok (.new 8, 3) := by decide +kernel
theorem dL_law_3 : decode cL_law 3 = .ok (.dup, 1) := by decide +kernel
theorem dL_law_4 : decode cL_law 4 = .ok (.invokespecial 19, 3) := by decide +kernel
theorem dL_law_7 : decode cL_law 7 = .ok (.astore_n 1, 1) := by decide +kernel
theorem dL_law_8 : decode cL_law 8 = .ok (.new 20, 3) := by decide +kernel
theorem dL_law_11 : decode cL_law 11 = .ok (.dup, 1) := by decide +kernel
theorem dL_law_12 : decode cL_law 12 = .ok (.invokespecial 22, 3) := by decide +kernel
theorem dL_law_15 : decode cL_law 15 = .ok (.astore_n 2, 1) := by decide +kernel
theorem dL_law_16 : decode cL_law 16 = .ok (.iconst 1, 1) := by decide +kernel
theorem dL_law_17 : decode cL_law 17 = .ok (.newarray .long, 2) := by decide +kernel
theorem dL_law_19 : decode cL_law 19 = .ok (.astore_n 3, 1) := by decide +kernel
theorem dL_law_20 : decode cL_law 20 = .ok (.iconst 0, 1) := by decide +kernel
theorem dL_law_21 : decode cL_law 21 = .ok (.istore 4, 2) := by decide +kernel
theorem dL_law_23 : decode cL_law 23 = .ok (.iload 4, 2) := by decide +kernel
theorem dL_law_25 : decode cL_law 25 = .ok (.aload_n 0, 1) := by decide +kernel
theorem dL_law_26 : decode cL_law 26 = .ok (.arraylength, 1) := by decide +kernel
theorem dL_law_27 : decode cL_law 27 = .ok (.bipush 7, 2) := by decide +kernel
theorem dL_law_29 : decode cL_law 29 = .ok (.isub, 1) := by decide +kernel
theorem dL_law_30 : decode cL_law 30 = .ok (.if_icmp .gt 1564, 3) := by decide +kernel
theorem dL_law_33 : decode cL_law 33 = .ok (.aload_n 0, 1) := by decide +kernel
theorem dL_law_34 : decode cL_law 34 = .ok (.iload 4, 2) := by decide +kernel
theorem dL_law_36 : decode cL_law 36 = .ok (.iaload, 1) := by decide +kernel
theorem dL_law_37 : decode cL_law 37 = .ok (.bipush 31, 2) := by decide +kernel
theorem dL_law_39 : decode cL_law 39 = .ok (.iand, 1) := by decide +kernel
theorem dL_law_40 : decode cL_law 40 = .ok (.tableswitch 1548 0 31 #[144, 217, 242, 255, 268, 305, 385, 434, 521, 534, 583, 632, 681, 719, 757, 819, 881, 930, 955, 992, 1070, 1123, 1149, 1186, 1212, 1238, 1275, 1312, 1361, 1442, 1510, 1523], 144) := by decide +kernel
theorem dL_law_184 : decode cL_law 184 = .ok (.aload_n 1, 1) := by decide +kernel
theorem dL_law_185 : decode cL_law 185 = .ok (.aload_n 0, 1) := by decide +kernel
theorem dL_law_186 : decode cL_law 186 = .ok (.iload 4, 2) := by decide +kernel
theorem dL_law_188 : decode cL_law 188 = .ok (.iconst 1, 1) := by decide +kernel
theorem dL_law_189 : decode cL_law 189 = .ok (.iadd, 1) := by decide +kernel
theorem dL_law_190 : decode cL_law 190 = .ok (.iaload, 1) := by decide +kernel
theorem dL_law_191 : decode cL_law 191 = .ok (.aload_n 0, 1) := by decide +kernel
theorem dL_law_192 : decode cL_law 192 = .ok (.iload 4, 2) := by decide +kernel
theorem dL_law_194 : decode cL_law 194 = .ok (.iconst 2, 1) := by decide +kernel
theorem dL_law_195 : decode cL_law 195 = .ok (.iadd, 1) := by decide +kernel
theorem dL_law_196 : decode cL_law 196 = .ok (.iaload, 1) := by decide +kernel
theorem dL_law_197 : decode cL_law 197 = .ok (.aload_n 0, 1) := by decide +kernel
theorem dL_law_198 : decode cL_law 198 = .ok (.iload 4, 2) := by decide +kernel
theorem dL_law_200 : decode cL_law 200 = .ok (.iconst 3, 1) := by decide +kernel
theorem dL_law_201 : decode cL_law 201 = .ok (.iadd, 1) := by decide +kernel
theorem dL_law_202 : decode cL_law 202 = .ok (.iaload, 1) := by decide +kernel
theorem dL_law_203 : decode cL_law 203 = .ok (.aload_n 0, 1) := by decide +kernel
theorem dL_law_204 : decode cL_law 204 = .ok (.iload 4, 2) := by decide +kernel
theorem dL_law_206 : decode cL_law 206 = .ok (.iconst 4, 1) := by decide +kernel
theorem dL_law_207 : decode cL_law 207 = .ok (.iadd, 1) := by decide +kernel
theorem dL_law_208 : decode cL_law 208 = .ok (.iaload, 1) := by decide +kernel
theorem dL_law_209 : decode cL_law 209 = .ok (.aload_n 0, 1) := by decide +kernel
theorem dL_law_210 : decode cL_law 210 = .ok (.iload 4, 2) := by decide +kernel
theorem dL_law_212 : decode cL_law 212 = .ok (.iconst 5, 1) := by decide +kernel
theorem dL_law_213 : decode cL_law 213 = .ok (.iadd, 1) := by decide +kernel
theorem dL_law_214 : decode cL_law 214 = .ok (.iaload, 1) := by decide +kernel
theorem dL_law_215 : decode cL_law 215 = .ok (.invokevirtual 23, 3) := by decide +kernel
theorem dL_law_218 : decode cL_law 218 = .ok (.aload_n 2, 1) := by decide +kernel
theorem dL_law_219 : decode cL_law 219 = .ok (.aload_n 0, 1) := by decide +kernel
theorem dL_law_220 : decode cL_law 220 = .ok (.iload 4, 2) := by decide +kernel
theorem dL_law_222 : decode cL_law 222 = .ok (.iconst 1, 1) := by decide +kernel
theorem dL_law_223 : decode cL_law 223 = .ok (.iadd, 1) := by decide +kernel
theorem dL_law_224 : decode cL_law 224 = .ok (.iaload, 1) := by decide +kernel
theorem dL_law_225 : decode cL_law 225 = .ok (.aload_n 0, 1) := by decide +kernel
theorem dL_law_226 : decode cL_law 226 = .ok (.iload 4, 2) := by decide +kernel
theorem dL_law_228 : decode cL_law 228 = .ok (.iconst 2, 1) := by decide +kernel
theorem dL_law_229 : decode cL_law 229 = .ok (.iadd, 1) := by decide +kernel
theorem dL_law_230 : decode cL_law 230 = .ok (.iaload, 1) := by decide +kernel
theorem dL_law_231 : decode cL_law 231 = .ok (.aload_n 0, 1) := by decide +kernel
theorem dL_law_232 : decode cL_law 232 = .ok (.iload 4, 2) := by decide +kernel
theorem dL_law_234 : decode cL_law 234 = .ok (.iconst 3, 1) := by decide +kernel
theorem dL_law_235 : decode cL_law 235 = .ok (.iadd, 1) := by decide +kernel
theorem dL_law_236 : decode cL_law 236 = .ok (.iaload, 1) := by decide +kernel
theorem dL_law_237 : decode cL_law 237 = .ok (.aload_n 0, 1) := by decide +kernel
theorem dL_law_238 : decode cL_law 238 = .ok (.iload 4, 2) := by decide +kernel
theorem dL_law_240 : decode cL_law 240 = .ok (.iconst 4, 1) := by decide +kernel
theorem dL_law_241 : decode cL_law 241 = .ok (.iadd, 1) := by decide +kernel
theorem dL_law_242 : decode cL_law 242 = .ok (.iaload, 1) := by decide +kernel
theorem dL_law_243 : decode cL_law 243 = .ok (.aload_n 0, 1) := by decide +kernel
theorem dL_law_244 : decode cL_law 244 = .ok (.iload 4, 2) := by decide +kernel
theorem dL_law_246 : decode cL_law 246 = .ok (.iconst 5, 1) := by decide +kernel
theorem dL_law_247 : decode cL_law 247 = .ok (.iadd, 1) := by decide +kernel
theorem dL_law_248 : decode cL_law 248 = .ok (.iaload, 1) := by decide +kernel
theorem dL_law_249 : decode cL_law 249 = .ok (.invokevirtual 27, 3) := by decide +kernel
theorem dL_law_252 : decode cL_law 252 = .ok (.if_icmp .eq 1336, 3) := by decide +kernel
theorem dL_law_255 : decode cL_law 255 = .ok (.iconst 0, 1) := by decide +kernel
theorem dL_law_256 : decode cL_law 256 = .ok (.ireturn, 1) := by decide +kernel
theorem dL_law_257 : decode cL_law 257 = .ok (.aload_n 1, 1) := by decide +kernel
theorem dL_law_258 : decode cL_law 258 = .ok (.aload_n 0, 1) := by decide +kernel
theorem dL_law_259 : decode cL_law 259 = .ok (.iload 4, 2) := by decide +kernel
theorem dL_law_261 : decode cL_law 261 = .ok (.iconst 1, 1) := by decide +kernel
theorem dL_law_262 : decode cL_law 262 = .ok (.iadd, 1) := by decide +kernel
theorem dL_law_263 : decode cL_law 263 = .ok (.iaload, 1) := by decide +kernel
theorem dL_law_264 : decode cL_law 264 = .ok (.invokevirtual 28, 3) := by decide +kernel
theorem dL_law_267 : decode cL_law 267 = .ok (.aload_n 2, 1) := by decide +kernel
theorem dL_law_268 : decode cL_law 268 = .ok (.aload_n 0, 1) := by decide +kernel
theorem dL_law_269 : decode cL_law 269 = .ok (.iload 4, 2) := by decide +kernel
theorem dL_law_271 : decode cL_law 271 = .ok (.iconst 1, 1) := by decide +kernel
theorem dL_law_272 : decode cL_law 272 = .ok (.iadd, 1) := by decide +kernel
theorem dL_law_273 : decode cL_law 273 = .ok (.iaload, 1) := by decide +kernel
theorem dL_law_274 : decode cL_law 274 = .ok (.invokevirtual 32, 3) := by decide +kernel
theorem dL_law_277 : decode cL_law 277 = .ok (.if_icmp .eq 1311, 3) := by decide +kernel
theorem dL_law_280 : decode cL_law 280 = .ok (.iconst 0, 1) := by decide +kernel
theorem dL_law_281 : decode cL_law 281 = .ok (.ireturn, 1) := by decide +kernel
theorem dL_law_282 : decode cL_law 282 = .ok (.aload_n 1, 1) := by decide +kernel
theorem dL_law_283 : decode cL_law 283 = .ok (.invokevirtual 33, 3) := by decide +kernel
theorem dL_law_286 : decode cL_law 286 = .ok (.aload_n 2, 1) := by decide +kernel
theorem dL_law_287 : decode cL_law 287 = .ok (.invokevirtual 37, 3) := by decide +kernel
theorem dL_law_290 : decode cL_law 290 = .ok (.if_icmp .eq 1298, 3) := by decide +kernel
theorem dL_law_293 : decode cL_law 293 = .ok (.iconst 0, 1) := by decide +kernel
theorem dL_law_294 : decode cL_law 294 = .ok (.ireturn, 1) := by decide +kernel
theorem dL_law_295 : decode cL_law 295 = .ok (.aload_n 1, 1) := by decide +kernel
theorem dL_law_296 : decode cL_law 296 = .ok (.invokevirtual 38, 3) := by decide +kernel
theorem dL_law_299 : decode cL_law 299 = .ok (.aload_n 2, 1) := by decide +kernel
theorem dL_law_300 : decode cL_law 300 = .ok (.invokevirtual 41, 3) := by decide +kernel
theorem dL_law_303 : decode cL_law 303 = .ok (.if_icmp .eq 1285, 3) := by decide +kernel
theorem dL_law_306 : decode cL_law 306 = .ok (.iconst 0, 1) := by decide +kernel
theorem dL_law_307 : decode cL_law 307 = .ok (.ireturn, 1) := by decide +kernel
theorem dL_law_308 : decode cL_law 308 = .ok (.aload_n 1, 1) := by decide +kernel
theorem dL_law_309 : decode cL_law 309 = .ok (.aload_n 0, 1) := by decide +kernel
theorem dL_law_310 : decode cL_law 310 = .ok (.iload 4, 2) := by decide +kernel
theorem dL_law_312 : decode cL_law 312 = .ok (.iconst 1, 1) := by decide +kernel
theorem dL_law_313 : decode cL_law 313 = .ok (.iadd, 1) := by decide +kernel
theorem dL_law_314 : decode cL_law 314 = .ok (.iaload, 1) := by decide +kernel
theorem dL_law_315 : decode cL_law 315 = .ok (.aload_n 0, 1) := by decide +kernel
theorem dL_law_316 : decode cL_law 316 = .ok (.iload 4, 2) := by decide +kernel
theorem dL_law_318 : decode cL_law 318 = .ok (.iconst 2, 1) := by decide +kernel
theorem dL_law_319 : decode cL_law 319 = .ok (.iadd, 1) := by decide +kernel
theorem dL_law_320 : decode cL_law 320 = .ok (.iaload, 1) := by decide +kernel
theorem dL_law_321 : decode cL_law 321 = .ok (.invokevirtual 42, 3) := by decide +kernel
theorem dL_law_324 : decode cL_law 324 = .ok (.aload_n 2, 1) := by decide +kernel
theorem dL_law_325 : decode cL_law 325 = .ok (.aload_n 0, 1) := by decide +kernel
theorem dL_law_326 : decode cL_law 326 = .ok (.iload 4, 2) := by decide +kernel
theorem dL_law_328 : decode cL_law 328 = .ok (.iconst 1, 1) := by decide +kernel
theorem dL_law_329 : decode cL_law 329 = .ok (.iadd, 1) := by decide +kernel
theorem dL_law_330 : decode cL_law 330 = .ok (.iaload, 1) := by decide +kernel
theorem dL_law_331 : decode cL_law 331 = .ok (.aload_n 0, 1) := by decide +kernel
theorem dL_law_332 : decode cL_law 332 = .ok (.iload 4, 2) := by decide +kernel
theorem dL_law_334 : decode cL_law 334 = .ok (.iconst 2, 1) := by decide +kernel
theorem dL_law_335 : decode cL_law 335 = .ok (.iadd, 1) := by decide +kernel
theorem dL_law_336 : decode cL_law 336 = .ok (.iaload, 1) := by decide +kernel
theorem dL_law_337 : decode cL_law 337 = .ok (.invokevirtual 45, 3) := by decide +kernel
theorem dL_law_340 : decode cL_law 340 = .ok (.if_icmp .eq 1248, 3) := by decide +kernel
theorem dL_law_343 : decode cL_law 343 = .ok (.iconst 0, 1) := by decide +kernel
theorem dL_law_344 : decode cL_law 344 = .ok (.ireturn, 1) := by decide +kernel
theorem dL_law_345 : decode cL_law 345 = .ok (.aload_n 1, 1) := by decide +kernel
theorem dL_law_346 : decode cL_law 346 = .ok (.aload_n 0, 1) := by decide +kernel
theorem dL_law_347 : decode cL_law 347 = .ok (.iload 4, 2) := by decide +kernel
theorem dL_law_349 : decode cL_law 349 = .ok (.iconst 1, 1) := by decide +kernel
theorem dL_law_350 : decode cL_law 350 = .ok (.iadd, 1) := by decide +kernel
theorem dL_law_351 : decode cL_law 351 = .ok (.iaload, 1) := by decide +kernel
theorem dL_law_352 : decode cL_law 352 = .ok (.aload_n 0, 1) := by decide +kernel
theorem dL_law_353 : decode cL_law 353 = .ok (.iload 4, 2) := by decide +kernel
theorem dL_law_355 : decode cL_law 355 = .ok (.iconst 2, 1) := by decide +kernel
theorem dL_law_356 : decode cL_law 356 = .ok (.iadd, 1) := by decide +kernel
theorem dL_law_357 : decode cL_law 357 = .ok (.iaload, 1) := by decide +kernel
theorem dL_law_358 : decode cL_law 358 = .ok (.aload_n 0, 1) := by decide +kernel
theorem dL_law_359 : decode cL_law 359 = .ok (.iload 4, 2) := by decide +kernel
theorem dL_law_361 : decode cL_law 361 = .ok (.iconst 3, 1) := by decide +kernel
theorem dL_law_362 : decode cL_law 362 = .ok (.iadd, 1) := by decide +kernel
theorem dL_law_363 : decode cL_law 363 = .ok (.iaload, 1) := by decide +kernel
theorem dL_law_364 : decode cL_law 364 = .ok (.aload_n 3, 1) := by decide +kernel
theorem dL_law_365 : decode cL_law 365 = .ok (.invokestatic 46, 3) := by decide +kernel
theorem dL_law_368 : decode cL_law 368 = .ok (.istore 5, 2) := by decide +kernel
theorem dL_law_370 : decode cL_law 370 = .ok (.aload_n 2, 1) := by decide +kernel
theorem dL_law_371 : decode cL_law 371 = .ok (.aload_n 0, 1) := by decide +kernel
theorem dL_law_372 : decode cL_law 372 = .ok (.iload 4, 2) := by decide +kernel
theorem dL_law_374 : decode cL_law 374 = .ok (.iconst 1, 1) := by decide +kernel
theorem dL_law_375 : decode cL_law 375 = .ok (.iadd, 1) := by decide +kernel
theorem dL_law_376 : decode cL_law 376 = .ok (.iaload, 1) := by decide +kernel
theorem dL_law_377 : decode cL_law 377 = .ok (.aload_n 0, 1) := by decide +kernel
theorem dL_law_378 : decode cL_law 378 = .ok (.iload 4, 2) := by decide +kernel
theorem dL_law_380 : decode cL_law 380 = .ok (.iconst 2, 1) := by decide +kernel
theorem dL_law_381 : decode cL_law 381 = .ok (.iadd, 1) := by decide +kernel
theorem dL_law_382 : decode cL_law 382 = .ok (.iaload, 1) := by decide +kernel
theorem dL_law_383 : decode cL_law 383 = .ok (.aload_n 0, 1) := by decide +kernel
theorem dL_law_384 : decode cL_law 384 = .ok (.iload 4, 2) := by decide +kernel
theorem dL_law_386 : decode cL_law 386 = .ok (.iconst 3, 1) := by decide +kernel
theorem dL_law_387 : decode cL_law 387 = .ok (.iadd, 1) := by decide +kernel
theorem dL_law_388 : decode cL_law 388 = .ok (.iaload, 1) := by decide +kernel
theorem dL_law_389 : decode cL_law 389 = .ok (.invokevirtual 51, 3) := by decide +kernel
theorem dL_law_392 : decode cL_law 392 = .ok (.istore 6, 2) := by decide +kernel
theorem dL_law_394 : decode cL_law 394 = .ok (.aload_n 2, 1) := by decide +kernel
theorem dL_law_395 : decode cL_law 395 = .ok (.invokevirtual 52, 3) := by decide +kernel
theorem dL_law_398 : decode cL_law 398 = .ok (.iload 5, 2) := by decide +kernel
theorem dL_law_400 : decode cL_law 400 = .ok (.if_icmp .eq 5, 3) := by decide +kernel
theorem dL_law_403 : decode cL_law 403 = .ok (.iconst 0, 1) := by decide +kernel
theorem dL_law_404 : decode cL_law 404 = .ok (.ireturn, 1) := by decide +kernel
theorem dL_law_405 : decode cL_law 405 = .ok (.iload 5, 2) := by decide +kernel
theorem dL_law_407 : decode cL_law 407 = .ok (.ifCond .ne 15, 3) := by decide +kernel
theorem dL_law_410 : decode cL_law 410 = .ok (.aload_n 3, 1) := by decide +kernel
theorem dL_law_411 : decode cL_law 411 = .ok (.iconst 0, 1) := by decide +kernel
theorem dL_law_412 : decode cL_law 412 = .ok (.laload, 1) := by decide +kernel
theorem dL_law_413 : decode cL_law 413 = .ok (.iload 6, 2) := by decide +kernel
theorem dL_law_415 : decode cL_law 415 = .ok (.i2l, 1) := by decide +kernel
theorem dL_law_416 : decode cL_law 416 = .ok (.lcmp, 1) := by decide +kernel
theorem dL_law_417 : decode cL_law 417 = .ok (.ifCond .eq 5, 3) := by decide +kernel
theorem dL_law_420 : decode cL_law 420 = .ok (.iconst 0, 1) := by decide +kernel
theorem dL_law_421 : decode cL_law 421 = .ok (.ireturn, 1) := by decide +kernel
theorem dL_law_422 : decode cL_law 422 = .ok (.goto 1166, 3) := by decide +kernel
theorem dL_law_425 : decode cL_law 425 = .ok (.aload_n 1, 1) := by decide +kernel
theorem dL_law_426 : decode cL_law 426 = .ok (.aload_n 0, 1) := by decide +kernel
theorem dL_law_427 : decode cL_law 427 = .ok (.iload 4, 2) := by decide +kernel
theorem dL_law_429 : decode cL_law 429 = .ok (.iconst 1, 1) := by decide +kernel
theorem dL_law_430 : decode cL_law 430 = .ok (.iadd, 1) := by decide +kernel
theorem dL_law_431 : decode cL_law 431 = .ok (.iaload, 1) := by decide +kernel
theorem dL_law_432 : decode cL_law 432 = .ok (.aload_n 0, 1) := by decide +kernel
theorem dL_law_433 : decode cL_law 433 = .ok (.iload 4, 2) := by decide +kernel
theorem dL_law_435 : decode cL_law 435 = .ok (.iconst 2, 1) := by decide +kernel
theorem dL_law_436 : decode cL_law 436 = .ok (.iadd, 1) := by decide +kernel
theorem dL_law_437 : decode cL_law 437 = .ok (.iaload, 1) := by decide +kernel
theorem dL_law_438 : decode cL_law 438 = .ok (.aload_n 0, 1) := by decide +kernel
theorem dL_law_439 : decode cL_law 439 = .ok (.iload 4, 2) := by decide +kernel
theorem dL_law_441 : decode cL_law 441 = .ok (.iconst 3, 1) := by decide +kernel
theorem dL_law_442 : decode cL_law 442 = .ok (.iadd, 1) := by decide +kernel
theorem dL_law_443 : decode cL_law 443 = .ok (.iaload, 1) := by decide +kernel
theorem dL_law_444 : decode cL_law 444 = .ok (.invokevirtual 55, 3) := by decide +kernel
theorem dL_law_447 : decode cL_law 447 = .ok (.aload_n 2, 1) := by decide +kernel
theorem dL_law_448 : decode cL_law 448 = .ok (.aload_n 0, 1) := by decide +kernel
theorem dL_law_449 : decode cL_law 449 = .ok (.iload 4, 2) := by decide +kernel
theorem dL_law_451 : decode cL_law 451 = .ok (.iconst 1, 1) := by decide +kernel
theorem dL_law_452 : decode cL_law 452 = .ok (.iadd, 1) := by decide +kernel
theorem dL_law_453 : decode cL_law 453 = .ok (.iaload, 1) := by decide +kernel
theorem dL_law_454 : decode cL_law 454 = .ok (.aload_n 0, 1) := by decide +kernel
theorem dL_law_455 : decode cL_law 455 = .ok (.iload 4, 2) := by decide +kernel
theorem dL_law_457 : decode cL_law 457 = .ok (.iconst 2, 1) := by decide +kernel
theorem dL_law_458 : decode cL_law 458 = .ok (.iadd, 1) := by decide +kernel
theorem dL_law_459 : decode cL_law 459 = .ok (.iaload, 1) := by decide +kernel
theorem dL_law_460 : decode cL_law 460 = .ok (.aload_n 0, 1) := by decide +kernel
theorem dL_law_461 : decode cL_law 461 = .ok (.iload 4, 2) := by decide +kernel
theorem dL_law_463 : decode cL_law 463 = .ok (.iconst 3, 1) := by decide +kernel
theorem dL_law_464 : decode cL_law 464 = .ok (.iadd, 1) := by decide +kernel
theorem dL_law_465 : decode cL_law 465 = .ok (.iaload, 1) := by decide +kernel
theorem dL_law_466 : decode cL_law 466 = .ok (.invokevirtual 59, 3) := by decide +kernel
theorem dL_law_469 : decode cL_law 469 = .ok (.if_icmp .eq 1119, 3) := by decide +kernel
theorem dL_law_472 : decode cL_law 472 = .ok (.iconst 0, 1) := by decide +kernel
theorem dL_law_473 : decode cL_law 473 = .ok (.ireturn, 1) := by decide +kernel
theorem dL_law_474 : decode cL_law 474 = .ok (.aload_n 1, 1) := by decide +kernel
theorem dL_law_475 : decode cL_law 475 = .ok (.aload_n 0, 1) := by decide +kernel
theorem dL_law_476 : decode cL_law 476 = .ok (.iload 4, 2) := by decide +kernel
theorem dL_law_478 : decode cL_law 478 = .ok (.iconst 1, 1) := by decide +kernel
theorem dL_law_479 : decode cL_law 479 = .ok (.iadd, 1) := by decide +kernel
theorem dL_law_480 : decode cL_law 480 = .ok (.iaload, 1) := by decide +kernel
theorem dL_law_481 : decode cL_law 481 = .ok (.aload_n 0, 1) := by decide +kernel
theorem dL_law_482 : decode cL_law 482 = .ok (.iload 4, 2) := by decide +kernel
theorem dL_law_484 : decode cL_law 484 = .ok (.iconst 2, 1) := by decide +kernel
theorem dL_law_485 : decode cL_law 485 = .ok (.iadd, 1) := by decide +kernel
theorem dL_law_486 : decode cL_law 486 = .ok (.iaload, 1) := by decide +kernel
theorem dL_law_487 : decode cL_law 487 = .ok (.aload_n 0, 1) := by decide +kernel
theorem dL_law_488 : decode cL_law 488 = .ok (.iload 4, 2) := by decide +kernel
theorem dL_law_490 : decode cL_law 490 = .ok (.iconst 3, 1) := by decide +kernel
theorem dL_law_491 : decode cL_law 491 = .ok (.iadd, 1) := by decide +kernel
theorem dL_law_492 : decode cL_law 492 = .ok (.iaload, 1) := by decide +kernel
theorem dL_law_493 : decode cL_law 493 = .ok (.aload_n 0, 1) := by decide +kernel
theorem dL_law_494 : decode cL_law 494 = .ok (.iload 4, 2) := by decide +kernel
theorem dL_law_496 : decode cL_law 496 = .ok (.iconst 4, 1) := by decide +kernel
theorem dL_law_497 : decode cL_law 497 = .ok (.iadd, 1) := by decide +kernel
theorem dL_law_498 : decode cL_law 498 = .ok (.iaload, 1) := by decide +kernel
theorem dL_law_499 : decode cL_law 499 = .ok (.aload_n 0, 1) := by decide +kernel
theorem dL_law_500 : decode cL_law 500 = .ok (.iload 4, 2) := by decide +kernel
theorem dL_law_502 : decode cL_law 502 = .ok (.iconst 5, 1) := by decide +kernel
theorem dL_law_503 : decode cL_law 503 = .ok (.iadd, 1) := by decide +kernel
theorem dL_law_504 : decode cL_law 504 = .ok (.iaload, 1) := by decide +kernel
theorem dL_law_505 : decode cL_law 505 = .ok (.aload_n 0, 1) := by decide +kernel
theorem dL_law_506 : decode cL_law 506 = .ok (.iload 4, 2) := by decide +kernel
theorem dL_law_508 : decode cL_law 508 = .ok (.bipush 6, 2) := by decide +kernel
theorem dL_law_510 : decode cL_law 510 = .ok (.iadd, 1) := by decide +kernel
theorem dL_law_511 : decode cL_law 511 = .ok (.iaload, 1) := by decide +kernel
theorem dL_law_512 : decode cL_law 512 = .ok (.invokevirtual 60, 3) := by decide +kernel
theorem dL_law_515 : decode cL_law 515 = .ok (.aload_n 2, 1) := by decide +kernel
theorem dL_law_516 : decode cL_law 516 = .ok (.aload_n 0, 1) := by decide +kernel
theorem dL_law_517 : decode cL_law 517 = .ok (.iload 4, 2) := by decide +kernel
theorem dL_law_519 : decode cL_law 519 = .ok (.iconst 1, 1) := by decide +kernel
theorem dL_law_520 : decode cL_law 520 = .ok (.iadd, 1) := by decide +kernel
theorem dL_law_521 : decode cL_law 521 = .ok (.iaload, 1) := by decide +kernel
theorem dL_law_522 : decode cL_law 522 = .ok (.aload_n 0, 1) := by decide +kernel
theorem dL_law_523 : decode cL_law 523 = .ok (.iload 4, 2) := by decide +kernel
theorem dL_law_525 : decode cL_law 525 = .ok (.iconst 2, 1) := by decide +kernel
theorem dL_law_526 : decode cL_law 526 = .ok (.iadd, 1) := by decide +kernel
theorem dL_law_527 : decode cL_law 527 = .ok (.iaload, 1) := by decide +kernel
theorem dL_law_528 : decode cL_law 528 = .ok (.aload_n 0, 1) := by decide +kernel
theorem dL_law_529 : decode cL_law 529 = .ok (.iload 4, 2) := by decide +kernel
theorem dL_law_531 : decode cL_law 531 = .ok (.iconst 3, 1) := by decide +kernel
theorem dL_law_532 : decode cL_law 532 = .ok (.iadd, 1) := by decide +kernel
theorem dL_law_533 : decode cL_law 533 = .ok (.iaload, 1) := by decide +kernel
theorem dL_law_534 : decode cL_law 534 = .ok (.aload_n 0, 1) := by decide +kernel
theorem dL_law_535 : decode cL_law 535 = .ok (.iload 4, 2) := by decide +kernel
theorem dL_law_537 : decode cL_law 537 = .ok (.iconst 4, 1) := by decide +kernel
theorem dL_law_538 : decode cL_law 538 = .ok (.iadd, 1) := by decide +kernel
theorem dL_law_539 : decode cL_law 539 = .ok (.iaload, 1) := by decide +kernel
theorem dL_law_540 : decode cL_law 540 = .ok (.aload_n 0, 1) := by decide +kernel
theorem dL_law_541 : decode cL_law 541 = .ok (.iload 4, 2) := by decide +kernel
theorem dL_law_543 : decode cL_law 543 = .ok (.iconst 5, 1) := by decide +kernel
theorem dL_law_544 : decode cL_law 544 = .ok (.iadd, 1) := by decide +kernel
theorem dL_law_545 : decode cL_law 545 = .ok (.iaload, 1) := by decide +kernel
theorem dL_law_546 : decode cL_law 546 = .ok (.aload_n 0, 1) := by decide +kernel
theorem dL_law_547 : decode cL_law 547 = .ok (.iload 4, 2) := by decide +kernel
theorem dL_law_549 : decode cL_law 549 = .ok (.bipush 6, 2) := by decide +kernel
theorem dL_law_551 : decode cL_law 551 = .ok (.iadd, 1) := by decide +kernel
theorem dL_law_552 : decode cL_law 552 = .ok (.iaload, 1) := by decide +kernel
theorem dL_law_553 : decode cL_law 553 = .ok (.invokevirtual 64, 3) := by decide +kernel
theorem dL_law_556 : decode cL_law 556 = .ok (.if_icmp .eq 1032, 3) := by decide +kernel
theorem dL_law_559 : decode cL_law 559 = .ok (.iconst 0, 1) := by decide +kernel
theorem dL_law_560 : decode cL_law 560 = .ok (.ireturn, 1) := by decide +kernel
theorem dL_law_561 : decode cL_law 561 = .ok (.aload_n 1, 1) := by decide +kernel
theorem dL_law_562 : decode cL_law 562 = .ok (.invokevirtual 65, 3) := by decide +kernel
theorem dL_law_565 : decode cL_law 565 = .ok (.aload_n 2, 1) := by decide +kernel
theorem dL_law_566 : decode cL_law 566 = .ok (.invokevirtual 68, 3) := by decide +kernel
theorem dL_law_569 : decode cL_law 569 = .ok (.if_icmp .eq 1019, 3) := by decide +kernel
theorem dL_law_572 : decode cL_law 572 = .ok (.iconst 0, 1) := by decide +kernel
theorem dL_law_573 : decode cL_law 573 = .ok (.ireturn, 1) := by decide +kernel
theorem dL_law_574 : decode cL_law 574 = .ok (.aload_n 1, 1) := by decide +kernel
theorem dL_law_575 : decode cL_law 575 = .ok (.aload_n 0, 1) := by decide +kernel
theorem dL_law_576 : decode cL_law 576 = .ok (.iload 4, 2) := by decide +kernel
theorem dL_law_578 : decode cL_law 578 = .ok (.iconst 1, 1) := by decide +kernel
theorem dL_law_579 : decode cL_law 579 = .ok (.iadd, 1) := by decide +kernel
theorem dL_law_580 : decode cL_law 580 = .ok (.iaload, 1) := by decide +kernel
theorem dL_law_581 : decode cL_law 581 = .ok (.aload_n 0, 1) := by decide +kernel
theorem dL_law_582 : decode cL_law 582 = .ok (.iload 4, 2) := by decide +kernel
theorem dL_law_584 : decode cL_law 584 = .ok (.iconst 2, 1) := by decide +kernel
theorem dL_law_585 : decode cL_law 585 = .ok (.iadd, 1) := by decide +kernel
theorem dL_law_586 : decode cL_law 586 = .ok (.iaload, 1) := by decide +kernel
theorem dL_law_587 : decode cL_law 587 = .ok (.aload_n 0, 1) := by decide +kernel
theorem dL_law_588 : decode cL_law 588 = .ok (.iload 4, 2) := by decide +kernel
theorem dL_law_590 : decode cL_law 590 = .ok (.iconst 3, 1) := by decide +kernel
theorem dL_law_591 : decode cL_law 591 = .ok (.iadd, 1) := by decide +kernel
theorem dL_law_592 : decode cL_law 592 = .ok (.iaload, 1) := by decide +kernel
theorem dL_law_593 : decode cL_law 593 = .ok (.invokevirtual 69, 3) := by decide +kernel
theorem dL_law_596 : decode cL_law 596 = .ok (.aload_n 2, 1) := by decide +kernel
theorem dL_law_597 : decode cL_law 597 = .ok (.aload_n 0, 1) := by decide +kernel
theorem dL_law_598 : decode cL_law 598 = .ok (.iload 4, 2) := by decide +kernel
theorem dL_law_600 : decode cL_law 600 = .ok (.iconst 1, 1) := by decide +kernel
theorem dL_law_601 : decode cL_law 601 = .ok (.iadd, 1) := by decide +kernel
theorem dL_law_602 : decode cL_law 602 = .ok (.iaload, 1) := by decide +kernel
theorem dL_law_603 : decode cL_law 603 = .ok (.aload_n 0, 1) := by decide +kernel
theorem dL_law_604 : decode cL_law 604 = .ok (.iload 4, 2) := by decide +kernel
theorem dL_law_606 : decode cL_law 606 = .ok (.iconst 2, 1) := by decide +kernel
theorem dL_law_607 : decode cL_law 607 = .ok (.iadd, 1) := by decide +kernel
theorem dL_law_608 : decode cL_law 608 = .ok (.iaload, 1) := by decide +kernel
theorem dL_law_609 : decode cL_law 609 = .ok (.aload_n 0, 1) := by decide +kernel
theorem dL_law_610 : decode cL_law 610 = .ok (.iload 4, 2) := by decide +kernel
theorem dL_law_612 : decode cL_law 612 = .ok (.iconst 3, 1) := by decide +kernel
theorem dL_law_613 : decode cL_law 613 = .ok (.iadd, 1) := by decide +kernel
theorem dL_law_614 : decode cL_law 614 = .ok (.iaload, 1) := by decide +kernel
theorem dL_law_615 : decode cL_law 615 = .ok (.invokevirtual 72, 3) := by decide +kernel
theorem dL_law_618 : decode cL_law 618 = .ok (.if_icmp .eq 970, 3) := by decide +kernel
theorem dL_law_621 : decode cL_law 621 = .ok (.iconst 0, 1) := by decide +kernel
theorem dL_law_622 : decode cL_law 622 = .ok (.ireturn, 1) := by decide +kernel
theorem dL_law_623 : decode cL_law 623 = .ok (.aload_n 1, 1) := by decide +kernel
theorem dL_law_624 : decode cL_law 624 = .ok (.aload_n 0, 1) := by decide +kernel
theorem dL_law_625 : decode cL_law 625 = .ok (.iload 4, 2) := by decide +kernel
theorem dL_law_627 : decode cL_law 627 = .ok (.iconst 1, 1) := by decide +kernel
theorem dL_law_628 : decode cL_law 628 = .ok (.iadd, 1) := by decide +kernel
theorem dL_law_629 : decode cL_law 629 = .ok (.iaload, 1) := by decide +kernel
theorem dL_law_630 : decode cL_law 630 = .ok (.aload_n 0, 1) := by decide +kernel
theorem dL_law_631 : decode cL_law 631 = .ok (.iload 4, 2) := by decide +kernel
theorem dL_law_633 : decode cL_law 633 = .ok (.iconst 2, 1) := by decide +kernel
theorem dL_law_634 : decode cL_law 634 = .ok (.iadd, 1) := by decide +kernel
theorem dL_law_635 : decode cL_law 635 = .ok (.iaload, 1) := by decide +kernel
theorem dL_law_636 : decode cL_law 636 = .ok (.aload_n 0, 1) := by decide +kernel
theorem dL_law_637 : decode cL_law 637 = .ok (.iload 4, 2) := by decide +kernel
theorem dL_law_639 : decode cL_law 639 = .ok (.iconst 3, 1) := by decide +kernel
theorem dL_law_640 : decode cL_law 640 = .ok (.iadd, 1) := by decide +kernel
theorem dL_law_641 : decode cL_law 641 = .ok (.iaload, 1) := by decide +kernel
theorem dL_law_642 : decode cL_law 642 = .ok (.invokevirtual 73, 3) := by decide +kernel
theorem dL_law_645 : decode cL_law 645 = .ok (.aload_n 2, 1) := by decide +kernel
theorem dL_law_646 : decode cL_law 646 = .ok (.aload_n 0, 1) := by decide +kernel
theorem dL_law_647 : decode cL_law 647 = .ok (.iload 4, 2) := by decide +kernel
theorem dL_law_649 : decode cL_law 649 = .ok (.iconst 1, 1) := by decide +kernel
theorem dL_law_650 : decode cL_law 650 = .ok (.iadd, 1) := by decide +kernel
theorem dL_law_651 : decode cL_law 651 = .ok (.iaload, 1) := by decide +kernel
theorem dL_law_652 : decode cL_law 652 = .ok (.aload_n 0, 1) := by decide +kernel
theorem dL_law_653 : decode cL_law 653 = .ok (.iload 4, 2) := by decide +kernel
theorem dL_law_655 : decode cL_law 655 = .ok (.iconst 2, 1) := by decide +kernel
theorem dL_law_656 : decode cL_law 656 = .ok (.iadd, 1) := by decide +kernel
theorem dL_law_657 : decode cL_law 657 = .ok (.iaload, 1) := by decide +kernel
theorem dL_law_658 : decode cL_law 658 = .ok (.aload_n 0, 1) := by decide +kernel
theorem dL_law_659 : decode cL_law 659 = .ok (.iload 4, 2) := by decide +kernel
theorem dL_law_661 : decode cL_law 661 = .ok (.iconst 3, 1) := by decide +kernel
theorem dL_law_662 : decode cL_law 662 = .ok (.iadd, 1) := by decide +kernel
theorem dL_law_663 : decode cL_law 663 = .ok (.iaload, 1) := by decide +kernel
theorem dL_law_664 : decode cL_law 664 = .ok (.invokevirtual 76, 3) := by decide +kernel
theorem dL_law_667 : decode cL_law 667 = .ok (.if_icmp .eq 921, 3) := by decide +kernel
theorem dL_law_670 : decode cL_law 670 = .ok (.iconst 0, 1) := by decide +kernel
theorem dL_law_671 : decode cL_law 671 = .ok (.ireturn, 1) := by decide +kernel
theorem dL_law_672 : decode cL_law 672 = .ok (.aload_n 1, 1) := by decide +kernel
theorem dL_law_673 : decode cL_law 673 = .ok (.aload_n 0, 1) := by decide +kernel
theorem dL_law_674 : decode cL_law 674 = .ok (.iload 4, 2) := by decide +kernel
theorem dL_law_676 : decode cL_law 676 = .ok (.iconst 1, 1) := by decide +kernel
theorem dL_law_677 : decode cL_law 677 = .ok (.iadd, 1) := by decide +kernel
theorem dL_law_678 : decode cL_law 678 = .ok (.iaload, 1) := by decide +kernel
theorem dL_law_679 : decode cL_law 679 = .ok (.aload_n 0, 1) := by decide +kernel
theorem dL_law_680 : decode cL_law 680 = .ok (.iload 4, 2) := by decide +kernel
theorem dL_law_682 : decode cL_law 682 = .ok (.iconst 2, 1) := by decide +kernel
theorem dL_law_683 : decode cL_law 683 = .ok (.iadd, 1) := by decide +kernel
theorem dL_law_684 : decode cL_law 684 = .ok (.iaload, 1) := by decide +kernel
theorem dL_law_685 : decode cL_law 685 = .ok (.aload_n 0, 1) := by decide +kernel
theorem dL_law_686 : decode cL_law 686 = .ok (.iload 4, 2) := by decide +kernel
theorem dL_law_688 : decode cL_law 688 = .ok (.iconst 3, 1) := by decide +kernel
theorem dL_law_689 : decode cL_law 689 = .ok (.iadd, 1) := by decide +kernel
theorem dL_law_690 : decode cL_law 690 = .ok (.iaload, 1) := by decide +kernel
theorem dL_law_691 : decode cL_law 691 = .ok (.invokevirtual 77, 3) := by decide +kernel
theorem dL_law_694 : decode cL_law 694 = .ok (.aload_n 2, 1) := by decide +kernel
theorem dL_law_695 : decode cL_law 695 = .ok (.aload_n 0, 1) := by decide +kernel
theorem dL_law_696 : decode cL_law 696 = .ok (.iload 4, 2) := by decide +kernel
theorem dL_law_698 : decode cL_law 698 = .ok (.iconst 1, 1) := by decide +kernel
theorem dL_law_699 : decode cL_law 699 = .ok (.iadd, 1) := by decide +kernel
theorem dL_law_700 : decode cL_law 700 = .ok (.iaload, 1) := by decide +kernel
theorem dL_law_701 : decode cL_law 701 = .ok (.aload_n 0, 1) := by decide +kernel
theorem dL_law_702 : decode cL_law 702 = .ok (.iload 4, 2) := by decide +kernel
theorem dL_law_704 : decode cL_law 704 = .ok (.iconst 2, 1) := by decide +kernel
theorem dL_law_705 : decode cL_law 705 = .ok (.iadd, 1) := by decide +kernel
theorem dL_law_706 : decode cL_law 706 = .ok (.iaload, 1) := by decide +kernel
theorem dL_law_707 : decode cL_law 707 = .ok (.aload_n 0, 1) := by decide +kernel
theorem dL_law_708 : decode cL_law 708 = .ok (.iload 4, 2) := by decide +kernel
theorem dL_law_710 : decode cL_law 710 = .ok (.iconst 3, 1) := by decide +kernel
theorem dL_law_711 : decode cL_law 711 = .ok (.iadd, 1) := by decide +kernel
theorem dL_law_712 : decode cL_law 712 = .ok (.iaload, 1) := by decide +kernel
theorem dL_law_713 : decode cL_law 713 = .ok (.invokevirtual 80, 3) := by decide +kernel
theorem dL_law_716 : decode cL_law 716 = .ok (.if_icmp .eq 872, 3) := by decide +kernel
theorem dL_law_719 : decode cL_law 719 = .ok (.iconst 0, 1) := by decide +kernel
theorem dL_law_720 : decode cL_law 720 = .ok (.ireturn, 1) := by decide +kernel
theorem dL_law_721 : decode cL_law 721 = .ok (.aload_n 1, 1) := by decide +kernel
theorem dL_law_722 : decode cL_law 722 = .ok (.aload_n 0, 1) := by decide +kernel
theorem dL_law_723 : decode cL_law 723 = .ok (.iload 4, 2) := by decide +kernel
theorem dL_law_725 : decode cL_law 725 = .ok (.iconst 1, 1) := by decide +kernel
theorem dL_law_726 : decode cL_law 726 = .ok (.iadd, 1) := by decide +kernel
theorem dL_law_727 : decode cL_law 727 = .ok (.iaload, 1) := by decide +kernel
theorem dL_law_728 : decode cL_law 728 = .ok (.aload_n 0, 1) := by decide +kernel
theorem dL_law_729 : decode cL_law 729 = .ok (.iload 4, 2) := by decide +kernel
theorem dL_law_731 : decode cL_law 731 = .ok (.iconst 2, 1) := by decide +kernel
theorem dL_law_732 : decode cL_law 732 = .ok (.iadd, 1) := by decide +kernel
theorem dL_law_733 : decode cL_law 733 = .ok (.iaload, 1) := by decide +kernel
theorem dL_law_734 : decode cL_law 734 = .ok (.invokevirtual 81, 3) := by decide +kernel
theorem dL_law_737 : decode cL_law 737 = .ok (.aload_n 2, 1) := by decide +kernel
theorem dL_law_738 : decode cL_law 738 = .ok (.aload_n 0, 1) := by decide +kernel
theorem dL_law_739 : decode cL_law 739 = .ok (.iload 4, 2) := by decide +kernel
theorem dL_law_741 : decode cL_law 741 = .ok (.iconst 1, 1) := by decide +kernel
theorem dL_law_742 : decode cL_law 742 = .ok (.iadd, 1) := by decide +kernel
theorem dL_law_743 : decode cL_law 743 = .ok (.iaload, 1) := by decide +kernel
theorem dL_law_744 : decode cL_law 744 = .ok (.aload_n 0, 1) := by decide +kernel
theorem dL_law_745 : decode cL_law 745 = .ok (.iload 4, 2) := by decide +kernel
theorem dL_law_747 : decode cL_law 747 = .ok (.iconst 2, 1) := by decide +kernel
theorem dL_law_748 : decode cL_law 748 = .ok (.iadd, 1) := by decide +kernel
theorem dL_law_749 : decode cL_law 749 = .ok (.iaload, 1) := by decide +kernel
theorem dL_law_750 : decode cL_law 750 = .ok (.invokevirtual 85, 3) := by decide +kernel
theorem dL_law_753 : decode cL_law 753 = .ok (.lcmp, 1) := by decide +kernel
theorem dL_law_754 : decode cL_law 754 = .ok (.ifCond .eq 834, 3) := by decide +kernel
theorem dL_law_757 : decode cL_law 757 = .ok (.iconst 0, 1) := by decide +kernel
theorem dL_law_758 : decode cL_law 758 = .ok (.ireturn, 1) := by decide +kernel
theorem dL_law_759 : decode cL_law 759 = .ok (.aload_n 1, 1) := by decide +kernel
theorem dL_law_760 : decode cL_law 760 = .ok (.aload_n 0, 1) := by decide +kernel
theorem dL_law_761 : decode cL_law 761 = .ok (.iload 4, 2) := by decide +kernel
theorem dL_law_763 : decode cL_law 763 = .ok (.iconst 1, 1) := by decide +kernel
theorem dL_law_764 : decode cL_law 764 = .ok (.iadd, 1) := by decide +kernel
theorem dL_law_765 : decode cL_law 765 = .ok (.iaload, 1) := by decide +kernel
theorem dL_law_766 : decode cL_law 766 = .ok (.aload_n 0, 1) := by decide +kernel
theorem dL_law_767 : decode cL_law 767 = .ok (.iload 4, 2) := by decide +kernel
theorem dL_law_769 : decode cL_law 769 = .ok (.iconst 2, 1) := by decide +kernel
theorem dL_law_770 : decode cL_law 770 = .ok (.iadd, 1) := by decide +kernel
theorem dL_law_771 : decode cL_law 771 = .ok (.iaload, 1) := by decide +kernel
theorem dL_law_772 : decode cL_law 772 = .ok (.invokevirtual 86, 3) := by decide +kernel
theorem dL_law_775 : decode cL_law 775 = .ok (.aload_n 2, 1) := by decide +kernel
theorem dL_law_776 : decode cL_law 776 = .ok (.aload_n 0, 1) := by decide +kernel
theorem dL_law_777 : decode cL_law 777 = .ok (.iload 4, 2) := by decide +kernel
theorem dL_law_779 : decode cL_law 779 = .ok (.iconst 1, 1) := by decide +kernel
theorem dL_law_780 : decode cL_law 780 = .ok (.iadd, 1) := by decide +kernel
theorem dL_law_781 : decode cL_law 781 = .ok (.iaload, 1) := by decide +kernel
theorem dL_law_782 : decode cL_law 782 = .ok (.aload_n 0, 1) := by decide +kernel
theorem dL_law_783 : decode cL_law 783 = .ok (.iload 4, 2) := by decide +kernel
theorem dL_law_785 : decode cL_law 785 = .ok (.iconst 2, 1) := by decide +kernel
theorem dL_law_786 : decode cL_law 786 = .ok (.iadd, 1) := by decide +kernel
theorem dL_law_787 : decode cL_law 787 = .ok (.iaload, 1) := by decide +kernel
theorem dL_law_788 : decode cL_law 788 = .ok (.invokevirtual 89, 3) := by decide +kernel
theorem dL_law_791 : decode cL_law 791 = .ok (.lcmp, 1) := by decide +kernel
theorem dL_law_792 : decode cL_law 792 = .ok (.ifCond .eq 796, 3) := by decide +kernel
theorem dL_law_795 : decode cL_law 795 = .ok (.iconst 0, 1) := by decide +kernel
theorem dL_law_796 : decode cL_law 796 = .ok (.ireturn, 1) := by decide +kernel
theorem dL_law_797 : decode cL_law 797 = .ok (.aload_n 1, 1) := by decide +kernel
theorem dL_law_798 : decode cL_law 798 = .ok (.aload_n 0, 1) := by decide +kernel
theorem dL_law_799 : decode cL_law 799 = .ok (.iload 4, 2) := by decide +kernel
theorem dL_law_801 : decode cL_law 801 = .ok (.iconst 1, 1) := by decide +kernel
theorem dL_law_802 : decode cL_law 802 = .ok (.iadd, 1) := by decide +kernel
theorem dL_law_803 : decode cL_law 803 = .ok (.iaload, 1) := by decide +kernel
theorem dL_law_804 : decode cL_law 804 = .ok (.aload_n 0, 1) := by decide +kernel
theorem dL_law_805 : decode cL_law 805 = .ok (.iload 4, 2) := by decide +kernel
theorem dL_law_807 : decode cL_law 807 = .ok (.iconst 2, 1) := by decide +kernel
theorem dL_law_808 : decode cL_law 808 = .ok (.iadd, 1) := by decide +kernel
theorem dL_law_809 : decode cL_law 809 = .ok (.iaload, 1) := by decide +kernel
theorem dL_law_810 : decode cL_law 810 = .ok (.aload_n 0, 1) := by decide +kernel
theorem dL_law_811 : decode cL_law 811 = .ok (.iload 4, 2) := by decide +kernel
theorem dL_law_813 : decode cL_law 813 = .ok (.iconst 3, 1) := by decide +kernel
theorem dL_law_814 : decode cL_law 814 = .ok (.iadd, 1) := by decide +kernel
theorem dL_law_815 : decode cL_law 815 = .ok (.iaload, 1) := by decide +kernel
theorem dL_law_816 : decode cL_law 816 = .ok (.aload_n 0, 1) := by decide +kernel
theorem dL_law_817 : decode cL_law 817 = .ok (.iload 4, 2) := by decide +kernel
theorem dL_law_819 : decode cL_law 819 = .ok (.iconst 4, 1) := by decide +kernel
theorem dL_law_820 : decode cL_law 820 = .ok (.iadd, 1) := by decide +kernel
theorem dL_law_821 : decode cL_law 821 = .ok (.iaload, 1) := by decide +kernel
theorem dL_law_822 : decode cL_law 822 = .ok (.invokevirtual 90, 3) := by decide +kernel
theorem dL_law_825 : decode cL_law 825 = .ok (.aload_n 2, 1) := by decide +kernel
theorem dL_law_826 : decode cL_law 826 = .ok (.aload_n 0, 1) := by decide +kernel
theorem dL_law_827 : decode cL_law 827 = .ok (.iload 4, 2) := by decide +kernel
theorem dL_law_829 : decode cL_law 829 = .ok (.iconst 1, 1) := by decide +kernel
theorem dL_law_830 : decode cL_law 830 = .ok (.iadd, 1) := by decide +kernel
theorem dL_law_831 : decode cL_law 831 = .ok (.iaload, 1) := by decide +kernel
theorem dL_law_832 : decode cL_law 832 = .ok (.aload_n 0, 1) := by decide +kernel
theorem dL_law_833 : decode cL_law 833 = .ok (.iload 4, 2) := by decide +kernel
theorem dL_law_835 : decode cL_law 835 = .ok (.iconst 2, 1) := by decide +kernel
theorem dL_law_836 : decode cL_law 836 = .ok (.iadd, 1) := by decide +kernel
theorem dL_law_837 : decode cL_law 837 = .ok (.iaload, 1) := by decide +kernel
theorem dL_law_838 : decode cL_law 838 = .ok (.aload_n 0, 1) := by decide +kernel
theorem dL_law_839 : decode cL_law 839 = .ok (.iload 4, 2) := by decide +kernel
theorem dL_law_841 : decode cL_law 841 = .ok (.iconst 3, 1) := by decide +kernel
theorem dL_law_842 : decode cL_law 842 = .ok (.iadd, 1) := by decide +kernel
theorem dL_law_843 : decode cL_law 843 = .ok (.iaload, 1) := by decide +kernel
theorem dL_law_844 : decode cL_law 844 = .ok (.aload_n 0, 1) := by decide +kernel
theorem dL_law_845 : decode cL_law 845 = .ok (.iload 4, 2) := by decide +kernel
theorem dL_law_847 : decode cL_law 847 = .ok (.iconst 4, 1) := by decide +kernel
theorem dL_law_848 : decode cL_law 848 = .ok (.iadd, 1) := by decide +kernel
theorem dL_law_849 : decode cL_law 849 = .ok (.iaload, 1) := by decide +kernel
theorem dL_law_850 : decode cL_law 850 = .ok (.invokevirtual 94, 3) := by decide +kernel
theorem dL_law_853 : decode cL_law 853 = .ok (.lcmp, 1) := by decide +kernel
theorem dL_law_854 : decode cL_law 854 = .ok (.ifCond .eq 734, 3) := by decide +kernel
theorem dL_law_857 : decode cL_law 857 = .ok (.iconst 0, 1) := by decide +kernel
theorem dL_law_858 : decode cL_law 858 = .ok (.ireturn, 1) := by decide +kernel
theorem dL_law_859 : decode cL_law 859 = .ok (.aload_n 1, 1) := by decide +kernel
theorem dL_law_860 : decode cL_law 860 = .ok (.aload_n 0, 1) := by decide +kernel
theorem dL_law_861 : decode cL_law 861 = .ok (.iload 4, 2) := by decide +kernel
theorem dL_law_863 : decode cL_law 863 = .ok (.iconst 1, 1) := by decide +kernel
theorem dL_law_864 : decode cL_law 864 = .ok (.iadd, 1) := by decide +kernel
theorem dL_law_865 : decode cL_law 865 = .ok (.iaload, 1) := by decide +kernel
theorem dL_law_866 : decode cL_law 866 = .ok (.aload_n 0, 1) := by decide +kernel
theorem dL_law_867 : decode cL_law 867 = .ok (.iload 4, 2) := by decide +kernel
theorem dL_law_869 : decode cL_law 869 = .ok (.iconst 2, 1) := by decide +kernel
theorem dL_law_870 : decode cL_law 870 = .ok (.iadd, 1) := by decide +kernel
theorem dL_law_871 : decode cL_law 871 = .ok (.iaload, 1) := by decide +kernel
theorem dL_law_872 : decode cL_law 872 = .ok (.aload_n 0, 1) := by decide +kernel
theorem dL_law_873 : decode cL_law 873 = .ok (.iload 4, 2) := by decide +kernel
theorem dL_law_875 : decode cL_law 875 = .ok (.iconst 3, 1) := by decide +kernel
theorem dL_law_876 : decode cL_law 876 = .ok (.iadd, 1) := by decide +kernel
theorem dL_law_877 : decode cL_law 877 = .ok (.iaload, 1) := by decide +kernel
theorem dL_law_878 : decode cL_law 878 = .ok (.aload_n 0, 1) := by decide +kernel
theorem dL_law_879 : decode cL_law 879 = .ok (.iload 4, 2) := by decide +kernel
theorem dL_law_881 : decode cL_law 881 = .ok (.iconst 4, 1) := by decide +kernel
theorem dL_law_882 : decode cL_law 882 = .ok (.iadd, 1) := by decide +kernel
theorem dL_law_883 : decode cL_law 883 = .ok (.iaload, 1) := by decide +kernel
theorem dL_law_884 : decode cL_law 884 = .ok (.invokevirtual 95, 3) := by decide +kernel
theorem dL_law_887 : decode cL_law 887 = .ok (.aload_n 2, 1) := by decide +kernel
theorem dL_law_888 : decode cL_law 888 = .ok (.aload_n 0, 1) := by decide +kernel
theorem dL_law_889 : decode cL_law 889 = .ok (.iload 4, 2) := by decide +kernel
theorem dL_law_891 : decode cL_law 891 = .ok (.iconst 1, 1) := by decide +kernel
theorem dL_law_892 : decode cL_law 892 = .ok (.iadd, 1) := by decide +kernel
theorem dL_law_893 : decode cL_law 893 = .ok (.iaload, 1) := by decide +kernel
theorem dL_law_894 : decode cL_law 894 = .ok (.aload_n 0, 1) := by decide +kernel
theorem dL_law_895 : decode cL_law 895 = .ok (.iload 4, 2) := by decide +kernel
theorem dL_law_897 : decode cL_law 897 = .ok (.iconst 2, 1) := by decide +kernel
theorem dL_law_898 : decode cL_law 898 = .ok (.iadd, 1) := by decide +kernel
theorem dL_law_899 : decode cL_law 899 = .ok (.iaload, 1) := by decide +kernel
theorem dL_law_900 : decode cL_law 900 = .ok (.aload_n 0, 1) := by decide +kernel
theorem dL_law_901 : decode cL_law 901 = .ok (.iload 4, 2) := by decide +kernel
theorem dL_law_903 : decode cL_law 903 = .ok (.iconst 3, 1) := by decide +kernel
theorem dL_law_904 : decode cL_law 904 = .ok (.iadd, 1) := by decide +kernel
theorem dL_law_905 : decode cL_law 905 = .ok (.iaload, 1) := by decide +kernel
theorem dL_law_906 : decode cL_law 906 = .ok (.aload_n 0, 1) := by decide +kernel
theorem dL_law_907 : decode cL_law 907 = .ok (.iload 4, 2) := by decide +kernel
theorem dL_law_909 : decode cL_law 909 = .ok (.iconst 4, 1) := by decide +kernel
theorem dL_law_910 : decode cL_law 910 = .ok (.iadd, 1) := by decide +kernel
theorem dL_law_911 : decode cL_law 911 = .ok (.iaload, 1) := by decide +kernel
theorem dL_law_912 : decode cL_law 912 = .ok (.invokevirtual 98, 3) := by decide +kernel
theorem dL_law_915 : decode cL_law 915 = .ok (.lcmp, 1) := by decide +kernel
theorem dL_law_916 : decode cL_law 916 = .ok (.ifCond .eq 672, 3) := by decide +kernel
theorem dL_law_919 : decode cL_law 919 = .ok (.iconst 0, 1) := by decide +kernel
theorem dL_law_920 : decode cL_law 920 = .ok (.ireturn, 1) := by decide +kernel
theorem dL_law_921 : decode cL_law 921 = .ok (.aload_n 1, 1) := by decide +kernel
theorem dL_law_922 : decode cL_law 922 = .ok (.aload_n 0, 1) := by decide +kernel
theorem dL_law_923 : decode cL_law 923 = .ok (.iload 4, 2) := by decide +kernel
theorem dL_law_925 : decode cL_law 925 = .ok (.iconst 1, 1) := by decide +kernel
theorem dL_law_926 : decode cL_law 926 = .ok (.iadd, 1) := by decide +kernel
theorem dL_law_927 : decode cL_law 927 = .ok (.iaload, 1) := by decide +kernel
theorem dL_law_928 : decode cL_law 928 = .ok (.aload_n 0, 1) := by decide +kernel
theorem dL_law_929 : decode cL_law 929 = .ok (.iload 4, 2) := by decide +kernel
theorem dL_law_931 : decode cL_law 931 = .ok (.iconst 2, 1) := by decide +kernel
theorem dL_law_932 : decode cL_law 932 = .ok (.iadd, 1) := by decide +kernel
theorem dL_law_933 : decode cL_law 933 = .ok (.iaload, 1) := by decide +kernel
theorem dL_law_934 : decode cL_law 934 = .ok (.aload_n 0, 1) := by decide +kernel
theorem dL_law_935 : decode cL_law 935 = .ok (.iload 4, 2) := by decide +kernel
theorem dL_law_937 : decode cL_law 937 = .ok (.iconst 3, 1) := by decide +kernel
theorem dL_law_938 : decode cL_law 938 = .ok (.iadd, 1) := by decide +kernel
theorem dL_law_939 : decode cL_law 939 = .ok (.iaload, 1) := by decide +kernel
theorem dL_law_940 : decode cL_law 940 = .ok (.invokevirtual 99, 3) := by decide +kernel
theorem dL_law_943 : decode cL_law 943 = .ok (.aload_n 2, 1) := by decide +kernel
theorem dL_law_944 : decode cL_law 944 = .ok (.aload_n 0, 1) := by decide +kernel
theorem dL_law_945 : decode cL_law 945 = .ok (.iload 4, 2) := by decide +kernel
theorem dL_law_947 : decode cL_law 947 = .ok (.iconst 1, 1) := by decide +kernel
theorem dL_law_948 : decode cL_law 948 = .ok (.iadd, 1) := by decide +kernel
theorem dL_law_949 : decode cL_law 949 = .ok (.iaload, 1) := by decide +kernel
theorem dL_law_950 : decode cL_law 950 = .ok (.aload_n 0, 1) := by decide +kernel
theorem dL_law_951 : decode cL_law 951 = .ok (.iload 4, 2) := by decide +kernel
theorem dL_law_953 : decode cL_law 953 = .ok (.iconst 2, 1) := by decide +kernel
theorem dL_law_954 : decode cL_law 954 = .ok (.iadd, 1) := by decide +kernel
theorem dL_law_955 : decode cL_law 955 = .ok (.iaload, 1) := by decide +kernel
theorem dL_law_956 : decode cL_law 956 = .ok (.aload_n 0, 1) := by decide +kernel
theorem dL_law_957 : decode cL_law 957 = .ok (.iload 4, 2) := by decide +kernel
theorem dL_law_959 : decode cL_law 959 = .ok (.iconst 3, 1) := by decide +kernel
theorem dL_law_960 : decode cL_law 960 = .ok (.iadd, 1) := by decide +kernel
theorem dL_law_961 : decode cL_law 961 = .ok (.iaload, 1) := by decide +kernel
theorem dL_law_962 : decode cL_law 962 = .ok (.invokevirtual 102, 3) := by decide +kernel
theorem dL_law_965 : decode cL_law 965 = .ok (.if_icmp .eq 623, 3) := by decide +kernel
theorem dL_law_968 : decode cL_law 968 = .ok (.iconst 0, 1) := by decide +kernel
theorem dL_law_969 : decode cL_law 969 = .ok (.ireturn, 1) := by decide +kernel
theorem dL_law_970 : decode cL_law 970 = .ok (.aload_n 1, 1) := by decide +kernel
theorem dL_law_971 : decode cL_law 971 = .ok (.aload_n 0, 1) := by decide +kernel
theorem dL_law_972 : decode cL_law 972 = .ok (.iload 4, 2) := by decide +kernel
theorem dL_law_974 : decode cL_law 974 = .ok (.iconst 1, 1) := by decide +kernel
theorem dL_law_975 : decode cL_law 975 = .ok (.iadd, 1) := by decide +kernel
theorem dL_law_976 : decode cL_law 976 = .ok (.iaload, 1) := by decide +kernel
theorem dL_law_977 : decode cL_law 977 = .ok (.invokevirtual 103, 3) := by decide +kernel
theorem dL_law_980 : decode cL_law 980 = .ok (.aload_n 2, 1) := by decide +kernel
theorem dL_law_981 : decode cL_law 981 = .ok (.aload_n 0, 1) := by decide +kernel
theorem dL_law_982 : decode cL_law 982 = .ok (.iload 4, 2) := by decide +kernel
theorem dL_law_984 : decode cL_law 984 = .ok (.iconst 1, 1) := by decide +kernel
theorem dL_law_985 : decode cL_law 985 = .ok (.iadd, 1) := by decide +kernel
theorem dL_law_986 : decode cL_law 986 = .ok (.iaload, 1) := by decide +kernel
theorem dL_law_987 : decode cL_law 987 = .ok (.invokevirtual 107, 3) := by decide +kernel
theorem dL_law_990 : decode cL_law 990 = .ok (.if_icmp .eq 598, 3) := by decide +kernel
theorem dL_law_993 : decode cL_law 993 = .ok (.iconst 0, 1) := by decide +kernel
theorem dL_law_994 : decode cL_law 994 = .ok (.ireturn, 1) := by decide +kernel
theorem dL_law_995 : decode cL_law 995 = .ok (.aload_n 1, 1) := by decide +kernel
theorem dL_law_996 : decode cL_law 996 = .ok (.aload_n 0, 1) := by decide +kernel
theorem dL_law_997 : decode cL_law 997 = .ok (.iload 4, 2) := by decide +kernel
theorem dL_law_999 : decode cL_law 999 = .ok (.iconst 1, 1) := by decide +kernel
theorem dL_law_1000 : decode cL_law 1000 = .ok (.iadd, 1) := by decide +kernel
theorem dL_law_1001 : decode cL_law 1001 = .ok (.iaload, 1) := by decide +kernel
theorem dL_law_1002 : decode cL_law 1002 = .ok (.aload_n 0, 1) := by decide +kernel
theorem dL_law_1003 : decode cL_law 1003 = .ok (.iload 4, 2) := by decide +kernel
theorem dL_law_1005 : decode cL_law 1005 = .ok (.iconst 2, 1) := by decide +kernel
theorem dL_law_1006 : decode cL_law 1006 = .ok (.iadd, 1) := by decide +kernel
theorem dL_law_1007 : decode cL_law 1007 = .ok (.iaload, 1) := by decide +kernel
theorem dL_law_1008 : decode cL_law 1008 = .ok (.invokevirtual 108, 3) := by decide +kernel
theorem dL_law_1011 : decode cL_law 1011 = .ok (.aload_n 2, 1) := by decide +kernel
theorem dL_law_1012 : decode cL_law 1012 = .ok (.aload_n 0, 1) := by decide +kernel
theorem dL_law_1013 : decode cL_law 1013 = .ok (.iload 4, 2) := by decide +kernel
theorem dL_law_1015 : decode cL_law 1015 = .ok (.iconst 1, 1) := by decide +kernel
theorem dL_law_1016 : decode cL_law 1016 = .ok (.iadd, 1) := by decide +kernel
theorem dL_law_1017 : decode cL_law 1017 = .ok (.iaload, 1) := by decide +kernel
theorem dL_law_1018 : decode cL_law 1018 = .ok (.aload_n 0, 1) := by decide +kernel
theorem dL_law_1019 : decode cL_law 1019 = .ok (.iload 4, 2) := by decide +kernel
theorem dL_law_1021 : decode cL_law 1021 = .ok (.iconst 2, 1) := by decide +kernel
theorem dL_law_1022 : decode cL_law 1022 = .ok (.iadd, 1) := by decide +kernel
theorem dL_law_1023 : decode cL_law 1023 = .ok (.iaload, 1) := by decide +kernel
theorem dL_law_1024 : decode cL_law 1024 = .ok (.invokevirtual 111, 3) := by decide +kernel
theorem dL_law_1027 : decode cL_law 1027 = .ok (.if_icmp .eq 561, 3) := by decide +kernel
theorem dL_law_1030 : decode cL_law 1030 = .ok (.iconst 0, 1) := by decide +kernel
theorem dL_law_1031 : decode cL_law 1031 = .ok (.ireturn, 1) := by decide +kernel
theorem dL_law_1032 : decode cL_law 1032 = .ok (.aload_n 1, 1) := by decide +kernel
theorem dL_law_1033 : decode cL_law 1033 = .ok (.aload_n 0, 1) := by decide +kernel
theorem dL_law_1034 : decode cL_law 1034 = .ok (.iload 4, 2) := by decide +kernel
theorem dL_law_1036 : decode cL_law 1036 = .ok (.iconst 1, 1) := by decide +kernel
theorem dL_law_1037 : decode cL_law 1037 = .ok (.iadd, 1) := by decide +kernel
theorem dL_law_1038 : decode cL_law 1038 = .ok (.iaload, 1) := by decide +kernel
theorem dL_law_1039 : decode cL_law 1039 = .ok (.aload_n 0, 1) := by decide +kernel
theorem dL_law_1040 : decode cL_law 1040 = .ok (.iload 4, 2) := by decide +kernel
theorem dL_law_1042 : decode cL_law 1042 = .ok (.iconst 2, 1) := by decide +kernel
theorem dL_law_1043 : decode cL_law 1043 = .ok (.iadd, 1) := by decide +kernel
theorem dL_law_1044 : decode cL_law 1044 = .ok (.iaload, 1) := by decide +kernel
theorem dL_law_1045 : decode cL_law 1045 = .ok (.aload_n 0, 1) := by decide +kernel
theorem dL_law_1046 : decode cL_law 1046 = .ok (.iload 4, 2) := by decide +kernel
theorem dL_law_1048 : decode cL_law 1048 = .ok (.iconst 3, 1) := by decide +kernel
theorem dL_law_1049 : decode cL_law 1049 = .ok (.iadd, 1) := by decide +kernel
theorem dL_law_1050 : decode cL_law 1050 = .ok (.iaload, 1) := by decide +kernel
theorem dL_law_1051 : decode cL_law 1051 = .ok (.ifCond .eq 7, 3) := by decide +kernel
theorem dL_law_1054 : decode cL_law 1054 = .ok (.iconst 1, 1) := by decide +kernel
theorem dL_law_1055 : decode cL_law 1055 = .ok (.goto 4, 3) := by decide +kernel
theorem dL_law_1058 : decode cL_law 1058 = .ok (.iconst 0, 1) := by decide +kernel
theorem dL_law_1059 : decode cL_law 1059 = .ok (.aload_n 0, 1) := by decide +kernel
theorem dL_law_1060 : decode cL_law 1060 = .ok (.iload 4, 2) := by decide +kernel
theorem dL_law_1062 : decode cL_law 1062 = .ok (.iconst 4, 1) := by decide +kernel
theorem dL_law_1063 : decode cL_law 1063 = .ok (.iadd, 1) := by decide +kernel
theorem dL_law_1064 : decode cL_law 1064 = .ok (.iaload, 1) := by decide +kernel
theorem dL_law_1065 : decode cL_law 1065 = .ok (.invokevirtual 112, 3) := by decide +kernel
theorem dL_law_1068 : decode cL_law 1068 = .ok (.aload_n 2, 1) := by decide +kernel
theorem dL_law_1069 : decode cL_law 1069 = .ok (.aload_n 0, 1) := by decide +kernel
theorem dL_law_1070 : decode cL_law 1070 = .ok (.iload 4, 2) := by decide +kernel
theorem dL_law_1072 : decode cL_law 1072 = .ok (.iconst 1, 1) := by decide +kernel
theorem dL_law_1073 : decode cL_law 1073 = .ok (.iadd, 1) := by decide +kernel
theorem dL_law_1074 : decode cL_law 1074 = .ok (.iaload, 1) := by decide +kernel
theorem dL_law_1075 : decode cL_law 1075 = .ok (.aload_n 0, 1) := by decide +kernel
theorem dL_law_1076 : decode cL_law 1076 = .ok (.iload 4, 2) := by decide +kernel
theorem dL_law_1078 : decode cL_law 1078 = .ok (.iconst 2, 1) := by decide +kernel
theorem dL_law_1079 : decode cL_law 1079 = .ok (.iadd, 1) := by decide +kernel
theorem dL_law_1080 : decode cL_law 1080 = .ok (.iaload, 1) := by decide +kernel
theorem dL_law_1081 : decode cL_law 1081 = .ok (.aload_n 0, 1) := by decide +kernel
theorem dL_law_1082 : decode cL_law 1082 = .ok (.iload 4, 2) := by decide +kernel
theorem dL_law_1084 : decode cL_law 1084 = .ok (.iconst 3, 1) := by decide +kernel
theorem dL_law_1085 : decode cL_law 1085 = .ok (.iadd, 1) := by decide +kernel
theorem dL_law_1086 : decode cL_law 1086 = .ok (.iaload, 1) := by decide +kernel
theorem dL_law_1087 : decode cL_law 1087 = .ok (.ifCond .eq 7, 3) := by decide +kernel
theorem dL_law_1090 : decode cL_law 1090 = .ok (.iconst 1, 1) := by decide +kernel
theorem dL_law_1091 : decode cL_law 1091 = .ok (.goto 4, 3) := by decide +kernel
theorem dL_law_1094 : decode cL_law 1094 = .ok (.iconst 0, 1) := by decide +kernel
theorem dL_law_1095 : decode cL_law 1095 = .ok (.aload_n 0, 1) := by decide +kernel
theorem dL_law_1096 : decode cL_law 1096 = .ok (.iload 4, 2) := by decide +kernel
theorem dL_law_1098 : decode cL_law 1098 = .ok (.iconst 4, 1) := by decide +kernel
theorem dL_law_1099 : decode cL_law 1099 = .ok (.iadd, 1) := by decide +kernel
theorem dL_law_1100 : decode cL_law 1100 = .ok (.iaload, 1) := by decide +kernel
theorem dL_law_1101 : decode cL_law 1101 = .ok (.invokevirtual 116, 3) := by decide +kernel
theorem dL_law_1104 : decode cL_law 1104 = .ok (.lcmp, 1) := by decide +kernel
theorem dL_law_1105 : decode cL_law 1105 = .ok (.ifCond .eq 483, 3) := by decide +kernel
theorem dL_law_1108 : decode cL_law 1108 = .ok (.iconst 0, 1) := by decide +kernel
theorem dL_law_1109 : decode cL_law 1109 = .ok (.ireturn, 1) := by decide +kernel
theorem dL_law_1110 : decode cL_law 1110 = .ok (.aload_n 1, 1) := by decide +kernel
theorem dL_law_1111 : decode cL_law 1111 = .ok (.aload_n 0, 1) := by decide +kernel
theorem dL_law_1112 : decode cL_law 1112 = .ok (.iload 4, 2) := by decide +kernel
theorem dL_law_1114 : decode cL_law 1114 = .ok (.iconst 1, 1) := by decide +kernel
theorem dL_law_1115 : decode cL_law 1115 = .ok (.iadd, 1) := by decide +kernel
theorem dL_law_1116 : decode cL_law 1116 = .ok (.iaload, 1) := by decide +kernel
theorem dL_law_1117 : decode cL_law 1117 = .ok (.aload_n 0, 1) := by decide +kernel
theorem dL_law_1118 : decode cL_law 1118 = .ok (.iload 4, 2) := by decide +kernel
theorem dL_law_1120 : decode cL_law 1120 = .ok (.iconst 2, 1) := by decide +kernel
theorem dL_law_1121 : decode cL_law 1121 = .ok (.iadd, 1) := by decide +kernel
theorem dL_law_1122 : decode cL_law 1122 = .ok (.iaload, 1) := by decide +kernel
theorem dL_law_1123 : decode cL_law 1123 = .ok (.ifCond .eq 7, 3) := by decide +kernel
theorem dL_law_1126 : decode cL_law 1126 = .ok (.iconst 1, 1) := by decide +kernel
theorem dL_law_1127 : decode cL_law 1127 = .ok (.goto 4, 3) := by decide +kernel
theorem dL_law_1130 : decode cL_law 1130 = .ok (.iconst 0, 1) := by decide +kernel
theorem dL_law_1131 : decode cL_law 1131 = .ok (.invokevirtual 117, 3) := by decide +kernel
theorem dL_law_1134 : decode cL_law 1134 = .ok (.aload_n 2, 1) := by decide +kernel
theorem dL_law_1135 : decode cL_law 1135 = .ok (.aload_n 0, 1) := by decide +kernel
theorem dL_law_1136 : decode cL_law 1136 = .ok (.iload 4, 2) := by decide +kernel
theorem dL_law_1138 : decode cL_law 1138 = .ok (.iconst 1, 1) := by decide +kernel
theorem dL_law_1139 : decode cL_law 1139 = .ok (.iadd, 1) := by decide +kernel
theorem dL_law_1140 : decode cL_law 1140 = .ok (.iaload, 1) := by decide +kernel
theorem dL_law_1141 : decode cL_law 1141 = .ok (.aload_n 0, 1) := by decide +kernel
theorem dL_law_1142 : decode cL_law 1142 = .ok (.iload 4, 2) := by decide +kernel
theorem dL_law_1144 : decode cL_law 1144 = .ok (.iconst 2, 1) := by decide +kernel
theorem dL_law_1145 : decode cL_law 1145 = .ok (.iadd, 1) := by decide +kernel
theorem dL_law_1146 : decode cL_law 1146 = .ok (.iaload, 1) := by decide +kernel
theorem dL_law_1147 : decode cL_law 1147 = .ok (.ifCond .eq 7, 3) := by decide +kernel
theorem dL_law_1150 : decode cL_law 1150 = .ok (.iconst 1, 1) := by decide +kernel
theorem dL_law_1151 : decode cL_law 1151 = .ok (.goto 4, 3) := by decide +kernel
theorem dL_law_1154 : decode cL_law 1154 = .ok (.iconst 0, 1) := by decide +kernel
theorem dL_law_1155 : decode cL_law 1155 = .ok (.invokevirtual 121, 3) := by decide +kernel
theorem dL_law_1158 : decode cL_law 1158 = .ok (.if_icmp .eq 430, 3) := by decide +kernel
theorem dL_law_1161 : decode cL_law 1161 = .ok (.iconst 0, 1) := by decide +kernel
theorem dL_law_1162 : decode cL_law 1162 = .ok (.ireturn, 1) := by decide +kernel
theorem dL_law_1163 : decode cL_law 1163 = .ok (.aload_n 1, 1) := by decide +kernel
theorem dL_law_1164 : decode cL_law 1164 = .ok (.aload_n 0, 1) := by decide +kernel
theorem dL_law_1165 : decode cL_law 1165 = .ok (.iload 4, 2) := by decide +kernel
theorem dL_law_1167 : decode cL_law 1167 = .ok (.iconst 1, 1) := by decide +kernel
theorem dL_law_1168 : decode cL_law 1168 = .ok (.iadd, 1) := by decide +kernel
theorem dL_law_1169 : decode cL_law 1169 = .ok (.iaload, 1) := by decide +kernel
theorem dL_law_1170 : decode cL_law 1170 = .ok (.invokevirtual 122, 3) := by decide +kernel
theorem dL_law_1173 : decode cL_law 1173 = .ok (.aload_n 2, 1) := by decide +kernel
theorem dL_law_1174 : decode cL_law 1174 = .ok (.aload_n 0, 1) := by decide +kernel
theorem dL_law_1175 : decode cL_law 1175 = .ok (.iload 4, 2) := by decide +kernel
theorem dL_law_1177 : decode cL_law 1177 = .ok (.iconst 1, 1) := by decide +kernel
theorem dL_law_1178 : decode cL_law 1178 = .ok (.iadd, 1) := by decide +kernel
theorem dL_law_1179 : decode cL_law 1179 = .ok (.iaload, 1) := by decide +kernel
theorem dL_law_1180 : decode cL_law 1180 = .ok (.invokevirtual 126, 3) := by decide +kernel
theorem dL_law_1183 : decode cL_law 1183 = .ok (.lcmp, 1) := by decide +kernel
theorem dL_law_1184 : decode cL_law 1184 = .ok (.ifCond .eq 404, 3) := by decide +kernel
theorem dL_law_1187 : decode cL_law 1187 = .ok (.iconst 0, 1) := by decide +kernel
theorem dL_law_1188 : decode cL_law 1188 = .ok (.ireturn, 1) := by decide +kernel
theorem dL_law_1189 : decode cL_law 1189 = .ok (.aload_n 1, 1) := by decide +kernel
theorem dL_law_1190 : decode cL_law 1190 = .ok (.aload_n 0, 1) := by decide +kernel
theorem dL_law_1191 : decode cL_law 1191 = .ok (.iload 4, 2) := by decide +kernel
theorem dL_law_1193 : decode cL_law 1193 = .ok (.iconst 1, 1) := by decide +kernel
theorem dL_law_1194 : decode cL_law 1194 = .ok (.iadd, 1) := by decide +kernel
theorem dL_law_1195 : decode cL_law 1195 = .ok (.iaload, 1) := by decide +kernel
theorem dL_law_1196 : decode cL_law 1196 = .ok (.aload_n 0, 1) := by decide +kernel
theorem dL_law_1197 : decode cL_law 1197 = .ok (.iload 4, 2) := by decide +kernel
theorem dL_law_1199 : decode cL_law 1199 = .ok (.iconst 2, 1) := by decide +kernel
theorem dL_law_1200 : decode cL_law 1200 = .ok (.iadd, 1) := by decide +kernel
theorem dL_law_1201 : decode cL_law 1201 = .ok (.iaload, 1) := by decide +kernel
theorem dL_law_1202 : decode cL_law 1202 = .ok (.invokevirtual 127, 3) := by decide +kernel
theorem dL_law_1205 : decode cL_law 1205 = .ok (.aload_n 2, 1) := by decide +kernel
theorem dL_law_1206 : decode cL_law 1206 = .ok (.aload_n 0, 1) := by decide +kernel
theorem dL_law_1207 : decode cL_law 1207 = .ok (.iload 4, 2) := by decide +kernel
theorem dL_law_1209 : decode cL_law 1209 = .ok (.iconst 1, 1) := by decide +kernel
theorem dL_law_1210 : decode cL_law 1210 = .ok (.iadd, 1) := by decide +kernel
theorem dL_law_1211 : decode cL_law 1211 = .ok (.iaload, 1) := by decide +kernel
theorem dL_law_1212 : decode cL_law 1212 = .ok (.aload_n 0, 1) := by decide +kernel
theorem dL_law_1213 : decode cL_law 1213 = .ok (.iload 4, 2) := by decide +kernel
theorem dL_law_1215 : decode cL_law 1215 = .ok (.iconst 2, 1) := by decide +kernel
theorem dL_law_1216 : decode cL_law 1216 = .ok (.iadd, 1) := by decide +kernel
theorem dL_law_1217 : decode cL_law 1217 = .ok (.iaload, 1) := by decide +kernel
theorem dL_law_1218 : decode cL_law 1218 = .ok (.invokevirtual 130, 3) := by decide +kernel
theorem dL_law_1221 : decode cL_law 1221 = .ok (.if_icmp .eq 367, 3) := by decide +kernel
theorem dL_law_1224 : decode cL_law 1224 = .ok (.iconst 0, 1) := by decide +kernel
theorem dL_law_1225 : decode cL_law 1225 = .ok (.ireturn, 1) := by decide +kernel
theorem dL_law_1226 : decode cL_law 1226 = .ok (.aload_n 1, 1) := by decide +kernel
theorem dL_law_1227 : decode cL_law 1227 = .ok (.aload_n 0, 1) := by decide +kernel
theorem dL_law_1228 : decode cL_law 1228 = .ok (.iload 4, 2) := by decide +kernel
theorem dL_law_1230 : decode cL_law 1230 = .ok (.iconst 1, 1) := by decide +kernel
theorem dL_law_1231 : decode cL_law 1231 = .ok (.iadd, 1) := by decide +kernel
theorem dL_law_1232 : decode cL_law 1232 = .ok (.iaload, 1) := by decide +kernel
theorem dL_law_1233 : decode cL_law 1233 = .ok (.invokevirtual 131, 3) := by decide +kernel
theorem dL_law_1236 : decode cL_law 1236 = .ok (.aload_n 2, 1) := by decide +kernel
theorem dL_law_1237 : decode cL_law 1237 = .ok (.aload_n 0, 1) := by decide +kernel
theorem dL_law_1238 : decode cL_law 1238 = .ok (.iload 4, 2) := by decide +kernel
theorem dL_law_1240 : decode cL_law 1240 = .ok (.iconst 1, 1) := by decide +kernel
theorem dL_law_1241 : decode cL_law 1241 = .ok (.iadd, 1) := by decide +kernel
theorem dL_law_1242 : decode cL_law 1242 = .ok (.iaload, 1) := by decide +kernel
theorem dL_law_1243 : decode cL_law 1243 = .ok (.invokevirtual 134, 3) := by decide +kernel
theorem dL_law_1246 : decode cL_law 1246 = .ok (.lcmp, 1) := by decide +kernel
theorem dL_law_1247 : decode cL_law 1247 = .ok (.ifCond .eq 341, 3) := by decide +kernel
theorem dL_law_1250 : decode cL_law 1250 = .ok (.iconst 0, 1) := by decide +kernel
theorem dL_law_1251 : decode cL_law 1251 = .ok (.ireturn, 1) := by decide +kernel
theorem dL_law_1252 : decode cL_law 1252 = .ok (.aload_n 1, 1) := by decide +kernel
theorem dL_law_1253 : decode cL_law 1253 = .ok (.aload_n 0, 1) := by decide +kernel
theorem dL_law_1254 : decode cL_law 1254 = .ok (.iload 4, 2) := by decide +kernel
theorem dL_law_1256 : decode cL_law 1256 = .ok (.iconst 1, 1) := by decide +kernel
theorem dL_law_1257 : decode cL_law 1257 = .ok (.iadd, 1) := by decide +kernel
theorem dL_law_1258 : decode cL_law 1258 = .ok (.iaload, 1) := by decide +kernel
theorem dL_law_1259 : decode cL_law 1259 = .ok (.invokevirtual 135, 3) := by decide +kernel
theorem dL_law_1262 : decode cL_law 1262 = .ok (.aload_n 2, 1) := by decide +kernel
theorem dL_law_1263 : decode cL_law 1263 = .ok (.aload_n 0, 1) := by decide +kernel
theorem dL_law_1264 : decode cL_law 1264 = .ok (.iload 4, 2) := by decide +kernel
theorem dL_law_1266 : decode cL_law 1266 = .ok (.iconst 1, 1) := by decide +kernel
theorem dL_law_1267 : decode cL_law 1267 = .ok (.iadd, 1) := by decide +kernel
theorem dL_law_1268 : decode cL_law 1268 = .ok (.iaload, 1) := by decide +kernel
theorem dL_law_1269 : decode cL_law 1269 = .ok (.invokevirtual 138, 3) := by decide +kernel
theorem dL_law_1272 : decode cL_law 1272 = .ok (.lcmp, 1) := by decide +kernel
theorem dL_law_1273 : decode cL_law 1273 = .ok (.ifCond .eq 315, 3) := by decide +kernel
theorem dL_law_1276 : decode cL_law 1276 = .ok (.iconst 0, 1) := by decide +kernel
theorem dL_law_1277 : decode cL_law 1277 = .ok (.ireturn, 1) := by decide +kernel
theorem dL_law_1278 : decode cL_law 1278 = .ok (.aload_n 1, 1) := by decide +kernel
theorem dL_law_1279 : decode cL_law 1279 = .ok (.aload_n 0, 1) := by decide +kernel
theorem dL_law_1280 : decode cL_law 1280 = .ok (.iload 4, 2) := by decide +kernel
theorem dL_law_1282 : decode cL_law 1282 = .ok (.iconst 1, 1) := by decide +kernel
theorem dL_law_1283 : decode cL_law 1283 = .ok (.iadd, 1) := by decide +kernel
theorem dL_law_1284 : decode cL_law 1284 = .ok (.iaload, 1) := by decide +kernel
theorem dL_law_1285 : decode cL_law 1285 = .ok (.aload_n 0, 1) := by decide +kernel
theorem dL_law_1286 : decode cL_law 1286 = .ok (.iload 4, 2) := by decide +kernel
theorem dL_law_1288 : decode cL_law 1288 = .ok (.iconst 2, 1) := by decide +kernel
theorem dL_law_1289 : decode cL_law 1289 = .ok (.iadd, 1) := by decide +kernel
theorem dL_law_1290 : decode cL_law 1290 = .ok (.iaload, 1) := by decide +kernel
theorem dL_law_1291 : decode cL_law 1291 = .ok (.invokevirtual 139, 3) := by decide +kernel
theorem dL_law_1294 : decode cL_law 1294 = .ok (.aload_n 2, 1) := by decide +kernel
theorem dL_law_1295 : decode cL_law 1295 = .ok (.aload_n 0, 1) := by decide +kernel
theorem dL_law_1296 : decode cL_law 1296 = .ok (.iload 4, 2) := by decide +kernel
theorem dL_law_1298 : decode cL_law 1298 = .ok (.iconst 1, 1) := by decide +kernel
theorem dL_law_1299 : decode cL_law 1299 = .ok (.iadd, 1) := by decide +kernel
theorem dL_law_1300 : decode cL_law 1300 = .ok (.iaload, 1) := by decide +kernel
theorem dL_law_1301 : decode cL_law 1301 = .ok (.aload_n 0, 1) := by decide +kernel
theorem dL_law_1302 : decode cL_law 1302 = .ok (.iload 4, 2) := by decide +kernel
theorem dL_law_1304 : decode cL_law 1304 = .ok (.iconst 2, 1) := by decide +kernel
theorem dL_law_1305 : decode cL_law 1305 = .ok (.iadd, 1) := by decide +kernel
theorem dL_law_1306 : decode cL_law 1306 = .ok (.iaload, 1) := by decide +kernel
theorem dL_law_1307 : decode cL_law 1307 = .ok (.invokevirtual 143, 3) := by decide +kernel
theorem dL_law_1310 : decode cL_law 1310 = .ok (.if_icmp .eq 278, 3) := by decide +kernel
theorem dL_law_1313 : decode cL_law 1313 = .ok (.iconst 0, 1) := by decide +kernel
theorem dL_law_1314 : decode cL_law 1314 = .ok (.ireturn, 1) := by decide +kernel
theorem dL_law_1315 : decode cL_law 1315 = .ok (.aload_n 1, 1) := by decide +kernel
theorem dL_law_1316 : decode cL_law 1316 = .ok (.aload_n 0, 1) := by decide +kernel
theorem dL_law_1317 : decode cL_law 1317 = .ok (.iload 4, 2) := by decide +kernel
theorem dL_law_1319 : decode cL_law 1319 = .ok (.iconst 1, 1) := by decide +kernel
theorem dL_law_1320 : decode cL_law 1320 = .ok (.iadd, 1) := by decide +kernel
theorem dL_law_1321 : decode cL_law 1321 = .ok (.iaload, 1) := by decide +kernel
theorem dL_law_1322 : decode cL_law 1322 = .ok (.aload_n 0, 1) := by decide +kernel
theorem dL_law_1323 : decode cL_law 1323 = .ok (.iload 4, 2) := by decide +kernel
theorem dL_law_1325 : decode cL_law 1325 = .ok (.iconst 2, 1) := by decide +kernel
theorem dL_law_1326 : decode cL_law 1326 = .ok (.iadd, 1) := by decide +kernel
theorem dL_law_1327 : decode cL_law 1327 = .ok (.iaload, 1) := by decide +kernel
theorem dL_law_1328 : decode cL_law 1328 = .ok (.invokevirtual 144, 3) := by decide +kernel
theorem dL_law_1331 : decode cL_law 1331 = .ok (.aload_n 2, 1) := by decide +kernel
theorem dL_law_1332 : decode cL_law 1332 = .ok (.aload_n 0, 1) := by decide +kernel
theorem dL_law_1333 : decode cL_law 1333 = .ok (.iload 4, 2) := by decide +kernel
theorem dL_law_1335 : decode cL_law 1335 = .ok (.iconst 1, 1) := by decide +kernel
theorem dL_law_1336 : decode cL_law 1336 = .ok (.iadd, 1) := by decide +kernel
theorem dL_law_1337 : decode cL_law 1337 = .ok (.iaload, 1) := by decide +kernel
theorem dL_law_1338 : decode cL_law 1338 = .ok (.aload_n 0, 1) := by decide +kernel
theorem dL_law_1339 : decode cL_law 1339 = .ok (.iload 4, 2) := by decide +kernel
theorem dL_law_1341 : decode cL_law 1341 = .ok (.iconst 2, 1) := by decide +kernel
theorem dL_law_1342 : decode cL_law 1342 = .ok (.iadd, 1) := by decide +kernel
theorem dL_law_1343 : decode cL_law 1343 = .ok (.iaload, 1) := by decide +kernel
theorem dL_law_1344 : decode cL_law 1344 = .ok (.invokevirtual 147, 3) := by decide +kernel
theorem dL_law_1347 : decode cL_law 1347 = .ok (.if_icmp .eq 241, 3) := by decide +kernel
theorem dL_law_1350 : decode cL_law 1350 = .ok (.iconst 0, 1) := by decide +kernel
theorem dL_law_1351 : decode cL_law 1351 = .ok (.ireturn, 1) := by decide +kernel
theorem dL_law_1352 : decode cL_law 1352 = .ok (.aload_n 1, 1) := by decide +kernel
theorem dL_law_1353 : decode cL_law 1353 = .ok (.aload_n 0, 1) := by decide +kernel
theorem dL_law_1354 : decode cL_law 1354 = .ok (.iload 4, 2) := by decide +kernel
theorem dL_law_1356 : decode cL_law 1356 = .ok (.iconst 1, 1) := by decide +kernel
theorem dL_law_1357 : decode cL_law 1357 = .ok (.iadd, 1) := by decide +kernel
theorem dL_law_1358 : decode cL_law 1358 = .ok (.iaload, 1) := by decide +kernel
theorem dL_law_1359 : decode cL_law 1359 = .ok (.aload_n 0, 1) := by decide +kernel
theorem dL_law_1360 : decode cL_law 1360 = .ok (.iload 4, 2) := by decide +kernel
theorem dL_law_1362 : decode cL_law 1362 = .ok (.iconst 2, 1) := by decide +kernel
theorem dL_law_1363 : decode cL_law 1363 = .ok (.iadd, 1) := by decide +kernel
theorem dL_law_1364 : decode cL_law 1364 = .ok (.iaload, 1) := by decide +kernel
theorem dL_law_1365 : decode cL_law 1365 = .ok (.aload_n 0, 1) := by decide +kernel
theorem dL_law_1366 : decode cL_law 1366 = .ok (.iload 4, 2) := by decide +kernel
theorem dL_law_1368 : decode cL_law 1368 = .ok (.iconst 3, 1) := by decide +kernel
theorem dL_law_1369 : decode cL_law 1369 = .ok (.iadd, 1) := by decide +kernel
theorem dL_law_1370 : decode cL_law 1370 = .ok (.iaload, 1) := by decide +kernel
theorem dL_law_1371 : decode cL_law 1371 = .ok (.invokevirtual 148, 3) := by decide +kernel
theorem dL_law_1374 : decode cL_law 1374 = .ok (.aload_n 2, 1) := by decide +kernel
theorem dL_law_1375 : decode cL_law 1375 = .ok (.aload_n 0, 1) := by decide +kernel
theorem dL_law_1376 : decode cL_law 1376 = .ok (.iload 4, 2) := by decide +kernel
theorem dL_law_1378 : decode cL_law 1378 = .ok (.iconst 1, 1) := by decide +kernel
theorem dL_law_1379 : decode cL_law 1379 = .ok (.iadd, 1) := by decide +kernel
theorem dL_law_1380 : decode cL_law 1380 = .ok (.iaload, 1) := by decide +kernel
theorem dL_law_1381 : decode cL_law 1381 = .ok (.aload_n 0, 1) := by decide +kernel
theorem dL_law_1382 : decode cL_law 1382 = .ok (.iload 4, 2) := by decide +kernel
theorem dL_law_1384 : decode cL_law 1384 = .ok (.iconst 2, 1) := by decide +kernel
theorem dL_law_1385 : decode cL_law 1385 = .ok (.iadd, 1) := by decide +kernel
theorem dL_law_1386 : decode cL_law 1386 = .ok (.iaload, 1) := by decide +kernel
theorem dL_law_1387 : decode cL_law 1387 = .ok (.aload_n 0, 1) := by decide +kernel
theorem dL_law_1388 : decode cL_law 1388 = .ok (.iload 4, 2) := by decide +kernel
theorem dL_law_1390 : decode cL_law 1390 = .ok (.iconst 3, 1) := by decide +kernel
theorem dL_law_1391 : decode cL_law 1391 = .ok (.iadd, 1) := by decide +kernel
theorem dL_law_1392 : decode cL_law 1392 = .ok (.iaload, 1) := by decide +kernel
theorem dL_law_1393 : decode cL_law 1393 = .ok (.invokevirtual 151, 3) := by decide +kernel
theorem dL_law_1396 : decode cL_law 1396 = .ok (.if_icmp .eq 192, 3) := by decide +kernel
theorem dL_law_1399 : decode cL_law 1399 = .ok (.iconst 0, 1) := by decide +kernel
theorem dL_law_1400 : decode cL_law 1400 = .ok (.ireturn, 1) := by decide +kernel
theorem dL_law_1401 : decode cL_law 1401 = .ok (.aload_n 1, 1) := by decide +kernel
theorem dL_law_1402 : decode cL_law 1402 = .ok (.aload_n 0, 1) := by decide +kernel
theorem dL_law_1403 : decode cL_law 1403 = .ok (.iload 4, 2) := by decide +kernel
theorem dL_law_1405 : decode cL_law 1405 = .ok (.iconst 1, 1) := by decide +kernel
theorem dL_law_1406 : decode cL_law 1406 = .ok (.iadd, 1) := by decide +kernel
theorem dL_law_1407 : decode cL_law 1407 = .ok (.iaload, 1) := by decide +kernel
theorem dL_law_1408 : decode cL_law 1408 = .ok (.aload_n 0, 1) := by decide +kernel
theorem dL_law_1409 : decode cL_law 1409 = .ok (.iload 4, 2) := by decide +kernel
theorem dL_law_1411 : decode cL_law 1411 = .ok (.iconst 2, 1) := by decide +kernel
theorem dL_law_1412 : decode cL_law 1412 = .ok (.iadd, 1) := by decide +kernel
theorem dL_law_1413 : decode cL_law 1413 = .ok (.iaload, 1) := by decide +kernel
theorem dL_law_1414 : decode cL_law 1414 = .ok (.i2l, 1) := by decide +kernel
theorem dL_law_1415 : decode cL_law 1415 = .ok (.bipush 32, 2) := by decide +kernel
theorem dL_law_1417 : decode cL_law 1417 = .ok (.lshl, 1) := by decide +kernel
theorem dL_law_1418 : decode cL_law 1418 = .ok (.aload_n 0, 1) := by decide +kernel
theorem dL_law_1419 : decode cL_law 1419 = .ok (.iload 4, 2) := by decide +kernel
theorem dL_law_1421 : decode cL_law 1421 = .ok (.iconst 3, 1) := by decide +kernel
theorem dL_law_1422 : decode cL_law 1422 = .ok (.iadd, 1) := by decide +kernel
theorem dL_law_1423 : decode cL_law 1423 = .ok (.iaload, 1) := by decide +kernel
theorem dL_law_1424 : decode cL_law 1424 = .ok (.i2l, 1) := by decide +kernel
theorem dL_law_1425 : decode cL_law 1425 = .ok (.ldc2_w 152, 3) := by decide +kernel
theorem dL_law_1428 : decode cL_law 1428 = .ok (.land, 1) := by decide +kernel
theorem dL_law_1429 : decode cL_law 1429 = .ok (.lor, 1) := by decide +kernel
theorem dL_law_1430 : decode cL_law 1430 = .ok (.aload_n 0, 1) := by decide +kernel
theorem dL_law_1431 : decode cL_law 1431 = .ok (.iload 4, 2) := by decide +kernel
theorem dL_law_1433 : decode cL_law 1433 = .ok (.iconst 4, 1) := by decide +kernel
theorem dL_law_1434 : decode cL_law 1434 = .ok (.iadd, 1) := by decide +kernel
theorem dL_law_1435 : decode cL_law 1435 = .ok (.iaload, 1) := by decide +kernel
theorem dL_law_1436 : decode cL_law 1436 = .ok (.invokevirtual 154, 3) := by decide +kernel
theorem dL_law_1439 : decode cL_law 1439 = .ok (.aload_n 2, 1) := by decide +kernel
theorem dL_law_1440 : decode cL_law 1440 = .ok (.aload_n 0, 1) := by decide +kernel
theorem dL_law_1441 : decode cL_law 1441 = .ok (.iload 4, 2) := by decide +kernel
theorem dL_law_1443 : decode cL_law 1443 = .ok (.iconst 1, 1) := by decide +kernel
theorem dL_law_1444 : decode cL_law 1444 = .ok (.iadd, 1) := by decide +kernel
theorem dL_law_1445 : decode cL_law 1445 = .ok (.iaload, 1) := by decide +kernel
theorem dL_law_1446 : decode cL_law 1446 = .ok (.aload_n 0, 1) := by decide +kernel
theorem dL_law_1447 : decode cL_law 1447 = .ok (.iload 4, 2) := by decide +kernel
theorem dL_law_1449 : decode cL_law 1449 = .ok (.iconst 2, 1) := by decide +kernel
theorem dL_law_1450 : decode cL_law 1450 = .ok (.iadd, 1) := by decide +kernel
theorem dL_law_1451 : decode cL_law 1451 = .ok (.iaload, 1) := by decide +kernel
theorem dL_law_1452 : decode cL_law 1452 = .ok (.i2l, 1) := by decide +kernel
theorem dL_law_1453 : decode cL_law 1453 = .ok (.bipush 32, 2) := by decide +kernel
theorem dL_law_1455 : decode cL_law 1455 = .ok (.lshl, 1) := by decide +kernel
theorem dL_law_1456 : decode cL_law 1456 = .ok (.aload_n 0, 1) := by decide +kernel
theorem dL_law_1457 : decode cL_law 1457 = .ok (.iload 4, 2) := by decide +kernel
theorem dL_law_1459 : decode cL_law 1459 = .ok (.iconst 3, 1) := by decide +kernel
theorem dL_law_1460 : decode cL_law 1460 = .ok (.iadd, 1) := by decide +kernel
theorem dL_law_1461 : decode cL_law 1461 = .ok (.iaload, 1) := by decide +kernel
theorem dL_law_1462 : decode cL_law 1462 = .ok (.i2l, 1) := by decide +kernel
theorem dL_law_1463 : decode cL_law 1463 = .ok (.ldc2_w 152, 3) := by decide +kernel
theorem dL_law_1466 : decode cL_law 1466 = .ok (.land, 1) := by decide +kernel
theorem dL_law_1467 : decode cL_law 1467 = .ok (.lor, 1) := by decide +kernel
theorem dL_law_1468 : decode cL_law 1468 = .ok (.aload_n 0, 1) := by decide +kernel
theorem dL_law_1469 : decode cL_law 1469 = .ok (.iload 4, 2) := by decide +kernel
theorem dL_law_1471 : decode cL_law 1471 = .ok (.iconst 4, 1) := by decide +kernel
theorem dL_law_1472 : decode cL_law 1472 = .ok (.iadd, 1) := by decide +kernel
theorem dL_law_1473 : decode cL_law 1473 = .ok (.iaload, 1) := by decide +kernel
theorem dL_law_1474 : decode cL_law 1474 = .ok (.invokevirtual 158, 3) := by decide +kernel
theorem dL_law_1477 : decode cL_law 1477 = .ok (.if_icmp .eq 111, 3) := by decide +kernel
theorem dL_law_1480 : decode cL_law 1480 = .ok (.iconst 0, 1) := by decide +kernel
theorem dL_law_1481 : decode cL_law 1481 = .ok (.ireturn, 1) := by decide +kernel
theorem dL_law_1482 : decode cL_law 1482 = .ok (.aload_n 1, 1) := by decide +kernel
theorem dL_law_1483 : decode cL_law 1483 = .ok (.aload_n 0, 1) := by decide +kernel
theorem dL_law_1484 : decode cL_law 1484 = .ok (.iload 4, 2) := by decide +kernel
theorem dL_law_1486 : decode cL_law 1486 = .ok (.iconst 1, 1) := by decide +kernel
theorem dL_law_1487 : decode cL_law 1487 = .ok (.iadd, 1) := by decide +kernel
theorem dL_law_1488 : decode cL_law 1488 = .ok (.iaload, 1) := by decide +kernel
theorem dL_law_1489 : decode cL_law 1489 = .ok (.aload_n 0, 1) := by decide +kernel
theorem dL_law_1490 : decode cL_law 1490 = .ok (.iload 4, 2) := by decide +kernel
theorem dL_law_1492 : decode cL_law 1492 = .ok (.iconst 2, 1) := by decide +kernel
theorem dL_law_1493 : decode cL_law 1493 = .ok (.iadd, 1) := by decide +kernel
theorem dL_law_1494 : decode cL_law 1494 = .ok (.iaload, 1) := by decide +kernel
theorem dL_law_1495 : decode cL_law 1495 = .ok (.aload_n 3, 1) := by decide +kernel
theorem dL_law_1496 : decode cL_law 1496 = .ok (.invokestatic 159, 3) := by decide +kernel
theorem dL_law_1499 : decode cL_law 1499 = .ok (.istore 5, 2) := by decide +kernel
theorem dL_law_1501 : decode cL_law 1501 = .ok (.aload_n 2, 1) := by decide +kernel
theorem dL_law_1502 : decode cL_law 1502 = .ok (.aload_n 0, 1) := by decide +kernel
theorem dL_law_1503 : decode cL_law 1503 = .ok (.iload 4, 2) := by decide +kernel
theorem dL_law_1505 : decode cL_law 1505 = .ok (.iconst 1, 1) := by decide +kernel
theorem dL_law_1506 : decode cL_law 1506 = .ok (.iadd, 1) := by decide +kernel
theorem dL_law_1507 : decode cL_law 1507 = .ok (.iaload, 1) := by decide +kernel
theorem dL_law_1508 : decode cL_law 1508 = .ok (.aload_n 0, 1) := by decide +kernel
theorem dL_law_1509 : decode cL_law 1509 = .ok (.iload 4, 2) := by decide +kernel
theorem dL_law_1511 : decode cL_law 1511 = .ok (.iconst 2, 1) := by decide +kernel
theorem dL_law_1512 : decode cL_law 1512 = .ok (.iadd, 1) := by decide +kernel
theorem dL_law_1513 : decode cL_law 1513 = .ok (.iaload, 1) := by decide +kernel
theorem dL_law_1514 : decode cL_law 1514 = .ok (.invokevirtual 162, 3) := by decide +kernel
theorem dL_law_1517 : decode cL_law 1517 = .ok (.istore 6, 2) := by decide +kernel
theorem dL_law_1519 : decode cL_law 1519 = .ok (.aload_n 2, 1) := by decide +kernel
theorem dL_law_1520 : decode cL_law 1520 = .ok (.invokevirtual 52, 3) := by decide +kernel
theorem dL_law_1523 : decode cL_law 1523 = .ok (.iload 5, 2) := by decide +kernel
theorem dL_law_1525 : decode cL_law 1525 = .ok (.if_icmp .eq 5, 3) := by decide +kernel
theorem dL_law_1528 : decode cL_law 1528 = .ok (.iconst 0, 1) := by decide +kernel
theorem dL_law_1529 : decode cL_law 1529 = .ok (.ireturn, 1) := by decide +kernel
theorem dL_law_1530 : decode cL_law 1530 = .ok (.iload 5, 2) := by decide +kernel
theorem dL_law_1532 : decode cL_law 1532 = .ok (.ifCond .ne 15, 3) := by decide +kernel
theorem dL_law_1535 : decode cL_law 1535 = .ok (.aload_n 3, 1) := by decide +kernel
theorem dL_law_1536 : decode cL_law 1536 = .ok (.iconst 0, 1) := by decide +kernel
theorem dL_law_1537 : decode cL_law 1537 = .ok (.laload, 1) := by decide +kernel
theorem dL_law_1538 : decode cL_law 1538 = .ok (.iload 6, 2) := by decide +kernel
theorem dL_law_1540 : decode cL_law 1540 = .ok (.i2l, 1) := by decide +kernel
theorem dL_law_1541 : decode cL_law 1541 = .ok (.lcmp, 1) := by decide +kernel
theorem dL_law_1542 : decode cL_law 1542 = .ok (.ifCond .eq 5, 3) := by decide +kernel
theorem dL_law_1545 : decode cL_law 1545 = .ok (.iconst 0, 1) := by decide +kernel
theorem dL_law_1546 : decode cL_law 1546 = .ok (.ireturn, 1) := by decide +kernel
theorem dL_law_1547 : decode cL_law 1547 = .ok (.goto 41, 3) := by decide +kernel
theorem dL_law_1550 : decode cL_law 1550 = .ok (.aload_n 1, 1) := by decide +kernel
theorem dL_law_1551 : decode cL_law 1551 = .ok (.invokevirtual 163, 3) := by decide +kernel
theorem dL_law_1554 : decode cL_law 1554 = .ok (.aload_n 2, 1) := by decide +kernel
theorem dL_law_1555 : decode cL_law 1555 = .ok (.invokevirtual 166, 3) := by decide +kernel
theorem dL_law_1558 : decode cL_law 1558 = .ok (.if_icmp .eq 30, 3) := by decide +kernel
theorem dL_law_1561 : decode cL_law 1561 = .ok (.iconst 0, 1) := by decide +kernel
theorem dL_law_1562 : decode cL_law 1562 = .ok (.ireturn, 1) := by decide +kernel
theorem dL_law_1563 : decode cL_law 1563 = .ok (.aload_n 1, 1) := by decide +kernel
theorem dL_law_1564 : decode cL_law 1564 = .ok (.aload_n 0, 1) := by decide +kernel
theorem dL_law_1565 : decode cL_law 1565 = .ok (.iload 4, 2) := by decide +kernel
theorem dL_law_1567 : decode cL_law 1567 = .ok (.iconst 1, 1) := by decide +kernel
theorem dL_law_1568 : decode cL_law 1568 = .ok (.iadd, 1) := by decide +kernel
theorem dL_law_1569 : decode cL_law 1569 = .ok (.iaload, 1) := by decide +kernel
theorem dL_law_1570 : decode cL_law 1570 = .ok (.invokevirtual 167, 3) := by decide +kernel
theorem dL_law_1573 : decode cL_law 1573 = .ok (.aload_n 2, 1) := by decide +kernel
theorem dL_law_1574 : decode cL_law 1574 = .ok (.aload_n 0, 1) := by decide +kernel
theorem dL_law_1575 : decode cL_law 1575 = .ok (.iload 4, 2) := by decide +kernel
theorem dL_law_1577 : decode cL_law 1577 = .ok (.iconst 1, 1) := by decide +kernel
theorem dL_law_1578 : decode cL_law 1578 = .ok (.iadd, 1) := by decide +kernel
theorem dL_law_1579 : decode cL_law 1579 = .ok (.iaload, 1) := by decide +kernel
theorem dL_law_1580 : decode cL_law 1580 = .ok (.invokevirtual 170, 3) := by decide +kernel
theorem dL_law_1583 : decode cL_law 1583 = .ok (.if_icmp .eq 5, 3) := by decide +kernel
theorem dL_law_1586 : decode cL_law 1586 = .ok (.iconst 0, 1) := by decide +kernel
theorem dL_law_1587 : decode cL_law 1587 = .ok (.ireturn, 1) := by decide +kernel
theorem dL_law_1588 : decode cL_law 1588 = .ok (.iinc 4 7, 3) := by decide +kernel
theorem dL_law_1591 : decode cL_law 1591 = .ok (.goto (-1568), 3) := by decide +kernel
theorem dL_law_1594 : decode cL_law 1594 = .ok (.iconst 1, 1) := by decide +kernel
theorem dL_law_1595 : decode cL_law 1595 = .ok (.ireturn, 1) := by decide +kernel
