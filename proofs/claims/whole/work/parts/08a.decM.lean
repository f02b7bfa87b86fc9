theorem dX12_within_0 : decode kX12_within.2.1 0 = .ok (.lload_n 0, 1) := by decide +kernel
theorem dX12_within_1 : decode kX12_within.2.1 1 = .ok (.lload_n 2, 1) := by decide +kernel
theorem dX12_within_2 : decode kX12_within.2.1 2 = .ok (.lcmp, 1) := by decide +kernel
theorem dX12_within_3 : decode kX12_within.2.1 3 = .ok (.ifCond .lt 14, 3) := by decide +kernel
theorem dX12_within_6 : decode kX12_within.2.1 6 = .ok (.lload_n 0, 1) := by decide +kernel
theorem dX12_within_7 : decode kX12_within.2.1 7 = .ok (.lload 4, 2) := by decide +kernel
theorem dX12_within_9 : decode kX12_within.2.1 9 = .ok (.lcmp, 1) := by decide +kernel
theorem dX12_within_10 : decode kX12_within.2.1 10 = .ok (.ifCond .gt 7, 3) := by decide +kernel
theorem dX12_within_13 : decode kX12_within.2.1 13 = .ok (.iconst 1, 1) := by decide +kernel
theorem dX12_within_14 : decode kX12_within.2.1 14 = .ok (.goto 4, 3) := by decide +kernel
theorem dX12_within_17 : decode kX12_within.2.1 17 = .ok (.iconst 0, 1) := by decide +kernel
theorem dX12_within_18 : decode kX12_within.2.1 18 = .ok (.ireturn, 1) := by decide +kernel
theorem dX12_init_0 : decode kX12_init.2.1 0 = .ok (.aload_n 0, 1) := by decide +kernel
theorem dX12_init_1 : decode kX12_init.2.1 1 = .ok (.invokespecial 7, 3) := by decide +kernel
theorem dX12_init_4 : decode kX12_init.2.1 4 = .ok (.aload_n 0, 1) := by decide +kernel
theorem dX12_init_5 : decode kX12_init.2.1 5 = .ok (.sipush 3120, 3) := by decide +kernel
theorem dX12_init_8 : decode kX12_init.2.1 8 = .ok (.newarray .int, 2) := by decide +kernel
theorem dX12_init_10 : decode kX12_init.2.1 10 = .ok (.putfield 13, 3) := by decide +kernel
theorem dX12_init_13 : decode kX12_init.2.1 13 = .ok (.aload_n 0, 1) := by decide +kernel
theorem dX12_init_14 : decode kX12_init.2.1 14 = .ok (.iconst 2, 1) := by decide +kernel
theorem dX12_init_15 : decode kX12_init.2.1 15 = .ok (.newarray .boolean, 2) := by decide +kernel
theorem dX12_init_17 : decode kX12_init.2.1 17 = .ok (.putfield 17, 3) := by decide +kernel
theorem dX12_init_20 : decode kX12_init.2.1 20 = .ok (.aload_n 0, 1) := by decide +kernel
theorem dX12_init_21 : decode kX12_init.2.1 21 = .ok (.sipush 900, 3) := by decide +kernel
theorem dX12_init_24 : decode kX12_init.2.1 24 = .ok (.newarray .int, 2) := by decide +kernel
theorem dX12_init_26 : decode kX12_init.2.1 26 = .ok (.putfield 21, 3) := by decide +kernel
theorem dX12_init_29 : decode kX12_init.2.1 29 = .ok (.aload_n 0, 1) := by decide +kernel
theorem dX12_init_30 : decode kX12_init.2.1 30 = .ok (.sipush 1040, 3) := by decide +kernel
theorem dX12_init_33 : decode kX12_init.2.1 33 = .ok (.newarray .int, 2) := by decide +kernel
theorem dX12_init_35 : decode kX12_init.2.1 35 = .ok (.putfield 24, 3) := by decide +kernel
theorem dX12_init_38 : decode kX12_init.2.1 38 = .ok (.aload_n 0, 1) := by decide +kernel
theorem dX12_init_39 : decode kX12_init.2.1 39 = .ok (.iconst (-1), 1) := by decide +kernel
theorem dX12_init_40 : decode kX12_init.2.1 40 = .ok (.putfield 27, 3) := by decide +kernel
theorem dX12_init_43 : decode kX12_init.2.1 43 = .ok (.aload_n 0, 1) := by decide +kernel
theorem dX12_init_44 : decode kX12_init.2.1 44 = .ok (.sipush 900, 3) := by decide +kernel
theorem dX12_init_47 : decode kX12_init.2.1 47 = .ok (.newarray .int, 2) := by decide +kernel
theorem dX12_init_49 : decode kX12_init.2.1 49 = .ok (.putfield 30, 3) := by decide +kernel
theorem dX12_init_52 : decode kX12_init.2.1 52 = .ok (.aload_n 0, 1) := by decide +kernel
theorem dX12_init_53 : decode kX12_init.2.1 53 = .ok (.bipush 7, 2) := by decide +kernel
theorem dX12_init_55 : decode kX12_init.2.1 55 = .ok (.newarray .int, 2) := by decide +kernel
theorem dX12_init_57 : decode kX12_init.2.1 57 = .ok (.putfield 33, 3) := by decide +kernel
theorem dX12_init_60 : decode kX12_init.2.1 60 = .ok (.aload_n 0, 1) := by decide +kernel
theorem dX12_init_61 : decode kX12_init.2.1 61 = .ok (.bipush 11, 2) := by decide +kernel
theorem dX12_init_63 : decode kX12_init.2.1 63 = .ok (.newarray .int, 2) := by decide +kernel
theorem dX12_init_65 : decode kX12_init.2.1 65 = .ok (.putfield 36, 3) := by decide +kernel
theorem dX12_init_68 : decode kX12_init.2.1 68 = .ok (.aload_n 0, 1) := by decide +kernel
theorem dX12_init_69 : decode kX12_init.2.1 69 = .ok (.bipush 21, 2) := by decide +kernel
theorem dX12_init_71 : decode kX12_init.2.1 71 = .ok (.newarray .int, 2) := by decide +kernel
theorem dX12_init_73 : decode kX12_init.2.1 73 = .ok (.putfield 39, 3) := by decide +kernel
theorem dX12_init_76 : decode kX12_init.2.1 76 = .ok (.aload_n 0, 1) := by decide +kernel
theorem dX12_init_77 : decode kX12_init.2.1 77 = .ok (.sipush 601, 3) := by decide +kernel
theorem dX12_init_80 : decode kX12_init.2.1 80 = .ok (.newarray .long, 2) := by decide +kernel
theorem dX12_init_82 : decode kX12_init.2.1 82 = .ok (.putfield 42, 3) := by decide +kernel
theorem dX12_init_85 : decode kX12_init.2.1 85 = .ok (.aload_n 0, 1) := by decide +kernel
theorem dX12_init_86 : decode kX12_init.2.1 86 = .ok (.sipush 601, 3) := by decide +kernel
theorem dX12_init_89 : decode kX12_init.2.1 89 = .ok (.newarray .long, 2) := by decide +kernel
theorem dX12_init_91 : decode kX12_init.2.1 91 = .ok (.putfield 46, 3) := by decide +kernel
theorem dX12_init_94 : decode kX12_init.2.1 94 = .ok (.aload_n 0, 1) := by decide +kernel
theorem dX12_init_95 : decode kX12_init.2.1 95 = .ok (.sipush 601, 3) := by decide +kernel
theorem dX12_init_98 : decode kX12_init.2.1 98 = .ok (.newarray .long, 2) := by decide +kernel
theorem dX12_init_100 : decode kX12_init.2.1 100 = .ok (.putfield 49, 3) := by decide +kernel
theorem dX12_init_103 : decode kX12_init.2.1 103 = .ok (.aload_n 0, 1) := by decide +kernel
theorem dX12_init_104 : decode kX12_init.2.1 104 = .ok (.bipush 125, 2) := by decide +kernel
theorem dX12_init_106 : decode kX12_init.2.1 106 = .ok (.newarray .long, 2) := by decide +kernel
theorem dX12_init_108 : decode kX12_init.2.1 108 = .ok (.putfield 52, 3) := by decide +kernel
theorem dX12_init_111 : decode kX12_init.2.1 111 = .ok (.aload_n 0, 1) := by decide +kernel
theorem dX12_init_112 : decode kX12_init.2.1 112 = .ok (.bipush 125, 2) := by decide +kernel
theorem dX12_init_114 : decode kX12_init.2.1 114 = .ok (.newarray .boolean, 2) := by decide +kernel
theorem dX12_init_116 : decode kX12_init.2.1 116 = .ok (.putfield 55, 3) := by decide +kernel
theorem dX12_init_119 : decode kX12_init.2.1 119 = .ok (.aload_n 0, 1) := by decide +kernel
theorem dX12_init_120 : decode kX12_init.2.1 120 = .ok (.bipush 16, 2) := by decide +kernel
theorem dX12_init_122 : decode kX12_init.2.1 122 = .ok (.newarray .int, 2) := by decide +kernel
theorem dX12_init_124 : decode kX12_init.2.1 124 = .ok (.putfield 58, 3) := by decide +kernel
theorem dX12_init_127 : decode kX12_init.2.1 127 = .ok (.aload_n 0, 1) := by decide +kernel
theorem dX12_init_128 : decode kX12_init.2.1 128 = .ok (.iconst 4, 1) := by decide +kernel
theorem dX12_init_129 : decode kX12_init.2.1 129 = .ok (.newarray .int, 2) := by decide +kernel
theorem dX12_init_131 : decode kX12_init.2.1 131 = .ok (.putfield 61, 3) := by decide +kernel
theorem dX12_init_134 : decode kX12_init.2.1 134 = .ok (.aload_n 0, 1) := by decide +kernel
theorem dX12_init_135 : decode kX12_init.2.1 135 = .ok (.iconst 4, 1) := by decide +kernel
theorem dX12_init_136 : decode kX12_init.2.1 136 = .ok (.newarray .int, 2) := by decide +kernel
theorem dX12_init_138 : decode kX12_init.2.1 138 = .ok (.putfield 64, 3) := by decide +kernel
theorem dX12_init_141 : decode kX12_init.2.1 141 = .ok (.aload_n 0, 1) := by decide +kernel
theorem dX12_init_142 : decode kX12_init.2.1 142 = .ok (.iconst 4, 1) := by decide +kernel
theorem dX12_init_143 : decode kX12_init.2.1 143 = .ok (.newarray .int, 2) := by decide +kernel
theorem dX12_init_145 : decode kX12_init.2.1 145 = .ok (.dup, 1) := by decide +kernel
theorem dX12_init_146 : decode kX12_init.2.1 146 = .ok (.iconst 0, 1) := by decide +kernel
theorem dX12_init_147 : decode kX12_init.2.1 147 = .ok (.iconst (-1), 1) := by decide +kernel
theorem dX12_init_148 : decode kX12_init.2.1 148 = .ok (.iastore, 1) := by decide +kernel
theorem dX12_init_149 : decode kX12_init.2.1 149 = .ok (.dup, 1) := by decide +kernel
theorem dX12_init_150 : decode kX12_init.2.1 150 = .ok (.iconst 1, 1) := by decide +kernel
theorem dX12_init_151 : decode kX12_init.2.1 151 = .ok (.iconst (-1), 1) := by decide +kernel
theorem dX12_init_152 : decode kX12_init.2.1 152 = .ok (.iastore, 1) := by decide +kernel
theorem dX12_init_153 : decode kX12_init.2.1 153 = .ok (.dup, 1) := by decide +kernel
theorem dX12_init_154 : decode kX12_init.2.1 154 = .ok (.iconst 2, 1) := by decide +kernel
theorem dX12_init_155 : decode kX12_init.2.1 155 = .ok (.iconst (-1), 1) := by decide +kernel
theorem dX12_init_156 : decode kX12_init.2.1 156 = .ok (.iastore, 1) := by decide +kernel
theorem dX12_init_157 : decode kX12_init.2.1 157 = .ok (.dup, 1) := by decide +kernel
theorem dX12_init_158 : decode kX12_init.2.1 158 = .ok (.iconst 3, 1) := by decide +kernel
theorem dX12_init_159 : decode kX12_init.2.1 159 = .ok (.iconst (-1), 1) := by decide +kernel
theorem dX12_init_160 : decode kX12_init.2.1 160 = .ok (.iastore, 1) := by decide +kernel
theorem dX12_init_161 : decode kX12_init.2.1 161 = .ok (.putfield 67, 3) := by decide +kernel
theorem dX12_init_164 : decode kX12_init.2.1 164 = .ok (.aload_n 0, 1) := by decide +kernel
theorem dX12_init_165 : decode kX12_init.2.1 165 = .ok (.iconst 4, 1) := by decide +kernel
theorem dX12_init_166 : decode kX12_init.2.1 166 = .ok (.newarray .int, 2) := by decide +kernel
theorem dX12_init_168 : decode kX12_init.2.1 168 = .ok (.putfield 70, 3) := by decide +kernel
theorem dX12_init_171 : decode kX12_init.2.1 171 = .ok (.aload_n 0, 1) := by decide +kernel
theorem dX12_init_172 : decode kX12_init.2.1 172 = .ok (.sipush 160, 3) := by decide +kernel
theorem dX12_init_175 : decode kX12_init.2.1 175 = .ok (.newarray .long, 2) := by decide +kernel
theorem dX12_init_177 : decode kX12_init.2.1 177 = .ok (.putfield 73, 3) := by decide +kernel
theorem dX12_init_180 : decode kX12_init.2.1 180 = .ok (.aload_n 0, 1) := by decide +kernel
theorem dX12_init_181 : decode kX12_init.2.1 181 = .ok (.getfield 13, 3) := by decide +kernel
theorem dX12_init_184 : decode kX12_init.2.1 184 = .ok (.invokestatic 76, 3) := by decide +kernel
theorem dX12_init_187 : decode kX12_init.2.1 187 = .ok (.return_, 1) := by decide +kernel
theorem dX12_plain_0 : decode kX12_plain.2.1 0 = .ok (.iconst 0, 1) := by decide +kernel
theorem dX12_plain_1 : decode kX12_plain.2.1 1 = .ok (.istore_n 1, 1) := by decide +kernel
theorem dX12_plain_2 : decode kX12_plain.2.1 2 = .ok (.iload_n 1, 1) := by decide +kernel
theorem dX12_plain_3 : decode kX12_plain.2.1 3 = .ok (.sipush 1040, 3) := by decide +kernel
theorem dX12_plain_6 : decode kX12_plain.2.1 6 = .ok (.if_icmp .ge 13, 3) := by decide +kernel
theorem dX12_plain_9 : decode kX12_plain.2.1 9 = .ok (.aload_n 0, 1) := by decide +kernel
theorem dX12_plain_10 : decode kX12_plain.2.1 10 = .ok (.iload_n 1, 1) := by decide +kernel
theorem dX12_plain_11 : decode kX12_plain.2.1 11 = .ok (.iconst 0, 1) := by decide +kernel
theorem dX12_plain_12 : decode kX12_plain.2.1 12 = .ok (.iastore, 1) := by decide +kernel
theorem dX12_plain_13 : decode kX12_plain.2.1 13 = .ok (.iinc 1 1, 3) := by decide +kernel
theorem dX12_plain_16 : decode kX12_plain.2.1 16 = .ok (.goto (-14), 3) := by decide +kernel
theorem dX12_plain_19 : decode kX12_plain.2.1 19 = .ok (.aload_n 0, 1) := by decide +kernel
theorem dX12_plain_20 : decode kX12_plain.2.1 20 = .ok (.iconst 1, 1) := by decide +kernel
theorem dX12_plain_21 : decode kX12_plain.2.1 21 = .ok (.bipush 10, 2) := by decide +kernel
theorem dX12_plain_23 : decode kX12_plain.2.1 23 = .ok (.iastore, 1) := by decide +kernel
theorem dX12_plain_24 : decode kX12_plain.2.1 24 = .ok (.aload_n 0, 1) := by decide +kernel
theorem dX12_plain_25 : decode kX12_plain.2.1 25 = .ok (.iconst 2, 1) := by decide +kernel
theorem dX12_plain_26 : decode kX12_plain.2.1 26 = .ok (.bipush 10, 2) := by decide +kernel
theorem dX12_plain_28 : decode kX12_plain.2.1 28 = .ok (.iastore, 1) := by decide +kernel
theorem dX12_plain_29 : decode kX12_plain.2.1 29 = .ok (.aload_n 0, 1) := by decide +kernel
theorem dX12_plain_30 : decode kX12_plain.2.1 30 = .ok (.iconst 3, 1) := by decide +kernel
theorem dX12_plain_31 : decode kX12_plain.2.1 31 = .ok (.bipush 10, 2) := by decide +kernel
theorem dX12_plain_33 : decode kX12_plain.2.1 33 = .ok (.iastore, 1) := by decide +kernel
theorem dX12_plain_34 : decode kX12_plain.2.1 34 = .ok (.aload_n 0, 1) := by decide +kernel
theorem dX12_plain_35 : decode kX12_plain.2.1 35 = .ok (.iconst 4, 1) := by decide +kernel
theorem dX12_plain_36 : decode kX12_plain.2.1 36 = .ok (.iconst 1, 1) := by decide +kernel
theorem dX12_plain_37 : decode kX12_plain.2.1 37 = .ok (.iastore, 1) := by decide +kernel
theorem dX12_plain_38 : decode kX12_plain.2.1 38 = .ok (.aload_n 0, 1) := by decide +kernel
theorem dX12_plain_39 : decode kX12_plain.2.1 39 = .ok (.iconst 5, 1) := by decide +kernel
theorem dX12_plain_40 : decode kX12_plain.2.1 40 = .ok (.bipush 10, 2) := by decide +kernel
theorem dX12_plain_42 : decode kX12_plain.2.1 42 = .ok (.iastore, 1) := by decide +kernel
theorem dX12_plain_43 : decode kX12_plain.2.1 43 = .ok (.return_, 1) := by decide +kernel
theorem dX12_feed_0 : decode kX12_feed.2.1 0 = .ok (.aload_n 0, 1) := by decide +kernel
theorem dX12_feed_1 : decode kX12_feed.2.1 1 = .ok (.iconst 0, 1) := by decide +kernel
theorem dX12_feed_2 : decode kX12_feed.2.1 2 = .ok (.putfield 1, 3) := by decide +kernel
theorem dX12_feed_5 : decode kX12_feed.2.1 5 = .ok (.aload_n 0, 1) := by decide +kernel
theorem dX12_feed_6 : decode kX12_feed.2.1 6 = .ok (.getfield 80, 3) := by decide +kernel
theorem dX12_feed_9 : decode kX12_feed.2.1 9 = .ok (.bipush 20, 2) := by decide +kernel
theorem dX12_feed_11 : decode kX12_feed.2.1 11 = .ok (.iadd, 1) := by decide +kernel
theorem dX12_feed_12 : decode kX12_feed.2.1 12 = .ok (.sipush 900, 3) := by decide +kernel
theorem dX12_feed_15 : decode kX12_feed.2.1 15 = .ok (.if_icmp .le 6, 3) := by decide +kernel
theorem dX12_feed_18 : decode kX12_feed.2.1 18 = .ok (.bipush (-5), 2) := by decide +kernel
theorem dX12_feed_20 : decode kX12_feed.2.1 20 = .ok (.ireturn, 1) := by decide +kernel
theorem dX12_feed_21 : decode kX12_feed.2.1 21 = .ok (.iconst 0, 1) := by decide +kernel
theorem dX12_feed_22 : decode kX12_feed.2.1 22 = .ok (.istore 6, 2) := by decide +kernel
theorem dX12_feed_24 : decode kX12_feed.2.1 24 = .ok (.iload 6, 2) := by decide +kernel
theorem dX12_feed_26 : decode kX12_feed.2.1 26 = .ok (.bipush 20, 2) := by decide +kernel
theorem dX12_feed_28 : decode kX12_feed.2.1 28 = .ok (.if_icmp .ge 93, 3) := by decide +kernel
theorem dX12_feed_31 : decode kX12_feed.2.1 31 = .ok (.iload 6, 2) := by decide +kernel
theorem dX12_feed_33 : decode kX12_feed.2.1 33 = .ok (.iconst 4, 1) := by decide +kernel
theorem dX12_feed_34 : decode kX12_feed.2.1 34 = .ok (.if_icmp .ge 7, 3) := by decide +kernel
theorem dX12_feed_37 : decode kX12_feed.2.1 37 = .ok (.iload_n 1, 1) := by decide +kernel
theorem dX12_feed_38 : decode kX12_feed.2.1 38 = .ok (.goto 39, 3) := by decide +kernel
theorem dX12_feed_41 : decode kX12_feed.2.1 41 = .ok (.iload 6, 2) := by decide +kernel
theorem dX12_feed_43 : decode kX12_feed.2.1 43 = .ok (.bipush 8, 2) := by decide +kernel
theorem dX12_feed_45 : decode kX12_feed.2.1 45 = .ok (.if_icmp .ge 7, 3) := by decide +kernel
theorem dX12_feed_48 : decode kX12_feed.2.1 48 = .ok (.iload_n 2, 1) := by decide +kernel
theorem dX12_feed_49 : decode kX12_feed.2.1 49 = .ok (.goto 28, 3) := by decide +kernel
theorem dX12_feed_52 : decode kX12_feed.2.1 52 = .ok (.iload 6, 2) := by decide +kernel
theorem dX12_feed_54 : decode kX12_feed.2.1 54 = .ok (.bipush 12, 2) := by decide +kernel
theorem dX12_feed_56 : decode kX12_feed.2.1 56 = .ok (.if_icmp .ge 7, 3) := by decide +kernel
theorem dX12_feed_59 : decode kX12_feed.2.1 59 = .ok (.iload_n 3, 1) := by decide +kernel
theorem dX12_feed_60 : decode kX12_feed.2.1 60 = .ok (.goto 17, 3) := by decide +kernel
theorem dX12_feed_63 : decode kX12_feed.2.1 63 = .ok (.iload 6, 2) := by decide +kernel
theorem dX12_feed_65 : decode kX12_feed.2.1 65 = .ok (.bipush 16, 2) := by decide +kernel
theorem dX12_feed_67 : decode kX12_feed.2.1 67 = .ok (.if_icmp .ge 8, 3) := by decide +kernel
theorem dX12_feed_70 : decode kX12_feed.2.1 70 = .ok (.iload 4, 2) := by decide +kernel
theorem dX12_feed_72 : decode kX12_feed.2.1 72 = .ok (.goto 5, 3) := by decide +kernel
theorem dX12_feed_75 : decode kX12_feed.2.1 75 = .ok (.iload 5, 2) := by decide +kernel
theorem dX12_feed_77 : decode kX12_feed.2.1 77 = .ok (.istore 7, 2) := by decide +kernel
theorem dX12_feed_79 : decode kX12_feed.2.1 79 = .ok (.aload_n 0, 1) := by decide +kernel
theorem dX12_feed_80 : decode kX12_feed.2.1 80 = .ok (.getfield 21, 3) := by decide +kernel
theorem dX12_feed_83 : decode kX12_feed.2.1 83 = .ok (.aload_n 0, 1) := by decide +kernel
theorem dX12_feed_84 : decode kX12_feed.2.1 84 = .ok (.getfield 80, 3) := by decide +kernel
theorem dX12_feed_87 : decode kX12_feed.2.1 87 = .ok (.iload 7, 2) := by decide +kernel
theorem dX12_feed_89 : decode kX12_feed.2.1 89 = .ok (.bipush 24, 2) := by decide +kernel
theorem dX12_feed_91 : decode kX12_feed.2.1 91 = .ok (.bipush 8, 2) := by decide +kernel
theorem dX12_feed_93 : decode kX12_feed.2.1 93 = .ok (.iload 6, 2) := by decide +kernel
theorem dX12_feed_95 : decode kX12_feed.2.1 95 = .ok (.iconst 4, 1) := by decide +kernel
theorem dX12_feed_96 : decode kX12_feed.2.1 96 = .ok (.irem, 1) := by decide +kernel
theorem dX12_feed_97 : decode kX12_feed.2.1 97 = .ok (.imul, 1) := by decide +kernel
theorem dX12_feed_98 : decode kX12_feed.2.1 98 = .ok (.isub, 1) := by decide +kernel
theorem dX12_feed_99 : decode kX12_feed.2.1 99 = .ok (.ishr, 1) := by decide +kernel
theorem dX12_feed_100 : decode kX12_feed.2.1 100 = .ok (.sipush 255, 3) := by decide +kernel
theorem dX12_feed_103 : decode kX12_feed.2.1 103 = .ok (.iand, 1) := by decide +kernel
theorem dX12_feed_104 : decode kX12_feed.2.1 104 = .ok (.iastore, 1) := by decide +kernel
theorem dX12_feed_105 : decode kX12_feed.2.1 105 = .ok (.aload_n 0, 1) := by decide +kernel
theorem dX12_feed_106 : decode kX12_feed.2.1 106 = .ok (.dup, 1) := by decide +kernel
theorem dX12_feed_107 : decode kX12_feed.2.1 107 = .ok (.getfield 80, 3) := by decide +kernel
theorem dX12_feed_110 : decode kX12_feed.2.1 110 = .ok (.iconst 1, 1) := by decide +kernel
theorem dX12_feed_111 : decode kX12_feed.2.1 111 = .ok (.iadd, 1) := by decide +kernel
theorem dX12_feed_112 : decode kX12_feed.2.1 112 = .ok (.putfield 80, 3) := by decide +kernel
theorem dX12_feed_115 : decode kX12_feed.2.1 115 = .ok (.iinc 6 1, 3) := by decide +kernel
theorem dX12_feed_118 : decode kX12_feed.2.1 118 = .ok (.goto (-94), 3) := by decide +kernel
theorem dX12_feed_121 : decode kX12_feed.2.1 121 = .ok (.aload_n 0, 1) := by decide +kernel
theorem dX12_feed_122 : decode kX12_feed.2.1 122 = .ok (.getfield 80, 3) := by decide +kernel
theorem dX12_feed_125 : decode kX12_feed.2.1 125 = .ok (.ireturn, 1) := by decide +kernel
theorem dX12_see_0 : decode kX12_see.2.1 0 = .ok (.iload_n 1, 1) := by decide +kernel
theorem dX12_see_1 : decode kX12_see.2.1 1 = .ok (.aload_n 0, 1) := by decide +kernel
theorem dX12_see_2 : decode kX12_see.2.1 2 = .ok (.getfield 83, 3) := by decide +kernel
theorem dX12_see_5 : decode kX12_see.2.1 5 = .ok (.if_icmp .ge 12, 3) := by decide +kernel
theorem dX12_see_8 : decode kX12_see.2.1 8 = .ok (.aload_n 0, 1) := by decide +kernel
theorem dX12_see_9 : decode kX12_see.2.1 9 = .ok (.getfield 21, 3) := by decide +kernel
theorem dX12_see_12 : decode kX12_see.2.1 12 = .ok (.iload_n 1, 1) := by decide +kernel
theorem dX12_see_13 : decode kX12_see.2.1 13 = .ok (.iaload, 1) := by decide +kernel
theorem dX12_see_14 : decode kX12_see.2.1 14 = .ok (.goto 4, 3) := by decide +kernel
theorem dX12_see_17 : decode kX12_see.2.1 17 = .ok (.iconst (-1), 1) := by decide +kernel
theorem dX12_see_18 : decode kX12_see.2.1 18 = .ok (.ireturn, 1) := by decide +kernel
theorem dX12_isSmall_0 : decode kX12_isSmall.2.1 0 = .ok (.iload_n 0, 1) := by decide +kernel
theorem dX12_isSmall_1 : decode kX12_isSmall.2.1 1 = .ok (.bipush 97, 2) := by decide +kernel
theorem dX12_isSmall_3 : decode kX12_isSmall.2.1 3 = .ok (.if_icmp .lt 13, 3) := by decide +kernel
theorem dX12_isSmall_6 : decode kX12_isSmall.2.1 6 = .ok (.iload_n 0, 1) := by decide +kernel
theorem dX12_isSmall_7 : decode kX12_isSmall.2.1 7 = .ok (.bipush 122, 2) := by decide +kernel
theorem dX12_isSmall_9 : decode kX12_isSmall.2.1 9 = .ok (.if_icmp .gt 7, 3) := by decide +kernel
theorem dX12_isSmall_12 : decode kX12_isSmall.2.1 12 = .ok (.iconst 1, 1) := by decide +kernel
theorem dX12_isSmall_13 : decode kX12_isSmall.2.1 13 = .ok (.goto 4, 3) := by decide +kernel
theorem dX12_isSmall_16 : decode kX12_isSmall.2.1 16 = .ok (.iconst 0, 1) := by decide +kernel
theorem dX12_isSmall_17 : decode kX12_isSmall.2.1 17 = .ok (.ireturn, 1) := by decide +kernel
theorem dX12_isDigit_0 : decode kX12_isDigit.2.1 0 = .ok (.iload_n 0, 1) := by decide +kernel
theorem dX12_isDigit_1 : decode kX12_isDigit.2.1 1 = .ok (.bipush 48, 2) := by decide +kernel
theorem dX12_isDigit_3 : decode kX12_isDigit.2.1 3 = .ok (.if_icmp .lt 13, 3) := by decide +kernel
theorem dX12_isDigit_6 : decode kX12_isDigit.2.1 6 = .ok (.iload_n 0, 1) := by decide +kernel
theorem dX12_isDigit_7 : decode kX12_isDigit.2.1 7 = .ok (.bipush 57, 2) := by decide +kernel
theorem dX12_isDigit_9 : decode kX12_isDigit.2.1 9 = .ok (.if_icmp .gt 7, 3) := by decide +kernel
theorem dX12_isDigit_12 : decode kX12_isDigit.2.1 12 = .ok (.iconst 1, 1) := by decide +kernel
theorem dX12_isDigit_13 : decode kX12_isDigit.2.1 13 = .ok (.goto 4, 3) := by decide +kernel
theorem dX12_isDigit_16 : decode kX12_isDigit.2.1 16 = .ok (.iconst 0, 1) := by decide +kernel
theorem dX12_isDigit_17 : decode kX12_isDigit.2.1 17 = .ok (.ireturn, 1) := by decide +kernel
theorem dX12_keyAt_0 : decode kX12_keyAt.2.1 0 = .ok (.iconst 0, 1) := by decide +kernel
theorem dX12_keyAt_1 : decode kX12_keyAt.2.1 1 = .ok (.istore_n 1, 1) := by decide +kernel
theorem dX12_keyAt_2 : decode kX12_keyAt.2.1 2 = .ok (.iconst 1, 1) := by decide +kernel
theorem dX12_keyAt_3 : decode kX12_keyAt.2.1 3 = .ok (.istore_n 2, 1) := by decide +kernel
theorem dX12_keyAt_4 : decode kX12_keyAt.2.1 4 = .ok (.iload_n 2, 1) := by decide +kernel
theorem dX12_keyAt_5 : decode kX12_keyAt.2.1 5 = .ok (.ldc 86, 2) := by decide +kernel
theorem dX12_keyAt_7 : decode kX12_keyAt.2.1 7 = .ok (.invokevirtual 88, 3) := by decide +kernel
theorem dX12_keyAt_10 : decode kX12_keyAt.2.1 10 = .ok (.if_icmp .ge 113, 3) := by decide +kernel
theorem dX12_keyAt_13 : decode kX12_keyAt.2.1 13 = .ok (.iconst 0, 1) := by decide +kernel
theorem dX12_keyAt_14 : decode kX12_keyAt.2.1 14 = .ok (.istore_n 3, 1) := by decide +kernel
theorem dX12_keyAt_15 : decode kX12_keyAt.2.1 15 = .ok (.ldc 86, 2) := by decide +kernel
theorem dX12_keyAt_17 : decode kX12_keyAt.2.1 17 = .ok (.iload_n 2, 1) := by decide +kernel
theorem dX12_keyAt_18 : decode kX12_keyAt.2.1 18 = .ok (.iload_n 3, 1) := by decide +kernel
theorem dX12_keyAt_19 : decode kX12_keyAt.2.1 19 = .ok (.iadd, 1) := by decide +kernel
theorem dX12_keyAt_20 : decode kX12_keyAt.2.1 20 = .ok (.invokevirtual 94, 3) := by decide +kernel
theorem dX12_keyAt_23 : decode kX12_keyAt.2.1 23 = .ok (.bipush 32, 2) := by decide +kernel
theorem dX12_keyAt_25 : decode kX12_keyAt.2.1 25 = .ok (.if_icmp .eq 44, 3) := by decide +kernel
theorem dX12_keyAt_28 : decode kX12_keyAt.2.1 28 = .ok (.aload_n 0, 1) := by decide +kernel
theorem dX12_keyAt_29 : decode kX12_keyAt.2.1 29 = .ok (.getfield 98, 3) := by decide +kernel
theorem dX12_keyAt_32 : decode kX12_keyAt.2.1 32 = .ok (.iload_n 3, 1) := by decide +kernel
theorem dX12_keyAt_33 : decode kX12_keyAt.2.1 33 = .ok (.iadd, 1) := by decide +kernel
theorem dX12_keyAt_34 : decode kX12_keyAt.2.1 34 = .ok (.aload_n 0, 1) := by decide +kernel
theorem dX12_keyAt_35 : decode kX12_keyAt.2.1 35 = .ok (.getfield 101, 3) := by decide +kernel
theorem dX12_keyAt_38 : decode kX12_keyAt.2.1 38 = .ok (.if_icmp .ge 31, 3) := by decide +kernel
theorem dX12_keyAt_41 : decode kX12_keyAt.2.1 41 = .ok (.aload_n 0, 1) := by decide +kernel
theorem dX12_keyAt_42 : decode kX12_keyAt.2.1 42 = .ok (.getfield 21, 3) := by decide +kernel
theorem dX12_keyAt_45 : decode kX12_keyAt.2.1 45 = .ok (.aload_n 0, 1) := by decide +kernel
theorem dX12_keyAt_46 : decode kX12_keyAt.2.1 46 = .ok (.getfield 98, 3) := by decide +kernel
theorem dX12_keyAt_49 : decode kX12_keyAt.2.1 49 = .ok (.iload_n 3, 1) := by decide +kernel
theorem dX12_keyAt_50 : decode kX12_keyAt.2.1 50 = .ok (.iadd, 1) := by decide +kernel
theorem dX12_keyAt_51 : decode kX12_keyAt.2.1 51 = .ok (.iaload, 1) := by decide +kernel
theorem dX12_keyAt_52 : decode kX12_keyAt.2.1 52 = .ok (.ldc 86, 2) := by decide +kernel
theorem dX12_keyAt_54 : decode kX12_keyAt.2.1 54 = .ok (.iload_n 2, 1) := by decide +kernel
theorem dX12_keyAt_55 : decode kX12_keyAt.2.1 55 = .ok (.iload_n 3, 1) := by decide +kernel
theorem dX12_keyAt_56 : decode kX12_keyAt.2.1 56 = .ok (.iadd, 1) := by decide +kernel
theorem dX12_keyAt_57 : decode kX12_keyAt.2.1 57 = .ok (.invokevirtual 94, 3) := by decide +kernel
theorem dX12_keyAt_60 : decode kX12_keyAt.2.1 60 = .ok (.if_icmp .ne 9, 3) := by decide +kernel
theorem dX12_keyAt_63 : decode kX12_keyAt.2.1 63 = .ok (.iinc 3 1, 3) := by decide +kernel
theorem dX12_keyAt_66 : decode kX12_keyAt.2.1 66 = .ok (.goto (-51), 3) := by decide +kernel
theorem dX12_keyAt_69 : decode kX12_keyAt.2.1 69 = .ok (.ldc 86, 2) := by decide +kernel
theorem dX12_keyAt_71 : decode kX12_keyAt.2.1 71 = .ok (.iload_n 2, 1) := by decide +kernel
theorem dX12_keyAt_72 : decode kX12_keyAt.2.1 72 = .ok (.iload_n 3, 1) := by decide +kernel
theorem dX12_keyAt_73 : decode kX12_keyAt.2.1 73 = .ok (.iadd, 1) := by decide +kernel
theorem dX12_keyAt_74 : decode kX12_keyAt.2.1 74 = .ok (.invokevirtual 94, 3) := by decide +kernel
theorem dX12_keyAt_77 : decode kX12_keyAt.2.1 77 = .ok (.bipush 32, 2) := by decide +kernel
theorem dX12_keyAt_79 : decode kX12_keyAt.2.1 79 = .ok (.if_icmp .ne 18, 3) := by decide +kernel
theorem dX12_keyAt_82 : decode kX12_keyAt.2.1 82 = .ok (.aload_n 0, 1) := by decide +kernel
theorem dX12_keyAt_83 : decode kX12_keyAt.2.1 83 = .ok (.getfield 98, 3) := by decide +kernel
theorem dX12_keyAt_86 : decode kX12_keyAt.2.1 86 = .ok (.iload_n 3, 1) := by decide +kernel
theorem dX12_keyAt_87 : decode kX12_keyAt.2.1 87 = .ok (.iadd, 1) := by decide +kernel
theorem dX12_keyAt_88 : decode kX12_keyAt.2.1 88 = .ok (.aload_n 0, 1) := by decide +kernel
theorem dX12_keyAt_89 : decode kX12_keyAt.2.1 89 = .ok (.getfield 101, 3) := by decide +kernel
theorem dX12_keyAt_92 : decode kX12_keyAt.2.1 92 = .ok (.if_icmp .ne 5, 3) := by decide +kernel
theorem dX12_keyAt_95 : decode kX12_keyAt.2.1 95 = .ok (.iload_n 1, 1) := by decide +kernel
theorem dX12_keyAt_96 : decode kX12_keyAt.2.1 96 = .ok (.ireturn, 1) := by decide +kernel
theorem dX12_keyAt_97 : decode kX12_keyAt.2.1 97 = .ok (.ldc 86, 2) := by decide +kernel
theorem dX12_keyAt_99 : decode kX12_keyAt.2.1 99 = .ok (.iload_n 2, 1) := by decide +kernel
theorem dX12_keyAt_100 : decode kX12_keyAt.2.1 100 = .ok (.invokevirtual 94, 3) := by decide +kernel
theorem dX12_keyAt_103 : decode kX12_keyAt.2.1 103 = .ok (.bipush 32, 2) := by decide +kernel
theorem dX12_keyAt_105 : decode kX12_keyAt.2.1 105 = .ok (.if_icmp .eq 9, 3) := by decide +kernel
theorem dX12_keyAt_108 : decode kX12_keyAt.2.1 108 = .ok (.iinc 2 1, 3) := by decide +kernel
theorem dX12_keyAt_111 : decode kX12_keyAt.2.1 111 = .ok (.goto (-14), 3) := by decide +kernel
theorem dX12_keyAt_114 : decode kX12_keyAt.2.1 114 = .ok (.iinc 2 1, 3) := by decide +kernel
theorem dX12_keyAt_117 : decode kX12_keyAt.2.1 117 = .ok (.iinc 1 1, 3) := by decide +kernel
theorem dX12_keyAt_120 : decode kX12_keyAt.2.1 120 = .ok (.goto (-116), 3) := by decide +kernel
theorem dX12_keyAt_123 : decode kX12_keyAt.2.1 123 = .ok (.bipush 22, 2) := by decide +kernel
theorem dX12_keyAt_125 : decode kX12_keyAt.2.1 125 = .ok (.ireturn, 1) := by decide +kernel
theorem dX12_next_0 : decode kX12_next.2.1 0 = .ok (.aload_n 0, 1) := by decide +kernel
theorem dX12_next_1 : decode kX12_next.2.1 1 = .ok (.aload_n 0, 1) := by decide +kernel
theorem dX12_next_2 : decode kX12_next.2.1 2 = .ok (.getfield 101, 3) := by decide +kernel
theorem dX12_next_5 : decode kX12_next.2.1 5 = .ok (.putfield 98, 3) := by decide +kernel
theorem dX12_next_8 : decode kX12_next.2.1 8 = .ok (.aload_n 0, 1) := by decide +kernel
theorem dX12_next_9 : decode kX12_next.2.1 9 = .ok (.aload_n 0, 1) := by decide +kernel
theorem dX12_next_10 : decode kX12_next.2.1 10 = .ok (.getfield 98, 3) := by decide +kernel
theorem dX12_next_13 : decode kX12_next.2.1 13 = .ok (.invokevirtual 104, 3) := by decide +kernel
theorem dX12_next_16 : decode kX12_next.2.1 16 = .ok (.bipush 10, 2) := by decide +kernel
theorem dX12_next_18 : decode kX12_next.2.1 18 = .ok (.if_icmp .eq 16, 3) := by decide +kernel
theorem dX12_next_21 : decode kX12_next.2.1 21 = .ok (.aload_n 0, 1) := by decide +kernel
theorem dX12_next_22 : decode kX12_next.2.1 22 = .ok (.aload_n 0, 1) := by decide +kernel
theorem dX12_next_23 : decode kX12_next.2.1 23 = .ok (.getfield 98, 3) := by decide +kernel
theorem dX12_next_26 : decode kX12_next.2.1 26 = .ok (.invokevirtual 104, 3) := by decide +kernel
theorem dX12_next_29 : decode kX12_next.2.1 29 = .ok (.bipush 32, 2) := by decide +kernel
theorem dX12_next_31 : decode kX12_next.2.1 31 = .ok (.if_icmp .ne 16, 3) := by decide +kernel
theorem dX12_next_34 : decode kX12_next.2.1 34 = .ok (.aload_n 0, 1) := by decide +kernel
theorem dX12_next_35 : decode kX12_next.2.1 35 = .ok (.dup, 1) := by decide +kernel
theorem dX12_next_36 : decode kX12_next.2.1 36 = .ok (.getfield 98, 3) := by decide +kernel
theorem dX12_next_39 : decode kX12_next.2.1 39 = .ok (.iconst 1, 1) := by decide +kernel
theorem dX12_next_40 : decode kX12_next.2.1 40 = .ok (.iadd, 1) := by decide +kernel
theorem dX12_next_41 : decode kX12_next.2.1 41 = .ok (.putfield 98, 3) := by decide +kernel
theorem dX12_next_44 : decode kX12_next.2.1 44 = .ok (.goto (-36), 3) := by decide +kernel
theorem dX12_next_47 : decode kX12_next.2.1 47 = .ok (.aload_n 0, 1) := by decide +kernel
theorem dX12_next_48 : decode kX12_next.2.1 48 = .ok (.aload_n 0, 1) := by decide +kernel
theorem dX12_next_49 : decode kX12_next.2.1 49 = .ok (.getfield 98, 3) := by decide +kernel
theorem dX12_next_52 : decode kX12_next.2.1 52 = .ok (.putfield 101, 3) := by decide +kernel
theorem dX12_next_55 : decode kX12_next.2.1 55 = .ok (.aload_n 0, 1) := by decide +kernel
theorem dX12_next_56 : decode kX12_next.2.1 56 = .ok (.getfield 98, 3) := by decide +kernel
theorem dX12_next_59 : decode kX12_next.2.1 59 = .ok (.aload_n 0, 1) := by decide +kernel
theorem dX12_next_60 : decode kX12_next.2.1 60 = .ok (.getfield 83, 3) := by decide +kernel
theorem dX12_next_63 : decode kX12_next.2.1 63 = .ok (.if_icmp .lt 12, 3) := by decide +kernel
theorem dX12_next_66 : decode kX12_next.2.1 66 = .ok (.aload_n 0, 1) := by decide +kernel
theorem dX12_next_67 : decode kX12_next.2.1 67 = .ok (.bipush 24, 2) := by decide +kernel
theorem dX12_next_69 : decode kX12_next.2.1 69 = .ok (.putfield 108, 3) := by decide +kernel
theorem dX12_next_72 : decode kX12_next.2.1 72 = .ok (.goto 222, 3) := by decide +kernel
theorem dX12_next_75 : decode kX12_next.2.1 75 = .ok (.aload_n 0, 1) := by decide +kernel
theorem dX12_next_76 : decode kX12_next.2.1 76 = .ok (.aload_n 0, 1) := by decide +kernel
theorem dX12_next_77 : decode kX12_next.2.1 77 = .ok (.getfield 98, 3) := by decide +kernel
theorem dX12_next_80 : decode kX12_next.2.1 80 = .ok (.invokevirtual 104, 3) := by decide +kernel
theorem dX12_next_83 : decode kX12_next.2.1 83 = .ok (.invokestatic 111, 3) := by decide +kernel
theorem dX12_next_86 : decode kX12_next.2.1 86 = .ok (.ifCond .eq 41, 3) := by decide +kernel
theorem dX12_next_89 : decode kX12_next.2.1 89 = .ok (.aload_n 0, 1) := by decide +kernel
theorem dX12_next_90 : decode kX12_next.2.1 90 = .ok (.aload_n 0, 1) := by decide +kernel
theorem dX12_next_91 : decode kX12_next.2.1 91 = .ok (.getfield 101, 3) := by decide +kernel
theorem dX12_next_94 : decode kX12_next.2.1 94 = .ok (.invokevirtual 104, 3) := by decide +kernel
theorem dX12_next_97 : decode kX12_next.2.1 97 = .ok (.invokestatic 111, 3) := by decide +kernel
theorem dX12_next_100 : decode kX12_next.2.1 100 = .ok (.ifCond .eq 16, 3) := by decide +kernel
theorem dX12_next_103 : decode kX12_next.2.1 103 = .ok (.aload_n 0, 1) := by decide +kernel
theorem dX12_next_104 : decode kX12_next.2.1 104 = .ok (.dup, 1) := by decide +kernel
theorem dX12_next_105 : decode kX12_next.2.1 105 = .ok (.getfield 101, 3) := by decide +kernel
theorem dX12_next_108 : decode kX12_next.2.1 108 = .ok (.iconst 1, 1) := by decide +kernel
theorem dX12_next_109 : decode kX12_next.2.1 109 = .ok (.iadd, 1) := by decide +kernel
theorem dX12_next_110 : decode kX12_next.2.1 110 = .ok (.putfield 101, 3) := by decide +kernel
theorem dX12_next_113 : decode kX12_next.2.1 113 = .ok (.goto (-24), 3) := by decide +kernel
theorem dX12_next_116 : decode kX12_next.2.1 116 = .ok (.aload_n 0, 1) := by decide +kernel
theorem dX12_next_117 : decode kX12_next.2.1 117 = .ok (.aload_n 0, 1) := by decide +kernel
theorem dX12_next_118 : decode kX12_next.2.1 118 = .ok (.invokevirtual 115, 3) := by decide +kernel
theorem dX12_next_121 : decode kX12_next.2.1 121 = .ok (.putfield 108, 3) := by decide +kernel
theorem dX12_next_124 : decode kX12_next.2.1 124 = .ok (.goto 170, 3) := by decide +kernel
theorem dX12_next_127 : decode kX12_next.2.1 127 = .ok (.aload_n 0, 1) := by decide +kernel
theorem dX12_next_128 : decode kX12_next.2.1 128 = .ok (.aload_n 0, 1) := by decide +kernel
theorem dX12_next_129 : decode kX12_next.2.1 129 = .ok (.getfield 98, 3) := by decide +kernel
theorem dX12_next_132 : decode kX12_next.2.1 132 = .ok (.invokevirtual 104, 3) := by decide +kernel
theorem dX12_next_135 : decode kX12_next.2.1 135 = .ok (.invokestatic 118, 3) := by decide +kernel
theorem dX12_next_138 : decode kX12_next.2.1 138 = .ok (.ifCond .eq 98, 3) := by decide +kernel
theorem dX12_next_141 : decode kX12_next.2.1 141 = .ok (.aload_n 0, 1) := by decide +kernel
theorem dX12_next_142 : decode kX12_next.2.1 142 = .ok (.iconst 0, 1) := by decide +kernel
theorem dX12_next_143 : decode kX12_next.2.1 143 = .ok (.putfield 121, 3) := by decide +kernel
theorem dX12_next_146 : decode kX12_next.2.1 146 = .ok (.aload_n 0, 1) := by decide +kernel
theorem dX12_next_147 : decode kX12_next.2.1 147 = .ok (.aload_n 0, 1) := by decide +kernel
theorem dX12_next_148 : decode kX12_next.2.1 148 = .ok (.getfield 101, 3) := by decide +kernel
theorem dX12_next_151 : decode kX12_next.2.1 151 = .ok (.invokevirtual 104, 3) := by decide +kernel
theorem dX12_next_154 : decode kX12_next.2.1 154 = .ok (.invokestatic 118, 3) := by decide +kernel
theorem dX12_next_157 : decode kX12_next.2.1 157 = .ok (.ifCond .eq 52, 3) := by decide +kernel
theorem dX12_next_160 : decode kX12_next.2.1 160 = .ok (.aload_n 0, 1) := by decide +kernel
theorem dX12_next_161 : decode kX12_next.2.1 161 = .ok (.getfield 101, 3) := by decide +kernel
theorem dX12_next_164 : decode kX12_next.2.1 164 = .ok (.aload_n 0, 1) := by decide +kernel
theorem dX12_next_165 : decode kX12_next.2.1 165 = .ok (.getfield 98, 3) := by decide +kernel
theorem dX12_next_168 : decode kX12_next.2.1 168 = .ok (.isub, 1) := by decide +kernel
theorem dX12_next_169 : decode kX12_next.2.1 169 = .ok (.iconst 3, 1) := by decide +kernel
theorem dX12_next_170 : decode kX12_next.2.1 170 = .ok (.if_icmp .ge 26, 3) := by decide +kernel
theorem dX12_next_173 : decode kX12_next.2.1 173 = .ok (.aload_n 0, 1) := by decide +kernel
theorem dX12_next_174 : decode kX12_next.2.1 174 = .ok (.bipush 10, 2) := by decide +kernel
theorem dX12_next_176 : decode kX12_next.2.1 176 = .ok (.aload_n 0, 1) := by decide +kernel
theorem dX12_next_177 : decode kX12_next.2.1 177 = .ok (.getfield 121, 3) := by decide +kernel
theorem dX12_next_180 : decode kX12_next.2.1 180 = .ok (.imul, 1) := by decide +kernel
theorem dX12_next_181 : decode kX12_next.2.1 181 = .ok (.aload_n 0, 1) := by decide +kernel
theorem dX12_next_182 : decode kX12_next.2.1 182 = .ok (.aload_n 0, 1) := by decide +kernel
theorem dX12_next_183 : decode kX12_next.2.1 183 = .ok (.getfield 101, 3) := by decide +kernel
theorem dX12_next_186 : decode kX12_next.2.1 186 = .ok (.invokevirtual 104, 3) := by decide +kernel
theorem dX12_next_189 : decode kX12_next.2.1 189 = .ok (.iadd, 1) := by decide +kernel
theorem dX12_next_190 : decode kX12_next.2.1 190 = .ok (.bipush 48, 2) := by decide +kernel
theorem dX12_next_192 : decode kX12_next.2.1 192 = .ok (.isub, 1) := by decide +kernel
theorem dX12_next_193 : decode kX12_next.2.1 193 = .ok (.putfield 121, 3) := by decide +kernel
theorem dX12_next_196 : decode kX12_next.2.1 196 = .ok (.aload_n 0, 1) := by decide +kernel
theorem dX12_next_197 : decode kX12_next.2.1 197 = .ok (.dup, 1) := by decide +kernel
theorem dX12_next_198 : decode kX12_next.2.1 198 = .ok (.getfield 101, 3) := by decide +kernel
theorem dX12_next_201 : decode kX12_next.2.1 201 = .ok (.iconst 1, 1) := by decide +kernel
theorem dX12_next_202 : decode kX12_next.2.1 202 = .ok (.iadd, 1) := by decide +kernel
theorem dX12_next_203 : decode kX12_next.2.1 203 = .ok (.putfield 101, 3) := by decide +kernel
theorem dX12_next_206 : decode kX12_next.2.1 206 = .ok (.goto (-60), 3) := by decide +kernel
theorem dX12_next_209 : decode kX12_next.2.1 209 = .ok (.aload_n 0, 1) := by decide +kernel
theorem dX12_next_210 : decode kX12_next.2.1 210 = .ok (.aload_n 0, 1) := by decide +kernel
theorem dX12_next_211 : decode kX12_next.2.1 211 = .ok (.getfield 101, 3) := by decide +kernel
theorem dX12_next_214 : decode kX12_next.2.1 214 = .ok (.aload_n 0, 1) := by decide +kernel
theorem dX12_next_215 : decode kX12_next.2.1 215 = .ok (.getfield 98, 3) := by decide +kernel
theorem dX12_next_218 : decode kX12_next.2.1 218 = .ok (.isub, 1) := by decide +kernel
theorem dX12_next_219 : decode kX12_next.2.1 219 = .ok (.iconst 3, 1) := by decide +kernel
theorem dX12_next_220 : decode kX12_next.2.1 220 = .ok (.if_icmp .le 8, 3) := by decide +kernel
theorem dX12_next_223 : decode kX12_next.2.1 223 = .ok (.bipush 25, 2) := by decide +kernel
theorem dX12_next_225 : decode kX12_next.2.1 225 = .ok (.goto 5, 3) := by decide +kernel
theorem dX12_next_228 : decode kX12_next.2.1 228 = .ok (.bipush 23, 2) := by decide +kernel
theorem dX12_next_230 : decode kX12_next.2.1 230 = .ok (.putfield 108, 3) := by decide +kernel
theorem dX12_next_233 : decode kX12_next.2.1 233 = .ok (.goto 61, 3) := by decide +kernel
theorem dX12_next_236 : decode kX12_next.2.1 236 = .ok (.aload_n 0, 1) := by decide +kernel
theorem dX12_next_237 : decode kX12_next.2.1 237 = .ok (.dup, 1) := by decide +kernel
theorem dX12_next_238 : decode kX12_next.2.1 238 = .ok (.getfield 101, 3) := by decide +kernel
theorem dX12_next_241 : decode kX12_next.2.1 241 = .ok (.iconst 1, 1) := by decide +kernel
theorem dX12_next_242 : decode kX12_next.2.1 242 = .ok (.iadd, 1) := by decide +kernel
theorem dX12_next_243 : decode kX12_next.2.1 243 = .ok (.putfield 101, 3) := by decide +kernel
theorem dX12_next_246 : decode kX12_next.2.1 246 = .ok (.aload_n 0, 1) := by decide +kernel
theorem dX12_next_247 : decode kX12_next.2.1 247 = .ok (.bipush 25, 2) := by decide +kernel
theorem dX12_next_249 : decode kX12_next.2.1 249 = .ok (.putfield 108, 3) := by decide +kernel
theorem dX12_next_252 : decode kX12_next.2.1 252 = .ok (.iconst 0, 1) := by decide +kernel
theorem dX12_next_253 : decode kX12_next.2.1 253 = .ok (.istore_n 1, 1) := by decide +kernel
theorem dX12_next_254 : decode kX12_next.2.1 254 = .ok (.iload_n 1, 1) := by decide +kernel
theorem dX12_next_255 : decode kX12_next.2.1 255 = .ok (.ldc 124, 2) := by decide +kernel
theorem dX12_next_257 : decode kX12_next.2.1 257 = .ok (.invokevirtual 88, 3) := by decide +kernel
theorem dX12_next_260 : decode kX12_next.2.1 260 = .ok (.if_icmp .ge 34, 3) := by decide +kernel
theorem dX12_next_263 : decode kX12_next.2.1 263 = .ok (.aload_n 0, 1) := by decide +kernel
theorem dX12_next_264 : decode kX12_next.2.1 264 = .ok (.aload_n 0, 1) := by decide +kernel
theorem dX12_next_265 : decode kX12_next.2.1 265 = .ok (.getfield 98, 3) := by decide +kernel
theorem dX12_next_268 : decode kX12_next.2.1 268 = .ok (.invokevirtual 104, 3) := by decide +kernel
theorem dX12_next_271 : decode kX12_next.2.1 271 = .ok (.ldc 124, 2) := by decide +kernel
theorem dX12_next_273 : decode kX12_next.2.1 273 = .ok (.iload_n 1, 1) := by decide +kernel
theorem dX12_next_274 : decode kX12_next.2.1 274 = .ok (.invokevirtual 94, 3) := by decide +kernel
theorem dX12_next_277 : decode kX12_next.2.1 277 = .ok (.if_icmp .ne 11, 3) := by decide +kernel
theorem dX12_next_280 : decode kX12_next.2.1 280 = .ok (.aload_n 0, 1) := by decide +kernel
theorem dX12_next_281 : decode kX12_next.2.1 281 = .ok (.bipush 30, 2) := by decide +kernel
theorem dX12_next_283 : decode kX12_next.2.1 283 = .ok (.iload_n 1, 1) := by decide +kernel
theorem dX12_next_284 : decode kX12_next.2.1 284 = .ok (.iadd, 1) := by decide +kernel
theorem dX12_next_285 : decode kX12_next.2.1 285 = .ok (.putfield 108, 3) := by decide +kernel
theorem dX12_next_288 : decode kX12_next.2.1 288 = .ok (.iinc 1 1, 3) := by decide +kernel
theorem dX12_next_291 : decode kX12_next.2.1 291 = .ok (.goto (-37), 3) := by decide +kernel
theorem dX12_next_294 : decode kX12_next.2.1 294 = .ok (.return_, 1) := by decide +kernel
theorem dX12_fails_0 : decode kX12_fails.2.1 0 = .ok (.aload_n 0, 1) := by decide +kernel
theorem dX12_fails_1 : decode kX12_fails.2.1 1 = .ok (.getfield 126, 3) := by decide +kernel
theorem dX12_fails_4 : decode kX12_fails.2.1 4 = .ok (.ifCond .eq 4, 3) := by decide +kernel
theorem dX12_fails_7 : decode kX12_fails.2.1 7 = .ok (.return_, 1) := by decide +kernel
theorem dX12_fails_8 : decode kX12_fails.2.1 8 = .ok (.aload_n 0, 1) := by decide +kernel
theorem dX12_fails_9 : decode kX12_fails.2.1 9 = .ok (.aload_n 0, 1) := by decide +kernel
theorem dX12_fails_10 : decode kX12_fails.2.1 10 = .ok (.getfield 108, 3) := by decide +kernel
theorem dX12_fails_13 : decode kX12_fails.2.1 13 = .ok (.bipush 25, 2) := by decide +kernel
theorem dX12_fails_15 : decode kX12_fails.2.1 15 = .ok (.if_icmp .ne 7, 3) := by decide +kernel
theorem dX12_fails_18 : decode kX12_fails.2.1 18 = .ok (.iconst 1, 1) := by decide +kernel
theorem dX12_fails_19 : decode kX12_fails.2.1 19 = .ok (.goto 4, 3) := by decide +kernel
theorem dX12_fails_22 : decode kX12_fails.2.1 22 = .ok (.iload_n 1, 1) := by decide +kernel
theorem dX12_fails_23 : decode kX12_fails.2.1 23 = .ok (.putfield 126, 3) := by decide +kernel
theorem dX12_fails_26 : decode kX12_fails.2.1 26 = .ok (.aload_n 0, 1) := by decide +kernel
theorem dX12_fails_27 : decode kX12_fails.2.1 27 = .ok (.aload_n 0, 1) := by decide +kernel
theorem dX12_fails_28 : decode kX12_fails.2.1 28 = .ok (.getfield 98, 3) := by decide +kernel
theorem dX12_fails_31 : decode kX12_fails.2.1 31 = .ok (.putfield 129, 3) := by decide +kernel
theorem dX12_fails_34 : decode kX12_fails.2.1 34 = .ok (.return_, 1) := by decide +kernel
theorem dX12_is_0 : decode kX12_is.2.1 0 = .ok (.aload_n 0, 1) := by decide +kernel
theorem dX12_is_1 : decode kX12_is.2.1 1 = .ok (.getfield 126, 3) := by decide +kernel
theorem dX12_is_4 : decode kX12_is.2.1 4 = .ok (.ifCond .ne 15, 3) := by decide +kernel
theorem dX12_is_7 : decode kX12_is.2.1 7 = .ok (.aload_n 0, 1) := by decide +kernel
theorem dX12_is_8 : decode kX12_is.2.1 8 = .ok (.getfield 108, 3) := by decide +kernel
theorem dX12_is_11 : decode kX12_is.2.1 11 = .ok (.iload_n 1, 1) := by decide +kernel
theorem dX12_is_12 : decode kX12_is.2.1 12 = .ok (.if_icmp .ne 7, 3) := by decide +kernel
theorem dX12_is_15 : decode kX12_is.2.1 15 = .ok (.iconst 1, 1) := by decide +kernel
theorem dX12_is_16 : decode kX12_is.2.1 16 = .ok (.goto 4, 3) := by decide +kernel
theorem dX12_is_19 : decode kX12_is.2.1 19 = .ok (.iconst 0, 1) := by decide +kernel
theorem dX12_is_20 : decode kX12_is.2.1 20 = .ok (.ireturn, 1) := by decide +kernel
theorem dX12_eats_0 : decode kX12_eats.2.1 0 = .ok (.aload_n 0, 1) := by decide +kernel
theorem dX12_eats_1 : decode kX12_eats.2.1 1 = .ok (.iload_n 1, 1) := by decide +kernel
theorem dX12_eats_2 : decode kX12_eats.2.1 2 = .ok (.invokevirtual 132, 3) := by decide +kernel
theorem dX12_eats_5 : decode kX12_eats.2.1 5 = .ok (.ifCond .ne 5, 3) := by decide +kernel
theorem dX12_eats_8 : decode kX12_eats.2.1 8 = .ok (.iconst 0, 1) := by decide +kernel
theorem dX12_eats_9 : decode kX12_eats.2.1 9 = .ok (.ireturn, 1) := by decide +kernel
theorem dX12_eats_10 : decode kX12_eats.2.1 10 = .ok (.aload_n 0, 1) := by decide +kernel
theorem dX12_eats_11 : decode kX12_eats.2.1 11 = .ok (.invokevirtual 135, 3) := by decide +kernel
theorem dX12_eats_14 : decode kX12_eats.2.1 14 = .ok (.iconst 1, 1) := by decide +kernel
theorem dX12_eats_15 : decode kX12_eats.2.1 15 = .ok (.ireturn, 1) := by decide +kernel
theorem dX12_takes_0 : decode kX12_takes.2.1 0 = .ok (.aload_n 0, 1) := by decide +kernel
theorem dX12_takes_1 : decode kX12_takes.2.1 1 = .ok (.bipush 23, 2) := by decide +kernel
theorem dX12_takes_3 : decode kX12_takes.2.1 3 = .ok (.invokevirtual 132, 3) := by decide +kernel
theorem dX12_takes_6 : decode kX12_takes.2.1 6 = .ok (.ifCond .ne 11, 3) := by decide +kernel
theorem dX12_takes_9 : decode kX12_takes.2.1 9 = .ok (.aload_n 0, 1) := by decide +kernel
theorem dX12_takes_10 : decode kX12_takes.2.1 10 = .ok (.iconst 2, 1) := by decide +kernel
theorem dX12_takes_11 : decode kX12_takes.2.1 11 = .ok (.invokevirtual 138, 3) := by decide +kernel
theorem dX12_takes_14 : decode kX12_takes.2.1 14 = .ok (.goto 23, 3) := by decide +kernel
theorem dX12_takes_17 : decode kX12_takes.2.1 17 = .ok (.aload_n 0, 1) := by decide +kernel
theorem dX12_takes_18 : decode kX12_takes.2.1 18 = .ok (.getfield 121, 3) := by decide +kernel
theorem dX12_takes_21 : decode kX12_takes.2.1 21 = .ok (.i2l, 1) := by decide +kernel
theorem dX12_takes_22 : decode kX12_takes.2.1 22 = .ok (.iload_n 1, 1) := by decide +kernel
theorem dX12_takes_23 : decode kX12_takes.2.1 23 = .ok (.i2l, 1) := by decide +kernel
theorem dX12_takes_24 : decode kX12_takes.2.1 24 = .ok (.iload_n 2, 1) := by decide +kernel
theorem dX12_takes_25 : decode kX12_takes.2.1 25 = .ok (.i2l, 1) := by decide +kernel
theorem dX12_takes_26 : decode kX12_takes.2.1 26 = .ok (.invokestatic 142, 3) := by decide +kernel
theorem dX12_takes_29 : decode kX12_takes.2.1 29 = .ok (.ifCond .ne 8, 3) := by decide +kernel
theorem dX12_takes_32 : decode kX12_takes.2.1 32 = .ok (.aload_n 0, 1) := by decide +kernel
theorem dX12_takes_33 : decode kX12_takes.2.1 33 = .ok (.iconst 3, 1) := by decide +kernel
theorem dX12_takes_34 : decode kX12_takes.2.1 34 = .ok (.invokevirtual 138, 3) := by decide +kernel
theorem dX12_takes_37 : decode kX12_takes.2.1 37 = .ok (.aload_n 0, 1) := by decide +kernel
theorem dX12_takes_38 : decode kX12_takes.2.1 38 = .ok (.getfield 121, 3) := by decide +kernel
theorem dX12_takes_41 : decode kX12_takes.2.1 41 = .ok (.istore_n 3, 1) := by decide +kernel
theorem dX12_takes_42 : decode kX12_takes.2.1 42 = .ok (.aload_n 0, 1) := by decide +kernel
theorem dX12_takes_43 : decode kX12_takes.2.1 43 = .ok (.getfield 126, 3) := by decide +kernel
theorem dX12_takes_46 : decode kX12_takes.2.1 46 = .ok (.ifCond .ne 7, 3) := by decide +kernel
theorem dX12_takes_49 : decode kX12_takes.2.1 49 = .ok (.aload_n 0, 1) := by decide +kernel
theorem dX12_takes_50 : decode kX12_takes.2.1 50 = .ok (.invokevirtual 135, 3) := by decide +kernel
theorem dX12_takes_53 : decode kX12_takes.2.1 53 = .ok (.iload_n 3, 1) := by decide +kernel
theorem dX12_takes_54 : decode kX12_takes.2.1 54 = .ok (.ireturn, 1) := by decide +kernel
theorem dX12_isIn_0 : decode kX12_isIn.2.1 0 = .ok (.lload_n 0, 1) := by decide +kernel
theorem dX12_isIn_1 : decode kX12_isIn.2.1 1 = .ok (.iload_n 2, 1) := by decide +kernel
theorem dX12_isIn_2 : decode kX12_isIn.2.1 2 = .ok (.lshr, 1) := by decide +kernel
theorem dX12_isIn_3 : decode kX12_isIn.2.1 3 = .ok (.lconst 1, 1) := by decide +kernel
theorem dX12_isIn_4 : decode kX12_isIn.2.1 4 = .ok (.land, 1) := by decide +kernel
theorem dX12_isIn_5 : decode kX12_isIn.2.1 5 = .ok (.lconst 1, 1) := by decide +kernel
theorem dX12_isIn_6 : decode kX12_isIn.2.1 6 = .ok (.lcmp, 1) := by decide +kernel
theorem dX12_isIn_7 : decode kX12_isIn.2.1 7 = .ok (.ifCond .ne 7, 3) := by decide +kernel
theorem dX12_isIn_10 : decode kX12_isIn.2.1 10 = .ok (.iconst 1, 1) := by decide +kernel
theorem dX12_isIn_11 : decode kX12_isIn.2.1 11 = .ok (.goto 4, 3) := by decide +kernel
theorem dX12_isIn_14 : decode kX12_isIn.2.1 14 = .ok (.iconst 0, 1) := by decide +kernel
theorem dX12_isIn_15 : decode kX12_isIn.2.1 15 = .ok (.ireturn, 1) := by decide +kernel
theorem dX12_wordOf_0 : decode kX12_wordOf.2.1 0 = .ok (.aload_n 0, 1) := by decide +kernel
theorem dX12_wordOf_1 : decode kX12_wordOf.2.1 1 = .ok (.getfield 146, 3) := by decide +kernel
theorem dX12_wordOf_4 : decode kX12_wordOf.2.1 4 = .ok (.ifCond .ne 7, 3) := by decide +kernel
theorem dX12_wordOf_7 : decode kX12_wordOf.2.1 7 = .ok (.iconst 1, 1) := by decide +kernel
theorem dX12_wordOf_8 : decode kX12_wordOf.2.1 8 = .ok (.goto 4, 3) := by decide +kernel
theorem dX12_wordOf_11 : decode kX12_wordOf.2.1 11 = .ok (.iconst 0, 1) := by decide +kernel
theorem dX12_wordOf_12 : decode kX12_wordOf.2.1 12 = .ok (.istore_n 2, 1) := by decide +kernel
theorem dX12_wordOf_13 : decode kX12_wordOf.2.1 13 = .ok (.iload_n 1, 1) := by decide +kernel
theorem dX12_wordOf_14 : decode kX12_wordOf.2.1 14 = .ok (.tableswitch 129 6 18 #[78, 66, 129, 129, 129, 129, 129, 129, 68, 88, 98, 108, 118], 66) := by decide +kernel
theorem dX12_wordOf_80 : decode kX12_wordOf.2.1 80 = .ok (.iconst 0, 1) := by decide +kernel
theorem dX12_wordOf_81 : decode kX12_wordOf.2.1 81 = .ok (.ireturn, 1) := by decide +kernel
theorem dX12_wordOf_82 : decode kX12_wordOf.2.1 82 = .ok (.iload_n 2, 1) := by decide +kernel
theorem dX12_wordOf_83 : decode kX12_wordOf.2.1 83 = .ok (.ifCond .eq 7, 3) := by decide +kernel
theorem dX12_wordOf_86 : decode kX12_wordOf.2.1 86 = .ok (.iconst 1, 1) := by decide +kernel
theorem dX12_wordOf_87 : decode kX12_wordOf.2.1 87 = .ok (.goto 4, 3) := by decide +kernel
theorem dX12_wordOf_90 : decode kX12_wordOf.2.1 90 = .ok (.iconst (-1), 1) := by decide +kernel
theorem dX12_wordOf_91 : decode kX12_wordOf.2.1 91 = .ok (.ireturn, 1) := by decide +kernel
theorem dX12_wordOf_92 : decode kX12_wordOf.2.1 92 = .ok (.iload_n 2, 1) := by decide +kernel
theorem dX12_wordOf_93 : decode kX12_wordOf.2.1 93 = .ok (.ifCond .eq 7, 3) := by decide +kernel
theorem dX12_wordOf_96 : decode kX12_wordOf.2.1 96 = .ok (.iconst 2, 1) := by decide +kernel
theorem dX12_wordOf_97 : decode kX12_wordOf.2.1 97 = .ok (.goto 4, 3) := by decide +kernel
theorem dX12_wordOf_100 : decode kX12_wordOf.2.1 100 = .ok (.iconst (-1), 1) := by decide +kernel
theorem dX12_wordOf_101 : decode kX12_wordOf.2.1 101 = .ok (.ireturn, 1) := by decide +kernel
theorem dX12_wordOf_102 : decode kX12_wordOf.2.1 102 = .ok (.iload_n 2, 1) := by decide +kernel
theorem dX12_wordOf_103 : decode kX12_wordOf.2.1 103 = .ok (.ifCond .eq 7, 3) := by decide +kernel
theorem dX12_wordOf_106 : decode kX12_wordOf.2.1 106 = .ok (.iconst 3, 1) := by decide +kernel
theorem dX12_wordOf_107 : decode kX12_wordOf.2.1 107 = .ok (.goto 4, 3) := by decide +kernel
theorem dX12_wordOf_110 : decode kX12_wordOf.2.1 110 = .ok (.iconst (-1), 1) := by decide +kernel
theorem dX12_wordOf_111 : decode kX12_wordOf.2.1 111 = .ok (.ireturn, 1) := by decide +kernel
theorem dX12_wordOf_112 : decode kX12_wordOf.2.1 112 = .ok (.iload_n 2, 1) := by decide +kernel
theorem dX12_wordOf_113 : decode kX12_wordOf.2.1 113 = .ok (.ifCond .eq 7, 3) := by decide +kernel
theorem dX12_wordOf_116 : decode kX12_wordOf.2.1 116 = .ok (.iconst 4, 1) := by decide +kernel
theorem dX12_wordOf_117 : decode kX12_wordOf.2.1 117 = .ok (.goto 4, 3) := by decide +kernel
theorem dX12_wordOf_120 : decode kX12_wordOf.2.1 120 = .ok (.iconst (-1), 1) := by decide +kernel
theorem dX12_wordOf_121 : decode kX12_wordOf.2.1 121 = .ok (.ireturn, 1) := by decide +kernel
theorem dX12_wordOf_122 : decode kX12_wordOf.2.1 122 = .ok (.iload_n 2, 1) := by decide +kernel
theorem dX12_wordOf_123 : decode kX12_wordOf.2.1 123 = .ok (.ifCond .eq 7, 3) := by decide +kernel
theorem dX12_wordOf_126 : decode kX12_wordOf.2.1 126 = .ok (.iconst (-1), 1) := by decide +kernel
theorem dX12_wordOf_127 : decode kX12_wordOf.2.1 127 = .ok (.goto 4, 3) := by decide +kernel
theorem dX12_wordOf_130 : decode kX12_wordOf.2.1 130 = .ok (.iconst 5, 1) := by decide +kernel
theorem dX12_wordOf_131 : decode kX12_wordOf.2.1 131 = .ok (.ireturn, 1) := by decide +kernel
theorem dX12_wordOf_132 : decode kX12_wordOf.2.1 132 = .ok (.iload_n 2, 1) := by decide +kernel
theorem dX12_wordOf_133 : decode kX12_wordOf.2.1 133 = .ok (.ifCond .eq 7, 3) := by decide +kernel
theorem dX12_wordOf_136 : decode kX12_wordOf.2.1 136 = .ok (.iconst (-1), 1) := by decide +kernel
theorem dX12_wordOf_137 : decode kX12_wordOf.2.1 137 = .ok (.goto 5, 3) := by decide +kernel
theorem dX12_wordOf_140 : decode kX12_wordOf.2.1 140 = .ok (.bipush 6, 2) := by decide +kernel
theorem dX12_wordOf_142 : decode kX12_wordOf.2.1 142 = .ok (.ireturn, 1) := by decide +kernel
theorem dX12_wordOf_143 : decode kX12_wordOf.2.1 143 = .ok (.iconst (-1), 1) := by decide +kernel
theorem dX12_wordOf_144 : decode kX12_wordOf.2.1 144 = .ok (.ireturn, 1) := by decide +kernel
theorem dX12_codes_0 : decode kX12_codes.2.1 0 = .ok (.aload_n 0, 1) := by decide +kernel
theorem dX12_codes_1 : decode kX12_codes.2.1 1 = .ok (.getfield 126, 3) := by decide +kernel
theorem dX12_codes_4 : decode kX12_codes.2.1 4 = .ok (.ifCond .eq 4, 3) := by decide +kernel
theorem dX12_codes_7 : decode kX12_codes.2.1 7 = .ok (.return_, 1) := by decide +kernel
theorem dX12_codes_8 : decode kX12_codes.2.1 8 = .ok (.aload_n 0, 1) := by decide +kernel
theorem dX12_codes_9 : decode kX12_codes.2.1 9 = .ok (.getfield 24, 3) := by decide +kernel
theorem dX12_codes_12 : decode kX12_codes.2.1 12 = .ok (.sipush 140, 3) := by decide +kernel
theorem dX12_codes_15 : decode kX12_codes.2.1 15 = .ok (.aload_n 0, 1) := by decide +kernel
theorem dX12_codes_16 : decode kX12_codes.2.1 16 = .ok (.getfield 24, 3) := by decide +kernel
theorem dX12_codes_19 : decode kX12_codes.2.1 19 = .ok (.sipush 139, 3) := by decide +kernel
theorem dX12_codes_22 : decode kX12_codes.2.1 22 = .ok (.iaload, 1) := by decide +kernel
theorem dX12_codes_23 : decode kX12_codes.2.1 23 = .ok (.iadd, 1) := by decide +kernel
theorem dX12_codes_24 : decode kX12_codes.2.1 24 = .ok (.iload_n 1, 1) := by decide +kernel
theorem dX12_codes_25 : decode kX12_codes.2.1 25 = .ok (.iastore, 1) := by decide +kernel
theorem dX12_codes_26 : decode kX12_codes.2.1 26 = .ok (.aload_n 0, 1) := by decide +kernel
theorem dX12_codes_27 : decode kX12_codes.2.1 27 = .ok (.getfield 24, 3) := by decide +kernel
theorem dX12_codes_30 : decode kX12_codes.2.1 30 = .ok (.sipush 139, 3) := by decide +kernel
theorem dX12_codes_33 : decode kX12_codes.2.1 33 = .ok (.dup2, 1) := by decide +kernel
theorem dX12_codes_34 : decode kX12_codes.2.1 34 = .ok (.iaload, 1) := by decide +kernel
theorem dX12_codes_35 : decode kX12_codes.2.1 35 = .ok (.iconst 1, 1) := by decide +kernel
theorem dX12_codes_36 : decode kX12_codes.2.1 36 = .ok (.iadd, 1) := by decide +kernel
theorem dX12_codes_37 : decode kX12_codes.2.1 37 = .ok (.iastore, 1) := by decide +kernel
theorem dX12_codes_38 : decode kX12_codes.2.1 38 = .ok (.return_, 1) := by decide +kernel
theorem dX12_goesIn_0 : decode kX12_goesIn.2.1 0 = .ok (.iload_n 1, 1) := by decide +kernel
theorem dX12_goesIn_1 : decode kX12_goesIn.2.1 1 = .ok (.bipush 6, 2) := by decide +kernel
theorem dX12_goesIn_3 : decode kX12_goesIn.2.1 3 = .ok (.if_icmp .ne 8, 3) := by decide +kernel
theorem dX12_goesIn_6 : decode kX12_goesIn.2.1 6 = .ok (.aload_n 0, 1) := by decide +kernel
theorem dX12_goesIn_7 : decode kX12_goesIn.2.1 7 = .ok (.iconst 4, 1) := by decide +kernel
theorem dX12_goesIn_8 : decode kX12_goesIn.2.1 8 = .ok (.invokevirtual 138, 3) := by decide +kernel
theorem dX12_goesIn_11 : decode kX12_goesIn.2.1 11 = .ok (.aload_n 0, 1) := by decide +kernel
theorem dX12_goesIn_12 : decode kX12_goesIn.2.1 12 = .ok (.getfield 126, 3) := by decide +kernel
theorem dX12_goesIn_15 : decode kX12_goesIn.2.1 15 = .ok (.ifCond .ne 7, 3) := by decide +kernel
theorem dX12_goesIn_18 : decode kX12_goesIn.2.1 18 = .ok (.aload_n 0, 1) := by decide +kernel
theorem dX12_goesIn_19 : decode kX12_goesIn.2.1 19 = .ok (.invokevirtual 135, 3) := by decide +kernel
theorem dX12_goesIn_22 : decode kX12_goesIn.2.1 22 = .ok (.aload_n 0, 1) := by decide +kernel
theorem dX12_goesIn_23 : decode kX12_goesIn.2.1 23 = .ok (.getfield 126, 3) := by decide +kernel
theorem dX12_goesIn_26 : decode kX12_goesIn.2.1 26 = .ok (.ifCond .ne 7, 3) := by decide +kernel
theorem dX12_goesIn_29 : decode kX12_goesIn.2.1 29 = .ok (.iconst 1, 1) := by decide +kernel
theorem dX12_goesIn_30 : decode kX12_goesIn.2.1 30 = .ok (.goto 4, 3) := by decide +kernel
theorem dX12_goesIn_33 : decode kX12_goesIn.2.1 33 = .ok (.iconst 0, 1) := by decide +kernel
theorem dX12_goesIn_34 : decode kX12_goesIn.2.1 34 = .ok (.ireturn, 1) := by decide +kernel
theorem dX12_readAtom_0 : decode kX12_readAtom.2.1 0 = .ok (.aload_n 0, 1) := by decide +kernel
theorem dX12_readAtom_1 : decode kX12_readAtom.2.1 1 = .ok (.bipush 23, 2) := by decide +kernel
theorem dX12_readAtom_3 : decode kX12_readAtom.2.1 3 = .ok (.invokevirtual 132, 3) := by decide +kernel
theorem dX12_readAtom_6 : decode kX12_readAtom.2.1 6 = .ok (.ifCond .eq 18, 3) := by decide +kernel
theorem dX12_readAtom_9 : decode kX12_readAtom.2.1 9 = .ok (.aload_n 0, 1) := by decide +kernel
theorem dX12_readAtom_10 : decode kX12_readAtom.2.1 10 = .ok (.aload_n 0, 1) := by decide +kernel
theorem dX12_readAtom_11 : decode kX12_readAtom.2.1 11 = .ok (.getfield 121, 3) := by decide +kernel
theorem dX12_readAtom_14 : decode kX12_readAtom.2.1 14 = .ok (.invokevirtual 149, 3) := by decide +kernel
theorem dX12_readAtom_17 : decode kX12_readAtom.2.1 17 = .ok (.aload_n 0, 1) := by decide +kernel
theorem dX12_readAtom_18 : decode kX12_readAtom.2.1 18 = .ok (.invokevirtual 135, 3) := by decide +kernel
theorem dX12_readAtom_21 : decode kX12_readAtom.2.1 21 = .ok (.goto 109, 3) := by decide +kernel
theorem dX12_readAtom_24 : decode kX12_readAtom.2.1 24 = .ok (.aload_n 0, 1) := by decide +kernel
theorem dX12_readAtom_25 : decode kX12_readAtom.2.1 25 = .ok (.getfield 126, 3) := by decide +kernel
theorem dX12_readAtom_28 : decode kX12_readAtom.2.1 28 = .ok (.ifCond .ne 38, 3) := by decide +kernel
theorem dX12_readAtom_31 : decode kX12_readAtom.2.1 31 = .ok (.aload_n 0, 1) := by decide +kernel
theorem dX12_readAtom_32 : decode kX12_readAtom.2.1 32 = .ok (.aload_n 0, 1) := by decide +kernel
theorem dX12_readAtom_33 : decode kX12_readAtom.2.1 33 = .ok (.getfield 108, 3) := by decide +kernel
theorem dX12_readAtom_36 : decode kX12_readAtom.2.1 36 = .ok (.invokevirtual 152, 3) := by decide +kernel
theorem dX12_readAtom_39 : decode kX12_readAtom.2.1 39 = .ok (.iconst (-1), 1) := by decide +kernel
theorem dX12_readAtom_40 : decode kX12_readAtom.2.1 40 = .ok (.if_icmp .eq 26, 3) := by decide +kernel
theorem dX12_readAtom_43 : decode kX12_readAtom.2.1 43 = .ok (.aload_n 0, 1) := by decide +kernel
theorem dX12_readAtom_44 : decode kX12_readAtom.2.1 44 = .ok (.sipush 1000, 3) := by decide +kernel
theorem dX12_readAtom_47 : decode kX12_readAtom.2.1 47 = .ok (.aload_n 0, 1) := by decide +kernel
theorem dX12_readAtom_48 : decode kX12_readAtom.2.1 48 = .ok (.aload_n 0, 1) := by decide +kernel
theorem dX12_readAtom_49 : decode kX12_readAtom.2.1 49 = .ok (.getfield 108, 3) := by decide +kernel
theorem dX12_readAtom_52 : decode kX12_readAtom.2.1 52 = .ok (.invokevirtual 152, 3) := by decide +kernel
theorem dX12_readAtom_55 : decode kX12_readAtom.2.1 55 = .ok (.iadd, 1) := by decide +kernel
theorem dX12_readAtom_56 : decode kX12_readAtom.2.1 56 = .ok (.invokevirtual 149, 3) := by decide +kernel
theorem dX12_readAtom_59 : decode kX12_readAtom.2.1 59 = .ok (.aload_n 0, 1) := by decide +kernel
theorem dX12_readAtom_60 : decode kX12_readAtom.2.1 60 = .ok (.invokevirtual 135, 3) := by decide +kernel
theorem dX12_readAtom_63 : decode kX12_readAtom.2.1 63 = .ok (.goto 67, 3) := by decide +kernel
theorem dX12_readAtom_66 : decode kX12_readAtom.2.1 66 = .ok (.aload_n 0, 1) := by decide +kernel
theorem dX12_readAtom_67 : decode kX12_readAtom.2.1 67 = .ok (.bipush 35, 2) := by decide +kernel
theorem dX12_readAtom_69 : decode kX12_readAtom.2.1 69 = .ok (.invokevirtual 132, 3) := by decide +kernel
theorem dX12_readAtom_72 : decode kX12_readAtom.2.1 72 = .ok (.ifCond .eq 36, 3) := by decide +kernel
theorem dX12_readAtom_75 : decode kX12_readAtom.2.1 75 = .ok (.aload_n 0, 1) := by decide +kernel
theorem dX12_readAtom_76 : decode kX12_readAtom.2.1 76 = .ok (.iload_n 1, 1) := by decide +kernel
theorem dX12_readAtom_77 : decode kX12_readAtom.2.1 77 = .ok (.invokevirtual 155, 3) := by decide +kernel
theorem dX12_readAtom_80 : decode kX12_readAtom.2.1 80 = .ok (.ifCond .ne 4, 3) := by decide +kernel
theorem dX12_readAtom_83 : decode kX12_readAtom.2.1 83 = .ok (.return_, 1) := by decide +kernel
theorem dX12_readAtom_84 : decode kX12_readAtom.2.1 84 = .ok (.aload_n 0, 1) := by decide +kernel
theorem dX12_readAtom_85 : decode kX12_readAtom.2.1 85 = .ok (.iload_n 1, 1) := by decide +kernel
theorem dX12_readAtom_86 : decode kX12_readAtom.2.1 86 = .ok (.iconst 1, 1) := by decide +kernel
theorem dX12_readAtom_87 : decode kX12_readAtom.2.1 87 = .ok (.iadd, 1) := by decide +kernel
theorem dX12_readAtom_88 : decode kX12_readAtom.2.1 88 = .ok (.invokevirtual 158, 3) := by decide +kernel
theorem dX12_readAtom_91 : decode kX12_readAtom.2.1 91 = .ok (.aload_n 0, 1) := by decide +kernel
theorem dX12_readAtom_92 : decode kX12_readAtom.2.1 92 = .ok (.bipush 36, 2) := by decide +kernel
theorem dX12_readAtom_94 : decode kX12_readAtom.2.1 94 = .ok (.invokevirtual 161, 3) := by decide +kernel
theorem dX12_readAtom_97 : decode kX12_readAtom.2.1 97 = .ok (.ifCond .ne 33, 3) := by decide +kernel
theorem dX12_readAtom_100 : decode kX12_readAtom.2.1 100 = .ok (.aload_n 0, 1) := by decide +kernel
theorem dX12_readAtom_101 : decode kX12_readAtom.2.1 101 = .ok (.iconst 2, 1) := by decide +kernel
theorem dX12_readAtom_102 : decode kX12_readAtom.2.1 102 = .ok (.invokevirtual 138, 3) := by decide +kernel
theorem dX12_readAtom_105 : decode kX12_readAtom.2.1 105 = .ok (.goto 25, 3) := by decide +kernel
theorem dX12_readAtom_108 : decode kX12_readAtom.2.1 108 = .ok (.aload_n 0, 1) := by decide +kernel
theorem dX12_readAtom_109 : decode kX12_readAtom.2.1 109 = .ok (.bipush 10, 2) := by decide +kernel
theorem dX12_readAtom_111 : decode kX12_readAtom.2.1 111 = .ok (.invokevirtual 132, 3) := by decide +kernel
theorem dX12_readAtom_114 : decode kX12_readAtom.2.1 114 = .ok (.ifCond .eq 11, 3) := by decide +kernel
theorem dX12_readAtom_117 : decode kX12_readAtom.2.1 117 = .ok (.aload_n 0, 1) := by decide +kernel
theorem dX12_readAtom_118 : decode kX12_readAtom.2.1 118 = .ok (.iload_n 1, 1) := by decide +kernel
theorem dX12_readAtom_119 : decode kX12_readAtom.2.1 119 = .ok (.invokevirtual 164, 3) := by decide +kernel
theorem dX12_readAtom_122 : decode kX12_readAtom.2.1 122 = .ok (.goto 8, 3) := by decide +kernel
theorem dX12_readAtom_125 : decode kX12_readAtom.2.1 125 = .ok (.aload_n 0, 1) := by decide +kernel
theorem dX12_readAtom_126 : decode kX12_readAtom.2.1 126 = .ok (.iconst 2, 1) := by decide +kernel
theorem dX12_readAtom_127 : decode kX12_readAtom.2.1 127 = .ok (.invokevirtual 138, 3) := by decide +kernel
theorem dX12_readAtom_130 : decode kX12_readAtom.2.1 130 = .ok (.return_, 1) := by decide +kernel
theorem dX12_readIf_0 : decode kX12_readIf.2.1 0 = .ok (.aload_n 0, 1) := by decide +kernel
theorem dX12_readIf_1 : decode kX12_readIf.2.1 1 = .ok (.iload_n 1, 1) := by decide +kernel
theorem dX12_readIf_2 : decode kX12_readIf.2.1 2 = .ok (.invokevirtual 155, 3) := by decide +kernel
theorem dX12_readIf_5 : decode kX12_readIf.2.1 5 = .ok (.ifCond .ne 4, 3) := by decide +kernel
theorem dX12_readIf_8 : decode kX12_readIf.2.1 8 = .ok (.return_, 1) := by decide +kernel
theorem dX12_readIf_9 : decode kX12_readIf.2.1 9 = .ok (.aload_n 0, 1) := by decide +kernel
theorem dX12_readIf_10 : decode kX12_readIf.2.1 10 = .ok (.iload_n 1, 1) := by decide +kernel
theorem dX12_readIf_11 : decode kX12_readIf.2.1 11 = .ok (.iconst 1, 1) := by decide +kernel
theorem dX12_readIf_12 : decode kX12_readIf.2.1 12 = .ok (.iadd, 1) := by decide +kernel
theorem dX12_readIf_13 : decode kX12_readIf.2.1 13 = .ok (.invokevirtual 167, 3) := by decide +kernel
theorem dX12_readIf_16 : decode kX12_readIf.2.1 16 = .ok (.aload_n 0, 1) := by decide +kernel
theorem dX12_readIf_17 : decode kX12_readIf.2.1 17 = .ok (.bipush 11, 2) := by decide +kernel
theorem dX12_readIf_19 : decode kX12_readIf.2.1 19 = .ok (.invokevirtual 161, 3) := by decide +kernel
theorem dX12_readIf_22 : decode kX12_readIf.2.1 22 = .ok (.ifCond .ne 8, 3) := by decide +kernel
theorem dX12_readIf_25 : decode kX12_readIf.2.1 25 = .ok (.aload_n 0, 1) := by decide +kernel
theorem dX12_readIf_26 : decode kX12_readIf.2.1 26 = .ok (.iconst 2, 1) := by decide +kernel
theorem dX12_readIf_27 : decode kX12_readIf.2.1 27 = .ok (.invokevirtual 138, 3) := by decide +kernel
theorem dX12_readIf_30 : decode kX12_readIf.2.1 30 = .ok (.aload_n 0, 1) := by decide +kernel
theorem dX12_readIf_31 : decode kX12_readIf.2.1 31 = .ok (.iload_n 1, 1) := by decide +kernel
theorem dX12_readIf_32 : decode kX12_readIf.2.1 32 = .ok (.iconst 1, 1) := by decide +kernel
theorem dX12_readIf_33 : decode kX12_readIf.2.1 33 = .ok (.iadd, 1) := by decide +kernel
theorem dX12_readIf_34 : decode kX12_readIf.2.1 34 = .ok (.invokevirtual 158, 3) := by decide +kernel
theorem dX12_readIf_37 : decode kX12_readIf.2.1 37 = .ok (.aload_n 0, 1) := by decide +kernel
theorem dX12_readIf_38 : decode kX12_readIf.2.1 38 = .ok (.bipush 12, 2) := by decide +kernel
theorem dX12_readIf_40 : decode kX12_readIf.2.1 40 = .ok (.invokevirtual 161, 3) := by decide +kernel
theorem dX12_readIf_43 : decode kX12_readIf.2.1 43 = .ok (.ifCond .ne 8, 3) := by decide +kernel
theorem dX12_readIf_46 : decode kX12_readIf.2.1 46 = .ok (.aload_n 0, 1) := by decide +kernel
theorem dX12_readIf_47 : decode kX12_readIf.2.1 47 = .ok (.iconst 2, 1) := by decide +kernel
theorem dX12_readIf_48 : decode kX12_readIf.2.1 48 = .ok (.invokevirtual 138, 3) := by decide +kernel
theorem dX12_readIf_51 : decode kX12_readIf.2.1 51 = .ok (.aload_n 0, 1) := by decide +kernel
theorem dX12_readIf_52 : decode kX12_readIf.2.1 52 = .ok (.iload_n 1, 1) := by decide +kernel
theorem dX12_readIf_53 : decode kX12_readIf.2.1 53 = .ok (.iconst 1, 1) := by decide +kernel
theorem dX12_readIf_54 : decode kX12_readIf.2.1 54 = .ok (.iadd, 1) := by decide +kernel
theorem dX12_readIf_55 : decode kX12_readIf.2.1 55 = .ok (.invokevirtual 158, 3) := by decide +kernel
theorem dX12_readIf_58 : decode kX12_readIf.2.1 58 = .ok (.aload_n 0, 1) := by decide +kernel
theorem dX12_readIf_59 : decode kX12_readIf.2.1 59 = .ok (.bipush 13, 2) := by decide +kernel
theorem dX12_readIf_61 : decode kX12_readIf.2.1 61 = .ok (.invokevirtual 161, 3) := by decide +kernel
theorem dX12_readIf_64 : decode kX12_readIf.2.1 64 = .ok (.ifCond .ne 8, 3) := by decide +kernel
theorem dX12_readIf_67 : decode kX12_readIf.2.1 67 = .ok (.aload_n 0, 1) := by decide +kernel
theorem dX12_readIf_68 : decode kX12_readIf.2.1 68 = .ok (.iconst 2, 1) := by decide +kernel
theorem dX12_readIf_69 : decode kX12_readIf.2.1 69 = .ok (.invokevirtual 138, 3) := by decide +kernel
theorem dX12_readIf_72 : decode kX12_readIf.2.1 72 = .ok (.aload_n 0, 1) := by decide +kernel
theorem dX12_readIf_73 : decode kX12_readIf.2.1 73 = .ok (.sipush 3009, 3) := by decide +kernel
theorem dX12_readIf_76 : decode kX12_readIf.2.1 76 = .ok (.invokevirtual 149, 3) := by decide +kernel
theorem dX12_readIf_79 : decode kX12_readIf.2.1 79 = .ok (.return_, 1) := by decide +kernel
theorem dX12_readTerm_0 : decode kX12_readTerm.2.1 0 = .ok (.aload_n 0, 1) := by decide +kernel
theorem dX12_readTerm_1 : decode kX12_readTerm.2.1 1 = .ok (.iload_n 1, 1) := by decide +kernel
theorem dX12_readTerm_2 : decode kX12_readTerm.2.1 2 = .ok (.invokevirtual 170, 3) := by decide +kernel
theorem dX12_readTerm_5 : decode kX12_readTerm.2.1 5 = .ok (.aload_n 0, 1) := by decide +kernel
theorem dX12_readTerm_6 : decode kX12_readTerm.2.1 6 = .ok (.bipush 34, 2) := by decide +kernel
theorem dX12_readTerm_8 : decode kX12_readTerm.2.1 8 = .ok (.invokevirtual 161, 3) := by decide +kernel
theorem dX12_readTerm_11 : decode kX12_readTerm.2.1 11 = .ok (.ifCond .eq 18, 3) := by decide +kernel
theorem dX12_readTerm_14 : decode kX12_readTerm.2.1 14 = .ok (.aload_n 0, 1) := by decide +kernel
theorem dX12_readTerm_15 : decode kX12_readTerm.2.1 15 = .ok (.iload_n 1, 1) := by decide +kernel
theorem dX12_readTerm_16 : decode kX12_readTerm.2.1 16 = .ok (.invokevirtual 170, 3) := by decide +kernel
theorem dX12_readTerm_19 : decode kX12_readTerm.2.1 19 = .ok (.aload_n 0, 1) := by decide +kernel
theorem dX12_readTerm_20 : decode kX12_readTerm.2.1 20 = .ok (.sipush 3002, 3) := by decide +kernel
theorem dX12_readTerm_23 : decode kX12_readTerm.2.1 23 = .ok (.invokevirtual 149, 3) := by decide +kernel
theorem dX12_readTerm_26 : decode kX12_readTerm.2.1 26 = .ok (.goto (-21), 3) := by decide +kernel
theorem dX12_readTerm_29 : decode kX12_readTerm.2.1 29 = .ok (.return_, 1) := by decide +kernel
theorem dX12_readSum_0 : decode kX12_readSum.2.1 0 = .ok (.aload_n 0, 1) := by decide +kernel
theorem dX12_readSum_1 : decode kX12_readSum.2.1 1 = .ok (.iload_n 1, 1) := by decide +kernel
theorem dX12_readSum_2 : decode kX12_readSum.2.1 2 = .ok (.invokevirtual 173, 3) := by decide +kernel
theorem dX12_readSum_5 : decode kX12_readSum.2.1 5 = .ok (.aload_n 0, 1) := by decide +kernel
theorem dX12_readSum_6 : decode kX12_readSum.2.1 6 = .ok (.bipush 32, 2) := by decide +kernel
theorem dX12_readSum_8 : decode kX12_readSum.2.1 8 = .ok (.invokevirtual 132, 3) := by decide +kernel
theorem dX12_readSum_11 : decode kX12_readSum.2.1 11 = .ok (.ifCond .ne 12, 3) := by decide +kernel
theorem dX12_readSum_14 : decode kX12_readSum.2.1 14 = .ok (.aload_n 0, 1) := by decide +kernel
theorem dX12_readSum_15 : decode kX12_readSum.2.1 15 = .ok (.bipush 33, 2) := by decide +kernel
theorem dX12_readSum_17 : decode kX12_readSum.2.1 17 = .ok (.invokevirtual 132, 3) := by decide +kernel
theorem dX12_readSum_20 : decode kX12_readSum.2.1 20 = .ok (.ifCond .eq 39, 3) := by decide +kernel
theorem dX12_readSum_23 : decode kX12_readSum.2.1 23 = .ok (.aload_n 0, 1) := by decide +kernel
theorem dX12_readSum_24 : decode kX12_readSum.2.1 24 = .ok (.getfield 108, 3) := by decide +kernel
theorem dX12_readSum_27 : decode kX12_readSum.2.1 27 = .ok (.bipush 32, 2) := by decide +kernel
theorem dX12_readSum_29 : decode kX12_readSum.2.1 29 = .ok (.if_icmp .ne 9, 3) := by decide +kernel
theorem dX12_readSum_32 : decode kX12_readSum.2.1 32 = .ok (.sipush 3000, 3) := by decide +kernel
theorem dX12_readSum_35 : decode kX12_readSum.2.1 35 = .ok (.goto 6, 3) := by decide +kernel
theorem dX12_readSum_38 : decode kX12_readSum.2.1 38 = .ok (.sipush 3001, 3) := by decide +kernel
theorem dX12_readSum_41 : decode kX12_readSum.2.1 41 = .ok (.istore_n 2, 1) := by decide +kernel
theorem dX12_readSum_42 : decode kX12_readSum.2.1 42 = .ok (.aload_n 0, 1) := by decide +kernel
theorem dX12_readSum_43 : decode kX12_readSum.2.1 43 = .ok (.invokevirtual 135, 3) := by decide +kernel
theorem dX12_readSum_46 : decode kX12_readSum.2.1 46 = .ok (.aload_n 0, 1) := by decide +kernel
theorem dX12_readSum_47 : decode kX12_readSum.2.1 47 = .ok (.iload_n 1, 1) := by decide +kernel
theorem dX12_readSum_48 : decode kX12_readSum.2.1 48 = .ok (.invokevirtual 173, 3) := by decide +kernel
theorem dX12_readSum_51 : decode kX12_readSum.2.1 51 = .ok (.aload_n 0, 1) := by decide +kernel
theorem dX12_readSum_52 : decode kX12_readSum.2.1 52 = .ok (.iload_n 2, 1) := by decide +kernel
theorem dX12_readSum_53 : decode kX12_readSum.2.1 53 = .ok (.invokevirtual 149, 3) := by decide +kernel
theorem dX12_readSum_56 : decode kX12_readSum.2.1 56 = .ok (.goto (-51), 3) := by decide +kernel
theorem dX12_readSum_59 : decode kX12_readSum.2.1 59 = .ok (.return_, 1) := by decide +kernel
theorem dX12_readUnit_0 : decode kX12_readUnit.2.1 0 = .ok (.aload_n 0, 1) := by decide +kernel
theorem dX12_readUnit_1 : decode kX12_readUnit.2.1 1 = .ok (.bipush 21, 2) := by decide +kernel
theorem dX12_readUnit_3 : decode kX12_readUnit.2.1 3 = .ok (.invokevirtual 132, 3) := by decide +kernel
theorem dX12_readUnit_6 : decode kX12_readUnit.2.1 6 = .ok (.ifCond .eq 27, 3) := by decide +kernel
theorem dX12_readUnit_9 : decode kX12_readUnit.2.1 9 = .ok (.aload_n 0, 1) := by decide +kernel
theorem dX12_readUnit_10 : decode kX12_readUnit.2.1 10 = .ok (.iload_n 1, 1) := by decide +kernel
theorem dX12_readUnit_11 : decode kX12_readUnit.2.1 11 = .ok (.invokevirtual 155, 3) := by decide +kernel
theorem dX12_readUnit_14 : decode kX12_readUnit.2.1 14 = .ok (.ifCond .ne 4, 3) := by decide +kernel
theorem dX12_readUnit_17 : decode kX12_readUnit.2.1 17 = .ok (.return_, 1) := by decide +kernel
theorem dX12_readUnit_18 : decode kX12_readUnit.2.1 18 = .ok (.aload_n 0, 1) := by decide +kernel
theorem dX12_readUnit_19 : decode kX12_readUnit.2.1 19 = .ok (.iload_n 1, 1) := by decide +kernel
theorem dX12_readUnit_20 : decode kX12_readUnit.2.1 20 = .ok (.iconst 1, 1) := by decide +kernel
theorem dX12_readUnit_21 : decode kX12_readUnit.2.1 21 = .ok (.iadd, 1) := by decide +kernel
theorem dX12_readUnit_22 : decode kX12_readUnit.2.1 22 = .ok (.invokevirtual 176, 3) := by decide +kernel
theorem dX12_readUnit_25 : decode kX12_readUnit.2.1 25 = .ok (.aload_n 0, 1) := by decide +kernel
theorem dX12_readUnit_26 : decode kX12_readUnit.2.1 26 = .ok (.sipush 3006, 3) := by decide +kernel
theorem dX12_readUnit_29 : decode kX12_readUnit.2.1 29 = .ok (.invokevirtual 149, 3) := by decide +kernel
theorem dX12_readUnit_32 : decode kX12_readUnit.2.1 32 = .ok (.return_, 1) := by decide +kernel
theorem dX12_readUnit_33 : decode kX12_readUnit.2.1 33 = .ok (.aload_n 0, 1) := by decide +kernel
theorem dX12_readUnit_34 : decode kX12_readUnit.2.1 34 = .ok (.bipush 37, 2) := by decide +kernel
theorem dX12_readUnit_36 : decode kX12_readUnit.2.1 36 = .ok (.invokevirtual 132, 3) := by decide +kernel
theorem dX12_readUnit_39 : decode kX12_readUnit.2.1 39 = .ok (.ifCond .eq 34, 3) := by decide +kernel
theorem dX12_readUnit_42 : decode kX12_readUnit.2.1 42 = .ok (.aload_n 0, 1) := by decide +kernel
theorem dX12_readUnit_43 : decode kX12_readUnit.2.1 43 = .ok (.iload_n 1, 1) := by decide +kernel
theorem dX12_readUnit_44 : decode kX12_readUnit.2.1 44 = .ok (.invokevirtual 155, 3) := by decide +kernel
theorem dX12_readUnit_47 : decode kX12_readUnit.2.1 47 = .ok (.ifCond .ne 4, 3) := by decide +kernel
theorem dX12_readUnit_50 : decode kX12_readUnit.2.1 50 = .ok (.return_, 1) := by decide +kernel
theorem dX12_readUnit_51 : decode kX12_readUnit.2.1 51 = .ok (.aload_n 0, 1) := by decide +kernel
theorem dX12_readUnit_52 : decode kX12_readUnit.2.1 52 = .ok (.iload_n 1, 1) := by decide +kernel
theorem dX12_readUnit_53 : decode kX12_readUnit.2.1 53 = .ok (.iconst 1, 1) := by decide +kernel
theorem dX12_readUnit_54 : decode kX12_readUnit.2.1 54 = .ok (.iadd, 1) := by decide +kernel
theorem dX12_readUnit_55 : decode kX12_readUnit.2.1 55 = .ok (.invokevirtual 167, 3) := by decide +kernel
theorem dX12_readUnit_58 : decode kX12_readUnit.2.1 58 = .ok (.aload_n 0, 1) := by decide +kernel
theorem dX12_readUnit_59 : decode kX12_readUnit.2.1 59 = .ok (.bipush 38, 2) := by decide +kernel
theorem dX12_readUnit_61 : decode kX12_readUnit.2.1 61 = .ok (.invokevirtual 161, 3) := by decide +kernel
theorem dX12_readUnit_64 : decode kX12_readUnit.2.1 64 = .ok (.ifCond .ne 8, 3) := by decide +kernel
theorem dX12_readUnit_67 : decode kX12_readUnit.2.1 67 = .ok (.aload_n 0, 1) := by decide +kernel
theorem dX12_readUnit_68 : decode kX12_readUnit.2.1 68 = .ok (.iconst 2, 1) := by decide +kernel
theorem dX12_readUnit_69 : decode kX12_readUnit.2.1 69 = .ok (.invokevirtual 138, 3) := by decide +kernel
theorem dX12_readUnit_72 : decode kX12_readUnit.2.1 72 = .ok (.return_, 1) := by decide +kernel
theorem dX12_readUnit_73 : decode kX12_readUnit.2.1 73 = .ok (.aload_n 0, 1) := by decide +kernel
theorem dX12_readUnit_74 : decode kX12_readUnit.2.1 74 = .ok (.iload_n 1, 1) := by decide +kernel
theorem dX12_readUnit_75 : decode kX12_readUnit.2.1 75 = .ok (.invokevirtual 158, 3) := by decide +kernel
theorem dX12_readUnit_78 : decode kX12_readUnit.2.1 78 = .ok (.aload_n 0, 1) := by decide +kernel
theorem dX12_readUnit_79 : decode kX12_readUnit.2.1 79 = .ok (.bipush 39, 2) := by decide +kernel
theorem dX12_readUnit_81 : decode kX12_readUnit.2.1 81 = .ok (.invokevirtual 132, 3) := by decide +kernel
theorem dX12_readUnit_84 : decode kX12_readUnit.2.1 84 = .ok (.ifCond .eq 9, 3) := by decide +kernel
theorem dX12_readUnit_87 : decode kX12_readUnit.2.1 87 = .ok (.sipush 3003, 3) := by decide +kernel
theorem dX12_readUnit_90 : decode kX12_readUnit.2.1 90 = .ok (.goto 21, 3) := by decide +kernel
theorem dX12_readUnit_93 : decode kX12_readUnit.2.1 93 = .ok (.aload_n 0, 1) := by decide +kernel
theorem dX12_readUnit_94 : decode kX12_readUnit.2.1 94 = .ok (.bipush 40, 2) := by decide +kernel
theorem dX12_readUnit_96 : decode kX12_readUnit.2.1 96 = .ok (.invokevirtual 132, 3) := by decide +kernel
theorem dX12_readUnit_99 : decode kX12_readUnit.2.1 99 = .ok (.ifCond .eq 9, 3) := by decide +kernel
theorem dX12_readUnit_102 : decode kX12_readUnit.2.1 102 = .ok (.sipush 3004, 3) := by decide +kernel
theorem dX12_readUnit_105 : decode kX12_readUnit.2.1 105 = .ok (.goto 6, 3) := by decide +kernel
theorem dX12_readUnit_108 : decode kX12_readUnit.2.1 108 = .ok (.sipush 3005, 3) := by decide +kernel
theorem dX12_readUnit_111 : decode kX12_readUnit.2.1 111 = .ok (.istore_n 2, 1) := by decide +kernel
theorem dX12_readUnit_112 : decode kX12_readUnit.2.1 112 = .ok (.aload_n 0, 1) := by decide +kernel
theorem dX12_readUnit_113 : decode kX12_readUnit.2.1 113 = .ok (.bipush 39, 2) := by decide +kernel
theorem dX12_readUnit_115 : decode kX12_readUnit.2.1 115 = .ok (.invokevirtual 132, 3) := by decide +kernel
theorem dX12_readUnit_118 : decode kX12_readUnit.2.1 118 = .ok (.ifCond .ne 21, 3) := by decide +kernel
theorem dX12_readUnit_121 : decode kX12_readUnit.2.1 121 = .ok (.aload_n 0, 1) := by decide +kernel
theorem dX12_readUnit_122 : decode kX12_readUnit.2.1 122 = .ok (.bipush 40, 2) := by decide +kernel
theorem dX12_readUnit_124 : decode kX12_readUnit.2.1 124 = .ok (.invokevirtual 132, 3) := by decide +kernel
theorem dX12_readUnit_127 : decode kX12_readUnit.2.1 127 = .ok (.ifCond .ne 12, 3) := by decide +kernel
theorem dX12_readUnit_130 : decode kX12_readUnit.2.1 130 = .ok (.aload_n 0, 1) := by decide +kernel
theorem dX12_readUnit_131 : decode kX12_readUnit.2.1 131 = .ok (.bipush 41, 2) := by decide +kernel
theorem dX12_readUnit_133 : decode kX12_readUnit.2.1 133 = .ok (.invokevirtual 132, 3) := by decide +kernel
theorem dX12_readUnit_136 : decode kX12_readUnit.2.1 136 = .ok (.ifCond .eq 10, 3) := by decide +kernel
theorem dX12_readUnit_139 : decode kX12_readUnit.2.1 139 = .ok (.aload_n 0, 1) := by decide +kernel
theorem dX12_readUnit_140 : decode kX12_readUnit.2.1 140 = .ok (.invokevirtual 135, 3) := by decide +kernel
theorem dX12_readUnit_143 : decode kX12_readUnit.2.1 143 = .ok (.goto 8, 3) := by decide +kernel
theorem dX12_readUnit_146 : decode kX12_readUnit.2.1 146 = .ok (.aload_n 0, 1) := by decide +kernel
theorem dX12_readUnit_147 : decode kX12_readUnit.2.1 147 = .ok (.iconst 2, 1) := by decide +kernel
theorem dX12_readUnit_148 : decode kX12_readUnit.2.1 148 = .ok (.invokevirtual 138, 3) := by decide +kernel
theorem dX12_readUnit_151 : decode kX12_readUnit.2.1 151 = .ok (.aload_n 0, 1) := by decide +kernel
theorem dX12_readUnit_152 : decode kX12_readUnit.2.1 152 = .ok (.iload_n 1, 1) := by decide +kernel
theorem dX12_readUnit_153 : decode kX12_readUnit.2.1 153 = .ok (.invokevirtual 158, 3) := by decide +kernel
theorem dX12_readUnit_156 : decode kX12_readUnit.2.1 156 = .ok (.aload_n 0, 1) := by decide +kernel
theorem dX12_readUnit_157 : decode kX12_readUnit.2.1 157 = .ok (.iload_n 2, 1) := by decide +kernel
theorem dX12_readUnit_158 : decode kX12_readUnit.2.1 158 = .ok (.invokevirtual 149, 3) := by decide +kernel
theorem dX12_readUnit_161 : decode kX12_readUnit.2.1 161 = .ok (.return_, 1) := by decide +kernel
theorem dX12_readBoth_0 : decode kX12_readBoth.2.1 0 = .ok (.aload_n 0, 1) := by decide +kernel
theorem dX12_readBoth_1 : decode kX12_readBoth.2.1 1 = .ok (.iload_n 1, 1) := by decide +kernel
theorem dX12_readBoth_2 : decode kX12_readBoth.2.1 2 = .ok (.invokevirtual 176, 3) := by decide +kernel
theorem dX12_readBoth_5 : decode kX12_readBoth.2.1 5 = .ok (.aload_n 0, 1) := by decide +kernel
theorem dX12_readBoth_6 : decode kX12_readBoth.2.1 6 = .ok (.bipush 19, 2) := by decide +kernel
theorem dX12_readBoth_8 : decode kX12_readBoth.2.1 8 = .ok (.invokevirtual 161, 3) := by decide +kernel
theorem dX12_readBoth_11 : decode kX12_readBoth.2.1 11 = .ok (.ifCond .eq 18, 3) := by decide +kernel
theorem dX12_readBoth_14 : decode kX12_readBoth.2.1 14 = .ok (.aload_n 0, 1) := by decide +kernel
theorem dX12_readBoth_15 : decode kX12_readBoth.2.1 15 = .ok (.iload_n 1, 1) := by decide +kernel
theorem dX12_readBoth_16 : decode kX12_readBoth.2.1 16 = .ok (.invokevirtual 176, 3) := by decide +kernel
theorem dX12_readBoth_19 : decode kX12_readBoth.2.1 19 = .ok (.aload_n 0, 1) := by decide +kernel
theorem dX12_readBoth_20 : decode kX12_readBoth.2.1 20 = .ok (.sipush 3007, 3) := by decide +kernel
theorem dX12_readBoth_23 : decode kX12_readBoth.2.1 23 = .ok (.invokevirtual 149, 3) := by decide +kernel
theorem dX12_readBoth_26 : decode kX12_readBoth.2.1 26 = .ok (.goto (-21), 3) := by decide +kernel
theorem dX12_readBoth_29 : decode kX12_readBoth.2.1 29 = .ok (.return_, 1) := by decide +kernel
theorem dX12_readTruth_0 : decode kX12_readTruth.2.1 0 = .ok (.aload_n 0, 1) := by decide +kernel
theorem dX12_readTruth_1 : decode kX12_readTruth.2.1 1 = .ok (.iload_n 1, 1) := by decide +kernel
theorem dX12_readTruth_2 : decode kX12_readTruth.2.1 2 = .ok (.invokevirtual 179, 3) := by decide +kernel
theorem dX12_readTruth_5 : decode kX12_readTruth.2.1 5 = .ok (.aload_n 0, 1) := by decide +kernel
theorem dX12_readTruth_6 : decode kX12_readTruth.2.1 6 = .ok (.bipush 20, 2) := by decide +kernel
theorem dX12_readTruth_8 : decode kX12_readTruth.2.1 8 = .ok (.invokevirtual 161, 3) := by decide +kernel
theorem dX12_readTruth_11 : decode kX12_readTruth.2.1 11 = .ok (.ifCond .eq 18, 3) := by decide +kernel
theorem dX12_readTruth_14 : decode kX12_readTruth.2.1 14 = .ok (.aload_n 0, 1) := by decide +kernel
theorem dX12_readTruth_15 : decode kX12_readTruth.2.1 15 = .ok (.iload_n 1, 1) := by decide +kernel
theorem dX12_readTruth_16 : decode kX12_readTruth.2.1 16 = .ok (.invokevirtual 179, 3) := by decide +kernel
theorem dX12_readTruth_19 : decode kX12_readTruth.2.1 19 = .ok (.aload_n 0, 1) := by decide +kernel
theorem dX12_readTruth_20 : decode kX12_readTruth.2.1 20 = .ok (.sipush 3008, 3) := by decide +kernel
theorem dX12_readTruth_23 : decode kX12_readTruth.2.1 23 = .ok (.invokevirtual 149, 3) := by decide +kernel
theorem dX12_readTruth_26 : decode kX12_readTruth.2.1 26 = .ok (.goto (-21), 3) := by decide +kernel
theorem dX12_readTruth_29 : decode kX12_readTruth.2.1 29 = .ok (.return_, 1) := by decide +kernel
theorem dX12_named_0 : decode kX12_named.2.1 0 = .ok (.aload_n 0, 1) := by decide +kernel
theorem dX12_named_1 : decode kX12_named.2.1 1 = .ok (.iload_n 1, 1) := by decide +kernel
theorem dX12_named_2 : decode kX12_named.2.1 2 = .ok (.invokevirtual 161, 3) := by decide +kernel
theorem dX12_named_5 : decode kX12_named.2.1 5 = .ok (.ifCond .ne 8, 3) := by decide +kernel
theorem dX12_named_8 : decode kX12_named.2.1 8 = .ok (.aload_n 0, 1) := by decide +kernel
theorem dX12_named_9 : decode kX12_named.2.1 9 = .ok (.iconst 2, 1) := by decide +kernel
theorem dX12_named_10 : decode kX12_named.2.1 10 = .ok (.invokevirtual 138, 3) := by decide +kernel
theorem dX12_named_13 : decode kX12_named.2.1 13 = .ok (.aload_n 0, 1) := by decide +kernel
theorem dX12_named_14 : decode kX12_named.2.1 14 = .ok (.iload_n 2, 1) := by decide +kernel
theorem dX12_named_15 : decode kX12_named.2.1 15 = .ok (.iload_n 3, 1) := by decide +kernel
theorem dX12_named_16 : decode kX12_named.2.1 16 = .ok (.invokevirtual 182, 3) := by decide +kernel
theorem dX12_named_19 : decode kX12_named.2.1 19 = .ok (.ireturn, 1) := by decide +kernel
theorem dX12_readTop_0 : decode kX12_readTop.2.1 0 = .ok (.aload_n 0, 1) := by decide +kernel
theorem dX12_readTop_1 : decode kX12_readTop.2.1 1 = .ok (.invokevirtual 135, 3) := by decide +kernel
theorem dX12_readTop_4 : decode kX12_readTop.2.1 4 = .ok (.aload_n 0, 1) := by decide +kernel
theorem dX12_readTop_5 : decode kX12_readTop.2.1 5 = .ok (.getfield 24, 3) := by decide +kernel
theorem dX12_readTop_8 : decode kX12_readTop.2.1 8 = .ok (.iconst 3, 1) := by decide +kernel
theorem dX12_readTop_9 : decode kX12_readTop.2.1 9 = .ok (.aload_n 0, 1) := by decide +kernel
theorem dX12_readTop_10 : decode kX12_readTop.2.1 10 = .ok (.iconst 0, 1) := by decide +kernel
theorem dX12_readTop_11 : decode kX12_readTop.2.1 11 = .ok (.bipush 99, 2) := by decide +kernel
theorem dX12_readTop_13 : decode kX12_readTop.2.1 13 = .ok (.invokevirtual 182, 3) := by decide +kernel
theorem dX12_readTop_16 : decode kX12_readTop.2.1 16 = .ok (.iastore, 1) := by decide +kernel
theorem dX12_readTop_17 : decode kX12_readTop.2.1 17 = .ok (.aload_n 0, 1) := by decide +kernel
theorem dX12_readTop_18 : decode kX12_readTop.2.1 18 = .ok (.getfield 24, 3) := by decide +kernel
theorem dX12_readTop_21 : decode kX12_readTop.2.1 21 = .ok (.iconst 4, 1) := by decide +kernel
theorem dX12_readTop_22 : decode kX12_readTop.2.1 22 = .ok (.aload_n 0, 1) := by decide +kernel
theorem dX12_readTop_23 : decode kX12_readTop.2.1 23 = .ok (.iconst 3, 1) := by decide +kernel
theorem dX12_readTop_24 : decode kX12_readTop.2.1 24 = .ok (.iconst 0, 1) := by decide +kernel
theorem dX12_readTop_25 : decode kX12_readTop.2.1 25 = .ok (.bipush 99, 2) := by decide +kernel
theorem dX12_readTop_27 : decode kX12_readTop.2.1 27 = .ok (.invokevirtual 186, 3) := by decide +kernel
theorem dX12_readTop_30 : decode kX12_readTop.2.1 30 = .ok (.iastore, 1) := by decide +kernel
theorem dX12_readTop_31 : decode kX12_readTop.2.1 31 = .ok (.aload_n 0, 1) := by decide +kernel
theorem dX12_readTop_32 : decode kX12_readTop.2.1 32 = .ok (.getfield 24, 3) := by decide +kernel
theorem dX12_readTop_35 : decode kX12_readTop.2.1 35 = .ok (.iconst 5, 1) := by decide +kernel
theorem dX12_readTop_36 : decode kX12_readTop.2.1 36 = .ok (.aload_n 0, 1) := by decide +kernel
theorem dX12_readTop_37 : decode kX12_readTop.2.1 37 = .ok (.iconst 4, 1) := by decide +kernel
theorem dX12_readTop_38 : decode kX12_readTop.2.1 38 = .ok (.iconst 0, 1) := by decide +kernel
theorem dX12_readTop_39 : decode kX12_readTop.2.1 39 = .ok (.bipush 99, 2) := by decide +kernel
theorem dX12_readTop_41 : decode kX12_readTop.2.1 41 = .ok (.invokevirtual 186, 3) := by decide +kernel
theorem dX12_readTop_44 : decode kX12_readTop.2.1 44 = .ok (.iastore, 1) := by decide +kernel
theorem dX12_readTop_45 : decode kX12_readTop.2.1 45 = .ok (.return_, 1) := by decide +kernel
theorem dX12_readShooter_0 : decode kX12_readShooter.2.1 0 = .ok (.aload_n 0, 1) := by decide +kernel
theorem dX12_readShooter_1 : decode kX12_readShooter.2.1 1 = .ok (.getfield 24, 3) := by decide +kernel
theorem dX12_readShooter_4 : decode kX12_readShooter.2.1 4 = .ok (.bipush 6, 2) := by decide +kernel
theorem dX12_readShooter_6 : decode kX12_readShooter.2.1 6 = .ok (.iaload, 1) := by decide +kernel
theorem dX12_readShooter_7 : decode kX12_readShooter.2.1 7 = .ok (.iconst 4, 1) := by decide +kernel
theorem dX12_readShooter_8 : decode kX12_readShooter.2.1 8 = .ok (.if_icmp .ne 8, 3) := by decide +kernel
theorem dX12_readShooter_11 : decode kX12_readShooter.2.1 11 = .ok (.aload_n 0, 1) := by decide +kernel
theorem dX12_readShooter_12 : decode kX12_readShooter.2.1 12 = .ok (.iconst 4, 1) := by decide +kernel
theorem dX12_readShooter_13 : decode kX12_readShooter.2.1 13 = .ok (.invokevirtual 138, 3) := by decide +kernel
theorem dX12_readShooter_16 : decode kX12_readShooter.2.1 16 = .ok (.aload_n 0, 1) := by decide +kernel
theorem dX12_readShooter_17 : decode kX12_readShooter.2.1 17 = .ok (.getfield 126, 3) := by decide +kernel
theorem dX12_readShooter_20 : decode kX12_readShooter.2.1 20 = .ok (.ifCond .eq 4, 3) := by decide +kernel
theorem dX12_readShooter_23 : decode kX12_readShooter.2.1 23 = .ok (.return_, 1) := by decide +kernel
theorem dX12_readShooter_24 : decode kX12_readShooter.2.1 24 = .ok (.aload_n 0, 1) := by decide +kernel
theorem dX12_readShooter_25 : decode kX12_readShooter.2.1 25 = .ok (.invokevirtual 135, 3) := by decide +kernel
theorem dX12_readShooter_28 : decode kX12_readShooter.2.1 28 = .ok (.aload_n 0, 1) := by decide +kernel
theorem dX12_readShooter_29 : decode kX12_readShooter.2.1 29 = .ok (.getfield 24, 3) := by decide +kernel
theorem dX12_readShooter_32 : decode kX12_readShooter.2.1 32 = .ok (.bipush 13, 2) := by decide +kernel
theorem dX12_readShooter_34 : decode kX12_readShooter.2.1 34 = .ok (.aload_n 0, 1) := by decide +kernel
theorem dX12_readShooter_35 : decode kX12_readShooter.2.1 35 = .ok (.getfield 24, 3) := by decide +kernel
theorem dX12_readShooter_38 : decode kX12_readShooter.2.1 38 = .ok (.bipush 6, 2) := by decide +kernel
theorem dX12_readShooter_40 : decode kX12_readShooter.2.1 40 = .ok (.iaload, 1) := by decide +kernel
theorem dX12_readShooter_41 : decode kX12_readShooter.2.1 41 = .ok (.iadd, 1) := by decide +kernel
theorem dX12_readShooter_42 : decode kX12_readShooter.2.1 42 = .ok (.aload_n 0, 1) := by decide +kernel
theorem dX12_readShooter_43 : decode kX12_readShooter.2.1 43 = .ok (.bipush 6, 2) := by decide +kernel
theorem dX12_readShooter_45 : decode kX12_readShooter.2.1 45 = .ok (.iconst 0, 1) := by decide +kernel
theorem dX12_readShooter_46 : decode kX12_readShooter.2.1 46 = .ok (.bipush 9, 2) := by decide +kernel
theorem dX12_readShooter_48 : decode kX12_readShooter.2.1 48 = .ok (.invokevirtual 186, 3) := by decide +kernel
theorem dX12_readShooter_51 : decode kX12_readShooter.2.1 51 = .ok (.iastore, 1) := by decide +kernel
theorem dX12_readShooter_52 : decode kX12_readShooter.2.1 52 = .ok (.aload_n 0, 1) := by decide +kernel
theorem dX12_readShooter_53 : decode kX12_readShooter.2.1 53 = .ok (.getfield 126, 3) := by decide +kernel
theorem dX12_readShooter_56 : decode kX12_readShooter.2.1 56 = .ok (.ifCond .ne 14, 3) := by decide +kernel
theorem dX12_readShooter_59 : decode kX12_readShooter.2.1 59 = .ok (.aload_n 0, 1) := by decide +kernel
theorem dX12_readShooter_60 : decode kX12_readShooter.2.1 60 = .ok (.getfield 24, 3) := by decide +kernel
theorem dX12_readShooter_63 : decode kX12_readShooter.2.1 63 = .ok (.bipush 6, 2) := by decide +kernel
theorem dX12_readShooter_65 : decode kX12_readShooter.2.1 65 = .ok (.dup2, 1) := by decide +kernel
theorem dX12_readShooter_66 : decode kX12_readShooter.2.1 66 = .ok (.iaload, 1) := by decide +kernel
theorem dX12_readShooter_67 : decode kX12_readShooter.2.1 67 = .ok (.iconst 1, 1) := by decide +kernel
theorem dX12_readShooter_68 : decode kX12_readShooter.2.1 68 = .ok (.iadd, 1) := by decide +kernel
theorem dX12_readShooter_69 : decode kX12_readShooter.2.1 69 = .ok (.iastore, 1) := by decide +kernel
theorem dX12_readShooter_70 : decode kX12_readShooter.2.1 70 = .ok (.return_, 1) := by decide +kernel
theorem dX12_readLaw_0 : decode kX12_readLaw.2.1 0 = .ok (.aload_n 0, 1) := by decide +kernel
theorem dX12_readLaw_1 : decode kX12_readLaw.2.1 1 = .ok (.invokevirtual 135, 3) := by decide +kernel
theorem dX12_readLaw_4 : decode kX12_readLaw.2.1 4 = .ok (.aload_n 0, 1) := by decide +kernel
theorem dX12_readLaw_5 : decode kX12_readLaw.2.1 5 = .ok (.bipush 31, 2) := by decide +kernel
theorem dX12_readLaw_7 : decode kX12_readLaw.2.1 7 = .ok (.invokevirtual 161, 3) := by decide +kernel
theorem dX12_readLaw_10 : decode kX12_readLaw.2.1 10 = .ok (.ifCond .ne 8, 3) := by decide +kernel
theorem dX12_readLaw_13 : decode kX12_readLaw.2.1 13 = .ok (.aload_n 0, 1) := by decide +kernel
theorem dX12_readLaw_14 : decode kX12_readLaw.2.1 14 = .ok (.iconst 2, 1) := by decide +kernel
theorem dX12_readLaw_15 : decode kX12_readLaw.2.1 15 = .ok (.invokevirtual 138, 3) := by decide +kernel
theorem dX12_readLaw_18 : decode kX12_readLaw.2.1 18 = .ok (.aload_n 0, 1) := by decide +kernel
theorem dX12_readLaw_19 : decode kX12_readLaw.2.1 19 = .ok (.getfield 24, 3) := by decide +kernel
theorem dX12_readLaw_22 : decode kX12_readLaw.2.1 22 = .ok (.sipush 139, 3) := by decide +kernel
theorem dX12_readLaw_25 : decode kX12_readLaw.2.1 25 = .ok (.iaload, 1) := by decide +kernel
theorem dX12_readLaw_26 : decode kX12_readLaw.2.1 26 = .ok (.istore_n 2, 1) := by decide +kernel
theorem dX12_readLaw_27 : decode kX12_readLaw.2.1 27 = .ok (.aload_n 0, 1) := by decide +kernel
theorem dX12_readLaw_28 : decode kX12_readLaw.2.1 28 = .ok (.iload_n 1, 1) := by decide +kernel
theorem dX12_readLaw_29 : decode kX12_readLaw.2.1 29 = .ok (.putfield 146, 3) := by decide +kernel
theorem dX12_readLaw_32 : decode kX12_readLaw.2.1 32 = .ok (.iload_n 1, 1) := by decide +kernel
theorem dX12_readLaw_33 : decode kX12_readLaw.2.1 33 = .ok (.ifCond .ne 11, 3) := by decide +kernel
theorem dX12_readLaw_36 : decode kX12_readLaw.2.1 36 = .ok (.aload_n 0, 1) := by decide +kernel
theorem dX12_readLaw_37 : decode kX12_readLaw.2.1 37 = .ok (.iconst 0, 1) := by decide +kernel
theorem dX12_readLaw_38 : decode kX12_readLaw.2.1 38 = .ok (.invokevirtual 158, 3) := by decide +kernel
theorem dX12_readLaw_41 : decode kX12_readLaw.2.1 41 = .ok (.goto 8, 3) := by decide +kernel
theorem dX12_readLaw_44 : decode kX12_readLaw.2.1 44 = .ok (.aload_n 0, 1) := by decide +kernel
theorem dX12_readLaw_45 : decode kX12_readLaw.2.1 45 = .ok (.iconst 0, 1) := by decide +kernel
theorem dX12_readLaw_46 : decode kX12_readLaw.2.1 46 = .ok (.invokevirtual 167, 3) := by decide +kernel
theorem dX12_readLaw_49 : decode kX12_readLaw.2.1 49 = .ok (.aload_n 0, 1) := by decide +kernel
theorem dX12_readLaw_50 : decode kX12_readLaw.2.1 50 = .ok (.getfield 126, 3) := by decide +kernel
theorem dX12_readLaw_53 : decode kX12_readLaw.2.1 53 = .ok (.ifCond .eq 4, 3) := by decide +kernel
theorem dX12_readLaw_56 : decode kX12_readLaw.2.1 56 = .ok (.return_, 1) := by decide +kernel
theorem dX12_readLaw_57 : decode kX12_readLaw.2.1 57 = .ok (.aload_n 0, 1) := by decide +kernel
theorem dX12_readLaw_58 : decode kX12_readLaw.2.1 58 = .ok (.getfield 24, 3) := by decide +kernel
theorem dX12_readLaw_61 : decode kX12_readLaw.2.1 61 = .ok (.bipush 7, 2) := by decide +kernel
theorem dX12_readLaw_63 : decode kX12_readLaw.2.1 63 = .ok (.iload_n 1, 1) := by decide +kernel
theorem dX12_readLaw_64 : decode kX12_readLaw.2.1 64 = .ok (.iadd, 1) := by decide +kernel
theorem dX12_readLaw_65 : decode kX12_readLaw.2.1 65 = .ok (.iconst 1, 1) := by decide +kernel
theorem dX12_readLaw_66 : decode kX12_readLaw.2.1 66 = .ok (.iastore, 1) := by decide +kernel
theorem dX12_readLaw_67 : decode kX12_readLaw.2.1 67 = .ok (.aload_n 0, 1) := by decide +kernel
theorem dX12_readLaw_68 : decode kX12_readLaw.2.1 68 = .ok (.getfield 24, 3) := by decide +kernel
theorem dX12_readLaw_71 : decode kX12_readLaw.2.1 71 = .ok (.bipush 9, 2) := by decide +kernel
theorem dX12_readLaw_73 : decode kX12_readLaw.2.1 73 = .ok (.iload_n 1, 1) := by decide +kernel
theorem dX12_readLaw_74 : decode kX12_readLaw.2.1 74 = .ok (.iadd, 1) := by decide +kernel
theorem dX12_readLaw_75 : decode kX12_readLaw.2.1 75 = .ok (.iload_n 2, 1) := by decide +kernel
theorem dX12_readLaw_76 : decode kX12_readLaw.2.1 76 = .ok (.iastore, 1) := by decide +kernel
theorem dX12_readLaw_77 : decode kX12_readLaw.2.1 77 = .ok (.aload_n 0, 1) := by decide +kernel
theorem dX12_readLaw_78 : decode kX12_readLaw.2.1 78 = .ok (.getfield 24, 3) := by decide +kernel
theorem dX12_readLaw_81 : decode kX12_readLaw.2.1 81 = .ok (.bipush 11, 2) := by decide +kernel
theorem dX12_readLaw_83 : decode kX12_readLaw.2.1 83 = .ok (.iload_n 1, 1) := by decide +kernel
theorem dX12_readLaw_84 : decode kX12_readLaw.2.1 84 = .ok (.iadd, 1) := by decide +kernel
theorem dX12_readLaw_85 : decode kX12_readLaw.2.1 85 = .ok (.aload_n 0, 1) := by decide +kernel
theorem dX12_readLaw_86 : decode kX12_readLaw.2.1 86 = .ok (.getfield 24, 3) := by decide +kernel
theorem dX12_readLaw_89 : decode kX12_readLaw.2.1 89 = .ok (.sipush 139, 3) := by decide +kernel
theorem dX12_readLaw_92 : decode kX12_readLaw.2.1 92 = .ok (.iaload, 1) := by decide +kernel
theorem dX12_readLaw_93 : decode kX12_readLaw.2.1 93 = .ok (.iload_n 2, 1) := by decide +kernel
theorem dX12_readLaw_94 : decode kX12_readLaw.2.1 94 = .ok (.isub, 1) := by decide +kernel
theorem dX12_readLaw_95 : decode kX12_readLaw.2.1 95 = .ok (.iastore, 1) := by decide +kernel
theorem dX12_readLaw_96 : decode kX12_readLaw.2.1 96 = .ok (.return_, 1) := by decide +kernel
theorem dX12_readLine_0 : decode kX12_readLine.2.1 0 = .ok (.aload_n 0, 1) := by decide +kernel
theorem dX12_readLine_1 : decode kX12_readLine.2.1 1 = .ok (.getfield 126, 3) := by decide +kernel
theorem dX12_readLine_4 : decode kX12_readLine.2.1 4 = .ok (.ifCond .eq 4, 3) := by decide +kernel
theorem dX12_readLine_7 : decode kX12_readLine.2.1 7 = .ok (.return_, 1) := by decide +kernel
theorem dX12_readLine_8 : decode kX12_readLine.2.1 8 = .ok (.aload_n 0, 1) := by decide +kernel
theorem dX12_readLine_9 : decode kX12_readLine.2.1 9 = .ok (.iconst 2, 1) := by decide +kernel
theorem dX12_readLine_10 : decode kX12_readLine.2.1 10 = .ok (.invokevirtual 132, 3) := by decide +kernel
theorem dX12_readLine_13 : decode kX12_readLine.2.1 13 = .ok (.ifCond .eq 10, 3) := by decide +kernel
theorem dX12_readLine_16 : decode kX12_readLine.2.1 16 = .ok (.aload_n 0, 1) := by decide +kernel
theorem dX12_readLine_17 : decode kX12_readLine.2.1 17 = .ok (.invokevirtual 190, 3) := by decide +kernel
theorem dX12_readLine_20 : decode kX12_readLine.2.1 20 = .ok (.goto 81, 3) := by decide +kernel
theorem dX12_readLine_23 : decode kX12_readLine.2.1 23 = .ok (.aload_n 0, 1) := by decide +kernel
theorem dX12_readLine_24 : decode kX12_readLine.2.1 24 = .ok (.iconst 5, 1) := by decide +kernel
theorem dX12_readLine_25 : decode kX12_readLine.2.1 25 = .ok (.invokevirtual 132, 3) := by decide +kernel
theorem dX12_readLine_28 : decode kX12_readLine.2.1 28 = .ok (.ifCond .eq 10, 3) := by decide +kernel
theorem dX12_readLine_31 : decode kX12_readLine.2.1 31 = .ok (.aload_n 0, 1) := by decide +kernel
theorem dX12_readLine_32 : decode kX12_readLine.2.1 32 = .ok (.invokevirtual 193, 3) := by decide +kernel
theorem dX12_readLine_35 : decode kX12_readLine.2.1 35 = .ok (.goto 66, 3) := by decide +kernel
theorem dX12_readLine_38 : decode kX12_readLine.2.1 38 = .ok (.aload_n 0, 1) := by decide +kernel
theorem dX12_readLine_39 : decode kX12_readLine.2.1 39 = .ok (.bipush 7, 2) := by decide +kernel
theorem dX12_readLine_41 : decode kX12_readLine.2.1 41 = .ok (.invokevirtual 161, 3) := by decide +kernel
theorem dX12_readLine_44 : decode kX12_readLine.2.1 44 = .ok (.ifCond .eq 20, 3) := by decide +kernel
theorem dX12_readLine_47 : decode kX12_readLine.2.1 47 = .ok (.aload_n 0, 1) := by decide +kernel
theorem dX12_readLine_48 : decode kX12_readLine.2.1 48 = .ok (.getfield 24, 3) := by decide +kernel
theorem dX12_readLine_51 : decode kX12_readLine.2.1 51 = .ok (.bipush 26, 2) := by decide +kernel
theorem dX12_readLine_53 : decode kX12_readLine.2.1 53 = .ok (.aload_n 0, 1) := by decide +kernel
theorem dX12_readLine_54 : decode kX12_readLine.2.1 54 = .ok (.iconst 0, 1) := by decide +kernel
theorem dX12_readLine_55 : decode kX12_readLine.2.1 55 = .ok (.bipush 9, 2) := by decide +kernel
theorem dX12_readLine_57 : decode kX12_readLine.2.1 57 = .ok (.invokevirtual 182, 3) := by decide +kernel
theorem dX12_readLine_60 : decode kX12_readLine.2.1 60 = .ok (.iastore, 1) := by decide +kernel
theorem dX12_readLine_61 : decode kX12_readLine.2.1 61 = .ok (.goto 40, 3) := by decide +kernel
theorem dX12_readLine_64 : decode kX12_readLine.2.1 64 = .ok (.aload_n 0, 1) := by decide +kernel
theorem dX12_readLine_65 : decode kX12_readLine.2.1 65 = .ok (.bipush 8, 2) := by decide +kernel
theorem dX12_readLine_67 : decode kX12_readLine.2.1 67 = .ok (.invokevirtual 132, 3) := by decide +kernel
theorem dX12_readLine_70 : decode kX12_readLine.2.1 70 = .ok (.ifCond .ne 12, 3) := by decide +kernel
theorem dX12_readLine_73 : decode kX12_readLine.2.1 73 = .ok (.aload_n 0, 1) := by decide +kernel
theorem dX12_readLine_74 : decode kX12_readLine.2.1 74 = .ok (.bipush 9, 2) := by decide +kernel
theorem dX12_readLine_76 : decode kX12_readLine.2.1 76 = .ok (.invokevirtual 132, 3) := by decide +kernel
theorem dX12_readLine_79 : decode kX12_readLine.2.1 79 = .ok (.ifCond .eq 17, 3) := by decide +kernel
theorem dX12_readLine_82 : decode kX12_readLine.2.1 82 = .ok (.aload_n 0, 1) := by decide +kernel
theorem dX12_readLine_83 : decode kX12_readLine.2.1 83 = .ok (.aload_n 0, 1) := by decide +kernel
theorem dX12_readLine_84 : decode kX12_readLine.2.1 84 = .ok (.getfield 108, 3) := by decide +kernel
theorem dX12_readLine_87 : decode kX12_readLine.2.1 87 = .ok (.bipush 8, 2) := by decide +kernel
theorem dX12_readLine_89 : decode kX12_readLine.2.1 89 = .ok (.isub, 1) := by decide +kernel
theorem dX12_readLine_90 : decode kX12_readLine.2.1 90 = .ok (.invokevirtual 196, 3) := by decide +kernel
theorem dX12_readLine_93 : decode kX12_readLine.2.1 93 = .ok (.goto 8, 3) := by decide +kernel
theorem dX12_readLine_96 : decode kX12_readLine.2.1 96 = .ok (.aload_n 0, 1) := by decide +kernel
theorem dX12_readLine_97 : decode kX12_readLine.2.1 97 = .ok (.iconst 2, 1) := by decide +kernel
theorem dX12_readLine_98 : decode kX12_readLine.2.1 98 = .ok (.invokevirtual 138, 3) := by decide +kernel
theorem dX12_readLine_101 : decode kX12_readLine.2.1 101 = .ok (.return_, 1) := by decide +kernel
theorem dX12_closes_0 : decode kX12_closes.2.1 0 = .ok (.aload_n 0, 1) := by decide +kernel
theorem dX12_closes_1 : decode kX12_closes.2.1 1 = .ok (.bipush 30, 2) := by decide +kernel
theorem dX12_closes_3 : decode kX12_closes.2.1 3 = .ok (.invokevirtual 161, 3) := by decide +kernel
theorem dX12_closes_6 : decode kX12_closes.2.1 6 = .ok (.ifCond .ne 8, 3) := by decide +kernel
theorem dX12_closes_9 : decode kX12_closes.2.1 9 = .ok (.aload_n 0, 1) := by decide +kernel
theorem dX12_closes_10 : decode kX12_closes.2.1 10 = .ok (.iconst 2, 1) := by decide +kernel
theorem dX12_closes_11 : decode kX12_closes.2.1 11 = .ok (.invokevirtual 138, 3) := by decide +kernel
theorem dX12_closes_14 : decode kX12_closes.2.1 14 = .ok (.aload_n 0, 1) := by decide +kernel
theorem dX12_closes_15 : decode kX12_closes.2.1 15 = .ok (.getfield 24, 3) := by decide +kernel
theorem dX12_closes_18 : decode kX12_closes.2.1 18 = .ok (.iconst 0, 1) := by decide +kernel
theorem dX12_closes_19 : decode kX12_closes.2.1 19 = .ok (.dup2, 1) := by decide +kernel
theorem dX12_closes_20 : decode kX12_closes.2.1 20 = .ok (.iaload, 1) := by decide +kernel
theorem dX12_closes_21 : decode kX12_closes.2.1 21 = .ok (.iconst 1, 1) := by decide +kernel
theorem dX12_closes_22 : decode kX12_closes.2.1 22 = .ok (.iadd, 1) := by decide +kernel
theorem dX12_closes_23 : decode kX12_closes.2.1 23 = .ok (.iastore, 1) := by decide +kernel
theorem dX12_closes_24 : decode kX12_closes.2.1 24 = .ok (.return_, 1) := by decide +kernel
theorem dX12_butt_0 : decode kX12_butt.2.1 0 = .ok (.aload_n 0, 1) := by decide +kernel
theorem dX12_butt_1 : decode kX12_butt.2.1 1 = .ok (.iconst 0, 1) := by decide +kernel
theorem dX12_butt_2 : decode kX12_butt.2.1 2 = .ok (.putfield 1, 3) := by decide +kernel
theorem dX12_butt_5 : decode kX12_butt.2.1 5 = .ok (.iload_n 1, 1) := by decide +kernel
theorem dX12_butt_6 : decode kX12_butt.2.1 6 = .ok (.i2l, 1) := by decide +kernel
theorem dX12_butt_7 : decode kX12_butt.2.1 7 = .ok (.lconst 0, 1) := by decide +kernel
theorem dX12_butt_8 : decode kX12_butt.2.1 8 = .ok (.aload_n 0, 1) := by decide +kernel
theorem dX12_butt_9 : decode kX12_butt.2.1 9 = .ok (.getfield 80, 3) := by decide +kernel
theorem dX12_butt_12 : decode kX12_butt.2.1 12 = .ok (.i2l, 1) := by decide +kernel
theorem dX12_butt_13 : decode kX12_butt.2.1 13 = .ok (.invokestatic 142, 3) := by decide +kernel
theorem dX12_butt_16 : decode kX12_butt.2.1 16 = .ok (.ifCond .ne 6, 3) := by decide +kernel
theorem dX12_butt_19 : decode kX12_butt.2.1 19 = .ok (.bipush (-3), 2) := by decide +kernel
theorem dX12_butt_21 : decode kX12_butt.2.1 21 = .ok (.ireturn, 1) := by decide +kernel
theorem dX12_butt_22 : decode kX12_butt.2.1 22 = .ok (.aload_n 0, 1) := by decide +kernel
theorem dX12_butt_23 : decode kX12_butt.2.1 23 = .ok (.iload_n 1, 1) := by decide +kernel
theorem dX12_butt_24 : decode kX12_butt.2.1 24 = .ok (.putfield 83, 3) := by decide +kernel
theorem dX12_butt_27 : decode kX12_butt.2.1 27 = .ok (.aload_n 0, 1) := by decide +kernel
theorem dX12_butt_28 : decode kX12_butt.2.1 28 = .ok (.iconst 0, 1) := by decide +kernel
theorem dX12_butt_29 : decode kX12_butt.2.1 29 = .ok (.putfield 80, 3) := by decide +kernel
theorem dX12_butt_32 : decode kX12_butt.2.1 32 = .ok (.aload_n 0, 1) := by decide +kernel
theorem dX12_butt_33 : decode kX12_butt.2.1 33 = .ok (.iconst 0, 1) := by decide +kernel
theorem dX12_butt_34 : decode kX12_butt.2.1 34 = .ok (.putfield 101, 3) := by decide +kernel
theorem dX12_butt_37 : decode kX12_butt.2.1 37 = .ok (.aload_n 0, 1) := by decide +kernel
theorem dX12_butt_38 : decode kX12_butt.2.1 38 = .ok (.iconst 0, 1) := by decide +kernel
theorem dX12_butt_39 : decode kX12_butt.2.1 39 = .ok (.putfield 126, 3) := by decide +kernel
theorem dX12_butt_42 : decode kX12_butt.2.1 42 = .ok (.aload_n 0, 1) := by decide +kernel
theorem dX12_butt_43 : decode kX12_butt.2.1 43 = .ok (.getfield 24, 3) := by decide +kernel
theorem dX12_butt_46 : decode kX12_butt.2.1 46 = .ok (.invokestatic 76, 3) := by decide +kernel
theorem dX12_butt_49 : decode kX12_butt.2.1 49 = .ok (.aload_n 0, 1) := by decide +kernel
theorem dX12_butt_50 : decode kX12_butt.2.1 50 = .ok (.invokevirtual 135, 3) := by decide +kernel
theorem dX12_butt_53 : decode kX12_butt.2.1 53 = .ok (.aload_n 0, 1) := by decide +kernel
theorem dX12_butt_54 : decode kX12_butt.2.1 54 = .ok (.iconst 0, 1) := by decide +kernel
theorem dX12_butt_55 : decode kX12_butt.2.1 55 = .ok (.invokevirtual 161, 3) := by decide +kernel
theorem dX12_butt_58 : decode kX12_butt.2.1 58 = .ok (.ifCond .eq 11, 3) := by decide +kernel
theorem dX12_butt_61 : decode kX12_butt.2.1 61 = .ok (.aload_n 0, 1) := by decide +kernel
theorem dX12_butt_62 : decode kX12_butt.2.1 62 = .ok (.iconst 1, 1) := by decide +kernel
theorem dX12_butt_63 : decode kX12_butt.2.1 63 = .ok (.invokevirtual 161, 3) := by decide +kernel
theorem dX12_butt_66 : decode kX12_butt.2.1 66 = .ok (.ifCond .ne 8, 3) := by decide +kernel
theorem dX12_butt_69 : decode kX12_butt.2.1 69 = .ok (.aload_n 0, 1) := by decide +kernel
theorem dX12_butt_70 : decode kX12_butt.2.1 70 = .ok (.iconst 2, 1) := by decide +kernel
theorem dX12_butt_71 : decode kX12_butt.2.1 71 = .ok (.invokevirtual 138, 3) := by decide +kernel
theorem dX12_butt_74 : decode kX12_butt.2.1 74 = .ok (.aload_n 0, 1) := by decide +kernel
theorem dX12_butt_75 : decode kX12_butt.2.1 75 = .ok (.getfield 24, 3) := by decide +kernel
theorem dX12_butt_78 : decode kX12_butt.2.1 78 = .ok (.iconst 1, 1) := by decide +kernel
theorem dX12_butt_79 : decode kX12_butt.2.1 79 = .ok (.aload_n 0, 1) := by decide +kernel
theorem dX12_butt_80 : decode kX12_butt.2.1 80 = .ok (.iconst 0, 1) := by decide +kernel
theorem dX12_butt_81 : decode kX12_butt.2.1 81 = .ok (.bipush 20, 2) := by decide +kernel
theorem dX12_butt_83 : decode kX12_butt.2.1 83 = .ok (.invokevirtual 182, 3) := by decide +kernel
theorem dX12_butt_86 : decode kX12_butt.2.1 86 = .ok (.iastore, 1) := by decide +kernel
theorem dX12_butt_87 : decode kX12_butt.2.1 87 = .ok (.aload_n 0, 1) := by decide +kernel
theorem dX12_butt_88 : decode kX12_butt.2.1 88 = .ok (.getfield 24, 3) := by decide +kernel
theorem dX12_butt_91 : decode kX12_butt.2.1 91 = .ok (.iconst 2, 1) := by decide +kernel
theorem dX12_butt_92 : decode kX12_butt.2.1 92 = .ok (.aload_n 0, 1) := by decide +kernel
theorem dX12_butt_93 : decode kX12_butt.2.1 93 = .ok (.aload_n 0, 1) := by decide +kernel
theorem dX12_butt_94 : decode kX12_butt.2.1 94 = .ok (.getfield 24, 3) := by decide +kernel
theorem dX12_butt_97 : decode kX12_butt.2.1 97 = .ok (.iconst 1, 1) := by decide +kernel
theorem dX12_butt_98 : decode kX12_butt.2.1 98 = .ok (.iaload, 1) := by decide +kernel
theorem dX12_butt_99 : decode kX12_butt.2.1 99 = .ok (.bipush 20, 2) := by decide +kernel
theorem dX12_butt_101 : decode kX12_butt.2.1 101 = .ok (.invokevirtual 182, 3) := by decide +kernel
theorem dX12_butt_104 : decode kX12_butt.2.1 104 = .ok (.iastore, 1) := by decide +kernel
theorem dX12_butt_105 : decode kX12_butt.2.1 105 = .ok (.aload_n 0, 1) := by decide +kernel
theorem dX12_butt_106 : decode kX12_butt.2.1 106 = .ok (.invokevirtual 199, 3) := by decide +kernel
theorem dX12_butt_109 : decode kX12_butt.2.1 109 = .ok (.aload_n 0, 1) := by decide +kernel
theorem dX12_butt_110 : decode kX12_butt.2.1 110 = .ok (.getfield 126, 3) := by decide +kernel
theorem dX12_butt_113 : decode kX12_butt.2.1 113 = .ok (.ifCond .ne 23, 3) := by decide +kernel
theorem dX12_butt_116 : decode kX12_butt.2.1 116 = .ok (.aload_n 0, 1) := by decide +kernel
theorem dX12_butt_117 : decode kX12_butt.2.1 117 = .ok (.getfield 108, 3) := by decide +kernel
theorem dX12_butt_120 : decode kX12_butt.2.1 120 = .ok (.bipush 24, 2) := by decide +kernel
theorem dX12_butt_122 : decode kX12_butt.2.1 122 = .ok (.if_icmp .eq 14, 3) := by decide +kernel
theorem dX12_butt_125 : decode kX12_butt.2.1 125 = .ok (.aload_n 0, 1) := by decide +kernel
theorem dX12_butt_126 : decode kX12_butt.2.1 126 = .ok (.invokevirtual 202, 3) := by decide +kernel
theorem dX12_butt_129 : decode kX12_butt.2.1 129 = .ok (.aload_n 0, 1) := by decide +kernel
theorem dX12_butt_130 : decode kX12_butt.2.1 130 = .ok (.invokevirtual 199, 3) := by decide +kernel
theorem dX12_butt_133 : decode kX12_butt.2.1 133 = .ok (.goto (-24), 3) := by decide +kernel
theorem dX12_butt_136 : decode kX12_butt.2.1 136 = .ok (.aload_n 0, 1) := by decide +kernel
theorem dX12_butt_137 : decode kX12_butt.2.1 137 = .ok (.aload_n 0, 1) := by decide +kernel
theorem dX12_butt_138 : decode kX12_butt.2.1 138 = .ok (.getfield 126, 3) := by decide +kernel
theorem dX12_butt_141 : decode kX12_butt.2.1 141 = .ok (.putfield 205, 3) := by decide +kernel
theorem dX12_butt_144 : decode kX12_butt.2.1 144 = .ok (.aload_n 0, 1) := by decide +kernel
theorem dX12_butt_145 : decode kX12_butt.2.1 145 = .ok (.aload_n 0, 1) := by decide +kernel
theorem dX12_butt_146 : decode kX12_butt.2.1 146 = .ok (.getfield 126, 3) := by decide +kernel
theorem dX12_butt_149 : decode kX12_butt.2.1 149 = .ok (.ifCond .ne 7, 3) := by decide +kernel
theorem dX12_butt_152 : decode kX12_butt.2.1 152 = .ok (.iconst (-1), 1) := by decide +kernel
theorem dX12_butt_153 : decode kX12_butt.2.1 153 = .ok (.goto 7, 3) := by decide +kernel
theorem dX12_butt_156 : decode kX12_butt.2.1 156 = .ok (.aload_n 0, 1) := by decide +kernel
theorem dX12_butt_157 : decode kX12_butt.2.1 157 = .ok (.getfield 129, 3) := by decide +kernel
theorem dX12_butt_160 : decode kX12_butt.2.1 160 = .ok (.putfield 27, 3) := by decide +kernel
theorem dX12_butt_163 : decode kX12_butt.2.1 163 = .ok (.aload_n 0, 1) := by decide +kernel
theorem dX12_butt_164 : decode kX12_butt.2.1 164 = .ok (.getfield 126, 3) := by decide +kernel
theorem dX12_butt_167 : decode kX12_butt.2.1 167 = .ok (.ifCond .eq 11, 3) := by decide +kernel
theorem dX12_butt_170 : decode kX12_butt.2.1 170 = .ok (.bipush (-30), 2) := by decide +kernel
theorem dX12_butt_172 : decode kX12_butt.2.1 172 = .ok (.aload_n 0, 1) := by decide +kernel
theorem dX12_butt_173 : decode kX12_butt.2.1 173 = .ok (.getfield 126, 3) := by decide +kernel
theorem dX12_butt_176 : decode kX12_butt.2.1 176 = .ok (.isub, 1) := by decide +kernel
theorem dX12_butt_177 : decode kX12_butt.2.1 177 = .ok (.ireturn, 1) := by decide +kernel
theorem dX12_butt_178 : decode kX12_butt.2.1 178 = .ok (.iconst 0, 1) := by decide +kernel
theorem dX12_butt_179 : decode kX12_butt.2.1 179 = .ok (.istore_n 2, 1) := by decide +kernel
theorem dX12_butt_180 : decode kX12_butt.2.1 180 = .ok (.iload_n 2, 1) := by decide +kernel
theorem dX12_butt_181 : decode kX12_butt.2.1 181 = .ok (.sipush 1040, 3) := by decide +kernel
theorem dX12_butt_184 : decode kX12_butt.2.1 184 = .ok (.if_icmp .ge 21, 3) := by decide +kernel
theorem dX12_butt_187 : decode kX12_butt.2.1 187 = .ok (.aload_n 0, 1) := by decide +kernel
theorem dX12_butt_188 : decode kX12_butt.2.1 188 = .ok (.getfield 13, 3) := by decide +kernel
theorem dX12_butt_191 : decode kX12_butt.2.1 191 = .ok (.iload_n 2, 1) := by decide +kernel
theorem dX12_butt_192 : decode kX12_butt.2.1 192 = .ok (.aload_n 0, 1) := by decide +kernel
theorem dX12_butt_193 : decode kX12_butt.2.1 193 = .ok (.getfield 24, 3) := by decide +kernel
theorem dX12_butt_196 : decode kX12_butt.2.1 196 = .ok (.iload_n 2, 1) := by decide +kernel
theorem dX12_butt_197 : decode kX12_butt.2.1 197 = .ok (.iaload, 1) := by decide +kernel
theorem dX12_butt_198 : decode kX12_butt.2.1 198 = .ok (.iastore, 1) := by decide +kernel
theorem dX12_butt_199 : decode kX12_butt.2.1 199 = .ok (.iinc 2 1, 3) := by decide +kernel
theorem dX12_butt_202 : decode kX12_butt.2.1 202 = .ok (.goto (-22), 3) := by decide +kernel
theorem dX12_butt_205 : decode kX12_butt.2.1 205 = .ok (.aload_n 0, 1) := by decide +kernel
theorem dX12_butt_206 : decode kX12_butt.2.1 206 = .ok (.getfield 13, 3) := by decide +kernel
theorem dX12_butt_209 : decode kX12_butt.2.1 209 = .ok (.iconst 0, 1) := by decide +kernel
theorem dX12_butt_210 : decode kX12_butt.2.1 210 = .ok (.iaload, 1) := by decide +kernel
theorem dX12_butt_211 : decode kX12_butt.2.1 211 = .ok (.ireturn, 1) := by decide +kernel
theorem dX12_fault_0 : decode kX12_fault.2.1 0 = .ok (.aload_n 0, 1) := by decide +kernel
theorem dX12_fault_1 : decode kX12_fault.2.1 1 = .ok (.iconst 0, 1) := by decide +kernel
theorem dX12_fault_2 : decode kX12_fault.2.1 2 = .ok (.putfield 1, 3) := by decide +kernel
theorem dX12_fault_5 : decode kX12_fault.2.1 5 = .ok (.iload_n 1, 1) := by decide +kernel
theorem dX12_fault_6 : decode kX12_fault.2.1 6 = .ok (.ifCond .ne 10, 3) := by decide +kernel
theorem dX12_fault_9 : decode kX12_fault.2.1 9 = .ok (.aload_n 0, 1) := by decide +kernel
theorem dX12_fault_10 : decode kX12_fault.2.1 10 = .ok (.getfield 205, 3) := by decide +kernel
theorem dX12_fault_13 : decode kX12_fault.2.1 13 = .ok (.goto 16, 3) := by decide +kernel
theorem dX12_fault_16 : decode kX12_fault.2.1 16 = .ok (.iload_n 1, 1) := by decide +kernel
theorem dX12_fault_17 : decode kX12_fault.2.1 17 = .ok (.iconst 1, 1) := by decide +kernel
theorem dX12_fault_18 : decode kX12_fault.2.1 18 = .ok (.if_icmp .ne 10, 3) := by decide +kernel
theorem dX12_fault_21 : decode kX12_fault.2.1 21 = .ok (.aload_n 0, 1) := by decide +kernel
theorem dX12_fault_22 : decode kX12_fault.2.1 22 = .ok (.getfield 27, 3) := by decide +kernel
theorem dX12_fault_25 : decode kX12_fault.2.1 25 = .ok (.goto 4, 3) := by decide +kernel
theorem dX12_fault_28 : decode kX12_fault.2.1 28 = .ok (.iconst (-1), 1) := by decide +kernel
theorem dX12_fault_29 : decode kX12_fault.2.1 29 = .ok (.ireturn, 1) := by decide +kernel
theorem dX12_isShooter_0 : decode kX12_isShooter.2.1 0 = .ok (.lload_n 1, 1) := by decide +kernel
theorem dX12_isShooter_1 : decode kX12_isShooter.2.1 1 = .ok (.lconst 0, 1) := by decide +kernel
theorem dX12_isShooter_2 : decode kX12_isShooter.2.1 2 = .ok (.aload_n 0, 1) := by decide +kernel
theorem dX12_isShooter_3 : decode kX12_isShooter.2.1 3 = .ok (.getfield 13, 3) := by decide +kernel
theorem dX12_isShooter_6 : decode kX12_isShooter.2.1 6 = .ok (.bipush 6, 2) := by decide +kernel
theorem dX12_isShooter_8 : decode kX12_isShooter.2.1 8 = .ok (.iaload, 1) := by decide +kernel
theorem dX12_isShooter_9 : decode kX12_isShooter.2.1 9 = .ok (.iconst 1, 1) := by decide +kernel
theorem dX12_isShooter_10 : decode kX12_isShooter.2.1 10 = .ok (.isub, 1) := by decide +kernel
theorem dX12_isShooter_11 : decode kX12_isShooter.2.1 11 = .ok (.i2l, 1) := by decide +kernel
theorem dX12_isShooter_12 : decode kX12_isShooter.2.1 12 = .ok (.invokestatic 142, 3) := by decide +kernel
theorem dX12_isShooter_15 : decode kX12_isShooter.2.1 15 = .ok (.ireturn, 1) := by decide +kernel
theorem dX12_isPlace_0 : decode kX12_isPlace.2.1 0 = .ok (.lload_n 0, 1) := by decide +kernel
theorem dX12_isPlace_1 : decode kX12_isPlace.2.1 1 = .ok (.lconst 0, 1) := by decide +kernel
theorem dX12_isPlace_2 : decode kX12_isPlace.2.1 2 = .ok (.ldc2_w 208, 3) := by decide +kernel
theorem dX12_isPlace_5 : decode kX12_isPlace.2.1 5 = .ok (.invokestatic 142, 3) := by decide +kernel
theorem dX12_isPlace_8 : decode kX12_isPlace.2.1 8 = .ok (.ireturn, 1) := by decide +kernel
theorem dX12_isLot_0 : decode kX12_isLot.2.1 0 = .ok (.lload_n 0, 1) := by decide +kernel
theorem dX12_isLot_1 : decode kX12_isLot.2.1 1 = .ok (.lconst 0, 1) := by decide +kernel
theorem dX12_isLot_2 : decode kX12_isLot.2.1 2 = .ok (.ldc2_w 210, 3) := by decide +kernel
theorem dX12_isLot_5 : decode kX12_isLot.2.1 5 = .ok (.invokestatic 142, 3) := by decide +kernel
theorem dX12_isLot_8 : decode kX12_isLot.2.1 8 = .ok (.ireturn, 1) := by decide +kernel
theorem dX12_kept_0 : decode kX12_kept.2.1 0 = .ok (.iload_n 0, 1) := by decide +kernel
theorem dX12_kept_1 : decode kX12_kept.2.1 1 = .ok (.iload_n 1, 1) := by decide +kernel
theorem dX12_kept_2 : decode kX12_kept.2.1 2 = .ok (.if_icmp .ge 7, 3) := by decide +kernel
theorem dX12_kept_5 : decode kX12_kept.2.1 5 = .ok (.iload_n 1, 1) := by decide +kernel
theorem dX12_kept_6 : decode kX12_kept.2.1 6 = .ok (.goto 13, 3) := by decide +kernel
theorem dX12_kept_9 : decode kX12_kept.2.1 9 = .ok (.iload_n 0, 1) := by decide +kernel
theorem dX12_kept_10 : decode kX12_kept.2.1 10 = .ok (.iload_n 2, 1) := by decide +kernel
theorem dX12_kept_11 : decode kX12_kept.2.1 11 = .ok (.if_icmp .le 7, 3) := by decide +kernel
theorem dX12_kept_14 : decode kX12_kept.2.1 14 = .ok (.iload_n 2, 1) := by decide +kernel
theorem dX12_kept_15 : decode kX12_kept.2.1 15 = .ok (.goto 4, 3) := by decide +kernel
theorem dX12_kept_18 : decode kX12_kept.2.1 18 = .ok (.iload_n 0, 1) := by decide +kernel
theorem dX12_kept_19 : decode kX12_kept.2.1 19 = .ok (.ireturn, 1) := by decide +kernel
theorem dX12_between_0 : decode kX12_between.2.1 0 = .ok (.iload_n 0, 1) := by decide +kernel
theorem dX12_between_1 : decode kX12_between.2.1 1 = .ok (.tableswitch 80 3003 3008 #[39, 50, 61, 80, 72, 76], 39) := by decide +kernel
theorem dX12_between_40 : decode kX12_between.2.1 40 = .ok (.iload_n 1, 1) := by decide +kernel
theorem dX12_between_41 : decode kX12_between.2.1 41 = .ok (.iload_n 2, 1) := by decide +kernel
theorem dX12_between_42 : decode kX12_between.2.1 42 = .ok (.if_icmp .ne 7, 3) := by decide +kernel
theorem dX12_between_45 : decode kX12_between.2.1 45 = .ok (.iconst 1, 1) := by decide +kernel
theorem dX12_between_46 : decode kX12_between.2.1 46 = .ok (.goto 4, 3) := by decide +kernel
theorem dX12_between_49 : decode kX12_between.2.1 49 = .ok (.iconst 0, 1) := by decide +kernel
theorem dX12_between_50 : decode kX12_between.2.1 50 = .ok (.ireturn, 1) := by decide +kernel
theorem dX12_between_51 : decode kX12_between.2.1 51 = .ok (.iload_n 1, 1) := by decide +kernel
theorem dX12_between_52 : decode kX12_between.2.1 52 = .ok (.iload_n 2, 1) := by decide +kernel
theorem dX12_between_53 : decode kX12_between.2.1 53 = .ok (.if_icmp .ge 7, 3) := by decide +kernel
theorem dX12_between_56 : decode kX12_between.2.1 56 = .ok (.iconst 1, 1) := by decide +kernel
theorem dX12_between_57 : decode kX12_between.2.1 57 = .ok (.goto 4, 3) := by decide +kernel
theorem dX12_between_60 : decode kX12_between.2.1 60 = .ok (.iconst 0, 1) := by decide +kernel
theorem dX12_between_61 : decode kX12_between.2.1 61 = .ok (.ireturn, 1) := by decide +kernel
theorem dX12_between_62 : decode kX12_between.2.1 62 = .ok (.iload_n 1, 1) := by decide +kernel
theorem dX12_between_63 : decode kX12_between.2.1 63 = .ok (.iload_n 2, 1) := by decide +kernel
theorem dX12_between_64 : decode kX12_between.2.1 64 = .ok (.if_icmp .le 7, 3) := by decide +kernel
theorem dX12_between_67 : decode kX12_between.2.1 67 = .ok (.iconst 1, 1) := by decide +kernel
theorem dX12_between_68 : decode kX12_between.2.1 68 = .ok (.goto 4, 3) := by decide +kernel
theorem dX12_between_71 : decode kX12_between.2.1 71 = .ok (.iconst 0, 1) := by decide +kernel
theorem dX12_between_72 : decode kX12_between.2.1 72 = .ok (.ireturn, 1) := by decide +kernel
theorem dX12_between_73 : decode kX12_between.2.1 73 = .ok (.iload_n 1, 1) := by decide +kernel
theorem dX12_between_74 : decode kX12_between.2.1 74 = .ok (.iload_n 2, 1) := by decide +kernel
theorem dX12_between_75 : decode kX12_between.2.1 75 = .ok (.iand, 1) := by decide +kernel
theorem dX12_between_76 : decode kX12_between.2.1 76 = .ok (.ireturn, 1) := by decide +kernel
theorem dX12_between_77 : decode kX12_between.2.1 77 = .ok (.iload_n 1, 1) := by decide +kernel
theorem dX12_between_78 : decode kX12_between.2.1 78 = .ok (.iload_n 2, 1) := by decide +kernel
theorem dX12_between_79 : decode kX12_between.2.1 79 = .ok (.ior, 1) := by decide +kernel
theorem dX12_between_80 : decode kX12_between.2.1 80 = .ok (.ireturn, 1) := by decide +kernel
theorem dX12_between_81 : decode kX12_between.2.1 81 = .ok (.iload_n 0, 1) := by decide +kernel
theorem dX12_between_82 : decode kX12_between.2.1 82 = .ok (.sipush 3000, 3) := by decide +kernel
theorem dX12_between_85 : decode kX12_between.2.1 85 = .ok (.if_icmp .ne 11, 3) := by decide +kernel
theorem dX12_between_88 : decode kX12_between.2.1 88 = .ok (.iload_n 1, 1) := by decide +kernel
theorem dX12_between_89 : decode kX12_between.2.1 89 = .ok (.i2l, 1) := by decide +kernel
theorem dX12_between_90 : decode kX12_between.2.1 90 = .ok (.iload_n 2, 1) := by decide +kernel
theorem dX12_between_91 : decode kX12_between.2.1 91 = .ok (.i2l, 1) := by decide +kernel
theorem dX12_between_92 : decode kX12_between.2.1 92 = .ok (.ladd, 1) := by decide +kernel
theorem dX12_between_93 : decode kX12_between.2.1 93 = .ok (.goto 23, 3) := by decide +kernel
theorem dX12_between_96 : decode kX12_between.2.1 96 = .ok (.iload_n 0, 1) := by decide +kernel
theorem dX12_between_97 : decode kX12_between.2.1 97 = .ok (.sipush 3001, 3) := by decide +kernel
theorem dX12_between_100 : decode kX12_between.2.1 100 = .ok (.if_icmp .ne 11, 3) := by decide +kernel
theorem dX12_between_103 : decode kX12_between.2.1 103 = .ok (.iload_n 1, 1) := by decide +kernel
theorem dX12_between_104 : decode kX12_between.2.1 104 = .ok (.i2l, 1) := by decide +kernel
theorem dX12_between_105 : decode kX12_between.2.1 105 = .ok (.iload_n 2, 1) := by decide +kernel
theorem dX12_between_106 : decode kX12_between.2.1 106 = .ok (.i2l, 1) := by decide +kernel
theorem dX12_between_107 : decode kX12_between.2.1 107 = .ok (.lsub, 1) := by decide +kernel
theorem dX12_between_108 : decode kX12_between.2.1 108 = .ok (.goto 8, 3) := by decide +kernel
theorem dX12_between_111 : decode kX12_between.2.1 111 = .ok (.iload_n 1, 1) := by decide +kernel
theorem dX12_between_112 : decode kX12_between.2.1 112 = .ok (.i2l, 1) := by decide +kernel
theorem dX12_between_113 : decode kX12_between.2.1 113 = .ok (.iload_n 2, 1) := by decide +kernel
theorem dX12_between_114 : decode kX12_between.2.1 114 = .ok (.i2l, 1) := by decide +kernel
theorem dX12_between_115 : decode kX12_between.2.1 115 = .ok (.lmul, 1) := by decide +kernel
theorem dX12_between_116 : decode kX12_between.2.1 116 = .ok (.lstore_n 3, 1) := by decide +kernel
theorem dX12_between_117 : decode kX12_between.2.1 117 = .ok (.lload_n 3, 1) := by decide +kernel
theorem dX12_between_118 : decode kX12_between.2.1 118 = .ok (.ldc2_w 212, 3) := by decide +kernel
theorem dX12_between_121 : decode kX12_between.2.1 121 = .ok (.lcmp, 1) := by decide +kernel
theorem dX12_between_122 : decode kX12_between.2.1 122 = .ok (.ifCond .le 9, 3) := by decide +kernel
theorem dX12_between_125 : decode kX12_between.2.1 125 = .ok (.ldc2_w 212, 3) := by decide +kernel
theorem dX12_between_128 : decode kX12_between.2.1 128 = .ok (.goto 18, 3) := by decide +kernel
theorem dX12_between_131 : decode kX12_between.2.1 131 = .ok (.lload_n 3, 1) := by decide +kernel
theorem dX12_between_132 : decode kX12_between.2.1 132 = .ok (.ldc2_w 214, 3) := by decide +kernel
theorem dX12_between_135 : decode kX12_between.2.1 135 = .ok (.lcmp, 1) := by decide +kernel
theorem dX12_between_136 : decode kX12_between.2.1 136 = .ok (.ifCond .ge 9, 3) := by decide +kernel
theorem dX12_between_139 : decode kX12_between.2.1 139 = .ok (.ldc2_w 214, 3) := by decide +kernel
theorem dX12_between_142 : decode kX12_between.2.1 142 = .ok (.goto 4, 3) := by decide +kernel
theorem dX12_between_145 : decode kX12_between.2.1 145 = .ok (.lload_n 3, 1) := by decide +kernel
theorem dX12_between_146 : decode kX12_between.2.1 146 = .ok (.l2i, 1) := by decide +kernel
theorem dX12_between_147 : decode kX12_between.2.1 147 = .ok (.ireturn, 1) := by decide +kernel
theorem dX12_reckons_0 : decode kX12_reckons.2.1 0 = .ok (.iconst 0, 1) := by decide +kernel
theorem dX12_reckons_1 : decode kX12_reckons.2.1 1 = .ok (.istore_n 2, 1) := by decide +kernel
theorem dX12_reckons_2 : decode kX12_reckons.2.1 2 = .ok (.iconst 0, 1) := by decide +kernel
theorem dX12_reckons_3 : decode kX12_reckons.2.1 3 = .ok (.istore_n 3, 1) := by decide +kernel
theorem dX12_reckons_4 : decode kX12_reckons.2.1 4 = .ok (.iload_n 3, 1) := by decide +kernel
theorem dX12_reckons_5 : decode kX12_reckons.2.1 5 = .ok (.aload_n 0, 1) := by decide +kernel
theorem dX12_reckons_6 : decode kX12_reckons.2.1 6 = .ok (.getfield 13, 3) := by decide +kernel
theorem dX12_reckons_9 : decode kX12_reckons.2.1 9 = .ok (.bipush 11, 2) := by decide +kernel
theorem dX12_reckons_11 : decode kX12_reckons.2.1 11 = .ok (.iload_n 1, 1) := by decide +kernel
theorem dX12_reckons_12 : decode kX12_reckons.2.1 12 = .ok (.iadd, 1) := by decide +kernel
theorem dX12_reckons_13 : decode kX12_reckons.2.1 13 = .ok (.iaload, 1) := by decide +kernel
theorem dX12_reckons_14 : decode kX12_reckons.2.1 14 = .ok (.if_icmp .ge 185, 3) := by decide +kernel
theorem dX12_reckons_17 : decode kX12_reckons.2.1 17 = .ok (.aload_n 0, 1) := by decide +kernel
theorem dX12_reckons_18 : decode kX12_reckons.2.1 18 = .ok (.getfield 13, 3) := by decide +kernel
theorem dX12_reckons_21 : decode kX12_reckons.2.1 21 = .ok (.sipush 140, 3) := by decide +kernel
theorem dX12_reckons_24 : decode kX12_reckons.2.1 24 = .ok (.aload_n 0, 1) := by decide +kernel
theorem dX12_reckons_25 : decode kX12_reckons.2.1 25 = .ok (.getfield 13, 3) := by decide +kernel
theorem dX12_reckons_28 : decode kX12_reckons.2.1 28 = .ok (.bipush 9, 2) := by decide +kernel
theorem dX12_reckons_30 : decode kX12_reckons.2.1 30 = .ok (.iload_n 1, 1) := by decide +kernel
theorem dX12_reckons_31 : decode kX12_reckons.2.1 31 = .ok (.iadd, 1) := by decide +kernel
theorem dX12_reckons_32 : decode kX12_reckons.2.1 32 = .ok (.iaload, 1) := by decide +kernel
theorem dX12_reckons_33 : decode kX12_reckons.2.1 33 = .ok (.iadd, 1) := by decide +kernel
theorem dX12_reckons_34 : decode kX12_reckons.2.1 34 = .ok (.iload_n 3, 1) := by decide +kernel
theorem dX12_reckons_35 : decode kX12_reckons.2.1 35 = .ok (.iadd, 1) := by decide +kernel
theorem dX12_reckons_36 : decode kX12_reckons.2.1 36 = .ok (.iaload, 1) := by decide +kernel
theorem dX12_reckons_37 : decode kX12_reckons.2.1 37 = .ok (.istore 4, 2) := by decide +kernel
theorem dX12_reckons_39 : decode kX12_reckons.2.1 39 = .ok (.iload 4, 2) := by decide +kernel
theorem dX12_reckons_41 : decode kX12_reckons.2.1 41 = .ok (.sipush 3000, 3) := by decide +kernel
theorem dX12_reckons_44 : decode kX12_reckons.2.1 44 = .ok (.if_icmp .ge 39, 3) := by decide +kernel
theorem dX12_reckons_47 : decode kX12_reckons.2.1 47 = .ok (.aload_n 0, 1) := by decide +kernel
theorem dX12_reckons_48 : decode kX12_reckons.2.1 48 = .ok (.getfield 30, 3) := by decide +kernel
theorem dX12_reckons_51 : decode kX12_reckons.2.1 51 = .ok (.iload_n 2, 1) := by decide +kernel
theorem dX12_reckons_52 : decode kX12_reckons.2.1 52 = .ok (.iload 4, 2) := by decide +kernel
theorem dX12_reckons_54 : decode kX12_reckons.2.1 54 = .ok (.sipush 1000, 3) := by decide +kernel
theorem dX12_reckons_57 : decode kX12_reckons.2.1 57 = .ok (.if_icmp .ge 8, 3) := by decide +kernel
theorem dX12_reckons_60 : decode kX12_reckons.2.1 60 = .ok (.iload 4, 2) := by decide +kernel
theorem dX12_reckons_62 : decode kX12_reckons.2.1 62 = .ok (.goto 14, 3) := by decide +kernel
theorem dX12_reckons_65 : decode kX12_reckons.2.1 65 = .ok (.aload_n 0, 1) := by decide +kernel
theorem dX12_reckons_66 : decode kX12_reckons.2.1 66 = .ok (.getfield 33, 3) := by decide +kernel
theorem dX12_reckons_69 : decode kX12_reckons.2.1 69 = .ok (.iload 4, 2) := by decide +kernel
theorem dX12_reckons_71 : decode kX12_reckons.2.1 71 = .ok (.sipush 1000, 3) := by decide +kernel
theorem dX12_reckons_74 : decode kX12_reckons.2.1 74 = .ok (.isub, 1) := by decide +kernel
theorem dX12_reckons_75 : decode kX12_reckons.2.1 75 = .ok (.iaload, 1) := by decide +kernel
theorem dX12_reckons_76 : decode kX12_reckons.2.1 76 = .ok (.iastore, 1) := by decide +kernel
theorem dX12_reckons_77 : decode kX12_reckons.2.1 77 = .ok (.iinc 2 1, 3) := by decide +kernel
theorem dX12_reckons_80 : decode kX12_reckons.2.1 80 = .ok (.goto 113, 3) := by decide +kernel
theorem dX12_reckons_83 : decode kX12_reckons.2.1 83 = .ok (.iload 4, 2) := by decide +kernel
theorem dX12_reckons_85 : decode kX12_reckons.2.1 85 = .ok (.sipush 3006, 3) := by decide +kernel
theorem dX12_reckons_88 : decode kX12_reckons.2.1 88 = .ok (.if_icmp .ne 24, 3) := by decide +kernel
theorem dX12_reckons_91 : decode kX12_reckons.2.1 91 = .ok (.aload_n 0, 1) := by decide +kernel
theorem dX12_reckons_92 : decode kX12_reckons.2.1 92 = .ok (.getfield 30, 3) := by decide +kernel
theorem dX12_reckons_95 : decode kX12_reckons.2.1 95 = .ok (.iload_n 2, 1) := by decide +kernel
theorem dX12_reckons_96 : decode kX12_reckons.2.1 96 = .ok (.iconst 1, 1) := by decide +kernel
theorem dX12_reckons_97 : decode kX12_reckons.2.1 97 = .ok (.isub, 1) := by decide +kernel
theorem dX12_reckons_98 : decode kX12_reckons.2.1 98 = .ok (.iconst 1, 1) := by decide +kernel
theorem dX12_reckons_99 : decode kX12_reckons.2.1 99 = .ok (.aload_n 0, 1) := by decide +kernel
theorem dX12_reckons_100 : decode kX12_reckons.2.1 100 = .ok (.getfield 30, 3) := by decide +kernel
theorem dX12_reckons_103 : decode kX12_reckons.2.1 103 = .ok (.iload_n 2, 1) := by decide +kernel
theorem dX12_reckons_104 : decode kX12_reckons.2.1 104 = .ok (.iconst 1, 1) := by decide +kernel
theorem dX12_reckons_105 : decode kX12_reckons.2.1 105 = .ok (.isub, 1) := by decide +kernel
theorem dX12_reckons_106 : decode kX12_reckons.2.1 106 = .ok (.iaload, 1) := by decide +kernel
theorem dX12_reckons_107 : decode kX12_reckons.2.1 107 = .ok (.isub, 1) := by decide +kernel
theorem dX12_reckons_108 : decode kX12_reckons.2.1 108 = .ok (.iastore, 1) := by decide +kernel
theorem dX12_reckons_109 : decode kX12_reckons.2.1 109 = .ok (.goto 84, 3) := by decide +kernel
theorem dX12_reckons_112 : decode kX12_reckons.2.1 112 = .ok (.iload 4, 2) := by decide +kernel
theorem dX12_reckons_114 : decode kX12_reckons.2.1 114 = .ok (.sipush 3009, 3) := by decide +kernel
theorem dX12_reckons_117 : decode kX12_reckons.2.1 117 = .ok (.if_icmp .ne 46, 3) := by decide +kernel
theorem dX12_reckons_120 : decode kX12_reckons.2.1 120 = .ok (.iinc 2 (-2), 3) := by decide +kernel
theorem dX12_reckons_123 : decode kX12_reckons.2.1 123 = .ok (.aload_n 0, 1) := by decide +kernel
theorem dX12_reckons_124 : decode kX12_reckons.2.1 124 = .ok (.getfield 30, 3) := by decide +kernel
theorem dX12_reckons_127 : decode kX12_reckons.2.1 127 = .ok (.iload_n 2, 1) := by decide +kernel
theorem dX12_reckons_128 : decode kX12_reckons.2.1 128 = .ok (.iconst 1, 1) := by decide +kernel
theorem dX12_reckons_129 : decode kX12_reckons.2.1 129 = .ok (.isub, 1) := by decide +kernel
theorem dX12_reckons_130 : decode kX12_reckons.2.1 130 = .ok (.aload_n 0, 1) := by decide +kernel
theorem dX12_reckons_131 : decode kX12_reckons.2.1 131 = .ok (.getfield 30, 3) := by decide +kernel
theorem dX12_reckons_134 : decode kX12_reckons.2.1 134 = .ok (.iload_n 2, 1) := by decide +kernel
theorem dX12_reckons_135 : decode kX12_reckons.2.1 135 = .ok (.iconst 1, 1) := by decide +kernel
theorem dX12_reckons_136 : decode kX12_reckons.2.1 136 = .ok (.isub, 1) := by decide +kernel
theorem dX12_reckons_137 : decode kX12_reckons.2.1 137 = .ok (.iaload, 1) := by decide +kernel
theorem dX12_reckons_138 : decode kX12_reckons.2.1 138 = .ok (.iconst 1, 1) := by decide +kernel
theorem dX12_reckons_139 : decode kX12_reckons.2.1 139 = .ok (.if_icmp .ne 12, 3) := by decide +kernel
theorem dX12_reckons_142 : decode kX12_reckons.2.1 142 = .ok (.aload_n 0, 1) := by decide +kernel
theorem dX12_reckons_143 : decode kX12_reckons.2.1 143 = .ok (.getfield 30, 3) := by decide +kernel
theorem dX12_reckons_146 : decode kX12_reckons.2.1 146 = .ok (.iload_n 2, 1) := by decide +kernel
theorem dX12_reckons_147 : decode kX12_reckons.2.1 147 = .ok (.iaload, 1) := by decide +kernel
theorem dX12_reckons_148 : decode kX12_reckons.2.1 148 = .ok (.goto 11, 3) := by decide +kernel
theorem dX12_reckons_151 : decode kX12_reckons.2.1 151 = .ok (.aload_n 0, 1) := by decide +kernel
theorem dX12_reckons_152 : decode kX12_reckons.2.1 152 = .ok (.getfield 30, 3) := by decide +kernel
theorem dX12_reckons_155 : decode kX12_reckons.2.1 155 = .ok (.iload_n 2, 1) := by decide +kernel
theorem dX12_reckons_156 : decode kX12_reckons.2.1 156 = .ok (.iconst 1, 1) := by decide +kernel
theorem dX12_reckons_157 : decode kX12_reckons.2.1 157 = .ok (.iadd, 1) := by decide +kernel
theorem dX12_reckons_158 : decode kX12_reckons.2.1 158 = .ok (.iaload, 1) := by decide +kernel
theorem dX12_reckons_159 : decode kX12_reckons.2.1 159 = .ok (.iastore, 1) := by decide +kernel
theorem dX12_reckons_160 : decode kX12_reckons.2.1 160 = .ok (.goto 33, 3) := by decide +kernel
theorem dX12_reckons_163 : decode kX12_reckons.2.1 163 = .ok (.iinc 2 (-1), 3) := by decide +kernel
theorem dX12_reckons_166 : decode kX12_reckons.2.1 166 = .ok (.aload_n 0, 1) := by decide +kernel
theorem dX12_reckons_167 : decode kX12_reckons.2.1 167 = .ok (.getfield 30, 3) := by decide +kernel
theorem dX12_reckons_170 : decode kX12_reckons.2.1 170 = .ok (.iload_n 2, 1) := by decide +kernel
theorem dX12_reckons_171 : decode kX12_reckons.2.1 171 = .ok (.iconst 1, 1) := by decide +kernel
theorem dX12_reckons_172 : decode kX12_reckons.2.1 172 = .ok (.isub, 1) := by decide +kernel
theorem dX12_reckons_173 : decode kX12_reckons.2.1 173 = .ok (.iload 4, 2) := by decide +kernel
theorem dX12_reckons_175 : decode kX12_reckons.2.1 175 = .ok (.aload_n 0, 1) := by decide +kernel
theorem dX12_reckons_176 : decode kX12_reckons.2.1 176 = .ok (.getfield 30, 3) := by decide +kernel
theorem dX12_reckons_179 : decode kX12_reckons.2.1 179 = .ok (.iload_n 2, 1) := by decide +kernel
theorem dX12_reckons_180 : decode kX12_reckons.2.1 180 = .ok (.iconst 1, 1) := by decide +kernel
theorem dX12_reckons_181 : decode kX12_reckons.2.1 181 = .ok (.isub, 1) := by decide +kernel
theorem dX12_reckons_182 : decode kX12_reckons.2.1 182 = .ok (.iaload, 1) := by decide +kernel
theorem dX12_reckons_183 : decode kX12_reckons.2.1 183 = .ok (.aload_n 0, 1) := by decide +kernel
theorem dX12_reckons_184 : decode kX12_reckons.2.1 184 = .ok (.getfield 30, 3) := by decide +kernel
theorem dX12_reckons_187 : decode kX12_reckons.2.1 187 = .ok (.iload_n 2, 1) := by decide +kernel
theorem dX12_reckons_188 : decode kX12_reckons.2.1 188 = .ok (.iaload, 1) := by decide +kernel
theorem dX12_reckons_189 : decode kX12_reckons.2.1 189 = .ok (.invokestatic 216, 3) := by decide +kernel
theorem dX12_reckons_192 : decode kX12_reckons.2.1 192 = .ok (.iastore, 1) := by decide +kernel
theorem dX12_reckons_193 : decode kX12_reckons.2.1 193 = .ok (.iinc 3 1, 3) := by decide +kernel
theorem dX12_reckons_196 : decode kX12_reckons.2.1 196 = .ok (.goto (-192), 3) := by decide +kernel
theorem dX12_reckons_199 : decode kX12_reckons.2.1 199 = .ok (.aload_n 0, 1) := by decide +kernel
theorem dX12_reckons_200 : decode kX12_reckons.2.1 200 = .ok (.getfield 30, 3) := by decide +kernel
theorem dX12_reckons_203 : decode kX12_reckons.2.1 203 = .ok (.iconst 0, 1) := by decide +kernel
theorem dX12_reckons_204 : decode kX12_reckons.2.1 204 = .ok (.iaload, 1) := by decide +kernel
theorem dX12_reckons_205 : decode kX12_reckons.2.1 205 = .ok (.ireturn, 1) := by decide +kernel
theorem dX12_landsBy_0 : decode kX12_landsBy.2.1 0 = .ok (.aload_n 0, 1) := by decide +kernel
theorem dX12_landsBy_1 : decode kX12_landsBy.2.1 1 = .ok (.getfield 33, 3) := by decide +kernel
theorem dX12_landsBy_4 : decode kX12_landsBy.2.1 4 = .ok (.iconst 0, 1) := by decide +kernel
theorem dX12_landsBy_5 : decode kX12_landsBy.2.1 5 = .ok (.iload 5, 2) := by decide +kernel
theorem dX12_landsBy_7 : decode kX12_landsBy.2.1 7 = .ok (.iastore, 1) := by decide +kernel
theorem dX12_landsBy_8 : decode kX12_landsBy.2.1 8 = .ok (.aload_n 0, 1) := by decide +kernel
theorem dX12_landsBy_9 : decode kX12_landsBy.2.1 9 = .ok (.getfield 33, 3) := by decide +kernel
theorem dX12_landsBy_12 : decode kX12_landsBy.2.1 12 = .ok (.iconst 1, 1) := by decide +kernel
theorem dX12_landsBy_13 : decode kX12_landsBy.2.1 13 = .ok (.iload_n 3, 1) := by decide +kernel
theorem dX12_landsBy_14 : decode kX12_landsBy.2.1 14 = .ok (.iastore, 1) := by decide +kernel
theorem dX12_landsBy_15 : decode kX12_landsBy.2.1 15 = .ok (.aload_n 0, 1) := by decide +kernel
theorem dX12_landsBy_16 : decode kX12_landsBy.2.1 16 = .ok (.getfield 33, 3) := by decide +kernel
theorem dX12_landsBy_19 : decode kX12_landsBy.2.1 19 = .ok (.iconst 2, 1) := by decide +kernel
theorem dX12_landsBy_20 : decode kX12_landsBy.2.1 20 = .ok (.aload_n 0, 1) := by decide +kernel
theorem dX12_landsBy_21 : decode kX12_landsBy.2.1 21 = .ok (.getfield 13, 3) := by decide +kernel
theorem dX12_landsBy_24 : decode kX12_landsBy.2.1 24 = .ok (.bipush 13, 2) := by decide +kernel
theorem dX12_landsBy_26 : decode kX12_landsBy.2.1 26 = .ok (.iload_n 1, 1) := by decide +kernel
theorem dX12_landsBy_27 : decode kX12_landsBy.2.1 27 = .ok (.iadd, 1) := by decide +kernel
theorem dX12_landsBy_28 : decode kX12_landsBy.2.1 28 = .ok (.iaload, 1) := by decide +kernel
theorem dX12_landsBy_29 : decode kX12_landsBy.2.1 29 = .ok (.iastore, 1) := by decide +kernel
theorem dX12_landsBy_30 : decode kX12_landsBy.2.1 30 = .ok (.aload_n 0, 1) := by decide +kernel
theorem dX12_landsBy_31 : decode kX12_landsBy.2.1 31 = .ok (.getfield 33, 3) := by decide +kernel
theorem dX12_landsBy_34 : decode kX12_landsBy.2.1 34 = .ok (.iconst 3, 1) := by decide +kernel
theorem dX12_landsBy_35 : decode kX12_landsBy.2.1 35 = .ok (.iload 4, 2) := by decide +kernel
theorem dX12_landsBy_37 : decode kX12_landsBy.2.1 37 = .ok (.bipush 9, 2) := by decide +kernel
theorem dX12_landsBy_39 : decode kX12_landsBy.2.1 39 = .ok (.if_icmp .ge 8, 3) := by decide +kernel
theorem dX12_landsBy_42 : decode kX12_landsBy.2.1 42 = .ok (.iload 4, 2) := by decide +kernel
theorem dX12_landsBy_44 : decode kX12_landsBy.2.1 44 = .ok (.goto 5, 3) := by decide +kernel
theorem dX12_landsBy_47 : decode kX12_landsBy.2.1 47 = .ok (.bipush 9, 2) := by decide +kernel
theorem dX12_landsBy_49 : decode kX12_landsBy.2.1 49 = .ok (.iastore, 1) := by decide +kernel
theorem dX12_landsBy_50 : decode kX12_landsBy.2.1 50 = .ok (.aload_n 0, 1) := by decide +kernel
theorem dX12_landsBy_51 : decode kX12_landsBy.2.1 51 = .ok (.getfield 33, 3) := by decide +kernel
theorem dX12_landsBy_54 : decode kX12_landsBy.2.1 54 = .ok (.iconst 4, 1) := by decide +kernel
theorem dX12_landsBy_55 : decode kX12_landsBy.2.1 55 = .ok (.iload_n 2, 1) := by decide +kernel
theorem dX12_landsBy_56 : decode kX12_landsBy.2.1 56 = .ok (.iastore, 1) := by decide +kernel
theorem dX12_landsBy_57 : decode kX12_landsBy.2.1 57 = .ok (.aload_n 0, 1) := by decide +kernel
theorem dX12_landsBy_58 : decode kX12_landsBy.2.1 58 = .ok (.getfield 13, 3) := by decide +kernel
theorem dX12_landsBy_61 : decode kX12_landsBy.2.1 61 = .ok (.bipush 7, 2) := by decide +kernel
theorem dX12_landsBy_63 : decode kX12_landsBy.2.1 63 = .ok (.iaload, 1) := by decide +kernel
theorem dX12_landsBy_64 : decode kX12_landsBy.2.1 64 = .ok (.iconst 1, 1) := by decide +kernel
theorem dX12_landsBy_65 : decode kX12_landsBy.2.1 65 = .ok (.if_icmp .ne 11, 3) := by decide +kernel
theorem dX12_landsBy_68 : decode kX12_landsBy.2.1 68 = .ok (.aload_n 0, 1) := by decide +kernel
theorem dX12_landsBy_69 : decode kX12_landsBy.2.1 69 = .ok (.iconst 0, 1) := by decide +kernel
theorem dX12_landsBy_70 : decode kX12_landsBy.2.1 70 = .ok (.invokevirtual 219, 3) := by decide +kernel
theorem dX12_landsBy_73 : decode kX12_landsBy.2.1 73 = .ok (.goto 18, 3) := by decide +kernel
theorem dX12_landsBy_76 : decode kX12_landsBy.2.1 76 = .ok (.iload_n 3, 1) := by decide +kernel
theorem dX12_landsBy_77 : decode kX12_landsBy.2.1 77 = .ok (.iconst 5, 1) := by decide +kernel
theorem dX12_landsBy_78 : decode kX12_landsBy.2.1 78 = .ok (.isub, 1) := by decide +kernel
theorem dX12_landsBy_79 : decode kX12_landsBy.2.1 79 = .ok (.aload_n 0, 1) := by decide +kernel
theorem dX12_landsBy_80 : decode kX12_landsBy.2.1 80 = .ok (.getfield 13, 3) := by decide +kernel
theorem dX12_landsBy_83 : decode kX12_landsBy.2.1 83 = .ok (.bipush 13, 2) := by decide +kernel
theorem dX12_landsBy_85 : decode kX12_landsBy.2.1 85 = .ok (.iload_n 1, 1) := by decide +kernel
theorem dX12_landsBy_86 : decode kX12_landsBy.2.1 86 = .ok (.iadd, 1) := by decide +kernel
theorem dX12_landsBy_87 : decode kX12_landsBy.2.1 87 = .ok (.iaload, 1) := by decide +kernel
theorem dX12_landsBy_88 : decode kX12_landsBy.2.1 88 = .ok (.imul, 1) := by decide +kernel
theorem dX12_landsBy_89 : decode kX12_landsBy.2.1 89 = .ok (.iconst 5, 1) := by decide +kernel
theorem dX12_landsBy_90 : decode kX12_landsBy.2.1 90 = .ok (.idiv, 1) := by decide +kernel
theorem dX12_landsBy_91 : decode kX12_landsBy.2.1 91 = .ok (.istore 6, 2) := by decide +kernel
theorem dX12_landsBy_93 : decode kX12_landsBy.2.1 93 = .ok (.iload_n 2, 1) := by decide +kernel
theorem dX12_landsBy_94 : decode kX12_landsBy.2.1 94 = .ok (.iload 6, 2) := by decide +kernel
theorem dX12_landsBy_96 : decode kX12_landsBy.2.1 96 = .ok (.bipush (-9), 2) := by decide +kernel
theorem dX12_landsBy_98 : decode kX12_landsBy.2.1 98 = .ok (.bipush 9, 2) := by decide +kernel
theorem dX12_landsBy_100 : decode kX12_landsBy.2.1 100 = .ok (.invokestatic 222, 3) := by decide +kernel
theorem dX12_landsBy_103 : decode kX12_landsBy.2.1 103 = .ok (.iadd, 1) := by decide +kernel
theorem dX12_landsBy_104 : decode kX12_landsBy.2.1 104 = .ok (.iconst 0, 1) := by decide +kernel
theorem dX12_landsBy_105 : decode kX12_landsBy.2.1 105 = .ok (.bipush 20, 2) := by decide +kernel
theorem dX12_landsBy_107 : decode kX12_landsBy.2.1 107 = .ok (.invokestatic 222, 3) := by decide +kernel
theorem dX12_landsBy_110 : decode kX12_landsBy.2.1 110 = .ok (.ireturn, 1) := by decide +kernel
theorem dX12_landsNow_0 : decode kX12_landsNow.2.1 0 = .ok (.aload_n 0, 1) := by decide +kernel
theorem dX12_landsNow_1 : decode kX12_landsNow.2.1 1 = .ok (.iload_n 1, 1) := by decide +kernel
theorem dX12_landsNow_2 : decode kX12_landsNow.2.1 2 = .ok (.iload_n 2, 1) := by decide +kernel
theorem dX12_landsNow_3 : decode kX12_landsNow.2.1 3 = .ok (.iload_n 3, 1) := by decide +kernel
theorem dX12_landsNow_4 : decode kX12_landsNow.2.1 4 = .ok (.aload_n 0, 1) := by decide +kernel
theorem dX12_landsNow_5 : decode kX12_landsNow.2.1 5 = .ok (.getfield 13, 3) := by decide +kernel
theorem dX12_landsNow_8 : decode kX12_landsNow.2.1 8 = .ok (.bipush 21, 2) := by decide +kernel
theorem dX12_landsNow_10 : decode kX12_landsNow.2.1 10 = .ok (.iload_n 1, 1) := by decide +kernel
theorem dX12_landsNow_11 : decode kX12_landsNow.2.1 11 = .ok (.iadd, 1) := by decide +kernel
theorem dX12_landsNow_12 : decode kX12_landsNow.2.1 12 = .ok (.iaload, 1) := by decide +kernel
theorem dX12_landsNow_13 : decode kX12_landsNow.2.1 13 = .ok (.aload_n 0, 1) := by decide +kernel
theorem dX12_landsNow_14 : decode kX12_landsNow.2.1 14 = .ok (.getfield 13, 3) := by decide +kernel
theorem dX12_landsNow_17 : decode kX12_landsNow.2.1 17 = .ok (.bipush 26, 2) := by decide +kernel
theorem dX12_landsNow_19 : decode kX12_landsNow.2.1 19 = .ok (.iaload, 1) := by decide +kernel
theorem dX12_landsNow_20 : decode kX12_landsNow.2.1 20 = .ok (.invokevirtual 225, 3) := by decide +kernel
theorem dX12_landsNow_23 : decode kX12_landsNow.2.1 23 = .ok (.ireturn, 1) := by decide +kernel
theorem dX12_farOf_0 : decode kX12_farOf.2.1 0 = .ok (.iload_n 1, 1) := by decide +kernel
theorem dX12_farOf_1 : decode kX12_farOf.2.1 1 = .ok (.aload_n 0, 1) := by decide +kernel
theorem dX12_farOf_2 : decode kX12_farOf.2.1 2 = .ok (.getfield 13, 3) := by decide +kernel
theorem dX12_farOf_5 : decode kX12_farOf.2.1 5 = .ok (.iconst 1, 1) := by decide +kernel
theorem dX12_farOf_6 : decode kX12_farOf.2.1 6 = .ok (.iaload, 1) := by decide +kernel
theorem dX12_farOf_7 : decode kX12_farOf.2.1 7 = .ok (.if_icmp .ge 14, 3) := by decide +kernel
theorem dX12_farOf_10 : decode kX12_farOf.2.1 10 = .ok (.aload_n 0, 1) := by decide +kernel
theorem dX12_farOf_11 : decode kX12_farOf.2.1 11 = .ok (.getfield 13, 3) := by decide +kernel
theorem dX12_farOf_14 : decode kX12_farOf.2.1 14 = .ok (.iconst 1, 1) := by decide +kernel
theorem dX12_farOf_15 : decode kX12_farOf.2.1 15 = .ok (.iaload, 1) := by decide +kernel
theorem dX12_farOf_16 : decode kX12_farOf.2.1 16 = .ok (.iload_n 1, 1) := by decide +kernel
theorem dX12_farOf_17 : decode kX12_farOf.2.1 17 = .ok (.isub, 1) := by decide +kernel
theorem dX12_farOf_18 : decode kX12_farOf.2.1 18 = .ok (.goto 25, 3) := by decide +kernel
theorem dX12_farOf_21 : decode kX12_farOf.2.1 21 = .ok (.iload_n 1, 1) := by decide +kernel
theorem dX12_farOf_22 : decode kX12_farOf.2.1 22 = .ok (.aload_n 0, 1) := by decide +kernel
theorem dX12_farOf_23 : decode kX12_farOf.2.1 23 = .ok (.getfield 13, 3) := by decide +kernel
theorem dX12_farOf_26 : decode kX12_farOf.2.1 26 = .ok (.iconst 2, 1) := by decide +kernel
theorem dX12_farOf_27 : decode kX12_farOf.2.1 27 = .ok (.iaload, 1) := by decide +kernel
theorem dX12_farOf_28 : decode kX12_farOf.2.1 28 = .ok (.if_icmp .le 14, 3) := by decide +kernel
theorem dX12_farOf_31 : decode kX12_farOf.2.1 31 = .ok (.iload_n 1, 1) := by decide +kernel
theorem dX12_farOf_32 : decode kX12_farOf.2.1 32 = .ok (.aload_n 0, 1) := by decide +kernel
theorem dX12_farOf_33 : decode kX12_farOf.2.1 33 = .ok (.getfield 13, 3) := by decide +kernel
theorem dX12_farOf_36 : decode kX12_farOf.2.1 36 = .ok (.iconst 2, 1) := by decide +kernel
theorem dX12_farOf_37 : decode kX12_farOf.2.1 37 = .ok (.iaload, 1) := by decide +kernel
theorem dX12_farOf_38 : decode kX12_farOf.2.1 38 = .ok (.isub, 1) := by decide +kernel
theorem dX12_farOf_39 : decode kX12_farOf.2.1 39 = .ok (.goto 4, 3) := by decide +kernel
theorem dX12_farOf_42 : decode kX12_farOf.2.1 42 = .ok (.iconst 0, 1) := by decide +kernel
theorem dX12_farOf_43 : decode kX12_farOf.2.1 43 = .ok (.ireturn, 1) := by decide +kernel
theorem dX12_isOpen_0 : decode kX12_isOpen.2.1 0 = .ok (.aload_n 0, 1) := by decide +kernel
theorem dX12_isOpen_1 : decode kX12_isOpen.2.1 1 = .ok (.getfield 13, 3) := by decide +kernel
theorem dX12_isOpen_4 : decode kX12_isOpen.2.1 4 = .ok (.bipush 8, 2) := by decide +kernel
theorem dX12_isOpen_6 : decode kX12_isOpen.2.1 6 = .ok (.iaload, 1) := by decide +kernel
theorem dX12_isOpen_7 : decode kX12_isOpen.2.1 7 = .ok (.ifCond .ne 16, 3) := by decide +kernel
theorem dX12_isOpen_10 : decode kX12_isOpen.2.1 10 = .ok (.iload_n 1, 1) := by decide +kernel
theorem dX12_isOpen_11 : decode kX12_isOpen.2.1 11 = .ok (.iconst 2, 1) := by decide +kernel
theorem dX12_isOpen_12 : decode kX12_isOpen.2.1 12 = .ok (.irem, 1) := by decide +kernel
theorem dX12_isOpen_13 : decode kX12_isOpen.2.1 13 = .ok (.iconst 1, 1) := by decide +kernel
theorem dX12_isOpen_14 : decode kX12_isOpen.2.1 14 = .ok (.if_icmp .ne 7, 3) := by decide +kernel
theorem dX12_isOpen_17 : decode kX12_isOpen.2.1 17 = .ok (.iconst 1, 1) := by decide +kernel
theorem dX12_isOpen_18 : decode kX12_isOpen.2.1 18 = .ok (.goto 4, 3) := by decide +kernel
theorem dX12_isOpen_21 : decode kX12_isOpen.2.1 21 = .ok (.iconst 0, 1) := by decide +kernel
theorem dX12_isOpen_22 : decode kX12_isOpen.2.1 22 = .ok (.ireturn, 1) := by decide +kernel
theorem dX12_isOpen_23 : decode kX12_isOpen.2.1 23 = .ok (.aload_n 0, 1) := by decide +kernel
theorem dX12_isOpen_24 : decode kX12_isOpen.2.1 24 = .ok (.getfield 33, 3) := by decide +kernel
theorem dX12_isOpen_27 : decode kX12_isOpen.2.1 27 = .ok (.iconst 0, 1) := by decide +kernel
theorem dX12_isOpen_28 : decode kX12_isOpen.2.1 28 = .ok (.aload_n 0, 1) := by decide +kernel
theorem dX12_isOpen_29 : decode kX12_isOpen.2.1 29 = .ok (.getfield 13, 3) := by decide +kernel
theorem dX12_isOpen_32 : decode kX12_isOpen.2.1 32 = .ok (.bipush 26, 2) := by decide +kernel
theorem dX12_isOpen_34 : decode kX12_isOpen.2.1 34 = .ok (.iaload, 1) := by decide +kernel
theorem dX12_isOpen_35 : decode kX12_isOpen.2.1 35 = .ok (.iastore, 1) := by decide +kernel
theorem dX12_isOpen_36 : decode kX12_isOpen.2.1 36 = .ok (.aload_n 0, 1) := by decide +kernel
theorem dX12_isOpen_37 : decode kX12_isOpen.2.1 37 = .ok (.getfield 33, 3) := by decide +kernel
theorem dX12_isOpen_40 : decode kX12_isOpen.2.1 40 = .ok (.iconst 5, 1) := by decide +kernel
theorem dX12_isOpen_41 : decode kX12_isOpen.2.1 41 = .ok (.iload_n 1, 1) := by decide +kernel
theorem dX12_isOpen_42 : decode kX12_isOpen.2.1 42 = .ok (.iastore, 1) := by decide +kernel
theorem dX12_isOpen_43 : decode kX12_isOpen.2.1 43 = .ok (.aload_n 0, 1) := by decide +kernel
theorem dX12_isOpen_44 : decode kX12_isOpen.2.1 44 = .ok (.getfield 33, 3) := by decide +kernel
theorem dX12_isOpen_47 : decode kX12_isOpen.2.1 47 = .ok (.bipush 6, 2) := by decide +kernel
theorem dX12_isOpen_49 : decode kX12_isOpen.2.1 49 = .ok (.iload_n 2, 1) := by decide +kernel
theorem dX12_isOpen_50 : decode kX12_isOpen.2.1 50 = .ok (.bipush 9, 2) := by decide +kernel
theorem dX12_isOpen_52 : decode kX12_isOpen.2.1 52 = .ok (.if_icmp .ge 7, 3) := by decide +kernel
theorem dX12_isOpen_55 : decode kX12_isOpen.2.1 55 = .ok (.iload_n 2, 1) := by decide +kernel
theorem dX12_isOpen_56 : decode kX12_isOpen.2.1 56 = .ok (.goto 5, 3) := by decide +kernel
theorem dX12_isOpen_59 : decode kX12_isOpen.2.1 59 = .ok (.bipush 9, 2) := by decide +kernel
theorem dX12_isOpen_61 : decode kX12_isOpen.2.1 61 = .ok (.iastore, 1) := by decide +kernel
theorem dX12_isOpen_62 : decode kX12_isOpen.2.1 62 = .ok (.aload_n 0, 1) := by decide +kernel
theorem dX12_isOpen_63 : decode kX12_isOpen.2.1 63 = .ok (.iconst 1, 1) := by decide +kernel
theorem dX12_isOpen_64 : decode kX12_isOpen.2.1 64 = .ok (.invokevirtual 219, 3) := by decide +kernel
theorem dX12_isOpen_67 : decode kX12_isOpen.2.1 67 = .ok (.iconst 1, 1) := by decide +kernel
theorem dX12_isOpen_68 : decode kX12_isOpen.2.1 68 = .ok (.if_icmp .ne 7, 3) := by decide +kernel
theorem dX12_isOpen_71 : decode kX12_isOpen.2.1 71 = .ok (.iconst 1, 1) := by decide +kernel
theorem dX12_isOpen_72 : decode kX12_isOpen.2.1 72 = .ok (.goto 4, 3) := by decide +kernel
theorem dX12_isOpen_75 : decode kX12_isOpen.2.1 75 = .ok (.iconst 0, 1) := by decide +kernel
theorem dX12_isOpen_76 : decode kX12_isOpen.2.1 76 = .ok (.ireturn, 1) := by decide +kernel
theorem dX12_isOpenNow_0 : decode kX12_isOpenNow.2.1 0 = .ok (.aload_n 0, 1) := by decide +kernel
theorem dX12_isOpenNow_1 : decode kX12_isOpenNow.2.1 1 = .ok (.aload_n 0, 1) := by decide +kernel
theorem dX12_isOpenNow_2 : decode kX12_isOpenNow.2.1 2 = .ok (.getfield 13, 3) := by decide +kernel
theorem dX12_isOpenNow_5 : decode kX12_isOpenNow.2.1 5 = .ok (.bipush 27, 2) := by decide +kernel
theorem dX12_isOpenNow_7 : decode kX12_isOpenNow.2.1 7 = .ok (.iaload, 1) := by decide +kernel
theorem dX12_isOpenNow_8 : decode kX12_isOpenNow.2.1 8 = .ok (.aload_n 0, 1) := by decide +kernel
theorem dX12_isOpenNow_9 : decode kX12_isOpenNow.2.1 9 = .ok (.getfield 13, 3) := by decide +kernel
theorem dX12_isOpenNow_12 : decode kX12_isOpenNow.2.1 12 = .ok (.bipush 25, 2) := by decide +kernel
theorem dX12_isOpenNow_14 : decode kX12_isOpenNow.2.1 14 = .ok (.iaload, 1) := by decide +kernel
theorem dX12_isOpenNow_15 : decode kX12_isOpenNow.2.1 15 = .ok (.invokevirtual 229, 3) := by decide +kernel
theorem dX12_isOpenNow_18 : decode kX12_isOpenNow.2.1 18 = .ok (.ireturn, 1) := by decide +kernel
theorem dX12_scoresAt_0 : decode kX12_scoresAt.2.1 0 = .ok (.aload_n 0, 1) := by decide +kernel
theorem dX12_scoresAt_1 : decode kX12_scoresAt.2.1 1 = .ok (.iload_n 1, 1) := by decide +kernel
theorem dX12_scoresAt_2 : decode kX12_scoresAt.2.1 2 = .ok (.invokevirtual 233, 3) := by decide +kernel
theorem dX12_scoresAt_5 : decode kX12_scoresAt.2.1 5 = .ok (.istore_n 3, 1) := by decide +kernel
theorem dX12_scoresAt_6 : decode kX12_scoresAt.2.1 6 = .ok (.iload_n 3, 1) := by decide +kernel
theorem dX12_scoresAt_7 : decode kX12_scoresAt.2.1 7 = .ok (.ifCond .ne 19, 3) := by decide +kernel
theorem dX12_scoresAt_10 : decode kX12_scoresAt.2.1 10 = .ok (.iload_n 2, 1) := by decide +kernel
theorem dX12_scoresAt_11 : decode kX12_scoresAt.2.1 11 = .ok (.ifCond .eq 13, 3) := by decide +kernel
theorem dX12_scoresAt_14 : decode kX12_scoresAt.2.1 14 = .ok (.aload_n 0, 1) := by decide +kernel
theorem dX12_scoresAt_15 : decode kX12_scoresAt.2.1 15 = .ok (.getfield 13, 3) := by decide +kernel
theorem dX12_scoresAt_18 : decode kX12_scoresAt.2.1 18 = .ok (.iconst 5, 1) := by decide +kernel
theorem dX12_scoresAt_19 : decode kX12_scoresAt.2.1 19 = .ok (.iaload, 1) := by decide +kernel
theorem dX12_scoresAt_20 : decode kX12_scoresAt.2.1 20 = .ok (.ineg, 1) := by decide +kernel
theorem dX12_scoresAt_21 : decode kX12_scoresAt.2.1 21 = .ok (.goto 4, 3) := by decide +kernel
theorem dX12_scoresAt_24 : decode kX12_scoresAt.2.1 24 = .ok (.iconst 0, 1) := by decide +kernel
theorem dX12_scoresAt_25 : decode kX12_scoresAt.2.1 25 = .ok (.ireturn, 1) := by decide +kernel
theorem dX12_scoresAt_26 : decode kX12_scoresAt.2.1 26 = .ok (.aload_n 0, 1) := by decide +kernel
theorem dX12_scoresAt_27 : decode kX12_scoresAt.2.1 27 = .ok (.getfield 13, 3) := by decide +kernel
theorem dX12_scoresAt_30 : decode kX12_scoresAt.2.1 30 = .ok (.iconst 3, 1) := by decide +kernel
theorem dX12_scoresAt_31 : decode kX12_scoresAt.2.1 31 = .ok (.iaload, 1) := by decide +kernel
theorem dX12_scoresAt_32 : decode kX12_scoresAt.2.1 32 = .ok (.aload_n 0, 1) := by decide +kernel
theorem dX12_scoresAt_33 : decode kX12_scoresAt.2.1 33 = .ok (.getfield 13, 3) := by decide +kernel
theorem dX12_scoresAt_36 : decode kX12_scoresAt.2.1 36 = .ok (.iconst 4, 1) := by decide +kernel
theorem dX12_scoresAt_37 : decode kX12_scoresAt.2.1 37 = .ok (.iaload, 1) := by decide +kernel
theorem dX12_scoresAt_38 : decode kX12_scoresAt.2.1 38 = .ok (.iload_n 3, 1) := by decide +kernel
theorem dX12_scoresAt_39 : decode kX12_scoresAt.2.1 39 = .ok (.iconst 1, 1) := by decide +kernel
theorem dX12_scoresAt_40 : decode kX12_scoresAt.2.1 40 = .ok (.isub, 1) := by decide +kernel
theorem dX12_scoresAt_41 : decode kX12_scoresAt.2.1 41 = .ok (.imul, 1) := by decide +kernel
theorem dX12_scoresAt_42 : decode kX12_scoresAt.2.1 42 = .ok (.isub, 1) := by decide +kernel
theorem dX12_scoresAt_43 : decode kX12_scoresAt.2.1 43 = .ok (.istore 4, 2) := by decide +kernel
theorem dX12_scoresAt_45 : decode kX12_scoresAt.2.1 45 = .ok (.iload 4, 2) := by decide +kernel
theorem dX12_scoresAt_47 : decode kX12_scoresAt.2.1 47 = .ok (.ifCond .ge 7, 3) := by decide +kernel
theorem dX12_scoresAt_50 : decode kX12_scoresAt.2.1 50 = .ok (.iconst 0, 1) := by decide +kernel
theorem dX12_scoresAt_51 : decode kX12_scoresAt.2.1 51 = .ok (.goto 5, 3) := by decide +kernel
theorem dX12_scoresAt_54 : decode kX12_scoresAt.2.1 54 = .ok (.iload 4, 2) := by decide +kernel
theorem dX12_scoresAt_56 : decode kX12_scoresAt.2.1 56 = .ok (.ireturn, 1) := by decide +kernel
theorem dX12_shooter_0 : decode kX12_shooter.2.1 0 = .ok (.aload_n 0, 1) := by decide +kernel
theorem dX12_shooter_1 : decode kX12_shooter.2.1 1 = .ok (.iconst 0, 1) := by decide +kernel
theorem dX12_shooter_2 : decode kX12_shooter.2.1 2 = .ok (.putfield 1, 3) := by decide +kernel
theorem dX12_shooter_5 : decode kX12_shooter.2.1 5 = .ok (.aload_n 0, 1) := by decide +kernel
theorem dX12_shooter_6 : decode kX12_shooter.2.1 6 = .ok (.iload_n 1, 1) := by decide +kernel
theorem dX12_shooter_7 : decode kX12_shooter.2.1 7 = .ok (.i2l, 1) := by decide +kernel
theorem dX12_shooter_8 : decode kX12_shooter.2.1 8 = .ok (.invokevirtual 236, 3) := by decide +kernel
theorem dX12_shooter_11 : decode kX12_shooter.2.1 11 = .ok (.ifCond .ne 6, 3) := by decide +kernel
theorem dX12_shooter_14 : decode kX12_shooter.2.1 14 = .ok (.bipush (-2), 2) := by decide +kernel
theorem dX12_shooter_16 : decode kX12_shooter.2.1 16 = .ok (.ireturn, 1) := by decide +kernel
theorem dX12_shooter_17 : decode kX12_shooter.2.1 17 = .ok (.iload_n 2, 1) := by decide +kernel
theorem dX12_shooter_18 : decode kX12_shooter.2.1 18 = .ok (.ifCond .ne 15, 3) := by decide +kernel
theorem dX12_shooter_21 : decode kX12_shooter.2.1 21 = .ok (.aload_n 0, 1) := by decide +kernel
theorem dX12_shooter_22 : decode kX12_shooter.2.1 22 = .ok (.getfield 13, 3) := by decide +kernel
theorem dX12_shooter_25 : decode kX12_shooter.2.1 25 = .ok (.bipush 13, 2) := by decide +kernel
theorem dX12_shooter_27 : decode kX12_shooter.2.1 27 = .ok (.iload_n 1, 1) := by decide +kernel
theorem dX12_shooter_28 : decode kX12_shooter.2.1 28 = .ok (.iadd, 1) := by decide +kernel
theorem dX12_shooter_29 : decode kX12_shooter.2.1 29 = .ok (.iaload, 1) := by decide +kernel
theorem dX12_shooter_30 : decode kX12_shooter.2.1 30 = .ok (.goto 22, 3) := by decide +kernel
theorem dX12_shooter_33 : decode kX12_shooter.2.1 33 = .ok (.iload_n 2, 1) := by decide +kernel
theorem dX12_shooter_34 : decode kX12_shooter.2.1 34 = .ok (.iconst 1, 1) := by decide +kernel
theorem dX12_shooter_35 : decode kX12_shooter.2.1 35 = .ok (.if_icmp .ne 15, 3) := by decide +kernel
theorem dX12_shooter_38 : decode kX12_shooter.2.1 38 = .ok (.aload_n 0, 1) := by decide +kernel
theorem dX12_shooter_39 : decode kX12_shooter.2.1 39 = .ok (.getfield 13, 3) := by decide +kernel
theorem dX12_shooter_42 : decode kX12_shooter.2.1 42 = .ok (.bipush 21, 2) := by decide +kernel
theorem dX12_shooter_44 : decode kX12_shooter.2.1 44 = .ok (.iload_n 1, 1) := by decide +kernel
theorem dX12_shooter_45 : decode kX12_shooter.2.1 45 = .ok (.iadd, 1) := by decide +kernel
theorem dX12_shooter_46 : decode kX12_shooter.2.1 46 = .ok (.iaload, 1) := by decide +kernel
theorem dX12_shooter_47 : decode kX12_shooter.2.1 47 = .ok (.goto 5, 3) := by decide +kernel
theorem dX12_shooter_50 : decode kX12_shooter.2.1 50 = .ok (.bipush (-2), 2) := by decide +kernel
theorem dX12_shooter_52 : decode kX12_shooter.2.1 52 = .ok (.ireturn, 1) := by decide +kernel
theorem dX12_points_0 : decode kX12_points.2.1 0 = .ok (.aload_n 0, 1) := by decide +kernel
theorem dX12_points_1 : decode kX12_points.2.1 1 = .ok (.iconst 0, 1) := by decide +kernel
theorem dX12_points_2 : decode kX12_points.2.1 2 = .ok (.putfield 1, 3) := by decide +kernel
theorem dX12_points_5 : decode kX12_points.2.1 5 = .ok (.aload_n 0, 1) := by decide +kernel
theorem dX12_points_6 : decode kX12_points.2.1 6 = .ok (.iload_n 1, 1) := by decide +kernel
theorem dX12_points_7 : decode kX12_points.2.1 7 = .ok (.i2l, 1) := by decide +kernel
theorem dX12_points_8 : decode kX12_points.2.1 8 = .ok (.invokevirtual 236, 3) := by decide +kernel
theorem dX12_points_11 : decode kX12_points.2.1 11 = .ok (.ifCond .eq 15, 3) := by decide +kernel
theorem dX12_points_14 : decode kX12_points.2.1 14 = .ok (.aload_n 0, 1) := by decide +kernel
theorem dX12_points_15 : decode kX12_points.2.1 15 = .ok (.getfield 13, 3) := by decide +kernel
theorem dX12_points_18 : decode kX12_points.2.1 18 = .ok (.bipush 17, 2) := by decide +kernel
theorem dX12_points_20 : decode kX12_points.2.1 20 = .ok (.iload_n 1, 1) := by decide +kernel
theorem dX12_points_21 : decode kX12_points.2.1 21 = .ok (.iadd, 1) := by decide +kernel
theorem dX12_points_22 : decode kX12_points.2.1 22 = .ok (.iaload, 1) := by decide +kernel
theorem dX12_points_23 : decode kX12_points.2.1 23 = .ok (.goto 5, 3) := by decide +kernel
theorem dX12_points_26 : decode kX12_points.2.1 26 = .ok (.ldc 240, 2) := by decide +kernel
theorem dX12_points_28 : decode kX12_points.2.1 28 = .ok (.ireturn, 1) := by decide +kernel
theorem dX12_lands_0 : decode kX12_lands.2.1 0 = .ok (.aload_n 0, 1) := by decide +kernel
theorem dX12_lands_1 : decode kX12_lands.2.1 1 = .ok (.iconst 0, 1) := by decide +kernel
theorem dX12_lands_2 : decode kX12_lands.2.1 2 = .ok (.putfield 1, 3) := by decide +kernel
theorem dX12_lands_5 : decode kX12_lands.2.1 5 = .ok (.aload_n 0, 1) := by decide +kernel
theorem dX12_lands_6 : decode kX12_lands.2.1 6 = .ok (.iload_n 1, 1) := by decide +kernel
theorem dX12_lands_7 : decode kX12_lands.2.1 7 = .ok (.i2l, 1) := by decide +kernel
theorem dX12_lands_8 : decode kX12_lands.2.1 8 = .ok (.invokevirtual 236, 3) := by decide +kernel
theorem dX12_lands_11 : decode kX12_lands.2.1 11 = .ok (.ifCond .eq 29, 3) := by decide +kernel
theorem dX12_lands_14 : decode kX12_lands.2.1 14 = .ok (.iload_n 2, 1) := by decide +kernel
theorem dX12_lands_15 : decode kX12_lands.2.1 15 = .ok (.i2l, 1) := by decide +kernel
theorem dX12_lands_16 : decode kX12_lands.2.1 16 = .ok (.invokestatic 241, 3) := by decide +kernel
theorem dX12_lands_19 : decode kX12_lands.2.1 19 = .ok (.ifCond .eq 21, 3) := by decide +kernel
theorem dX12_lands_22 : decode kX12_lands.2.1 22 = .ok (.iload_n 3, 1) := by decide +kernel
theorem dX12_lands_23 : decode kX12_lands.2.1 23 = .ok (.i2l, 1) := by decide +kernel
theorem dX12_lands_24 : decode kX12_lands.2.1 24 = .ok (.invokestatic 244, 3) := by decide +kernel
theorem dX12_lands_27 : decode kX12_lands.2.1 27 = .ok (.ifCond .eq 13, 3) := by decide +kernel
theorem dX12_lands_30 : decode kX12_lands.2.1 30 = .ok (.aload_n 0, 1) := by decide +kernel
theorem dX12_lands_31 : decode kX12_lands.2.1 31 = .ok (.iload_n 1, 1) := by decide +kernel
theorem dX12_lands_32 : decode kX12_lands.2.1 32 = .ok (.iload_n 2, 1) := by decide +kernel
theorem dX12_lands_33 : decode kX12_lands.2.1 33 = .ok (.iload_n 3, 1) := by decide +kernel
theorem dX12_lands_34 : decode kX12_lands.2.1 34 = .ok (.invokevirtual 247, 3) := by decide +kernel
theorem dX12_lands_37 : decode kX12_lands.2.1 37 = .ok (.goto 5, 3) := by decide +kernel
theorem dX12_lands_40 : decode kX12_lands.2.1 40 = .ok (.bipush (-2), 2) := by decide +kernel
theorem dX12_lands_42 : decode kX12_lands.2.1 42 = .ok (.ireturn, 1) := by decide +kernel
theorem dX12_far_0 : decode kX12_far.2.1 0 = .ok (.aload_n 0, 1) := by decide +kernel
theorem dX12_far_1 : decode kX12_far.2.1 1 = .ok (.iconst 0, 1) := by decide +kernel
theorem dX12_far_2 : decode kX12_far.2.1 2 = .ok (.putfield 1, 3) := by decide +kernel
theorem dX12_far_5 : decode kX12_far.2.1 5 = .ok (.iload_n 1, 1) := by decide +kernel
theorem dX12_far_6 : decode kX12_far.2.1 6 = .ok (.i2l, 1) := by decide +kernel
theorem dX12_far_7 : decode kX12_far.2.1 7 = .ok (.invokestatic 241, 3) := by decide +kernel
theorem dX12_far_10 : decode kX12_far.2.1 10 = .ok (.ifCond .eq 11, 3) := by decide +kernel
theorem dX12_far_13 : decode kX12_far.2.1 13 = .ok (.aload_n 0, 1) := by decide +kernel
theorem dX12_far_14 : decode kX12_far.2.1 14 = .ok (.iload_n 1, 1) := by decide +kernel
theorem dX12_far_15 : decode kX12_far.2.1 15 = .ok (.invokevirtual 233, 3) := by decide +kernel
theorem dX12_far_18 : decode kX12_far.2.1 18 = .ok (.goto 5, 3) := by decide +kernel
theorem dX12_far_21 : decode kX12_far.2.1 21 = .ok (.bipush (-2), 2) := by decide +kernel
theorem dX12_far_23 : decode kX12_far.2.1 23 = .ok (.ireturn, 1) := by decide +kernel
theorem dX12_scores_0 : decode kX12_scores.2.1 0 = .ok (.aload_n 0, 1) := by decide +kernel
theorem dX12_scores_1 : decode kX12_scores.2.1 1 = .ok (.iconst 0, 1) := by decide +kernel
theorem dX12_scores_2 : decode kX12_scores.2.1 2 = .ok (.putfield 1, 3) := by decide +kernel
theorem dX12_scores_5 : decode kX12_scores.2.1 5 = .ok (.iload_n 1, 1) := by decide +kernel
theorem dX12_scores_6 : decode kX12_scores.2.1 6 = .ok (.i2l, 1) := by decide +kernel
theorem dX12_scores_7 : decode kX12_scores.2.1 7 = .ok (.invokestatic 241, 3) := by decide +kernel
theorem dX12_scores_10 : decode kX12_scores.2.1 10 = .ok (.ifCond .eq 15, 3) := by decide +kernel
theorem dX12_scores_13 : decode kX12_scores.2.1 13 = .ok (.aload_n 0, 1) := by decide +kernel
theorem dX12_scores_14 : decode kX12_scores.2.1 14 = .ok (.iload_n 1, 1) := by decide +kernel
theorem dX12_scores_15 : decode kX12_scores.2.1 15 = .ok (.aload_n 0, 1) := by decide +kernel
theorem dX12_scores_16 : decode kX12_scores.2.1 16 = .ok (.invokevirtual 250, 3) := by decide +kernel
theorem dX12_scores_19 : decode kX12_scores.2.1 19 = .ok (.invokevirtual 254, 3) := by decide +kernel
theorem dX12_scores_22 : decode kX12_scores.2.1 22 = .ok (.goto 5, 3) := by decide +kernel
theorem dX12_scores_25 : decode kX12_scores.2.1 25 = .ok (.ldc 240, 2) := by decide +kernel
theorem dX12_scores_27 : decode kX12_scores.2.1 27 = .ok (.ireturn, 1) := by decide +kernel
theorem dX12_open_0 : decode kX12_open.2.1 0 = .ok (.aload_n 0, 1) := by decide +kernel
theorem dX12_open_1 : decode kX12_open.2.1 1 = .ok (.iconst 0, 1) := by decide +kernel
theorem dX12_open_2 : decode kX12_open.2.1 2 = .ok (.putfield 1, 3) := by decide +kernel
theorem dX12_open_5 : decode kX12_open.2.1 5 = .ok (.iload_n 1, 1) := by decide +kernel
theorem dX12_open_6 : decode kX12_open.2.1 6 = .ok (.i2l, 1) := by decide +kernel
theorem dX12_open_7 : decode kX12_open.2.1 7 = .ok (.lconst 0, 1) := by decide +kernel
theorem dX12_open_8 : decode kX12_open.2.1 8 = .ok (.ldc2_w 258, 3) := by decide +kernel
theorem dX12_open_11 : decode kX12_open.2.1 11 = .ok (.invokestatic 142, 3) := by decide +kernel
theorem dX12_open_14 : decode kX12_open.2.1 14 = .ok (.ifCond .ne 6, 3) := by decide +kernel
theorem dX12_open_17 : decode kX12_open.2.1 17 = .ok (.bipush (-3), 2) := by decide +kernel
theorem dX12_open_19 : decode kX12_open.2.1 19 = .ok (.ireturn, 1) := by decide +kernel
theorem dX12_open_20 : decode kX12_open.2.1 20 = .ok (.aload_n 0, 1) := by decide +kernel
theorem dX12_open_21 : decode kX12_open.2.1 21 = .ok (.aload_n 0, 1) := by decide +kernel
theorem dX12_open_22 : decode kX12_open.2.1 22 = .ok (.getfield 13, 3) := by decide +kernel
theorem dX12_open_25 : decode kX12_open.2.1 25 = .ok (.bipush 27, 2) := by decide +kernel
theorem dX12_open_27 : decode kX12_open.2.1 27 = .ok (.iaload, 1) := by decide +kernel
theorem dX12_open_28 : decode kX12_open.2.1 28 = .ok (.iload_n 1, 1) := by decide +kernel
theorem dX12_open_29 : decode kX12_open.2.1 29 = .ok (.iadd, 1) := by decide +kernel
theorem dX12_open_30 : decode kX12_open.2.1 30 = .ok (.aload_n 0, 1) := by decide +kernel
theorem dX12_open_31 : decode kX12_open.2.1 31 = .ok (.getfield 13, 3) := by decide +kernel
theorem dX12_open_34 : decode kX12_open.2.1 34 = .ok (.bipush 25, 2) := by decide +kernel
theorem dX12_open_36 : decode kX12_open.2.1 36 = .ok (.iaload, 1) := by decide +kernel
theorem dX12_open_37 : decode kX12_open.2.1 37 = .ok (.invokevirtual 229, 3) := by decide +kernel
theorem dX12_open_40 : decode kX12_open.2.1 40 = .ok (.ifCond .eq 7, 3) := by decide +kernel
theorem dX12_open_43 : decode kX12_open.2.1 43 = .ok (.iconst 1, 1) := by decide +kernel
theorem dX12_open_44 : decode kX12_open.2.1 44 = .ok (.goto 4, 3) := by decide +kernel
theorem dX12_open_47 : decode kX12_open.2.1 47 = .ok (.iconst 0, 1) := by decide +kernel
theorem dX12_open_48 : decode kX12_open.2.1 48 = .ok (.ireturn, 1) := by decide +kernel
theorem dX12_opens_0 : decode kX12_opens.2.1 0 = .ok (.aload_n 0, 1) := by decide +kernel
theorem dX12_opens_1 : decode kX12_opens.2.1 1 = .ok (.iconst 0, 1) := by decide +kernel
theorem dX12_opens_2 : decode kX12_opens.2.1 2 = .ok (.putfield 1, 3) := by decide +kernel
theorem dX12_opens_5 : decode kX12_opens.2.1 5 = .ok (.iload_n 1, 1) := by decide +kernel
theorem dX12_opens_6 : decode kX12_opens.2.1 6 = .ok (.i2l, 1) := by decide +kernel
theorem dX12_opens_7 : decode kX12_opens.2.1 7 = .ok (.lconst 0, 1) := by decide +kernel
theorem dX12_opens_8 : decode kX12_opens.2.1 8 = .ok (.lconst 1, 1) := by decide +kernel
theorem dX12_opens_9 : decode kX12_opens.2.1 9 = .ok (.invokestatic 142, 3) := by decide +kernel
theorem dX12_opens_12 : decode kX12_opens.2.1 12 = .ok (.ifCond .ne 6, 3) := by decide +kernel
theorem dX12_opens_15 : decode kX12_opens.2.1 15 = .ok (.bipush (-2), 2) := by decide +kernel
theorem dX12_opens_17 : decode kX12_opens.2.1 17 = .ok (.ireturn, 1) := by decide +kernel
theorem dX12_opens_18 : decode kX12_opens.2.1 18 = .ok (.iconst 0, 1) := by decide +kernel
theorem dX12_opens_19 : decode kX12_opens.2.1 19 = .ok (.istore_n 2, 1) := by decide +kernel
theorem dX12_opens_20 : decode kX12_opens.2.1 20 = .ok (.iload_n 2, 1) := by decide +kernel
theorem dX12_opens_21 : decode kX12_opens.2.1 21 = .ok (.bipush 100, 2) := by decide +kernel
theorem dX12_opens_23 : decode kX12_opens.2.1 23 = .ok (.if_icmp .ge 44, 3) := by decide +kernel
theorem dX12_opens_26 : decode kX12_opens.2.1 26 = .ok (.aload_n 0, 1) := by decide +kernel
theorem dX12_opens_27 : decode kX12_opens.2.1 27 = .ok (.aload_n 0, 1) := by decide +kernel
theorem dX12_opens_28 : decode kX12_opens.2.1 28 = .ok (.getfield 13, 3) := by decide +kernel
theorem dX12_opens_31 : decode kX12_opens.2.1 31 = .ok (.bipush 27, 2) := by decide +kernel
theorem dX12_opens_33 : decode kX12_opens.2.1 33 = .ok (.iaload, 1) := by decide +kernel
theorem dX12_opens_34 : decode kX12_opens.2.1 34 = .ok (.iload_n 2, 1) := by decide +kernel
theorem dX12_opens_35 : decode kX12_opens.2.1 35 = .ok (.iadd, 1) := by decide +kernel
theorem dX12_opens_36 : decode kX12_opens.2.1 36 = .ok (.aload_n 0, 1) := by decide +kernel
theorem dX12_opens_37 : decode kX12_opens.2.1 37 = .ok (.getfield 13, 3) := by decide +kernel
theorem dX12_opens_40 : decode kX12_opens.2.1 40 = .ok (.bipush 25, 2) := by decide +kernel
theorem dX12_opens_42 : decode kX12_opens.2.1 42 = .ok (.iaload, 1) := by decide +kernel
theorem dX12_opens_43 : decode kX12_opens.2.1 43 = .ok (.invokevirtual 229, 3) := by decide +kernel
theorem dX12_opens_46 : decode kX12_opens.2.1 46 = .ok (.iload_n 1, 1) := by decide +kernel
theorem dX12_opens_47 : decode kX12_opens.2.1 47 = .ok (.iconst 1, 1) := by decide +kernel
theorem dX12_opens_48 : decode kX12_opens.2.1 48 = .ok (.if_icmp .ne 7, 3) := by decide +kernel
theorem dX12_opens_51 : decode kX12_opens.2.1 51 = .ok (.iconst 1, 1) := by decide +kernel
theorem dX12_opens_52 : decode kX12_opens.2.1 52 = .ok (.goto 4, 3) := by decide +kernel
theorem dX12_opens_55 : decode kX12_opens.2.1 55 = .ok (.iconst 0, 1) := by decide +kernel
theorem dX12_opens_56 : decode kX12_opens.2.1 56 = .ok (.if_icmp .ne 5, 3) := by decide +kernel
theorem dX12_opens_59 : decode kX12_opens.2.1 59 = .ok (.iload_n 2, 1) := by decide +kernel
theorem dX12_opens_60 : decode kX12_opens.2.1 60 = .ok (.ireturn, 1) := by decide +kernel
theorem dX12_opens_61 : decode kX12_opens.2.1 61 = .ok (.iinc 2 1, 3) := by decide +kernel
theorem dX12_opens_64 : decode kX12_opens.2.1 64 = .ok (.goto (-44), 3) := by decide +kernel
theorem dX12_opens_67 : decode kX12_opens.2.1 67 = .ok (.iconst (-1), 1) := by decide +kernel
theorem dX12_opens_68 : decode kX12_opens.2.1 68 = .ok (.ireturn, 1) := by decide +kernel
theorem dX12_stores_0 : decode kX12_stores.2.1 0 = .ok (.iconst 0, 1) := by decide +kernel
theorem dX12_stores_1 : decode kX12_stores.2.1 1 = .ok (.istore_n 1, 1) := by decide +kernel
theorem dX12_stores_2 : decode kX12_stores.2.1 2 = .ok (.iload_n 1, 1) := by decide +kernel
theorem dX12_stores_3 : decode kX12_stores.2.1 3 = .ok (.bipush 11, 2) := by decide +kernel
theorem dX12_stores_5 : decode kX12_stores.2.1 5 = .ok (.if_icmp .ge 24, 3) := by decide +kernel
theorem dX12_stores_8 : decode kX12_stores.2.1 8 = .ok (.aload_n 0, 1) := by decide +kernel
theorem dX12_stores_9 : decode kX12_stores.2.1 9 = .ok (.getfield 36, 3) := by decide +kernel
theorem dX12_stores_12 : decode kX12_stores.2.1 12 = .ok (.iload_n 1, 1) := by decide +kernel
theorem dX12_stores_13 : decode kX12_stores.2.1 13 = .ok (.aload_n 0, 1) := by decide +kernel
theorem dX12_stores_14 : decode kX12_stores.2.1 14 = .ok (.getfield 13, 3) := by decide +kernel
theorem dX12_stores_17 : decode kX12_stores.2.1 17 = .ok (.bipush 17, 2) := by decide +kernel
theorem dX12_stores_19 : decode kX12_stores.2.1 19 = .ok (.iload_n 1, 1) := by decide +kernel
theorem dX12_stores_20 : decode kX12_stores.2.1 20 = .ok (.iadd, 1) := by decide +kernel
theorem dX12_stores_21 : decode kX12_stores.2.1 21 = .ok (.iaload, 1) := by decide +kernel
theorem dX12_stores_22 : decode kX12_stores.2.1 22 = .ok (.iastore, 1) := by decide +kernel
theorem dX12_stores_23 : decode kX12_stores.2.1 23 = .ok (.iinc 1 1, 3) := by decide +kernel
theorem dX12_stores_26 : decode kX12_stores.2.1 26 = .ok (.goto (-24), 3) := by decide +kernel
theorem dX12_stores_29 : decode kX12_stores.2.1 29 = .ok (.return_, 1) := by decide +kernel
theorem dX12_isAgain_0 : decode kX12_isAgain.2.1 0 = .ok (.iconst 0, 1) := by decide +kernel
theorem dX12_isAgain_1 : decode kX12_isAgain.2.1 1 = .ok (.istore_n 1, 1) := by decide +kernel
theorem dX12_isAgain_2 : decode kX12_isAgain.2.1 2 = .ok (.iload_n 1, 1) := by decide +kernel
theorem dX12_isAgain_3 : decode kX12_isAgain.2.1 3 = .ok (.bipush 11, 2) := by decide +kernel
theorem dX12_isAgain_5 : decode kX12_isAgain.2.1 5 = .ok (.if_icmp .ge 24, 3) := by decide +kernel
theorem dX12_isAgain_8 : decode kX12_isAgain.2.1 8 = .ok (.aload_n 0, 1) := by decide +kernel
theorem dX12_isAgain_9 : decode kX12_isAgain.2.1 9 = .ok (.getfield 13, 3) := by decide +kernel
theorem dX12_isAgain_12 : decode kX12_isAgain.2.1 12 = .ok (.bipush 17, 2) := by decide +kernel
theorem dX12_isAgain_14 : decode kX12_isAgain.2.1 14 = .ok (.iload_n 1, 1) := by decide +kernel
theorem dX12_isAgain_15 : decode kX12_isAgain.2.1 15 = .ok (.iadd, 1) := by decide +kernel
theorem dX12_isAgain_16 : decode kX12_isAgain.2.1 16 = .ok (.aload_n 0, 1) := by decide +kernel
theorem dX12_isAgain_17 : decode kX12_isAgain.2.1 17 = .ok (.getfield 36, 3) := by decide +kernel
theorem dX12_isAgain_20 : decode kX12_isAgain.2.1 20 = .ok (.iload_n 1, 1) := by decide +kernel
theorem dX12_isAgain_21 : decode kX12_isAgain.2.1 21 = .ok (.iaload, 1) := by decide +kernel
theorem dX12_isAgain_22 : decode kX12_isAgain.2.1 22 = .ok (.iastore, 1) := by decide +kernel
theorem dX12_isAgain_23 : decode kX12_isAgain.2.1 23 = .ok (.iinc 1 1, 3) := by decide +kernel
theorem dX12_isAgain_26 : decode kX12_isAgain.2.1 26 = .ok (.goto (-24), 3) := by decide +kernel
theorem dX12_isAgain_29 : decode kX12_isAgain.2.1 29 = .ok (.return_, 1) := by decide +kernel
theorem dX12_notes_0 : decode kX12_notes.2.1 0 = .ok (.aload_n 0, 1) := by decide +kernel
theorem dX12_notes_1 : decode kX12_notes.2.1 1 = .ok (.getfield 13, 3) := by decide +kernel
theorem dX12_notes_4 : decode kX12_notes.2.1 4 = .ok (.bipush 28, 2) := by decide +kernel
theorem dX12_notes_6 : decode kX12_notes.2.1 6 = .ok (.iaload, 1) := by decide +kernel
theorem dX12_notes_7 : decode kX12_notes.2.1 7 = .ok (.bipush 10, 2) := by decide +kernel
theorem dX12_notes_9 : decode kX12_notes.2.1 9 = .ok (.if_icmp .ne 46, 3) := by decide +kernel
theorem dX12_notes_12 : decode kX12_notes.2.1 12 = .ok (.iconst 0, 1) := by decide +kernel
theorem dX12_notes_13 : decode kX12_notes.2.1 13 = .ok (.istore_n 1, 1) := by decide +kernel
theorem dX12_notes_14 : decode kX12_notes.2.1 14 = .ok (.iload_n 1, 1) := by decide +kernel
theorem dX12_notes_15 : decode kX12_notes.2.1 15 = .ok (.bipush 99, 2) := by decide +kernel
theorem dX12_notes_17 : decode kX12_notes.2.1 17 = .ok (.if_icmp .ge 27, 3) := by decide +kernel
theorem dX12_notes_20 : decode kX12_notes.2.1 20 = .ok (.aload_n 0, 1) := by decide +kernel
theorem dX12_notes_21 : decode kX12_notes.2.1 21 = .ok (.getfield 13, 3) := by decide +kernel
theorem dX12_notes_24 : decode kX12_notes.2.1 24 = .ok (.bipush 29, 2) := by decide +kernel
theorem dX12_notes_26 : decode kX12_notes.2.1 26 = .ok (.iload_n 1, 1) := by decide +kernel
theorem dX12_notes_27 : decode kX12_notes.2.1 27 = .ok (.iadd, 1) := by decide +kernel
theorem dX12_notes_28 : decode kX12_notes.2.1 28 = .ok (.aload_n 0, 1) := by decide +kernel
theorem dX12_notes_29 : decode kX12_notes.2.1 29 = .ok (.getfield 13, 3) := by decide +kernel
theorem dX12_notes_32 : decode kX12_notes.2.1 32 = .ok (.bipush 40, 2) := by decide +kernel
theorem dX12_notes_34 : decode kX12_notes.2.1 34 = .ok (.iload_n 1, 1) := by decide +kernel
theorem dX12_notes_35 : decode kX12_notes.2.1 35 = .ok (.iadd, 1) := by decide +kernel
theorem dX12_notes_36 : decode kX12_notes.2.1 36 = .ok (.iaload, 1) := by decide +kernel
theorem dX12_notes_37 : decode kX12_notes.2.1 37 = .ok (.iastore, 1) := by decide +kernel
theorem dX12_notes_38 : decode kX12_notes.2.1 38 = .ok (.iinc 1 1, 3) := by decide +kernel
theorem dX12_notes_41 : decode kX12_notes.2.1 41 = .ok (.goto (-27), 3) := by decide +kernel
theorem dX12_notes_44 : decode kX12_notes.2.1 44 = .ok (.aload_n 0, 1) := by decide +kernel
theorem dX12_notes_45 : decode kX12_notes.2.1 45 = .ok (.getfield 13, 3) := by decide +kernel
theorem dX12_notes_48 : decode kX12_notes.2.1 48 = .ok (.bipush 28, 2) := by decide +kernel
theorem dX12_notes_50 : decode kX12_notes.2.1 50 = .ok (.dup2, 1) := by decide +kernel
theorem dX12_notes_51 : decode kX12_notes.2.1 51 = .ok (.iaload, 1) := by decide +kernel
theorem dX12_notes_52 : decode kX12_notes.2.1 52 = .ok (.iconst 1, 1) := by decide +kernel
theorem dX12_notes_53 : decode kX12_notes.2.1 53 = .ok (.isub, 1) := by decide +kernel
theorem dX12_notes_54 : decode kX12_notes.2.1 54 = .ok (.iastore, 1) := by decide +kernel
theorem dX12_notes_55 : decode kX12_notes.2.1 55 = .ok (.iconst 0, 1) := by decide +kernel
theorem dX12_notes_56 : decode kX12_notes.2.1 56 = .ok (.istore_n 1, 1) := by decide +kernel
theorem dX12_notes_57 : decode kX12_notes.2.1 57 = .ok (.iload_n 1, 1) := by decide +kernel
theorem dX12_notes_58 : decode kX12_notes.2.1 58 = .ok (.bipush 11, 2) := by decide +kernel
theorem dX12_notes_60 : decode kX12_notes.2.1 60 = .ok (.if_icmp .ge 35, 3) := by decide +kernel
theorem dX12_notes_63 : decode kX12_notes.2.1 63 = .ok (.aload_n 0, 1) := by decide +kernel
theorem dX12_notes_64 : decode kX12_notes.2.1 64 = .ok (.getfield 13, 3) := by decide +kernel
theorem dX12_notes_67 : decode kX12_notes.2.1 67 = .ok (.bipush 29, 2) := by decide +kernel
theorem dX12_notes_69 : decode kX12_notes.2.1 69 = .ok (.bipush 11, 2) := by decide +kernel
theorem dX12_notes_71 : decode kX12_notes.2.1 71 = .ok (.aload_n 0, 1) := by decide +kernel
theorem dX12_notes_72 : decode kX12_notes.2.1 72 = .ok (.getfield 13, 3) := by decide +kernel
theorem dX12_notes_75 : decode kX12_notes.2.1 75 = .ok (.bipush 28, 2) := by decide +kernel
theorem dX12_notes_77 : decode kX12_notes.2.1 77 = .ok (.iaload, 1) := by decide +kernel
theorem dX12_notes_78 : decode kX12_notes.2.1 78 = .ok (.imul, 1) := by decide +kernel
theorem dX12_notes_79 : decode kX12_notes.2.1 79 = .ok (.iadd, 1) := by decide +kernel
theorem dX12_notes_80 : decode kX12_notes.2.1 80 = .ok (.iload_n 1, 1) := by decide +kernel
theorem dX12_notes_81 : decode kX12_notes.2.1 81 = .ok (.iadd, 1) := by decide +kernel
theorem dX12_notes_82 : decode kX12_notes.2.1 82 = .ok (.aload_n 0, 1) := by decide +kernel
theorem dX12_notes_83 : decode kX12_notes.2.1 83 = .ok (.getfield 36, 3) := by decide +kernel
theorem dX12_notes_86 : decode kX12_notes.2.1 86 = .ok (.iload_n 1, 1) := by decide +kernel
theorem dX12_notes_87 : decode kX12_notes.2.1 87 = .ok (.iaload, 1) := by decide +kernel
theorem dX12_notes_88 : decode kX12_notes.2.1 88 = .ok (.iastore, 1) := by decide +kernel
theorem dX12_notes_89 : decode kX12_notes.2.1 89 = .ok (.iinc 1 1, 3) := by decide +kernel
theorem dX12_notes_92 : decode kX12_notes.2.1 92 = .ok (.goto (-35), 3) := by decide +kernel
theorem dX12_notes_95 : decode kX12_notes.2.1 95 = .ok (.aload_n 0, 1) := by decide +kernel
theorem dX12_notes_96 : decode kX12_notes.2.1 96 = .ok (.getfield 13, 3) := by decide +kernel
theorem dX12_notes_99 : decode kX12_notes.2.1 99 = .ok (.bipush 28, 2) := by decide +kernel
theorem dX12_notes_101 : decode kX12_notes.2.1 101 = .ok (.dup2, 1) := by decide +kernel
theorem dX12_notes_102 : decode kX12_notes.2.1 102 = .ok (.iaload, 1) := by decide +kernel
theorem dX12_notes_103 : decode kX12_notes.2.1 103 = .ok (.iconst 1, 1) := by decide +kernel
theorem dX12_notes_104 : decode kX12_notes.2.1 104 = .ok (.iadd, 1) := by decide +kernel
theorem dX12_notes_105 : decode kX12_notes.2.1 105 = .ok (.iastore, 1) := by decide +kernel
theorem dX12_notes_106 : decode kX12_notes.2.1 106 = .ok (.return_, 1) := by decide +kernel
theorem dX12_goesShot_0 : decode kX12_goesShot.2.1 0 = .ok (.aload_n 0, 1) := by decide +kernel
theorem dX12_goesShot_1 : decode kX12_goesShot.2.1 1 = .ok (.iload_n 1, 1) := by decide +kernel
theorem dX12_goesShot_2 : decode kX12_goesShot.2.1 2 = .ok (.iload_n 2, 1) := by decide +kernel
theorem dX12_goesShot_3 : decode kX12_goesShot.2.1 3 = .ok (.iload_n 3, 1) := by decide +kernel
theorem dX12_goesShot_4 : decode kX12_goesShot.2.1 4 = .ok (.invokevirtual 247, 3) := by decide +kernel
theorem dX12_goesShot_7 : decode kX12_goesShot.2.1 7 = .ok (.istore 4, 2) := by decide +kernel
theorem dX12_goesShot_9 : decode kX12_goesShot.2.1 9 = .ok (.aload_n 0, 1) := by decide +kernel
theorem dX12_goesShot_10 : decode kX12_goesShot.2.1 10 = .ok (.invokevirtual 250, 3) := by decide +kernel
theorem dX12_goesShot_13 : decode kX12_goesShot.2.1 13 = .ok (.istore 5, 2) := by decide +kernel
theorem dX12_goesShot_15 : decode kX12_goesShot.2.1 15 = .ok (.aload_n 0, 1) := by decide +kernel
theorem dX12_goesShot_16 : decode kX12_goesShot.2.1 16 = .ok (.iload 4, 2) := by decide +kernel
theorem dX12_goesShot_18 : decode kX12_goesShot.2.1 18 = .ok (.iload 5, 2) := by decide +kernel
theorem dX12_goesShot_20 : decode kX12_goesShot.2.1 20 = .ok (.invokevirtual 254, 3) := by decide +kernel
theorem dX12_goesShot_23 : decode kX12_goesShot.2.1 23 = .ok (.istore 6, 2) := by decide +kernel
theorem dX12_goesShot_25 : decode kX12_goesShot.2.1 25 = .ok (.aload_n 0, 1) := by decide +kernel
theorem dX12_goesShot_26 : decode kX12_goesShot.2.1 26 = .ok (.getfield 13, 3) := by decide +kernel
theorem dX12_goesShot_29 : decode kX12_goesShot.2.1 29 = .ok (.bipush 17, 2) := by decide +kernel
theorem dX12_goesShot_31 : decode kX12_goesShot.2.1 31 = .ok (.iload_n 1, 1) := by decide +kernel
theorem dX12_goesShot_32 : decode kX12_goesShot.2.1 32 = .ok (.iadd, 1) := by decide +kernel
theorem dX12_goesShot_33 : decode kX12_goesShot.2.1 33 = .ok (.dup2, 1) := by decide +kernel
theorem dX12_goesShot_34 : decode kX12_goesShot.2.1 34 = .ok (.iaload, 1) := by decide +kernel
theorem dX12_goesShot_35 : decode kX12_goesShot.2.1 35 = .ok (.iload 6, 2) := by decide +kernel
theorem dX12_goesShot_37 : decode kX12_goesShot.2.1 37 = .ok (.iadd, 1) := by decide +kernel
theorem dX12_goesShot_38 : decode kX12_goesShot.2.1 38 = .ok (.iastore, 1) := by decide +kernel
theorem dX12_goesShot_39 : decode kX12_goesShot.2.1 39 = .ok (.iload 5, 2) := by decide +kernel
theorem dX12_goesShot_41 : decode kX12_goesShot.2.1 41 = .ok (.ifCond .eq 23, 3) := by decide +kernel
theorem dX12_goesShot_44 : decode kX12_goesShot.2.1 44 = .ok (.aload_n 0, 1) := by decide +kernel
theorem dX12_goesShot_45 : decode kX12_goesShot.2.1 45 = .ok (.iload 4, 2) := by decide +kernel
theorem dX12_goesShot_47 : decode kX12_goesShot.2.1 47 = .ok (.invokevirtual 233, 3) := by decide +kernel
theorem dX12_goesShot_50 : decode kX12_goesShot.2.1 50 = .ok (.ifCond .ne 14, 3) := by decide +kernel
theorem dX12_goesShot_53 : decode kX12_goesShot.2.1 53 = .ok (.aload_n 0, 1) := by decide +kernel
theorem dX12_goesShot_54 : decode kX12_goesShot.2.1 54 = .ok (.getfield 13, 3) := by decide +kernel
theorem dX12_goesShot_57 : decode kX12_goesShot.2.1 57 = .ok (.bipush 25, 2) := by decide +kernel
theorem dX12_goesShot_59 : decode kX12_goesShot.2.1 59 = .ok (.dup2, 1) := by decide +kernel
theorem dX12_goesShot_60 : decode kX12_goesShot.2.1 60 = .ok (.iaload, 1) := by decide +kernel
theorem dX12_goesShot_61 : decode kX12_goesShot.2.1 61 = .ok (.iconst 1, 1) := by decide +kernel
theorem dX12_goesShot_62 : decode kX12_goesShot.2.1 62 = .ok (.iadd, 1) := by decide +kernel
theorem dX12_goesShot_63 : decode kX12_goesShot.2.1 63 = .ok (.iastore, 1) := by decide +kernel
theorem dX12_goesShot_64 : decode kX12_goesShot.2.1 64 = .ok (.aload_n 0, 1) := by decide +kernel
theorem dX12_goesShot_65 : decode kX12_goesShot.2.1 65 = .ok (.getfield 13, 3) := by decide +kernel
theorem dX12_goesShot_68 : decode kX12_goesShot.2.1 68 = .ok (.bipush 21, 2) := by decide +kernel
theorem dX12_goesShot_70 : decode kX12_goesShot.2.1 70 = .ok (.iload_n 1, 1) := by decide +kernel
theorem dX12_goesShot_71 : decode kX12_goesShot.2.1 71 = .ok (.iadd, 1) := by decide +kernel
theorem dX12_goesShot_72 : decode kX12_goesShot.2.1 72 = .ok (.iaload, 1) := by decide +kernel
theorem dX12_goesShot_73 : decode kX12_goesShot.2.1 73 = .ok (.bipush 9, 2) := by decide +kernel
theorem dX12_goesShot_75 : decode kX12_goesShot.2.1 75 = .ok (.if_icmp .ge 16, 3) := by decide +kernel
theorem dX12_goesShot_78 : decode kX12_goesShot.2.1 78 = .ok (.aload_n 0, 1) := by decide +kernel
theorem dX12_goesShot_79 : decode kX12_goesShot.2.1 79 = .ok (.getfield 13, 3) := by decide +kernel
theorem dX12_goesShot_82 : decode kX12_goesShot.2.1 82 = .ok (.bipush 21, 2) := by decide +kernel
theorem dX12_goesShot_84 : decode kX12_goesShot.2.1 84 = .ok (.iload_n 1, 1) := by decide +kernel
theorem dX12_goesShot_85 : decode kX12_goesShot.2.1 85 = .ok (.iadd, 1) := by decide +kernel
theorem dX12_goesShot_86 : decode kX12_goesShot.2.1 86 = .ok (.dup2, 1) := by decide +kernel
theorem dX12_goesShot_87 : decode kX12_goesShot.2.1 87 = .ok (.iaload, 1) := by decide +kernel
theorem dX12_goesShot_88 : decode kX12_goesShot.2.1 88 = .ok (.iconst 1, 1) := by decide +kernel
theorem dX12_goesShot_89 : decode kX12_goesShot.2.1 89 = .ok (.iadd, 1) := by decide +kernel
theorem dX12_goesShot_90 : decode kX12_goesShot.2.1 90 = .ok (.iastore, 1) := by decide +kernel
theorem dX12_goesShot_91 : decode kX12_goesShot.2.1 91 = .ok (.aload_n 0, 1) := by decide +kernel
theorem dX12_goesShot_92 : decode kX12_goesShot.2.1 92 = .ok (.getfield 13, 3) := by decide +kernel
theorem dX12_goesShot_95 : decode kX12_goesShot.2.1 95 = .ok (.bipush 27, 2) := by decide +kernel
theorem dX12_goesShot_97 : decode kX12_goesShot.2.1 97 = .ok (.dup2, 1) := by decide +kernel
theorem dX12_goesShot_98 : decode kX12_goesShot.2.1 98 = .ok (.iaload, 1) := by decide +kernel
theorem dX12_goesShot_99 : decode kX12_goesShot.2.1 99 = .ok (.iconst 1, 1) := by decide +kernel
theorem dX12_goesShot_100 : decode kX12_goesShot.2.1 100 = .ok (.iadd, 1) := by decide +kernel
theorem dX12_goesShot_101 : decode kX12_goesShot.2.1 101 = .ok (.iastore, 1) := by decide +kernel
theorem dX12_goesShot_102 : decode kX12_goesShot.2.1 102 = .ok (.iload 6, 2) := by decide +kernel
theorem dX12_goesShot_104 : decode kX12_goesShot.2.1 104 = .ok (.ireturn, 1) := by decide +kernel
theorem dX12_canShoot_0 : decode kX12_canShoot.2.1 0 = .ok (.aload_n 0, 1) := by decide +kernel
theorem dX12_canShoot_1 : decode kX12_canShoot.2.1 1 = .ok (.iload_n 1, 1) := by decide +kernel
theorem dX12_canShoot_2 : decode kX12_canShoot.2.1 2 = .ok (.i2l, 1) := by decide +kernel
theorem dX12_canShoot_3 : decode kX12_canShoot.2.1 3 = .ok (.invokevirtual 236, 3) := by decide +kernel
theorem dX12_canShoot_6 : decode kX12_canShoot.2.1 6 = .ok (.ifCond .eq 23, 3) := by decide +kernel
theorem dX12_canShoot_9 : decode kX12_canShoot.2.1 9 = .ok (.iload_n 2, 1) := by decide +kernel
theorem dX12_canShoot_10 : decode kX12_canShoot.2.1 10 = .ok (.i2l, 1) := by decide +kernel
theorem dX12_canShoot_11 : decode kX12_canShoot.2.1 11 = .ok (.invokestatic 241, 3) := by decide +kernel
theorem dX12_canShoot_14 : decode kX12_canShoot.2.1 14 = .ok (.ifCond .eq 15, 3) := by decide +kernel
theorem dX12_canShoot_17 : decode kX12_canShoot.2.1 17 = .ok (.iload_n 3, 1) := by decide +kernel
theorem dX12_canShoot_18 : decode kX12_canShoot.2.1 18 = .ok (.i2l, 1) := by decide +kernel
theorem dX12_canShoot_19 : decode kX12_canShoot.2.1 19 = .ok (.invokestatic 244, 3) := by decide +kernel
theorem dX12_canShoot_22 : decode kX12_canShoot.2.1 22 = .ok (.ifCond .eq 7, 3) := by decide +kernel
theorem dX12_canShoot_25 : decode kX12_canShoot.2.1 25 = .ok (.iconst 1, 1) := by decide +kernel
theorem dX12_canShoot_26 : decode kX12_canShoot.2.1 26 = .ok (.goto 4, 3) := by decide +kernel
theorem dX12_canShoot_29 : decode kX12_canShoot.2.1 29 = .ok (.iconst 0, 1) := by decide +kernel
theorem dX12_canShoot_30 : decode kX12_canShoot.2.1 30 = .ok (.ireturn, 1) := by decide +kernel
theorem dX12_shoot_0 : decode kX12_shoot.2.1 0 = .ok (.aload_n 0, 1) := by decide +kernel
theorem dX12_shoot_1 : decode kX12_shoot.2.1 1 = .ok (.iconst 0, 1) := by decide +kernel
theorem dX12_shoot_2 : decode kX12_shoot.2.1 2 = .ok (.putfield 1, 3) := by decide +kernel
theorem dX12_shoot_5 : decode kX12_shoot.2.1 5 = .ok (.aload_n 0, 1) := by decide +kernel
theorem dX12_shoot_6 : decode kX12_shoot.2.1 6 = .ok (.iload_n 1, 1) := by decide +kernel
theorem dX12_shoot_7 : decode kX12_shoot.2.1 7 = .ok (.iload_n 2, 1) := by decide +kernel
theorem dX12_shoot_8 : decode kX12_shoot.2.1 8 = .ok (.iload_n 3, 1) := by decide +kernel
theorem dX12_shoot_9 : decode kX12_shoot.2.1 9 = .ok (.invokevirtual 260, 3) := by decide +kernel
theorem dX12_shoot_12 : decode kX12_shoot.2.1 12 = .ok (.ifCond .ne 7, 3) := by decide +kernel
theorem dX12_shoot_15 : decode kX12_shoot.2.1 15 = .ok (.ldc_w 264, 3) := by decide +kernel
theorem dX12_shoot_18 : decode kX12_shoot.2.1 18 = .ok (.ireturn, 1) := by decide +kernel
theorem dX12_shoot_19 : decode kX12_shoot.2.1 19 = .ok (.aload_n 0, 1) := by decide +kernel
theorem dX12_shoot_20 : decode kX12_shoot.2.1 20 = .ok (.invokevirtual 265, 3) := by decide +kernel
theorem dX12_shoot_23 : decode kX12_shoot.2.1 23 = .ok (.aload_n 0, 1) := by decide +kernel
theorem dX12_shoot_24 : decode kX12_shoot.2.1 24 = .ok (.iload_n 1, 1) := by decide +kernel
theorem dX12_shoot_25 : decode kX12_shoot.2.1 25 = .ok (.iload_n 2, 1) := by decide +kernel
theorem dX12_shoot_26 : decode kX12_shoot.2.1 26 = .ok (.iload_n 3, 1) := by decide +kernel
theorem dX12_shoot_27 : decode kX12_shoot.2.1 27 = .ok (.invokevirtual 268, 3) := by decide +kernel
theorem dX12_shoot_30 : decode kX12_shoot.2.1 30 = .ok (.istore 4, 2) := by decide +kernel
theorem dX12_shoot_32 : decode kX12_shoot.2.1 32 = .ok (.aload_n 0, 1) := by decide +kernel
theorem dX12_shoot_33 : decode kX12_shoot.2.1 33 = .ok (.invokevirtual 271, 3) := by decide +kernel
theorem dX12_shoot_36 : decode kX12_shoot.2.1 36 = .ok (.iload 4, 2) := by decide +kernel
theorem dX12_shoot_38 : decode kX12_shoot.2.1 38 = .ok (.ireturn, 1) := by decide +kernel
theorem dX12_waits_0 : decode kX12_waits.2.1 0 = .ok (.aload_n 0, 1) := by decide +kernel
theorem dX12_waits_1 : decode kX12_waits.2.1 1 = .ok (.iconst 0, 1) := by decide +kernel
theorem dX12_waits_2 : decode kX12_waits.2.1 2 = .ok (.putfield 1, 3) := by decide +kernel
theorem dX12_waits_5 : decode kX12_waits.2.1 5 = .ok (.iload_n 1, 1) := by decide +kernel
theorem dX12_waits_6 : decode kX12_waits.2.1 6 = .ok (.i2l, 1) := by decide +kernel
theorem dX12_waits_7 : decode kX12_waits.2.1 7 = .ok (.lconst 1, 1) := by decide +kernel
theorem dX12_waits_8 : decode kX12_waits.2.1 8 = .ok (.ldc2_w 258, 3) := by decide +kernel
theorem dX12_waits_11 : decode kX12_waits.2.1 11 = .ok (.invokestatic 142, 3) := by decide +kernel
theorem dX12_waits_14 : decode kX12_waits.2.1 14 = .ok (.ifCond .ne 6, 3) := by decide +kernel
theorem dX12_waits_17 : decode kX12_waits.2.1 17 = .ok (.bipush (-3), 2) := by decide +kernel
theorem dX12_waits_19 : decode kX12_waits.2.1 19 = .ok (.ireturn, 1) := by decide +kernel
theorem dX12_waits_20 : decode kX12_waits.2.1 20 = .ok (.aload_n 0, 1) := by decide +kernel
theorem dX12_waits_21 : decode kX12_waits.2.1 21 = .ok (.invokevirtual 265, 3) := by decide +kernel
theorem dX12_waits_24 : decode kX12_waits.2.1 24 = .ok (.aload_n 0, 1) := by decide +kernel
theorem dX12_waits_25 : decode kX12_waits.2.1 25 = .ok (.getfield 13, 3) := by decide +kernel
theorem dX12_waits_28 : decode kX12_waits.2.1 28 = .ok (.bipush 27, 2) := by decide +kernel
theorem dX12_waits_30 : decode kX12_waits.2.1 30 = .ok (.dup2, 1) := by decide +kernel
theorem dX12_waits_31 : decode kX12_waits.2.1 31 = .ok (.iaload, 1) := by decide +kernel
theorem dX12_waits_32 : decode kX12_waits.2.1 32 = .ok (.iload_n 1, 1) := by decide +kernel
theorem dX12_waits_33 : decode kX12_waits.2.1 33 = .ok (.iadd, 1) := by decide +kernel
theorem dX12_waits_34 : decode kX12_waits.2.1 34 = .ok (.iastore, 1) := by decide +kernel
theorem dX12_waits_35 : decode kX12_waits.2.1 35 = .ok (.aload_n 0, 1) := by decide +kernel
theorem dX12_waits_36 : decode kX12_waits.2.1 36 = .ok (.invokevirtual 271, 3) := by decide +kernel
theorem dX12_waits_39 : decode kX12_waits.2.1 39 = .ok (.aload_n 0, 1) := by decide +kernel
theorem dX12_waits_40 : decode kX12_waits.2.1 40 = .ok (.getfield 13, 3) := by decide +kernel
theorem dX12_waits_43 : decode kX12_waits.2.1 43 = .ok (.bipush 27, 2) := by decide +kernel
theorem dX12_waits_45 : decode kX12_waits.2.1 45 = .ok (.iaload, 1) := by decide +kernel
theorem dX12_waits_46 : decode kX12_waits.2.1 46 = .ok (.ireturn, 1) := by decide +kernel
theorem dX12_heal_0 : decode kX12_heal.2.1 0 = .ok (.aload_n 0, 1) := by decide +kernel
theorem dX12_heal_1 : decode kX12_heal.2.1 1 = .ok (.iconst 0, 1) := by decide +kernel
theorem dX12_heal_2 : decode kX12_heal.2.1 2 = .ok (.putfield 1, 3) := by decide +kernel
theorem dX12_heal_5 : decode kX12_heal.2.1 5 = .ok (.aload_n 0, 1) := by decide +kernel
theorem dX12_heal_6 : decode kX12_heal.2.1 6 = .ok (.invokevirtual 265, 3) := by decide +kernel
theorem dX12_heal_9 : decode kX12_heal.2.1 9 = .ok (.aload_n 0, 1) := by decide +kernel
theorem dX12_heal_10 : decode kX12_heal.2.1 10 = .ok (.getfield 13, 3) := by decide +kernel
theorem dX12_heal_13 : decode kX12_heal.2.1 13 = .ok (.bipush 25, 2) := by decide +kernel
theorem dX12_heal_15 : decode kX12_heal.2.1 15 = .ok (.iconst 0, 1) := by decide +kernel
theorem dX12_heal_16 : decode kX12_heal.2.1 16 = .ok (.iastore, 1) := by decide +kernel
theorem dX12_heal_17 : decode kX12_heal.2.1 17 = .ok (.aload_n 0, 1) := by decide +kernel
theorem dX12_heal_18 : decode kX12_heal.2.1 18 = .ok (.invokevirtual 271, 3) := by decide +kernel
theorem dX12_heal_21 : decode kX12_heal.2.1 21 = .ok (.aload_n 0, 1) := by decide +kernel
theorem dX12_heal_22 : decode kX12_heal.2.1 22 = .ok (.getfield 36, 3) := by decide +kernel
theorem dX12_heal_25 : decode kX12_heal.2.1 25 = .ok (.bipush 8, 2) := by decide +kernel
theorem dX12_heal_27 : decode kX12_heal.2.1 27 = .ok (.iaload, 1) := by decide +kernel
theorem dX12_heal_28 : decode kX12_heal.2.1 28 = .ok (.ireturn, 1) := by decide +kernel
theorem dX12_wind_0 : decode kX12_wind.2.1 0 = .ok (.aload_n 0, 1) := by decide +kernel
theorem dX12_wind_1 : decode kX12_wind.2.1 1 = .ok (.iconst 0, 1) := by decide +kernel
theorem dX12_wind_2 : decode kX12_wind.2.1 2 = .ok (.putfield 1, 3) := by decide +kernel
theorem dX12_wind_5 : decode kX12_wind.2.1 5 = .ok (.iload_n 1, 1) := by decide +kernel
theorem dX12_wind_6 : decode kX12_wind.2.1 6 = .ok (.i2l, 1) := by decide +kernel
theorem dX12_wind_7 : decode kX12_wind.2.1 7 = .ok (.lconst 0, 1) := by decide +kernel
theorem dX12_wind_8 : decode kX12_wind.2.1 8 = .ok (.ldc2_w 210, 3) := by decide +kernel
theorem dX12_wind_11 : decode kX12_wind.2.1 11 = .ok (.invokestatic 142, 3) := by decide +kernel
theorem dX12_wind_14 : decode kX12_wind.2.1 14 = .ok (.ifCond .ne 6, 3) := by decide +kernel
theorem dX12_wind_17 : decode kX12_wind.2.1 17 = .ok (.bipush (-11), 2) := by decide +kernel
theorem dX12_wind_19 : decode kX12_wind.2.1 19 = .ok (.ireturn, 1) := by decide +kernel
theorem dX12_wind_20 : decode kX12_wind.2.1 20 = .ok (.aload_n 0, 1) := by decide +kernel
theorem dX12_wind_21 : decode kX12_wind.2.1 21 = .ok (.invokevirtual 265, 3) := by decide +kernel
theorem dX12_wind_24 : decode kX12_wind.2.1 24 = .ok (.aload_n 0, 1) := by decide +kernel
theorem dX12_wind_25 : decode kX12_wind.2.1 25 = .ok (.getfield 13, 3) := by decide +kernel
theorem dX12_wind_28 : decode kX12_wind.2.1 28 = .ok (.bipush 26, 2) := by decide +kernel
theorem dX12_wind_30 : decode kX12_wind.2.1 30 = .ok (.iload_n 1, 1) := by decide +kernel
theorem dX12_wind_31 : decode kX12_wind.2.1 31 = .ok (.iastore, 1) := by decide +kernel
theorem dX12_wind_32 : decode kX12_wind.2.1 32 = .ok (.aload_n 0, 1) := by decide +kernel
theorem dX12_wind_33 : decode kX12_wind.2.1 33 = .ok (.invokevirtual 271, 3) := by decide +kernel
theorem dX12_wind_36 : decode kX12_wind.2.1 36 = .ok (.aload_n 0, 1) := by decide +kernel
theorem dX12_wind_37 : decode kX12_wind.2.1 37 = .ok (.getfield 36, 3) := by decide +kernel
theorem dX12_wind_40 : decode kX12_wind.2.1 40 = .ok (.bipush 9, 2) := by decide +kernel
theorem dX12_wind_42 : decode kX12_wind.2.1 42 = .ok (.iaload, 1) := by decide +kernel
theorem dX12_wind_43 : decode kX12_wind.2.1 43 = .ok (.ireturn, 1) := by decide +kernel
theorem dX12_undo_0 : decode kX12_undo.2.1 0 = .ok (.aload_n 0, 1) := by decide +kernel
theorem dX12_undo_1 : decode kX12_undo.2.1 1 = .ok (.iconst 0, 1) := by decide +kernel
theorem dX12_undo_2 : decode kX12_undo.2.1 2 = .ok (.putfield 1, 3) := by decide +kernel
theorem dX12_undo_5 : decode kX12_undo.2.1 5 = .ok (.iload_n 1, 1) := by decide +kernel
theorem dX12_undo_6 : decode kX12_undo.2.1 6 = .ok (.i2l, 1) := by decide +kernel
theorem dX12_undo_7 : decode kX12_undo.2.1 7 = .ok (.lconst 1, 1) := by decide +kernel
theorem dX12_undo_8 : decode kX12_undo.2.1 8 = .ok (.ldc2_w 274, 3) := by decide +kernel
theorem dX12_undo_11 : decode kX12_undo.2.1 11 = .ok (.invokestatic 142, 3) := by decide +kernel
theorem dX12_undo_14 : decode kX12_undo.2.1 14 = .ok (.ifCond .eq 14, 3) := by decide +kernel
theorem dX12_undo_17 : decode kX12_undo.2.1 17 = .ok (.iload_n 1, 1) := by decide +kernel
theorem dX12_undo_18 : decode kX12_undo.2.1 18 = .ok (.aload_n 0, 1) := by decide +kernel
theorem dX12_undo_19 : decode kX12_undo.2.1 19 = .ok (.getfield 13, 3) := by decide +kernel
theorem dX12_undo_22 : decode kX12_undo.2.1 22 = .ok (.bipush 28, 2) := by decide +kernel
theorem dX12_undo_24 : decode kX12_undo.2.1 24 = .ok (.iaload, 1) := by decide +kernel
theorem dX12_undo_25 : decode kX12_undo.2.1 25 = .ok (.if_icmp .le 6, 3) := by decide +kernel
theorem dX12_undo_28 : decode kX12_undo.2.1 28 = .ok (.bipush (-3), 2) := by decide +kernel
theorem dX12_undo_30 : decode kX12_undo.2.1 30 = .ok (.ireturn, 1) := by decide +kernel
theorem dX12_undo_31 : decode kX12_undo.2.1 31 = .ok (.aload_n 0, 1) := by decide +kernel
theorem dX12_undo_32 : decode kX12_undo.2.1 32 = .ok (.getfield 13, 3) := by decide +kernel
theorem dX12_undo_35 : decode kX12_undo.2.1 35 = .ok (.bipush 28, 2) := by decide +kernel
theorem dX12_undo_37 : decode kX12_undo.2.1 37 = .ok (.dup2, 1) := by decide +kernel
theorem dX12_undo_38 : decode kX12_undo.2.1 38 = .ok (.iaload, 1) := by decide +kernel
theorem dX12_undo_39 : decode kX12_undo.2.1 39 = .ok (.iload_n 1, 1) := by decide +kernel
theorem dX12_undo_40 : decode kX12_undo.2.1 40 = .ok (.isub, 1) := by decide +kernel
theorem dX12_undo_41 : decode kX12_undo.2.1 41 = .ok (.iastore, 1) := by decide +kernel
theorem dX12_undo_42 : decode kX12_undo.2.1 42 = .ok (.iconst 0, 1) := by decide +kernel
theorem dX12_undo_43 : decode kX12_undo.2.1 43 = .ok (.istore_n 2, 1) := by decide +kernel
theorem dX12_undo_44 : decode kX12_undo.2.1 44 = .ok (.iload_n 2, 1) := by decide +kernel
theorem dX12_undo_45 : decode kX12_undo.2.1 45 = .ok (.bipush 11, 2) := by decide +kernel
theorem dX12_undo_47 : decode kX12_undo.2.1 47 = .ok (.if_icmp .ge 38, 3) := by decide +kernel
theorem dX12_undo_50 : decode kX12_undo.2.1 50 = .ok (.aload_n 0, 1) := by decide +kernel
theorem dX12_undo_51 : decode kX12_undo.2.1 51 = .ok (.getfield 13, 3) := by decide +kernel
theorem dX12_undo_54 : decode kX12_undo.2.1 54 = .ok (.bipush 17, 2) := by decide +kernel
theorem dX12_undo_56 : decode kX12_undo.2.1 56 = .ok (.iload_n 2, 1) := by decide +kernel
theorem dX12_undo_57 : decode kX12_undo.2.1 57 = .ok (.iadd, 1) := by decide +kernel
theorem dX12_undo_58 : decode kX12_undo.2.1 58 = .ok (.aload_n 0, 1) := by decide +kernel
theorem dX12_undo_59 : decode kX12_undo.2.1 59 = .ok (.getfield 13, 3) := by decide +kernel
theorem dX12_undo_62 : decode kX12_undo.2.1 62 = .ok (.bipush 29, 2) := by decide +kernel
theorem dX12_undo_64 : decode kX12_undo.2.1 64 = .ok (.bipush 11, 2) := by decide +kernel
theorem dX12_undo_66 : decode kX12_undo.2.1 66 = .ok (.aload_n 0, 1) := by decide +kernel
theorem dX12_undo_67 : decode kX12_undo.2.1 67 = .ok (.getfield 13, 3) := by decide +kernel
theorem dX12_undo_70 : decode kX12_undo.2.1 70 = .ok (.bipush 28, 2) := by decide +kernel
theorem dX12_undo_72 : decode kX12_undo.2.1 72 = .ok (.iaload, 1) := by decide +kernel
theorem dX12_undo_73 : decode kX12_undo.2.1 73 = .ok (.imul, 1) := by decide +kernel
theorem dX12_undo_74 : decode kX12_undo.2.1 74 = .ok (.iadd, 1) := by decide +kernel
theorem dX12_undo_75 : decode kX12_undo.2.1 75 = .ok (.iload_n 2, 1) := by decide +kernel
theorem dX12_undo_76 : decode kX12_undo.2.1 76 = .ok (.iadd, 1) := by decide +kernel
theorem dX12_undo_77 : decode kX12_undo.2.1 77 = .ok (.iaload, 1) := by decide +kernel
theorem dX12_undo_78 : decode kX12_undo.2.1 78 = .ok (.iastore, 1) := by decide +kernel
theorem dX12_undo_79 : decode kX12_undo.2.1 79 = .ok (.iinc 2 1, 3) := by decide +kernel
theorem dX12_undo_82 : decode kX12_undo.2.1 82 = .ok (.goto (-38), 3) := by decide +kernel
theorem dX12_undo_85 : decode kX12_undo.2.1 85 = .ok (.aload_n 0, 1) := by decide +kernel
theorem dX12_undo_86 : decode kX12_undo.2.1 86 = .ok (.getfield 13, 3) := by decide +kernel
theorem dX12_undo_89 : decode kX12_undo.2.1 89 = .ok (.bipush 28, 2) := by decide +kernel
theorem dX12_undo_91 : decode kX12_undo.2.1 91 = .ok (.iaload, 1) := by decide +kernel
theorem dX12_undo_92 : decode kX12_undo.2.1 92 = .ok (.ireturn, 1) := by decide +kernel
theorem dX12_whyNot_0 : decode kX12_whyNot.2.1 0 = .ok (.lload_n 1, 1) := by decide +kernel
theorem dX12_whyNot_1 : decode kX12_whyNot.2.1 1 = .ok (.lconst 0, 1) := by decide +kernel
theorem dX12_whyNot_2 : decode kX12_whyNot.2.1 2 = .ok (.lcmp, 1) := by decide +kernel
theorem dX12_whyNot_3 : decode kX12_whyNot.2.1 3 = .ok (.ifCond .eq 22, 3) := by decide +kernel
theorem dX12_whyNot_6 : decode kX12_whyNot.2.1 6 = .ok (.lload_n 1, 1) := by decide +kernel
theorem dX12_whyNot_7 : decode kX12_whyNot.2.1 7 = .ok (.lconst 1, 1) := by decide +kernel
theorem dX12_whyNot_8 : decode kX12_whyNot.2.1 8 = .ok (.lcmp, 1) := by decide +kernel
theorem dX12_whyNot_9 : decode kX12_whyNot.2.1 9 = .ok (.ifCond .eq 16, 3) := by decide +kernel
theorem dX12_whyNot_12 : decode kX12_whyNot.2.1 12 = .ok (.lload_n 1, 1) := by decide +kernel
theorem dX12_whyNot_13 : decode kX12_whyNot.2.1 13 = .ok (.ldc2_w 274, 3) := by decide +kernel
theorem dX12_whyNot_16 : decode kX12_whyNot.2.1 16 = .ok (.ldc2_w 276, 3) := by decide +kernel
theorem dX12_whyNot_19 : decode kX12_whyNot.2.1 19 = .ok (.invokestatic 142, 3) := by decide +kernel
theorem dX12_whyNot_22 : decode kX12_whyNot.2.1 22 = .ok (.ifCond .eq 5, 3) := by decide +kernel
theorem dX12_whyNot_25 : decode kX12_whyNot.2.1 25 = .ok (.iconst 0, 1) := by decide +kernel
theorem dX12_whyNot_26 : decode kX12_whyNot.2.1 26 = .ok (.ireturn, 1) := by decide +kernel
theorem dX12_whyNot_27 : decode kX12_whyNot.2.1 27 = .ok (.lload_n 1, 1) := by decide +kernel
theorem dX12_whyNot_28 : decode kX12_whyNot.2.1 28 = .ok (.ldc2_w 278, 3) := by decide +kernel
theorem dX12_whyNot_31 : decode kX12_whyNot.2.1 31 = .ok (.ldc2_w 280, 3) := by decide +kernel
theorem dX12_whyNot_34 : decode kX12_whyNot.2.1 34 = .ok (.invokestatic 142, 3) := by decide +kernel
theorem dX12_whyNot_37 : decode kX12_whyNot.2.1 37 = .ok (.ifCond .ne 5, 3) := by decide +kernel
theorem dX12_whyNot_40 : decode kX12_whyNot.2.1 40 = .ok (.iconst 1, 1) := by decide +kernel
theorem dX12_whyNot_41 : decode kX12_whyNot.2.1 41 = .ok (.ireturn, 1) := by decide +kernel
theorem dX12_whyNot_42 : decode kX12_whyNot.2.1 42 = .ok (.aload_n 0, 1) := by decide +kernel
theorem dX12_whyNot_43 : decode kX12_whyNot.2.1 43 = .ok (.lload_n 1, 1) := by decide +kernel
theorem dX12_whyNot_44 : decode kX12_whyNot.2.1 44 = .ok (.l2i, 1) := by decide +kernel
theorem dX12_whyNot_45 : decode kX12_whyNot.2.1 45 = .ok (.sipush 10000, 3) := by decide +kernel
theorem dX12_whyNot_48 : decode kX12_whyNot.2.1 48 = .ok (.idiv, 1) := by decide +kernel
theorem dX12_whyNot_49 : decode kX12_whyNot.2.1 49 = .ok (.iconst 1, 1) := by decide +kernel
theorem dX12_whyNot_50 : decode kX12_whyNot.2.1 50 = .ok (.isub, 1) := by decide +kernel
theorem dX12_whyNot_51 : decode kX12_whyNot.2.1 51 = .ok (.lload_n 1, 1) := by decide +kernel
theorem dX12_whyNot_52 : decode kX12_whyNot.2.1 52 = .ok (.l2i, 1) := by decide +kernel
theorem dX12_whyNot_53 : decode kX12_whyNot.2.1 53 = .ok (.sipush 10000, 3) := by decide +kernel
theorem dX12_whyNot_56 : decode kX12_whyNot.2.1 56 = .ok (.irem, 1) := by decide +kernel
theorem dX12_whyNot_57 : decode kX12_whyNot.2.1 57 = .ok (.bipush 100, 2) := by decide +kernel
theorem dX12_whyNot_59 : decode kX12_whyNot.2.1 59 = .ok (.idiv, 1) := by decide +kernel
theorem dX12_whyNot_60 : decode kX12_whyNot.2.1 60 = .ok (.lload_n 1, 1) := by decide +kernel
theorem dX12_whyNot_61 : decode kX12_whyNot.2.1 61 = .ok (.l2i, 1) := by decide +kernel
theorem dX12_whyNot_62 : decode kX12_whyNot.2.1 62 = .ok (.bipush 100, 2) := by decide +kernel
theorem dX12_whyNot_64 : decode kX12_whyNot.2.1 64 = .ok (.irem, 1) := by decide +kernel
theorem dX12_whyNot_65 : decode kX12_whyNot.2.1 65 = .ok (.invokevirtual 260, 3) := by decide +kernel
theorem dX12_whyNot_68 : decode kX12_whyNot.2.1 68 = .ok (.ifCond .eq 7, 3) := by decide +kernel
theorem dX12_whyNot_71 : decode kX12_whyNot.2.1 71 = .ok (.iconst 0, 1) := by decide +kernel
theorem dX12_whyNot_72 : decode kX12_whyNot.2.1 72 = .ok (.goto 4, 3) := by decide +kernel
theorem dX12_whyNot_75 : decode kX12_whyNot.2.1 75 = .ok (.iconst 1, 1) := by decide +kernel
theorem dX12_whyNot_76 : decode kX12_whyNot.2.1 76 = .ok (.ireturn, 1) := by decide +kernel
theorem dX12_does_0 : decode kX12_does.2.1 0 = .ok (.iload_n 1, 1) := by decide +kernel
theorem dX12_does_1 : decode kX12_does.2.1 1 = .ok (.ifCond .ne 17, 3) := by decide +kernel
theorem dX12_does_4 : decode kX12_does.2.1 4 = .ok (.aload_n 0, 1) := by decide +kernel
theorem dX12_does_5 : decode kX12_does.2.1 5 = .ok (.getfield 13, 3) := by decide +kernel
theorem dX12_does_8 : decode kX12_does.2.1 8 = .ok (.bipush 27, 2) := by decide +kernel
theorem dX12_does_10 : decode kX12_does.2.1 10 = .ok (.dup2, 1) := by decide +kernel
theorem dX12_does_11 : decode kX12_does.2.1 11 = .ok (.iaload, 1) := by decide +kernel
theorem dX12_does_12 : decode kX12_does.2.1 12 = .ok (.iconst 1, 1) := by decide +kernel
theorem dX12_does_13 : decode kX12_does.2.1 13 = .ok (.iadd, 1) := by decide +kernel
theorem dX12_does_14 : decode kX12_does.2.1 14 = .ok (.iastore, 1) := by decide +kernel
theorem dX12_does_15 : decode kX12_does.2.1 15 = .ok (.goto 63, 3) := by decide +kernel
theorem dX12_does_18 : decode kX12_does.2.1 18 = .ok (.iload_n 1, 1) := by decide +kernel
theorem dX12_does_19 : decode kX12_does.2.1 19 = .ok (.iconst 1, 1) := by decide +kernel
theorem dX12_does_20 : decode kX12_does.2.1 20 = .ok (.if_icmp .ne 14, 3) := by decide +kernel
theorem dX12_does_23 : decode kX12_does.2.1 23 = .ok (.aload_n 0, 1) := by decide +kernel
theorem dX12_does_24 : decode kX12_does.2.1 24 = .ok (.getfield 13, 3) := by decide +kernel
theorem dX12_does_27 : decode kX12_does.2.1 27 = .ok (.bipush 25, 2) := by decide +kernel
theorem dX12_does_29 : decode kX12_does.2.1 29 = .ok (.iconst 0, 1) := by decide +kernel
theorem dX12_does_30 : decode kX12_does.2.1 30 = .ok (.iastore, 1) := by decide +kernel
theorem dX12_does_31 : decode kX12_does.2.1 31 = .ok (.goto 47, 3) := by decide +kernel
theorem dX12_does_34 : decode kX12_does.2.1 34 = .ok (.iload_n 1, 1) := by decide +kernel
theorem dX12_does_35 : decode kX12_does.2.1 35 = .ok (.bipush 20, 2) := by decide +kernel
theorem dX12_does_37 : decode kX12_does.2.1 37 = .ok (.if_icmp .ge 17, 3) := by decide +kernel
theorem dX12_does_40 : decode kX12_does.2.1 40 = .ok (.aload_n 0, 1) := by decide +kernel
theorem dX12_does_41 : decode kX12_does.2.1 41 = .ok (.getfield 13, 3) := by decide +kernel
theorem dX12_does_44 : decode kX12_does.2.1 44 = .ok (.bipush 26, 2) := by decide +kernel
theorem dX12_does_46 : decode kX12_does.2.1 46 = .ok (.iload_n 1, 1) := by decide +kernel
theorem dX12_does_47 : decode kX12_does.2.1 47 = .ok (.bipush 10, 2) := by decide +kernel
theorem dX12_does_49 : decode kX12_does.2.1 49 = .ok (.isub, 1) := by decide +kernel
theorem dX12_does_50 : decode kX12_does.2.1 50 = .ok (.iastore, 1) := by decide +kernel
theorem dX12_does_51 : decode kX12_does.2.1 51 = .ok (.goto 27, 3) := by decide +kernel
theorem dX12_does_54 : decode kX12_does.2.1 54 = .ok (.aload_n 0, 1) := by decide +kernel
theorem dX12_does_55 : decode kX12_does.2.1 55 = .ok (.iload_n 1, 1) := by decide +kernel
theorem dX12_does_56 : decode kX12_does.2.1 56 = .ok (.sipush 10000, 3) := by decide +kernel
theorem dX12_does_59 : decode kX12_does.2.1 59 = .ok (.idiv, 1) := by decide +kernel
theorem dX12_does_60 : decode kX12_does.2.1 60 = .ok (.iconst 1, 1) := by decide +kernel
theorem dX12_does_61 : decode kX12_does.2.1 61 = .ok (.isub, 1) := by decide +kernel
theorem dX12_does_62 : decode kX12_does.2.1 62 = .ok (.iload_n 1, 1) := by decide +kernel
theorem dX12_does_63 : decode kX12_does.2.1 63 = .ok (.sipush 10000, 3) := by decide +kernel
theorem dX12_does_66 : decode kX12_does.2.1 66 = .ok (.irem, 1) := by decide +kernel
theorem dX12_does_67 : decode kX12_does.2.1 67 = .ok (.bipush 100, 2) := by decide +kernel
theorem dX12_does_69 : decode kX12_does.2.1 69 = .ok (.idiv, 1) := by decide +kernel
theorem dX12_does_70 : decode kX12_does.2.1 70 = .ok (.iload_n 1, 1) := by decide +kernel
theorem dX12_does_71 : decode kX12_does.2.1 71 = .ok (.bipush 100, 2) := by decide +kernel
theorem dX12_does_73 : decode kX12_does.2.1 73 = .ok (.irem, 1) := by decide +kernel
theorem dX12_does_74 : decode kX12_does.2.1 74 = .ok (.invokevirtual 268, 3) := by decide +kernel
theorem dX12_does_77 : decode kX12_does.2.1 77 = .ok (.pop, 1) := by decide +kernel
theorem dX12_does_78 : decode kX12_does.2.1 78 = .ok (.return_, 1) := by decide +kernel
theorem dX12_toldTill_0 : decode kX12_toldTill.2.1 0 = .ok (.aload_n 0, 1) := by decide +kernel
theorem dX12_toldTill_1 : decode kX12_toldTill.2.1 1 = .ok (.iconst 0, 1) := by decide +kernel
theorem dX12_toldTill_2 : decode kX12_toldTill.2.1 2 = .ok (.putfield 282, 3) := by decide +kernel
theorem dX12_toldTill_5 : decode kX12_toldTill.2.1 5 = .ok (.iconst 0, 1) := by decide +kernel
theorem dX12_toldTill_6 : decode kX12_toldTill.2.1 6 = .ok (.istore_n 2, 1) := by decide +kernel
theorem dX12_toldTill_7 : decode kX12_toldTill.2.1 7 = .ok (.iload_n 2, 1) := by decide +kernel
theorem dX12_toldTill_8 : decode kX12_toldTill.2.1 8 = .ok (.aload_n 0, 1) := by decide +kernel
theorem dX12_toldTill_9 : decode kX12_toldTill.2.1 9 = .ok (.getfield 70, 3) := by decide +kernel
theorem dX12_toldTill_12 : decode kX12_toldTill.2.1 12 = .ok (.iload_n 1, 1) := by decide +kernel
theorem dX12_toldTill_13 : decode kX12_toldTill.2.1 13 = .ok (.iaload, 1) := by decide +kernel
theorem dX12_toldTill_14 : decode kX12_toldTill.2.1 14 = .ok (.if_icmp .ge 53, 3) := by decide +kernel
theorem dX12_toldTill_17 : decode kX12_toldTill.2.1 17 = .ok (.aload_n 0, 1) := by decide +kernel
theorem dX12_toldTill_18 : decode kX12_toldTill.2.1 18 = .ok (.aload_n 0, 1) := by decide +kernel
theorem dX12_toldTill_19 : decode kX12_toldTill.2.1 19 = .ok (.aload_n 0, 1) := by decide +kernel
theorem dX12_toldTill_20 : decode kX12_toldTill.2.1 20 = .ok (.getfield 73, 3) := by decide +kernel
theorem dX12_toldTill_23 : decode kX12_toldTill.2.1 23 = .ok (.bipush 40, 2) := by decide +kernel
theorem dX12_toldTill_25 : decode kX12_toldTill.2.1 25 = .ok (.iload_n 1, 1) := by decide +kernel
theorem dX12_toldTill_26 : decode kX12_toldTill.2.1 26 = .ok (.imul, 1) := by decide +kernel
theorem dX12_toldTill_27 : decode kX12_toldTill.2.1 27 = .ok (.iload_n 2, 1) := by decide +kernel
theorem dX12_toldTill_28 : decode kX12_toldTill.2.1 28 = .ok (.iadd, 1) := by decide +kernel
theorem dX12_toldTill_29 : decode kX12_toldTill.2.1 29 = .ok (.laload, 1) := by decide +kernel
theorem dX12_toldTill_30 : decode kX12_toldTill.2.1 30 = .ok (.invokevirtual 285, 3) := by decide +kernel
theorem dX12_toldTill_33 : decode kX12_toldTill.2.1 33 = .ok (.putfield 282, 3) := by decide +kernel
theorem dX12_toldTill_36 : decode kX12_toldTill.2.1 36 = .ok (.aload_n 0, 1) := by decide +kernel
theorem dX12_toldTill_37 : decode kX12_toldTill.2.1 37 = .ok (.getfield 282, 3) := by decide +kernel
theorem dX12_toldTill_40 : decode kX12_toldTill.2.1 40 = .ok (.ifCond .eq 5, 3) := by decide +kernel
theorem dX12_toldTill_43 : decode kX12_toldTill.2.1 43 = .ok (.iload_n 2, 1) := by decide +kernel
theorem dX12_toldTill_44 : decode kX12_toldTill.2.1 44 = .ok (.ireturn, 1) := by decide +kernel
theorem dX12_toldTill_45 : decode kX12_toldTill.2.1 45 = .ok (.aload_n 0, 1) := by decide +kernel
theorem dX12_toldTill_46 : decode kX12_toldTill.2.1 46 = .ok (.aload_n 0, 1) := by decide +kernel
theorem dX12_toldTill_47 : decode kX12_toldTill.2.1 47 = .ok (.getfield 73, 3) := by decide +kernel
theorem dX12_toldTill_50 : decode kX12_toldTill.2.1 50 = .ok (.bipush 40, 2) := by decide +kernel
theorem dX12_toldTill_52 : decode kX12_toldTill.2.1 52 = .ok (.iload_n 1, 1) := by decide +kernel
theorem dX12_toldTill_53 : decode kX12_toldTill.2.1 53 = .ok (.imul, 1) := by decide +kernel
theorem dX12_toldTill_54 : decode kX12_toldTill.2.1 54 = .ok (.iload_n 2, 1) := by decide +kernel
theorem dX12_toldTill_55 : decode kX12_toldTill.2.1 55 = .ok (.iadd, 1) := by decide +kernel
theorem dX12_toldTill_56 : decode kX12_toldTill.2.1 56 = .ok (.laload, 1) := by decide +kernel
theorem dX12_toldTill_57 : decode kX12_toldTill.2.1 57 = .ok (.l2i, 1) := by decide +kernel
theorem dX12_toldTill_58 : decode kX12_toldTill.2.1 58 = .ok (.invokevirtual 289, 3) := by decide +kernel
theorem dX12_toldTill_61 : decode kX12_toldTill.2.1 61 = .ok (.iinc 2 1, 3) := by decide +kernel
theorem dX12_toldTill_64 : decode kX12_toldTill.2.1 64 = .ok (.goto (-57), 3) := by decide +kernel
theorem dX12_toldTill_67 : decode kX12_toldTill.2.1 67 = .ok (.aload_n 0, 1) := by decide +kernel
theorem dX12_toldTill_68 : decode kX12_toldTill.2.1 68 = .ok (.getfield 70, 3) := by decide +kernel
theorem dX12_toldTill_71 : decode kX12_toldTill.2.1 71 = .ok (.iload_n 1, 1) := by decide +kernel
theorem dX12_toldTill_72 : decode kX12_toldTill.2.1 72 = .ok (.iaload, 1) := by decide +kernel
theorem dX12_toldTill_73 : decode kX12_toldTill.2.1 73 = .ok (.ireturn, 1) := by decide +kernel
theorem dX12_noTray_0 : decode kX12_noTray.2.1 0 = .ok (.iload_n 1, 1) := by decide +kernel
theorem dX12_noTray_1 : decode kX12_noTray.2.1 1 = .ok (.i2l, 1) := by decide +kernel
theorem dX12_noTray_2 : decode kX12_noTray.2.1 2 = .ok (.lconst 0, 1) := by decide +kernel
theorem dX12_noTray_3 : decode kX12_noTray.2.1 3 = .ok (.ldc2_w 292, 3) := by decide +kernel
theorem dX12_noTray_6 : decode kX12_noTray.2.1 6 = .ok (.invokestatic 142, 3) := by decide +kernel
theorem dX12_noTray_9 : decode kX12_noTray.2.1 9 = .ok (.ifCond .ne 8, 3) := by decide +kernel
theorem dX12_noTray_12 : decode kX12_noTray.2.1 12 = .ok (.bipush (-2), 2) := by decide +kernel
theorem dX12_noTray_14 : decode kX12_noTray.2.1 14 = .ok (.goto 19, 3) := by decide +kernel
theorem dX12_noTray_17 : decode kX12_noTray.2.1 17 = .ok (.aload_n 0, 1) := by decide +kernel
theorem dX12_noTray_18 : decode kX12_noTray.2.1 18 = .ok (.getfield 67, 3) := by decide +kernel
theorem dX12_noTray_21 : decode kX12_noTray.2.1 21 = .ok (.iload_n 1, 1) := by decide +kernel
theorem dX12_noTray_22 : decode kX12_noTray.2.1 22 = .ok (.iaload, 1) := by decide +kernel
theorem dX12_noTray_23 : decode kX12_noTray.2.1 23 = .ok (.iconst (-1), 1) := by decide +kernel
theorem dX12_noTray_24 : decode kX12_noTray.2.1 24 = .ok (.if_icmp .ne 8, 3) := by decide +kernel
theorem dX12_noTray_27 : decode kX12_noTray.2.1 27 = .ok (.bipush (-6), 2) := by decide +kernel
theorem dX12_noTray_29 : decode kX12_noTray.2.1 29 = .ok (.goto 4, 3) := by decide +kernel
theorem dX12_noTray_32 : decode kX12_noTray.2.1 32 = .ok (.iconst 0, 1) := by decide +kernel
theorem dX12_noTray_33 : decode kX12_noTray.2.1 33 = .ok (.ireturn, 1) := by decide +kernel
theorem dX12_judge_0 : decode kX12_judge.2.1 0 = .ok (.aload_n 0, 1) := by decide +kernel
theorem dX12_judge_1 : decode kX12_judge.2.1 1 = .ok (.iconst 0, 1) := by decide +kernel
theorem dX12_judge_2 : decode kX12_judge.2.1 2 = .ok (.putfield 1, 3) := by decide +kernel
theorem dX12_judge_5 : decode kX12_judge.2.1 5 = .ok (.iload_n 2, 1) := by decide +kernel
theorem dX12_judge_6 : decode kX12_judge.2.1 6 = .ok (.i2l, 1) := by decide +kernel
theorem dX12_judge_7 : decode kX12_judge.2.1 7 = .ok (.lconst 0, 1) := by decide +kernel
theorem dX12_judge_8 : decode kX12_judge.2.1 8 = .ok (.ldc2_w 292, 3) := by decide +kernel
theorem dX12_judge_11 : decode kX12_judge.2.1 11 = .ok (.invokestatic 142, 3) := by decide +kernel
theorem dX12_judge_14 : decode kX12_judge.2.1 14 = .ok (.ifCond .ne 6, 3) := by decide +kernel
theorem dX12_judge_17 : decode kX12_judge.2.1 17 = .ok (.bipush (-2), 2) := by decide +kernel
theorem dX12_judge_19 : decode kX12_judge.2.1 19 = .ok (.ireturn, 1) := by decide +kernel
theorem dX12_judge_20 : decode kX12_judge.2.1 20 = .ok (.aload_n 0, 1) := by decide +kernel
theorem dX12_judge_21 : decode kX12_judge.2.1 21 = .ok (.iload_n 1, 1) := by decide +kernel
theorem dX12_judge_22 : decode kX12_judge.2.1 22 = .ok (.invokevirtual 294, 3) := by decide +kernel
theorem dX12_judge_25 : decode kX12_judge.2.1 25 = .ok (.istore_n 3, 1) := by decide +kernel
theorem dX12_judge_26 : decode kX12_judge.2.1 26 = .ok (.iload_n 3, 1) := by decide +kernel
theorem dX12_judge_27 : decode kX12_judge.2.1 27 = .ok (.ifCond .eq 5, 3) := by decide +kernel
theorem dX12_judge_30 : decode kX12_judge.2.1 30 = .ok (.iload_n 3, 1) := by decide +kernel
theorem dX12_judge_31 : decode kX12_judge.2.1 31 = .ok (.ireturn, 1) := by decide +kernel
theorem dX12_judge_32 : decode kX12_judge.2.1 32 = .ok (.aload_n 0, 1) := by decide +kernel
theorem dX12_judge_33 : decode kX12_judge.2.1 33 = .ok (.invokevirtual 265, 3) := by decide +kernel
theorem dX12_judge_36 : decode kX12_judge.2.1 36 = .ok (.aload_n 0, 1) := by decide +kernel
theorem dX12_judge_37 : decode kX12_judge.2.1 37 = .ok (.iload_n 1, 1) := by decide +kernel
theorem dX12_judge_38 : decode kX12_judge.2.1 38 = .ok (.invokevirtual 297, 3) := by decide +kernel
theorem dX12_judge_41 : decode kX12_judge.2.1 41 = .ok (.istore 4, 2) := by decide +kernel
theorem dX12_judge_43 : decode kX12_judge.2.1 43 = .ok (.aload_n 0, 1) := by decide +kernel
theorem dX12_judge_44 : decode kX12_judge.2.1 44 = .ok (.getfield 13, 3) := by decide +kernel
theorem dX12_judge_47 : decode kX12_judge.2.1 47 = .ok (.bipush 27, 2) := by decide +kernel
theorem dX12_judge_49 : decode kX12_judge.2.1 49 = .ok (.iaload, 1) := by decide +kernel
theorem dX12_judge_50 : decode kX12_judge.2.1 50 = .ok (.istore 5, 2) := by decide +kernel
theorem dX12_judge_52 : decode kX12_judge.2.1 52 = .ok (.aload_n 0, 1) := by decide +kernel
theorem dX12_judge_53 : decode kX12_judge.2.1 53 = .ok (.getfield 13, 3) := by decide +kernel
theorem dX12_judge_56 : decode kX12_judge.2.1 56 = .ok (.bipush 25, 2) := by decide +kernel
theorem dX12_judge_58 : decode kX12_judge.2.1 58 = .ok (.iaload, 1) := by decide +kernel
theorem dX12_judge_59 : decode kX12_judge.2.1 59 = .ok (.istore 6, 2) := by decide +kernel
theorem dX12_judge_61 : decode kX12_judge.2.1 61 = .ok (.aload_n 0, 1) := by decide +kernel
theorem dX12_judge_62 : decode kX12_judge.2.1 62 = .ok (.invokevirtual 300, 3) := by decide +kernel
theorem dX12_judge_65 : decode kX12_judge.2.1 65 = .ok (.iload_n 2, 1) := by decide +kernel
theorem dX12_judge_66 : decode kX12_judge.2.1 66 = .ok (.ifCond .ne 19, 3) := by decide +kernel
theorem dX12_judge_69 : decode kX12_judge.2.1 69 = .ok (.aload_n 0, 1) := by decide +kernel
theorem dX12_judge_70 : decode kX12_judge.2.1 70 = .ok (.getfield 282, 3) := by decide +kernel
theorem dX12_judge_73 : decode kX12_judge.2.1 73 = .ok (.ifCond .ne 7, 3) := by decide +kernel
theorem dX12_judge_76 : decode kX12_judge.2.1 76 = .ok (.iconst (-1), 1) := by decide +kernel
theorem dX12_judge_77 : decode kX12_judge.2.1 77 = .ok (.goto 32, 3) := by decide +kernel
theorem dX12_judge_80 : decode kX12_judge.2.1 80 = .ok (.iload 4, 2) := by decide +kernel
theorem dX12_judge_82 : decode kX12_judge.2.1 82 = .ok (.goto 27, 3) := by decide +kernel
theorem dX12_judge_85 : decode kX12_judge.2.1 85 = .ok (.iload_n 2, 1) := by decide +kernel
theorem dX12_judge_86 : decode kX12_judge.2.1 86 = .ok (.iconst 1, 1) := by decide +kernel
theorem dX12_judge_87 : decode kX12_judge.2.1 87 = .ok (.if_icmp .ne 10, 3) := by decide +kernel
theorem dX12_judge_90 : decode kX12_judge.2.1 90 = .ok (.aload_n 0, 1) := by decide +kernel
theorem dX12_judge_91 : decode kX12_judge.2.1 91 = .ok (.getfield 282, 3) := by decide +kernel
theorem dX12_judge_94 : decode kX12_judge.2.1 94 = .ok (.goto 15, 3) := by decide +kernel
theorem dX12_judge_97 : decode kX12_judge.2.1 97 = .ok (.iload_n 2, 1) := by decide +kernel
theorem dX12_judge_98 : decode kX12_judge.2.1 98 = .ok (.iconst 2, 1) := by decide +kernel
theorem dX12_judge_99 : decode kX12_judge.2.1 99 = .ok (.if_icmp .ne 8, 3) := by decide +kernel
theorem dX12_judge_102 : decode kX12_judge.2.1 102 = .ok (.iload 5, 2) := by decide +kernel
theorem dX12_judge_104 : decode kX12_judge.2.1 104 = .ok (.goto 5, 3) := by decide +kernel
theorem dX12_judge_107 : decode kX12_judge.2.1 107 = .ok (.iload 6, 2) := by decide +kernel
theorem dX12_judge_109 : decode kX12_judge.2.1 109 = .ok (.ireturn, 1) := by decide +kernel
theorem dX12_perform_0 : decode kX12_perform.2.1 0 = .ok (.aload_n 0, 1) := by decide +kernel
theorem dX12_perform_1 : decode kX12_perform.2.1 1 = .ok (.iconst 0, 1) := by decide +kernel
theorem dX12_perform_2 : decode kX12_perform.2.1 2 = .ok (.putfield 1, 3) := by decide +kernel
theorem dX12_perform_5 : decode kX12_perform.2.1 5 = .ok (.aload_n 0, 1) := by decide +kernel
theorem dX12_perform_6 : decode kX12_perform.2.1 6 = .ok (.iload_n 1, 1) := by decide +kernel
theorem dX12_perform_7 : decode kX12_perform.2.1 7 = .ok (.invokevirtual 294, 3) := by decide +kernel
theorem dX12_perform_10 : decode kX12_perform.2.1 10 = .ok (.istore_n 2, 1) := by decide +kernel
theorem dX12_perform_11 : decode kX12_perform.2.1 11 = .ok (.iload_n 2, 1) := by decide +kernel
theorem dX12_perform_12 : decode kX12_perform.2.1 12 = .ok (.ifCond .eq 5, 3) := by decide +kernel
theorem dX12_perform_15 : decode kX12_perform.2.1 15 = .ok (.iload_n 2, 1) := by decide +kernel
theorem dX12_perform_16 : decode kX12_perform.2.1 16 = .ok (.ireturn, 1) := by decide +kernel
theorem dX12_perform_17 : decode kX12_perform.2.1 17 = .ok (.aload_n 0, 1) := by decide +kernel
theorem dX12_perform_18 : decode kX12_perform.2.1 18 = .ok (.invokevirtual 265, 3) := by decide +kernel
theorem dX12_perform_21 : decode kX12_perform.2.1 21 = .ok (.aload_n 0, 1) := by decide +kernel
theorem dX12_perform_22 : decode kX12_perform.2.1 22 = .ok (.iload_n 1, 1) := by decide +kernel
theorem dX12_perform_23 : decode kX12_perform.2.1 23 = .ok (.invokevirtual 297, 3) := by decide +kernel
theorem dX12_perform_26 : decode kX12_perform.2.1 26 = .ok (.istore_n 3, 1) := by decide +kernel
theorem dX12_perform_27 : decode kX12_perform.2.1 27 = .ok (.iload_n 3, 1) := by decide +kernel
theorem dX12_perform_28 : decode kX12_perform.2.1 28 = .ok (.ifCond .le 7, 3) := by decide +kernel
theorem dX12_perform_31 : decode kX12_perform.2.1 31 = .ok (.aload_n 0, 1) := by decide +kernel
theorem dX12_perform_32 : decode kX12_perform.2.1 32 = .ok (.invokevirtual 271, 3) := by decide +kernel
theorem dX12_perform_35 : decode kX12_perform.2.1 35 = .ok (.iload_n 3, 1) := by decide +kernel
theorem dX12_perform_36 : decode kX12_perform.2.1 36 = .ok (.ireturn, 1) := by decide +kernel
theorem dX12_draw_0 : decode kX12_draw.2.1 0 = .ok (.aload_n 0, 1) := by decide +kernel
theorem dX12_draw_1 : decode kX12_draw.2.1 1 = .ok (.ldc_w 303, 3) := by decide +kernel
theorem dX12_draw_4 : decode kX12_draw.2.1 4 = .ok (.aload_n 0, 1) := by decide +kernel
theorem dX12_draw_5 : decode kX12_draw.2.1 5 = .ok (.getfield 304, 3) := by decide +kernel
theorem dX12_draw_8 : decode kX12_draw.2.1 8 = .ok (.imul, 1) := by decide +kernel
theorem dX12_draw_9 : decode kX12_draw.2.1 9 = .ok (.sipush 12345, 3) := by decide +kernel
theorem dX12_draw_12 : decode kX12_draw.2.1 12 = .ok (.iadd, 1) := by decide +kernel
theorem dX12_draw_13 : decode kX12_draw.2.1 13 = .ok (.putfield 304, 3) := by decide +kernel
theorem dX12_draw_16 : decode kX12_draw.2.1 16 = .ok (.aload_n 0, 1) := by decide +kernel
theorem dX12_draw_17 : decode kX12_draw.2.1 17 = .ok (.getfield 304, 3) := by decide +kernel
theorem dX12_draw_20 : decode kX12_draw.2.1 20 = .ok (.bipush 16, 2) := by decide +kernel
theorem dX12_draw_22 : decode kX12_draw.2.1 22 = .ok (.iushr, 1) := by decide +kernel
theorem dX12_draw_23 : decode kX12_draw.2.1 23 = .ok (.iload_n 1, 1) := by decide +kernel
theorem dX12_draw_24 : decode kX12_draw.2.1 24 = .ok (.irem, 1) := by decide +kernel
theorem dX12_draw_25 : decode kX12_draw.2.1 25 = .ok (.ireturn, 1) := by decide +kernel
theorem dX12_drawn_0 : decode kX12_drawn.2.1 0 = .ok (.aload_n 0, 1) := by decide +kernel
theorem dX12_drawn_1 : decode kX12_drawn.2.1 1 = .ok (.bipush 6, 2) := by decide +kernel
theorem dX12_drawn_3 : decode kX12_drawn.2.1 3 = .ok (.invokevirtual 307, 3) := by decide +kernel
theorem dX12_drawn_6 : decode kX12_drawn.2.1 6 = .ok (.istore_n 1, 1) := by decide +kernel
theorem dX12_drawn_7 : decode kX12_drawn.2.1 7 = .ok (.iload_n 1, 1) := by decide +kernel
theorem dX12_drawn_8 : decode kX12_drawn.2.1 8 = .ok (.iconst 3, 1) := by decide +kernel
theorem dX12_drawn_9 : decode kX12_drawn.2.1 9 = .ok (.if_icmp .ge 22, 3) := by decide +kernel
theorem dX12_drawn_12 : decode kX12_drawn.2.1 12 = .ok (.iload_n 1, 1) := by decide +kernel
theorem dX12_drawn_13 : decode kX12_drawn.2.1 13 = .ok (.iconst 2, 1) := by decide +kernel
theorem dX12_drawn_14 : decode kX12_drawn.2.1 14 = .ok (.if_icmp .ge 7, 3) := by decide +kernel
theorem dX12_drawn_17 : decode kX12_drawn.2.1 17 = .ok (.iload_n 1, 1) := by decide +kernel
theorem dX12_drawn_18 : decode kX12_drawn.2.1 18 = .ok (.goto 12, 3) := by decide +kernel
theorem dX12_drawn_21 : decode kX12_drawn.2.1 21 = .ok (.bipush 10, 2) := by decide +kernel
theorem dX12_drawn_23 : decode kX12_drawn.2.1 23 = .ok (.aload_n 0, 1) := by decide +kernel
theorem dX12_drawn_24 : decode kX12_drawn.2.1 24 = .ok (.bipush 10, 2) := by decide +kernel
theorem dX12_drawn_26 : decode kX12_drawn.2.1 26 = .ok (.invokevirtual 307, 3) := by decide +kernel
theorem dX12_drawn_29 : decode kX12_drawn.2.1 29 = .ok (.iadd, 1) := by decide +kernel
theorem dX12_drawn_30 : decode kX12_drawn.2.1 30 = .ok (.ireturn, 1) := by decide +kernel
theorem dX12_drawn_31 : decode kX12_drawn.2.1 31 = .ok (.aload_n 0, 1) := by decide +kernel
theorem dX12_drawn_32 : decode kX12_drawn.2.1 32 = .ok (.iconst 4, 1) := by decide +kernel
theorem dX12_drawn_33 : decode kX12_drawn.2.1 33 = .ok (.invokevirtual 307, 3) := by decide +kernel
theorem dX12_drawn_36 : decode kX12_drawn.2.1 36 = .ok (.istore_n 2, 1) := by decide +kernel
theorem dX12_drawn_37 : decode kX12_drawn.2.1 37 = .ok (.aload_n 0, 1) := by decide +kernel
theorem dX12_drawn_38 : decode kX12_drawn.2.1 38 = .ok (.bipush 21, 2) := by decide +kernel
theorem dX12_drawn_40 : decode kX12_drawn.2.1 40 = .ok (.invokevirtual 307, 3) := by decide +kernel
theorem dX12_drawn_43 : decode kX12_drawn.2.1 43 = .ok (.istore_n 3, 1) := by decide +kernel
theorem dX12_drawn_44 : decode kX12_drawn.2.1 44 = .ok (.sipush 10000, 3) := by decide +kernel
theorem dX12_drawn_47 : decode kX12_drawn.2.1 47 = .ok (.iload_n 2, 1) := by decide +kernel
theorem dX12_drawn_48 : decode kX12_drawn.2.1 48 = .ok (.iconst 1, 1) := by decide +kernel
theorem dX12_drawn_49 : decode kX12_drawn.2.1 49 = .ok (.iadd, 1) := by decide +kernel
theorem dX12_drawn_50 : decode kX12_drawn.2.1 50 = .ok (.imul, 1) := by decide +kernel
theorem dX12_drawn_51 : decode kX12_drawn.2.1 51 = .ok (.bipush 100, 2) := by decide +kernel
theorem dX12_drawn_53 : decode kX12_drawn.2.1 53 = .ok (.iload_n 3, 1) := by decide +kernel
theorem dX12_drawn_54 : decode kX12_drawn.2.1 54 = .ok (.imul, 1) := by decide +kernel
theorem dX12_drawn_55 : decode kX12_drawn.2.1 55 = .ok (.iadd, 1) := by decide +kernel
theorem dX12_drawn_56 : decode kX12_drawn.2.1 56 = .ok (.aload_n 0, 1) := by decide +kernel
theorem dX12_drawn_57 : decode kX12_drawn.2.1 57 = .ok (.bipush 10, 2) := by decide +kernel
theorem dX12_drawn_59 : decode kX12_drawn.2.1 59 = .ok (.invokevirtual 307, 3) := by decide +kernel
theorem dX12_drawn_62 : decode kX12_drawn.2.1 62 = .ok (.iadd, 1) := by decide +kernel
theorem dX12_drawn_63 : decode kX12_drawn.2.1 63 = .ok (.ireturn, 1) := by decide +kernel
theorem dX12_day_0 : decode kX12_day.2.1 0 = .ok (.aload_n 0, 1) := by decide +kernel
theorem dX12_day_1 : decode kX12_day.2.1 1 = .ok (.iconst 0, 1) := by decide +kernel
theorem dX12_day_2 : decode kX12_day.2.1 2 = .ok (.putfield 1, 3) := by decide +kernel
theorem dX12_day_5 : decode kX12_day.2.1 5 = .ok (.iload_n 2, 1) := by decide +kernel
theorem dX12_day_6 : decode kX12_day.2.1 6 = .ok (.i2l, 1) := by decide +kernel
theorem dX12_day_7 : decode kX12_day.2.1 7 = .ok (.lconst 1, 1) := by decide +kernel
theorem dX12_day_8 : decode kX12_day.2.1 8 = .ok (.ldc2_w 310, 3) := by decide +kernel
theorem dX12_day_11 : decode kX12_day.2.1 11 = .ok (.invokestatic 142, 3) := by decide +kernel
theorem dX12_day_14 : decode kX12_day.2.1 14 = .ok (.ifCond .ne 6, 3) := by decide +kernel
theorem dX12_day_17 : decode kX12_day.2.1 17 = .ok (.bipush (-3), 2) := by decide +kernel
theorem dX12_day_19 : decode kX12_day.2.1 19 = .ok (.ireturn, 1) := by decide +kernel
theorem dX12_day_20 : decode kX12_day.2.1 20 = .ok (.aload_n 0, 1) := by decide +kernel
theorem dX12_day_21 : decode kX12_day.2.1 21 = .ok (.invokevirtual 265, 3) := by decide +kernel
theorem dX12_day_24 : decode kX12_day.2.1 24 = .ok (.aload_n 0, 1) := by decide +kernel
theorem dX12_day_25 : decode kX12_day.2.1 25 = .ok (.iload_n 1, 1) := by decide +kernel
theorem dX12_day_26 : decode kX12_day.2.1 26 = .ok (.putfield 304, 3) := by decide +kernel
theorem dX12_day_29 : decode kX12_day.2.1 29 = .ok (.iconst 0, 1) := by decide +kernel
theorem dX12_day_30 : decode kX12_day.2.1 30 = .ok (.istore_n 3, 1) := by decide +kernel
theorem dX12_day_31 : decode kX12_day.2.1 31 = .ok (.iconst 0, 1) := by decide +kernel
theorem dX12_day_32 : decode kX12_day.2.1 32 = .ok (.istore 4, 2) := by decide +kernel
theorem dX12_day_34 : decode kX12_day.2.1 34 = .ok (.iload 4, 2) := by decide +kernel
theorem dX12_day_36 : decode kX12_day.2.1 36 = .ok (.iload_n 2, 1) := by decide +kernel
theorem dX12_day_37 : decode kX12_day.2.1 37 = .ok (.if_icmp .ge 37, 3) := by decide +kernel
theorem dX12_day_40 : decode kX12_day.2.1 40 = .ok (.aload_n 0, 1) := by decide +kernel
theorem dX12_day_41 : decode kX12_day.2.1 41 = .ok (.invokevirtual 312, 3) := by decide +kernel
theorem dX12_day_44 : decode kX12_day.2.1 44 = .ok (.istore 5, 2) := by decide +kernel
theorem dX12_day_46 : decode kX12_day.2.1 46 = .ok (.aload_n 0, 1) := by decide +kernel
theorem dX12_day_47 : decode kX12_day.2.1 47 = .ok (.iload 5, 2) := by decide +kernel
theorem dX12_day_49 : decode kX12_day.2.1 49 = .ok (.i2l, 1) := by decide +kernel
theorem dX12_day_50 : decode kX12_day.2.1 50 = .ok (.invokevirtual 285, 3) := by decide +kernel
theorem dX12_day_53 : decode kX12_day.2.1 53 = .ok (.ifCond .eq 6, 3) := by decide +kernel
theorem dX12_day_56 : decode kX12_day.2.1 56 = .ok (.goto 12, 3) := by decide +kernel
theorem dX12_day_59 : decode kX12_day.2.1 59 = .ok (.aload_n 0, 1) := by decide +kernel
theorem dX12_day_60 : decode kX12_day.2.1 60 = .ok (.iload 5, 2) := by decide +kernel
theorem dX12_day_62 : decode kX12_day.2.1 62 = .ok (.invokevirtual 289, 3) := by decide +kernel
theorem dX12_day_65 : decode kX12_day.2.1 65 = .ok (.iinc 3 1, 3) := by decide +kernel
theorem dX12_day_68 : decode kX12_day.2.1 68 = .ok (.iinc 4 1, 3) := by decide +kernel
theorem dX12_day_71 : decode kX12_day.2.1 71 = .ok (.goto (-37), 3) := by decide +kernel
theorem dX12_day_74 : decode kX12_day.2.1 74 = .ok (.iload_n 3, 1) := by decide +kernel
theorem dX12_day_75 : decode kX12_day.2.1 75 = .ok (.ifCond .le 7, 3) := by decide +kernel
theorem dX12_day_78 : decode kX12_day.2.1 78 = .ok (.aload_n 0, 1) := by decide +kernel
theorem dX12_day_79 : decode kX12_day.2.1 79 = .ok (.invokevirtual 271, 3) := by decide +kernel
theorem dX12_day_82 : decode kX12_day.2.1 82 = .ok (.iload_n 3, 1) := by decide +kernel
theorem dX12_day_83 : decode kX12_day.2.1 83 = .ok (.ireturn, 1) := by decide +kernel
theorem dX12_leads_0 : decode kX12_leads.2.1 0 = .ok (.aload_n 0, 1) := by decide +kernel
theorem dX12_leads_1 : decode kX12_leads.2.1 1 = .ok (.iconst 0, 1) := by decide +kernel
theorem dX12_leads_2 : decode kX12_leads.2.1 2 = .ok (.putfield 1, 3) := by decide +kernel
theorem dX12_leads_5 : decode kX12_leads.2.1 5 = .ok (.iconst (-1), 1) := by decide +kernel
theorem dX12_leads_6 : decode kX12_leads.2.1 6 = .ok (.istore_n 1, 1) := by decide +kernel
theorem dX12_leads_7 : decode kX12_leads.2.1 7 = .ok (.iconst 0, 1) := by decide +kernel
theorem dX12_leads_8 : decode kX12_leads.2.1 8 = .ok (.istore_n 2, 1) := by decide +kernel
theorem dX12_leads_9 : decode kX12_leads.2.1 9 = .ok (.iload_n 2, 1) := by decide +kernel
theorem dX12_leads_10 : decode kX12_leads.2.1 10 = .ok (.aload_n 0, 1) := by decide +kernel
theorem dX12_leads_11 : decode kX12_leads.2.1 11 = .ok (.getfield 13, 3) := by decide +kernel
theorem dX12_leads_14 : decode kX12_leads.2.1 14 = .ok (.bipush 6, 2) := by decide +kernel
theorem dX12_leads_16 : decode kX12_leads.2.1 16 = .ok (.iaload, 1) := by decide +kernel
theorem dX12_leads_17 : decode kX12_leads.2.1 17 = .ok (.if_icmp .ge 37, 3) := by decide +kernel
theorem dX12_leads_20 : decode kX12_leads.2.1 20 = .ok (.iload_n 1, 1) := by decide +kernel
theorem dX12_leads_21 : decode kX12_leads.2.1 21 = .ok (.iconst (-1), 1) := by decide +kernel
theorem dX12_leads_22 : decode kX12_leads.2.1 22 = .ok (.if_icmp .eq 24, 3) := by decide +kernel
theorem dX12_leads_25 : decode kX12_leads.2.1 25 = .ok (.aload_n 0, 1) := by decide +kernel
theorem dX12_leads_26 : decode kX12_leads.2.1 26 = .ok (.getfield 13, 3) := by decide +kernel
theorem dX12_leads_29 : decode kX12_leads.2.1 29 = .ok (.bipush 17, 2) := by decide +kernel
theorem dX12_leads_31 : decode kX12_leads.2.1 31 = .ok (.iload_n 2, 1) := by decide +kernel
theorem dX12_leads_32 : decode kX12_leads.2.1 32 = .ok (.iadd, 1) := by decide +kernel
theorem dX12_leads_33 : decode kX12_leads.2.1 33 = .ok (.iaload, 1) := by decide +kernel
theorem dX12_leads_34 : decode kX12_leads.2.1 34 = .ok (.aload_n 0, 1) := by decide +kernel
theorem dX12_leads_35 : decode kX12_leads.2.1 35 = .ok (.getfield 13, 3) := by decide +kernel
theorem dX12_leads_38 : decode kX12_leads.2.1 38 = .ok (.bipush 17, 2) := by decide +kernel
theorem dX12_leads_40 : decode kX12_leads.2.1 40 = .ok (.iload_n 1, 1) := by decide +kernel
theorem dX12_leads_41 : decode kX12_leads.2.1 41 = .ok (.iadd, 1) := by decide +kernel
theorem dX12_leads_42 : decode kX12_leads.2.1 42 = .ok (.iaload, 1) := by decide +kernel
theorem dX12_leads_43 : decode kX12_leads.2.1 43 = .ok (.if_icmp .le 5, 3) := by decide +kernel
theorem dX12_leads_46 : decode kX12_leads.2.1 46 = .ok (.iload_n 2, 1) := by decide +kernel
theorem dX12_leads_47 : decode kX12_leads.2.1 47 = .ok (.istore_n 1, 1) := by decide +kernel
theorem dX12_leads_48 : decode kX12_leads.2.1 48 = .ok (.iinc 2 1, 3) := by decide +kernel
theorem dX12_leads_51 : decode kX12_leads.2.1 51 = .ok (.goto (-42), 3) := by decide +kernel
theorem dX12_leads_54 : decode kX12_leads.2.1 54 = .ok (.iload_n 1, 1) := by decide +kernel
theorem dX12_leads_55 : decode kX12_leads.2.1 55 = .ok (.ireturn, 1) := by decide +kernel
theorem dX12_touchesOf_0 : decode kX12_touchesOf.2.1 0 = .ok (.iconst 0, 1) := by decide +kernel
theorem dX12_touchesOf_1 : decode kX12_touchesOf.2.1 1 = .ok (.istore_n 3, 1) := by decide +kernel
theorem dX12_touchesOf_2 : decode kX12_touchesOf.2.1 2 = .ok (.iconst 0, 1) := by decide +kernel
theorem dX12_touchesOf_3 : decode kX12_touchesOf.2.1 3 = .ok (.istore 4, 2) := by decide +kernel
theorem dX12_touchesOf_5 : decode kX12_touchesOf.2.1 5 = .ok (.iload 4, 2) := by decide +kernel
theorem dX12_touchesOf_7 : decode kX12_touchesOf.2.1 7 = .ok (.bipush 10, 2) := by decide +kernel
theorem dX12_touchesOf_9 : decode kX12_touchesOf.2.1 9 = .ok (.if_icmp .ge 32, 3) := by decide +kernel
theorem dX12_touchesOf_12 : decode kX12_touchesOf.2.1 12 = .ok (.iload_n 3, 1) := by decide +kernel
theorem dX12_touchesOf_13 : decode kX12_touchesOf.2.1 13 = .ok (.aload_n 0, 1) := by decide +kernel
theorem dX12_touchesOf_14 : decode kX12_touchesOf.2.1 14 = .ok (.aload_n 0, 1) := by decide +kernel
theorem dX12_touchesOf_15 : decode kX12_touchesOf.2.1 15 = .ok (.iload_n 1, 1) := by decide +kernel
theorem dX12_touchesOf_16 : decode kX12_touchesOf.2.1 16 = .ok (.iload_n 2, 1) := by decide +kernel
theorem dX12_touchesOf_17 : decode kX12_touchesOf.2.1 17 = .ok (.iload 4, 2) := by decide +kernel
theorem dX12_touchesOf_19 : decode kX12_touchesOf.2.1 19 = .ok (.invokevirtual 247, 3) := by decide +kernel
theorem dX12_touchesOf_22 : decode kX12_touchesOf.2.1 22 = .ok (.invokevirtual 233, 3) := by decide +kernel
theorem dX12_touchesOf_25 : decode kX12_touchesOf.2.1 25 = .ok (.ifCond .ne 7, 3) := by decide +kernel
theorem dX12_touchesOf_28 : decode kX12_touchesOf.2.1 28 = .ok (.iconst 1, 1) := by decide +kernel
theorem dX12_touchesOf_29 : decode kX12_touchesOf.2.1 29 = .ok (.goto 4, 3) := by decide +kernel
theorem dX12_touchesOf_32 : decode kX12_touchesOf.2.1 32 = .ok (.iconst 0, 1) := by decide +kernel
theorem dX12_touchesOf_33 : decode kX12_touchesOf.2.1 33 = .ok (.iadd, 1) := by decide +kernel
theorem dX12_touchesOf_34 : decode kX12_touchesOf.2.1 34 = .ok (.istore_n 3, 1) := by decide +kernel
theorem dX12_touchesOf_35 : decode kX12_touchesOf.2.1 35 = .ok (.iinc 4 1, 3) := by decide +kernel
theorem dX12_touchesOf_38 : decode kX12_touchesOf.2.1 38 = .ok (.goto (-33), 3) := by decide +kernel
theorem dX12_touchesOf_41 : decode kX12_touchesOf.2.1 41 = .ok (.iload_n 3, 1) := by decide +kernel
theorem dX12_touchesOf_42 : decode kX12_touchesOf.2.1 42 = .ok (.ireturn, 1) := by decide +kernel
theorem dX12_sumOf_0 : decode kX12_sumOf.2.1 0 = .ok (.iconst 0, 1) := by decide +kernel
theorem dX12_sumOf_1 : decode kX12_sumOf.2.1 1 = .ok (.istore 5, 2) := by decide +kernel
theorem dX12_sumOf_3 : decode kX12_sumOf.2.1 3 = .ok (.iconst 0, 1) := by decide +kernel
theorem dX12_sumOf_4 : decode kX12_sumOf.2.1 4 = .ok (.istore 6, 2) := by decide +kernel
theorem dX12_sumOf_6 : decode kX12_sumOf.2.1 6 = .ok (.iload 6, 2) := by decide +kernel
theorem dX12_sumOf_8 : decode kX12_sumOf.2.1 8 = .ok (.bipush 10, 2) := by decide +kernel
theorem dX12_sumOf_10 : decode kX12_sumOf.2.1 10 = .ok (.if_icmp .ge 36, 3) := by decide +kernel
theorem dX12_sumOf_13 : decode kX12_sumOf.2.1 13 = .ok (.iload 5, 2) := by decide +kernel
theorem dX12_sumOf_15 : decode kX12_sumOf.2.1 15 = .ok (.aload_n 0, 1) := by decide +kernel
theorem dX12_sumOf_16 : decode kX12_sumOf.2.1 16 = .ok (.aload_n 0, 1) := by decide +kernel
theorem dX12_sumOf_17 : decode kX12_sumOf.2.1 17 = .ok (.iload_n 1, 1) := by decide +kernel
theorem dX12_sumOf_18 : decode kX12_sumOf.2.1 18 = .ok (.iload_n 2, 1) := by decide +kernel
theorem dX12_sumOf_19 : decode kX12_sumOf.2.1 19 = .ok (.iload 6, 2) := by decide +kernel
theorem dX12_sumOf_21 : decode kX12_sumOf.2.1 21 = .ok (.iload_n 3, 1) := by decide +kernel
theorem dX12_sumOf_22 : decode kX12_sumOf.2.1 22 = .ok (.aload_n 0, 1) := by decide +kernel
theorem dX12_sumOf_23 : decode kX12_sumOf.2.1 23 = .ok (.getfield 13, 3) := by decide +kernel
theorem dX12_sumOf_26 : decode kX12_sumOf.2.1 26 = .ok (.bipush 26, 2) := by decide +kernel
theorem dX12_sumOf_28 : decode kX12_sumOf.2.1 28 = .ok (.iaload, 1) := by decide +kernel
theorem dX12_sumOf_29 : decode kX12_sumOf.2.1 29 = .ok (.invokevirtual 225, 3) := by decide +kernel
theorem dX12_sumOf_32 : decode kX12_sumOf.2.1 32 = .ok (.iload 4, 2) := by decide +kernel
theorem dX12_sumOf_34 : decode kX12_sumOf.2.1 34 = .ok (.invokevirtual 254, 3) := by decide +kernel
theorem dX12_sumOf_37 : decode kX12_sumOf.2.1 37 = .ok (.iadd, 1) := by decide +kernel
theorem dX12_sumOf_38 : decode kX12_sumOf.2.1 38 = .ok (.istore 5, 2) := by decide +kernel
theorem dX12_sumOf_40 : decode kX12_sumOf.2.1 40 = .ok (.iinc 6 1, 3) := by decide +kernel
theorem dX12_sumOf_43 : decode kX12_sumOf.2.1 43 = .ok (.goto (-37), 3) := by decide +kernel
theorem dX12_sumOf_46 : decode kX12_sumOf.2.1 46 = .ok (.iload 5, 2) := by decide +kernel
theorem dX12_sumOf_48 : decode kX12_sumOf.2.1 48 = .ok (.ireturn, 1) := by decide +kernel
theorem dX12_bestOf_0 : decode kX12_bestOf.2.1 0 = .ok (.iconst 0, 1) := by decide +kernel
theorem dX12_bestOf_1 : decode kX12_bestOf.2.1 1 = .ok (.istore 4, 2) := by decide +kernel
theorem dX12_bestOf_3 : decode kX12_bestOf.2.1 3 = .ok (.iconst 1, 1) := by decide +kernel
theorem dX12_bestOf_4 : decode kX12_bestOf.2.1 4 = .ok (.istore 5, 2) := by decide +kernel
theorem dX12_bestOf_6 : decode kX12_bestOf.2.1 6 = .ok (.iload 5, 2) := by decide +kernel
theorem dX12_bestOf_8 : decode kX12_bestOf.2.1 8 = .ok (.bipush 21, 2) := by decide +kernel
theorem dX12_bestOf_10 : decode kX12_bestOf.2.1 10 = .ok (.if_icmp .ge 34, 3) := by decide +kernel
theorem dX12_bestOf_13 : decode kX12_bestOf.2.1 13 = .ok (.aload_n 0, 1) := by decide +kernel
theorem dX12_bestOf_14 : decode kX12_bestOf.2.1 14 = .ok (.iload_n 1, 1) := by decide +kernel
theorem dX12_bestOf_15 : decode kX12_bestOf.2.1 15 = .ok (.iload 5, 2) := by decide +kernel
theorem dX12_bestOf_17 : decode kX12_bestOf.2.1 17 = .ok (.iload_n 2, 1) := by decide +kernel
theorem dX12_bestOf_18 : decode kX12_bestOf.2.1 18 = .ok (.iload_n 3, 1) := by decide +kernel
theorem dX12_bestOf_19 : decode kX12_bestOf.2.1 19 = .ok (.invokevirtual 315, 3) := by decide +kernel
theorem dX12_bestOf_22 : decode kX12_bestOf.2.1 22 = .ok (.aload_n 0, 1) := by decide +kernel
theorem dX12_bestOf_23 : decode kX12_bestOf.2.1 23 = .ok (.iload_n 1, 1) := by decide +kernel
theorem dX12_bestOf_24 : decode kX12_bestOf.2.1 24 = .ok (.iload 4, 2) := by decide +kernel
theorem dX12_bestOf_26 : decode kX12_bestOf.2.1 26 = .ok (.iload_n 2, 1) := by decide +kernel
theorem dX12_bestOf_27 : decode kX12_bestOf.2.1 27 = .ok (.iload_n 3, 1) := by decide +kernel
theorem dX12_bestOf_28 : decode kX12_bestOf.2.1 28 = .ok (.invokevirtual 315, 3) := by decide +kernel
theorem dX12_bestOf_31 : decode kX12_bestOf.2.1 31 = .ok (.if_icmp .le 7, 3) := by decide +kernel
theorem dX12_bestOf_34 : decode kX12_bestOf.2.1 34 = .ok (.iload 5, 2) := by decide +kernel
theorem dX12_bestOf_36 : decode kX12_bestOf.2.1 36 = .ok (.istore 4, 2) := by decide +kernel
theorem dX12_bestOf_38 : decode kX12_bestOf.2.1 38 = .ok (.iinc 5 1, 3) := by decide +kernel
theorem dX12_bestOf_41 : decode kX12_bestOf.2.1 41 = .ok (.goto (-35), 3) := by decide +kernel
theorem dX12_bestOf_44 : decode kX12_bestOf.2.1 44 = .ok (.iload 4, 2) := by decide +kernel
theorem dX12_bestOf_46 : decode kX12_bestOf.2.1 46 = .ok (.ireturn, 1) := by decide +kernel
theorem dX12_bestNow_0 : decode kX12_bestNow.2.1 0 = .ok (.aload_n 0, 1) := by decide +kernel
theorem dX12_bestNow_1 : decode kX12_bestNow.2.1 1 = .ok (.iload_n 1, 1) := by decide +kernel
theorem dX12_bestNow_2 : decode kX12_bestNow.2.1 2 = .ok (.aload_n 0, 1) := by decide +kernel
theorem dX12_bestNow_3 : decode kX12_bestNow.2.1 3 = .ok (.getfield 13, 3) := by decide +kernel
theorem dX12_bestNow_6 : decode kX12_bestNow.2.1 6 = .ok (.bipush 21, 2) := by decide +kernel
theorem dX12_bestNow_8 : decode kX12_bestNow.2.1 8 = .ok (.iload_n 1, 1) := by decide +kernel
theorem dX12_bestNow_9 : decode kX12_bestNow.2.1 9 = .ok (.iadd, 1) := by decide +kernel
theorem dX12_bestNow_10 : decode kX12_bestNow.2.1 10 = .ok (.iaload, 1) := by decide +kernel
theorem dX12_bestNow_11 : decode kX12_bestNow.2.1 11 = .ok (.iload_n 2, 1) := by decide +kernel
theorem dX12_bestNow_12 : decode kX12_bestNow.2.1 12 = .ok (.invokevirtual 319, 3) := by decide +kernel
theorem dX12_bestNow_15 : decode kX12_bestNow.2.1 15 = .ok (.ireturn, 1) := by decide +kernel
theorem dX12_common_0 : decode kX12_common.2.1 0 = .ok (.iload_n 1, 1) := by decide +kernel
theorem dX12_common_1 : decode kX12_common.2.1 1 = .ok (.ifCond .ne 16, 3) := by decide +kernel
theorem dX12_common_4 : decode kX12_common.2.1 4 = .ok (.iload_n 0, 1) := by decide +kernel
theorem dX12_common_5 : decode kX12_common.2.1 5 = .ok (.ifCond .ge 8, 3) := by decide +kernel
theorem dX12_common_8 : decode kX12_common.2.1 8 = .ok (.iload_n 0, 1) := by decide +kernel
theorem dX12_common_9 : decode kX12_common.2.1 9 = .ok (.ineg, 1) := by decide +kernel
theorem dX12_common_10 : decode kX12_common.2.1 10 = .ok (.goto 14, 3) := by decide +kernel
theorem dX12_common_13 : decode kX12_common.2.1 13 = .ok (.iload_n 0, 1) := by decide +kernel
theorem dX12_common_14 : decode kX12_common.2.1 14 = .ok (.goto 10, 3) := by decide +kernel
theorem dX12_common_17 : decode kX12_common.2.1 17 = .ok (.iload_n 1, 1) := by decide +kernel
theorem dX12_common_18 : decode kX12_common.2.1 18 = .ok (.iload_n 0, 1) := by decide +kernel
theorem dX12_common_19 : decode kX12_common.2.1 19 = .ok (.iload_n 1, 1) := by decide +kernel
theorem dX12_common_20 : decode kX12_common.2.1 20 = .ok (.irem, 1) := by decide +kernel
theorem dX12_common_21 : decode kX12_common.2.1 21 = .ok (.invokestatic 323, 3) := by decide +kernel
theorem dX12_common_24 : decode kX12_common.2.1 24 = .ok (.ireturn, 1) := by decide +kernel
theorem dX12_commonOf_0 : decode kX12_commonOf.2.1 0 = .ok (.lload_n 2, 1) := by decide +kernel
theorem dX12_commonOf_1 : decode kX12_commonOf.2.1 1 = .ok (.lconst 0, 1) := by decide +kernel
theorem dX12_commonOf_2 : decode kX12_commonOf.2.1 2 = .ok (.lcmp, 1) := by decide +kernel
theorem dX12_commonOf_3 : decode kX12_commonOf.2.1 3 = .ok (.ifCond .ne 18, 3) := by decide +kernel
theorem dX12_commonOf_6 : decode kX12_commonOf.2.1 6 = .ok (.lload_n 0, 1) := by decide +kernel
theorem dX12_commonOf_7 : decode kX12_commonOf.2.1 7 = .ok (.lconst 0, 1) := by decide +kernel
theorem dX12_commonOf_8 : decode kX12_commonOf.2.1 8 = .ok (.lcmp, 1) := by decide +kernel
theorem dX12_commonOf_9 : decode kX12_commonOf.2.1 9 = .ok (.ifCond .ge 8, 3) := by decide +kernel
theorem dX12_commonOf_12 : decode kX12_commonOf.2.1 12 = .ok (.lload_n 0, 1) := by decide +kernel
theorem dX12_commonOf_13 : decode kX12_commonOf.2.1 13 = .ok (.lneg, 1) := by decide +kernel
theorem dX12_commonOf_14 : decode kX12_commonOf.2.1 14 = .ok (.goto 14, 3) := by decide +kernel
theorem dX12_commonOf_17 : decode kX12_commonOf.2.1 17 = .ok (.lload_n 0, 1) := by decide +kernel
theorem dX12_commonOf_18 : decode kX12_commonOf.2.1 18 = .ok (.goto 10, 3) := by decide +kernel
theorem dX12_commonOf_21 : decode kX12_commonOf.2.1 21 = .ok (.lload_n 2, 1) := by decide +kernel
theorem dX12_commonOf_22 : decode kX12_commonOf.2.1 22 = .ok (.lload_n 0, 1) := by decide +kernel
theorem dX12_commonOf_23 : decode kX12_commonOf.2.1 23 = .ok (.lload_n 2, 1) := by decide +kernel
theorem dX12_commonOf_24 : decode kX12_commonOf.2.1 24 = .ok (.lrem, 1) := by decide +kernel
theorem dX12_commonOf_25 : decode kX12_commonOf.2.1 25 = .ok (.invokestatic 326, 3) := by decide +kernel
theorem dX12_commonOf_28 : decode kX12_commonOf.2.1 28 = .ok (.lreturn, 1) := by decide +kernel
theorem dX12_part_0 : decode kX12_part.2.1 0 = .ok (.iload 4, 2) := by decide +kernel
theorem dX12_part_2 : decode kX12_part.2.1 2 = .ok (.ifCond .ne 7, 3) := by decide +kernel
theorem dX12_part_5 : decode kX12_part.2.1 5 = .ok (.lload_n 0, 1) := by decide +kernel
theorem dX12_part_6 : decode kX12_part.2.1 6 = .ok (.goto 4, 3) := by decide +kernel
theorem dX12_part_9 : decode kX12_part.2.1 9 = .ok (.lload_n 2, 1) := by decide +kernel
theorem dX12_part_10 : decode kX12_part.2.1 10 = .ok (.lload_n 0, 1) := by decide +kernel
theorem dX12_part_11 : decode kX12_part.2.1 11 = .ok (.lload_n 2, 1) := by decide +kernel
theorem dX12_part_12 : decode kX12_part.2.1 12 = .ok (.invokestatic 326, 3) := by decide +kernel
theorem dX12_part_15 : decode kX12_part.2.1 15 = .ok (.ldiv, 1) := by decide +kernel
theorem dX12_part_16 : decode kX12_part.2.1 16 = .ok (.lreturn, 1) := by decide +kernel
theorem dX12_touches_0 : decode kX12_touches.2.1 0 = .ok (.aload_n 0, 1) := by decide +kernel
theorem dX12_touches_1 : decode kX12_touches.2.1 1 = .ok (.iconst 0, 1) := by decide +kernel
theorem dX12_touches_2 : decode kX12_touches.2.1 2 = .ok (.putfield 1, 3) := by decide +kernel
theorem dX12_touches_5 : decode kX12_touches.2.1 5 = .ok (.aload_n 0, 1) := by decide +kernel
theorem dX12_touches_6 : decode kX12_touches.2.1 6 = .ok (.iload_n 1, 1) := by decide +kernel
theorem dX12_touches_7 : decode kX12_touches.2.1 7 = .ok (.i2l, 1) := by decide +kernel
theorem dX12_touches_8 : decode kX12_touches.2.1 8 = .ok (.invokevirtual 236, 3) := by decide +kernel
theorem dX12_touches_11 : decode kX12_touches.2.1 11 = .ok (.ifCond .eq 20, 3) := by decide +kernel
theorem dX12_touches_14 : decode kX12_touches.2.1 14 = .ok (.iload_n 2, 1) := by decide +kernel
theorem dX12_touches_15 : decode kX12_touches.2.1 15 = .ok (.i2l, 1) := by decide +kernel
theorem dX12_touches_16 : decode kX12_touches.2.1 16 = .ok (.invokestatic 241, 3) := by decide +kernel
theorem dX12_touches_19 : decode kX12_touches.2.1 19 = .ok (.ifCond .eq 12, 3) := by decide +kernel
theorem dX12_touches_22 : decode kX12_touches.2.1 22 = .ok (.aload_n 0, 1) := by decide +kernel
theorem dX12_touches_23 : decode kX12_touches.2.1 23 = .ok (.iload_n 1, 1) := by decide +kernel
theorem dX12_touches_24 : decode kX12_touches.2.1 24 = .ok (.iload_n 2, 1) := by decide +kernel
theorem dX12_touches_25 : decode kX12_touches.2.1 25 = .ok (.invokevirtual 330, 3) := by decide +kernel
theorem dX12_touches_28 : decode kX12_touches.2.1 28 = .ok (.goto 5, 3) := by decide +kernel
theorem dX12_touches_31 : decode kX12_touches.2.1 31 = .ok (.bipush (-2), 2) := by decide +kernel
theorem dX12_touches_33 : decode kX12_touches.2.1 33 = .ok (.ireturn, 1) := by decide +kernel
theorem dX12_mean_0 : decode kX12_mean.2.1 0 = .ok (.aload_n 0, 1) := by decide +kernel
theorem dX12_mean_1 : decode kX12_mean.2.1 1 = .ok (.iconst 0, 1) := by decide +kernel
theorem dX12_mean_2 : decode kX12_mean.2.1 2 = .ok (.putfield 1, 3) := by decide +kernel
theorem dX12_mean_5 : decode kX12_mean.2.1 5 = .ok (.aload_n 0, 1) := by decide +kernel
theorem dX12_mean_6 : decode kX12_mean.2.1 6 = .ok (.iload_n 1, 1) := by decide +kernel
theorem dX12_mean_7 : decode kX12_mean.2.1 7 = .ok (.i2l, 1) := by decide +kernel
theorem dX12_mean_8 : decode kX12_mean.2.1 8 = .ok (.invokevirtual 236, 3) := by decide +kernel
theorem dX12_mean_11 : decode kX12_mean.2.1 11 = .ok (.ifCond .eq 21, 3) := by decide +kernel
theorem dX12_mean_14 : decode kX12_mean.2.1 14 = .ok (.iload_n 2, 1) := by decide +kernel
theorem dX12_mean_15 : decode kX12_mean.2.1 15 = .ok (.i2l, 1) := by decide +kernel
theorem dX12_mean_16 : decode kX12_mean.2.1 16 = .ok (.invokestatic 241, 3) := by decide +kernel
theorem dX12_mean_19 : decode kX12_mean.2.1 19 = .ok (.ifCond .eq 13, 3) := by decide +kernel
theorem dX12_mean_22 : decode kX12_mean.2.1 22 = .ok (.iload_n 3, 1) := by decide +kernel
theorem dX12_mean_23 : decode kX12_mean.2.1 23 = .ok (.i2l, 1) := by decide +kernel
theorem dX12_mean_24 : decode kX12_mean.2.1 24 = .ok (.lconst 0, 1) := by decide +kernel
theorem dX12_mean_25 : decode kX12_mean.2.1 25 = .ok (.lconst 1, 1) := by decide +kernel
theorem dX12_mean_26 : decode kX12_mean.2.1 26 = .ok (.invokestatic 142, 3) := by decide +kernel
theorem dX12_mean_29 : decode kX12_mean.2.1 29 = .ok (.ifCond .ne 6, 3) := by decide +kernel
theorem dX12_mean_32 : decode kX12_mean.2.1 32 = .ok (.ldc 240, 2) := by decide +kernel
theorem dX12_mean_34 : decode kX12_mean.2.1 34 = .ok (.ireturn, 1) := by decide +kernel
theorem dX12_mean_35 : decode kX12_mean.2.1 35 = .ok (.aload_n 0, 1) := by decide +kernel
theorem dX12_mean_36 : decode kX12_mean.2.1 36 = .ok (.iload_n 1, 1) := by decide +kernel
theorem dX12_mean_37 : decode kX12_mean.2.1 37 = .ok (.iload_n 2, 1) := by decide +kernel
theorem dX12_mean_38 : decode kX12_mean.2.1 38 = .ok (.aload_n 0, 1) := by decide +kernel
theorem dX12_mean_39 : decode kX12_mean.2.1 39 = .ok (.getfield 13, 3) := by decide +kernel
theorem dX12_mean_42 : decode kX12_mean.2.1 42 = .ok (.bipush 21, 2) := by decide +kernel
theorem dX12_mean_44 : decode kX12_mean.2.1 44 = .ok (.iload_n 1, 1) := by decide +kernel
theorem dX12_mean_45 : decode kX12_mean.2.1 45 = .ok (.iadd, 1) := by decide +kernel
theorem dX12_mean_46 : decode kX12_mean.2.1 46 = .ok (.iaload, 1) := by decide +kernel
theorem dX12_mean_47 : decode kX12_mean.2.1 47 = .ok (.aload_n 0, 1) := by decide +kernel
theorem dX12_mean_48 : decode kX12_mean.2.1 48 = .ok (.invokevirtual 250, 3) := by decide +kernel
theorem dX12_mean_51 : decode kX12_mean.2.1 51 = .ok (.invokevirtual 315, 3) := by decide +kernel
theorem dX12_mean_54 : decode kX12_mean.2.1 54 = .ok (.istore 4, 2) := by decide +kernel
theorem dX12_mean_56 : decode kX12_mean.2.1 56 = .ok (.iload_n 3, 1) := by decide +kernel
theorem dX12_mean_57 : decode kX12_mean.2.1 57 = .ok (.ifCond .ne 8, 3) := by decide +kernel
theorem dX12_mean_60 : decode kX12_mean.2.1 60 = .ok (.iload 4, 2) := by decide +kernel
theorem dX12_mean_62 : decode kX12_mean.2.1 62 = .ok (.goto 5, 3) := by decide +kernel
theorem dX12_mean_65 : decode kX12_mean.2.1 65 = .ok (.bipush 10, 2) := by decide +kernel
theorem dX12_mean_67 : decode kX12_mean.2.1 67 = .ok (.iload 4, 2) := by decide +kernel
theorem dX12_mean_69 : decode kX12_mean.2.1 69 = .ok (.bipush 10, 2) := by decide +kernel
theorem dX12_mean_71 : decode kX12_mean.2.1 71 = .ok (.invokestatic 323, 3) := by decide +kernel
theorem dX12_mean_74 : decode kX12_mean.2.1 74 = .ok (.idiv, 1) := by decide +kernel
theorem dX12_mean_75 : decode kX12_mean.2.1 75 = .ok (.ireturn, 1) := by decide +kernel
theorem dX12_bestAim_0 : decode kX12_bestAim.2.1 0 = .ok (.aload_n 0, 1) := by decide +kernel
theorem dX12_bestAim_1 : decode kX12_bestAim.2.1 1 = .ok (.iconst 0, 1) := by decide +kernel
theorem dX12_bestAim_2 : decode kX12_bestAim.2.1 2 = .ok (.putfield 1, 3) := by decide +kernel
theorem dX12_bestAim_5 : decode kX12_bestAim.2.1 5 = .ok (.aload_n 0, 1) := by decide +kernel
theorem dX12_bestAim_6 : decode kX12_bestAim.2.1 6 = .ok (.iload_n 1, 1) := by decide +kernel
theorem dX12_bestAim_7 : decode kX12_bestAim.2.1 7 = .ok (.i2l, 1) := by decide +kernel
theorem dX12_bestAim_8 : decode kX12_bestAim.2.1 8 = .ok (.invokevirtual 236, 3) := by decide +kernel
theorem dX12_bestAim_11 : decode kX12_bestAim.2.1 11 = .ok (.ifCond .eq 15, 3) := by decide +kernel
theorem dX12_bestAim_14 : decode kX12_bestAim.2.1 14 = .ok (.aload_n 0, 1) := by decide +kernel
theorem dX12_bestAim_15 : decode kX12_bestAim.2.1 15 = .ok (.iload_n 1, 1) := by decide +kernel
theorem dX12_bestAim_16 : decode kX12_bestAim.2.1 16 = .ok (.aload_n 0, 1) := by decide +kernel
theorem dX12_bestAim_17 : decode kX12_bestAim.2.1 17 = .ok (.invokevirtual 250, 3) := by decide +kernel
theorem dX12_bestAim_20 : decode kX12_bestAim.2.1 20 = .ok (.invokevirtual 333, 3) := by decide +kernel
theorem dX12_bestAim_23 : decode kX12_bestAim.2.1 23 = .ok (.goto 5, 3) := by decide +kernel
theorem dX12_bestAim_26 : decode kX12_bestAim.2.1 26 = .ok (.bipush (-2), 2) := by decide +kernel
theorem dX12_bestAim_28 : decode kX12_bestAim.2.1 28 = .ok (.ireturn, 1) := by decide +kernel
theorem dX12_careful_0 : decode kX12_careful.2.1 0 = .ok (.aload_n 0, 1) := by decide +kernel
theorem dX12_careful_1 : decode kX12_careful.2.1 1 = .ok (.iconst 0, 1) := by decide +kernel
theorem dX12_careful_2 : decode kX12_careful.2.1 2 = .ok (.putfield 1, 3) := by decide +kernel
theorem dX12_careful_5 : decode kX12_careful.2.1 5 = .ok (.aload_n 0, 1) := by decide +kernel
theorem dX12_careful_6 : decode kX12_careful.2.1 6 = .ok (.iload_n 1, 1) := by decide +kernel
theorem dX12_careful_7 : decode kX12_careful.2.1 7 = .ok (.i2l, 1) := by decide +kernel
theorem dX12_careful_8 : decode kX12_careful.2.1 8 = .ok (.invokevirtual 236, 3) := by decide +kernel
theorem dX12_careful_11 : decode kX12_careful.2.1 11 = .ok (.ifCond .ne 6, 3) := by decide +kernel
theorem dX12_careful_14 : decode kX12_careful.2.1 14 = .ok (.bipush (-2), 2) := by decide +kernel
theorem dX12_careful_16 : decode kX12_careful.2.1 16 = .ok (.ireturn, 1) := by decide +kernel
theorem dX12_careful_17 : decode kX12_careful.2.1 17 = .ok (.iconst 0, 1) := by decide +kernel
theorem dX12_careful_18 : decode kX12_careful.2.1 18 = .ok (.istore_n 2, 1) := by decide +kernel
theorem dX12_careful_19 : decode kX12_careful.2.1 19 = .ok (.iconst 0, 1) := by decide +kernel
theorem dX12_careful_20 : decode kX12_careful.2.1 20 = .ok (.istore_n 3, 1) := by decide +kernel
theorem dX12_careful_21 : decode kX12_careful.2.1 21 = .ok (.iload_n 3, 1) := by decide +kernel
theorem dX12_careful_22 : decode kX12_careful.2.1 22 = .ok (.bipush 21, 2) := by decide +kernel
theorem dX12_careful_24 : decode kX12_careful.2.1 24 = .ok (.if_icmp .ge 28, 3) := by decide +kernel
theorem dX12_careful_27 : decode kX12_careful.2.1 27 = .ok (.iload_n 2, 1) := by decide +kernel
theorem dX12_careful_28 : decode kX12_careful.2.1 28 = .ok (.aload_n 0, 1) := by decide +kernel
theorem dX12_careful_29 : decode kX12_careful.2.1 29 = .ok (.iload_n 1, 1) := by decide +kernel
theorem dX12_careful_30 : decode kX12_careful.2.1 30 = .ok (.iload_n 3, 1) := by decide +kernel
theorem dX12_careful_31 : decode kX12_careful.2.1 31 = .ok (.invokevirtual 330, 3) := by decide +kernel
theorem dX12_careful_34 : decode kX12_careful.2.1 34 = .ok (.ifCond .ne 9, 3) := by decide +kernel
theorem dX12_careful_37 : decode kX12_careful.2.1 37 = .ok (.iconst 1, 1) := by decide +kernel
theorem dX12_careful_38 : decode kX12_careful.2.1 38 = .ok (.iload_n 3, 1) := by decide +kernel
theorem dX12_careful_39 : decode kX12_careful.2.1 39 = .ok (.ishl, 1) := by decide +kernel
theorem dX12_careful_40 : decode kX12_careful.2.1 40 = .ok (.goto 4, 3) := by decide +kernel
theorem dX12_careful_43 : decode kX12_careful.2.1 43 = .ok (.iconst 0, 1) := by decide +kernel
theorem dX12_careful_44 : decode kX12_careful.2.1 44 = .ok (.ior, 1) := by decide +kernel
theorem dX12_careful_45 : decode kX12_careful.2.1 45 = .ok (.istore_n 2, 1) := by decide +kernel
theorem dX12_careful_46 : decode kX12_careful.2.1 46 = .ok (.iinc 3 1, 3) := by decide +kernel
theorem dX12_careful_49 : decode kX12_careful.2.1 49 = .ok (.goto (-28), 3) := by decide +kernel
theorem dX12_careful_52 : decode kX12_careful.2.1 52 = .ok (.iload_n 2, 1) := by decide +kernel
theorem dX12_careful_53 : decode kX12_careful.2.1 53 = .ok (.ireturn, 1) := by decide +kernel
theorem dX12_edge_0 : decode kX12_edge.2.1 0 = .ok (.aload_n 0, 1) := by decide +kernel
theorem dX12_edge_1 : decode kX12_edge.2.1 1 = .ok (.iconst 0, 1) := by decide +kernel
theorem dX12_edge_2 : decode kX12_edge.2.1 2 = .ok (.putfield 1, 3) := by decide +kernel
theorem dX12_edge_5 : decode kX12_edge.2.1 5 = .ok (.aload_n 0, 1) := by decide +kernel
theorem dX12_edge_6 : decode kX12_edge.2.1 6 = .ok (.iload_n 1, 1) := by decide +kernel
theorem dX12_edge_7 : decode kX12_edge.2.1 7 = .ok (.i2l, 1) := by decide +kernel
theorem dX12_edge_8 : decode kX12_edge.2.1 8 = .ok (.invokevirtual 236, 3) := by decide +kernel
theorem dX12_edge_11 : decode kX12_edge.2.1 11 = .ok (.ifCond .ne 6, 3) := by decide +kernel
theorem dX12_edge_14 : decode kX12_edge.2.1 14 = .ok (.bipush (-2), 2) := by decide +kernel
theorem dX12_edge_16 : decode kX12_edge.2.1 16 = .ok (.ireturn, 1) := by decide +kernel
theorem dX12_edge_17 : decode kX12_edge.2.1 17 = .ok (.iconst (-1), 1) := by decide +kernel
theorem dX12_edge_18 : decode kX12_edge.2.1 18 = .ok (.istore_n 2, 1) := by decide +kernel
theorem dX12_edge_19 : decode kX12_edge.2.1 19 = .ok (.iconst (-1), 1) := by decide +kernel
theorem dX12_edge_20 : decode kX12_edge.2.1 20 = .ok (.istore_n 3, 1) := by decide +kernel
theorem dX12_edge_21 : decode kX12_edge.2.1 21 = .ok (.iconst 0, 1) := by decide +kernel
theorem dX12_edge_22 : decode kX12_edge.2.1 22 = .ok (.istore 4, 2) := by decide +kernel
theorem dX12_edge_24 : decode kX12_edge.2.1 24 = .ok (.iload 4, 2) := by decide +kernel
theorem dX12_edge_26 : decode kX12_edge.2.1 26 = .ok (.bipush 21, 2) := by decide +kernel
theorem dX12_edge_28 : decode kX12_edge.2.1 28 = .ok (.if_icmp .ge 59, 3) := by decide +kernel
theorem dX12_edge_31 : decode kX12_edge.2.1 31 = .ok (.aload_n 0, 1) := by decide +kernel
theorem dX12_edge_32 : decode kX12_edge.2.1 32 = .ok (.iload_n 1, 1) := by decide +kernel
theorem dX12_edge_33 : decode kX12_edge.2.1 33 = .ok (.iload 4, 2) := by decide +kernel
theorem dX12_edge_35 : decode kX12_edge.2.1 35 = .ok (.invokevirtual 330, 3) := by decide +kernel
theorem dX12_edge_38 : decode kX12_edge.2.1 38 = .ok (.ifCond .le 6, 3) := by decide +kernel
theorem dX12_edge_41 : decode kX12_edge.2.1 41 = .ok (.goto 40, 3) := by decide +kernel
theorem dX12_edge_44 : decode kX12_edge.2.1 44 = .ok (.aload_n 0, 1) := by decide +kernel
theorem dX12_edge_45 : decode kX12_edge.2.1 45 = .ok (.iload_n 1, 1) := by decide +kernel
theorem dX12_edge_46 : decode kX12_edge.2.1 46 = .ok (.iload 4, 2) := by decide +kernel
theorem dX12_edge_48 : decode kX12_edge.2.1 48 = .ok (.aload_n 0, 1) := by decide +kernel
theorem dX12_edge_49 : decode kX12_edge.2.1 49 = .ok (.getfield 13, 3) := by decide +kernel
theorem dX12_edge_52 : decode kX12_edge.2.1 52 = .ok (.bipush 21, 2) := by decide +kernel
theorem dX12_edge_54 : decode kX12_edge.2.1 54 = .ok (.iload_n 1, 1) := by decide +kernel
theorem dX12_edge_55 : decode kX12_edge.2.1 55 = .ok (.iadd, 1) := by decide +kernel
theorem dX12_edge_56 : decode kX12_edge.2.1 56 = .ok (.iaload, 1) := by decide +kernel
theorem dX12_edge_57 : decode kX12_edge.2.1 57 = .ok (.aload_n 0, 1) := by decide +kernel
theorem dX12_edge_58 : decode kX12_edge.2.1 58 = .ok (.invokevirtual 250, 3) := by decide +kernel
theorem dX12_edge_61 : decode kX12_edge.2.1 61 = .ok (.invokevirtual 315, 3) := by decide +kernel
theorem dX12_edge_64 : decode kX12_edge.2.1 64 = .ok (.istore 5, 2) := by decide +kernel
theorem dX12_edge_66 : decode kX12_edge.2.1 66 = .ok (.iload 5, 2) := by decide +kernel
theorem dX12_edge_68 : decode kX12_edge.2.1 68 = .ok (.iload_n 3, 1) := by decide +kernel
theorem dX12_edge_69 : decode kX12_edge.2.1 69 = .ok (.if_icmp .gt 6, 3) := by decide +kernel
theorem dX12_edge_72 : decode kX12_edge.2.1 72 = .ok (.goto 9, 3) := by decide +kernel
theorem dX12_edge_75 : decode kX12_edge.2.1 75 = .ok (.iload 4, 2) := by decide +kernel
theorem dX12_edge_77 : decode kX12_edge.2.1 77 = .ok (.istore_n 2, 1) := by decide +kernel
theorem dX12_edge_78 : decode kX12_edge.2.1 78 = .ok (.iload 5, 2) := by decide +kernel
theorem dX12_edge_80 : decode kX12_edge.2.1 80 = .ok (.istore_n 3, 1) := by decide +kernel
theorem dX12_edge_81 : decode kX12_edge.2.1 81 = .ok (.iinc 4 1, 3) := by decide +kernel
theorem dX12_edge_84 : decode kX12_edge.2.1 84 = .ok (.goto (-60), 3) := by decide +kernel
theorem dX12_edge_87 : decode kX12_edge.2.1 87 = .ok (.iload_n 2, 1) := by decide +kernel
theorem dX12_edge_88 : decode kX12_edge.2.1 88 = .ok (.ireturn, 1) := by decide +kernel
theorem dX12_dares_0 : decode kX12_dares.2.1 0 = .ok (.aload_n 0, 1) := by decide +kernel
theorem dX12_dares_1 : decode kX12_dares.2.1 1 = .ok (.iconst 0, 1) := by decide +kernel
theorem dX12_dares_2 : decode kX12_dares.2.1 2 = .ok (.putfield 1, 3) := by decide +kernel
theorem dX12_dares_5 : decode kX12_dares.2.1 5 = .ok (.aload_n 0, 1) := by decide +kernel
theorem dX12_dares_6 : decode kX12_dares.2.1 6 = .ok (.iload_n 1, 1) := by decide +kernel
theorem dX12_dares_7 : decode kX12_dares.2.1 7 = .ok (.i2l, 1) := by decide +kernel
theorem dX12_dares_8 : decode kX12_dares.2.1 8 = .ok (.invokevirtual 236, 3) := by decide +kernel
theorem dX12_dares_11 : decode kX12_dares.2.1 11 = .ok (.ifCond .ne 6, 3) := by decide +kernel
theorem dX12_dares_14 : decode kX12_dares.2.1 14 = .ok (.bipush (-2), 2) := by decide +kernel
theorem dX12_dares_16 : decode kX12_dares.2.1 16 = .ok (.ireturn, 1) := by decide +kernel
theorem dX12_dares_17 : decode kX12_dares.2.1 17 = .ok (.aload_n 0, 1) := by decide +kernel
theorem dX12_dares_18 : decode kX12_dares.2.1 18 = .ok (.getfield 13, 3) := by decide +kernel
theorem dX12_dares_21 : decode kX12_dares.2.1 21 = .ok (.iconst 5, 1) := by decide +kernel
theorem dX12_dares_22 : decode kX12_dares.2.1 22 = .ok (.iaload, 1) := by decide +kernel
theorem dX12_dares_23 : decode kX12_dares.2.1 23 = .ok (.istore_n 2, 1) := by decide +kernel
theorem dX12_dares_24 : decode kX12_dares.2.1 24 = .ok (.iconst (-1), 1) := by decide +kernel
theorem dX12_dares_25 : decode kX12_dares.2.1 25 = .ok (.istore_n 3, 1) := by decide +kernel
theorem dX12_dares_26 : decode kX12_dares.2.1 26 = .ok (.iconst 0, 1) := by decide +kernel
theorem dX12_dares_27 : decode kX12_dares.2.1 27 = .ok (.istore 4, 2) := by decide +kernel
theorem dX12_dares_29 : decode kX12_dares.2.1 29 = .ok (.iload 4, 2) := by decide +kernel
theorem dX12_dares_31 : decode kX12_dares.2.1 31 = .ok (.bipush 100, 2) := by decide +kernel
theorem dX12_dares_33 : decode kX12_dares.2.1 33 = .ok (.if_icmp .ge 34, 3) := by decide +kernel
theorem dX12_dares_36 : decode kX12_dares.2.1 36 = .ok (.aload_n 0, 1) := by decide +kernel
theorem dX12_dares_37 : decode kX12_dares.2.1 37 = .ok (.getfield 13, 3) := by decide +kernel
theorem dX12_dares_40 : decode kX12_dares.2.1 40 = .ok (.iconst 5, 1) := by decide +kernel
theorem dX12_dares_41 : decode kX12_dares.2.1 41 = .ok (.iload 4, 2) := by decide +kernel
theorem dX12_dares_43 : decode kX12_dares.2.1 43 = .ok (.iastore, 1) := by decide +kernel
theorem dX12_dares_44 : decode kX12_dares.2.1 44 = .ok (.aload_n 0, 1) := by decide +kernel
theorem dX12_dares_45 : decode kX12_dares.2.1 45 = .ok (.iload_n 1, 1) := by decide +kernel
theorem dX12_dares_46 : decode kX12_dares.2.1 46 = .ok (.aload_n 0, 1) := by decide +kernel
theorem dX12_dares_47 : decode kX12_dares.2.1 47 = .ok (.iload_n 1, 1) := by decide +kernel
theorem dX12_dares_48 : decode kX12_dares.2.1 48 = .ok (.iconst 1, 1) := by decide +kernel
theorem dX12_dares_49 : decode kX12_dares.2.1 49 = .ok (.invokevirtual 333, 3) := by decide +kernel
theorem dX12_dares_52 : decode kX12_dares.2.1 52 = .ok (.invokevirtual 330, 3) := by decide +kernel
theorem dX12_dares_55 : decode kX12_dares.2.1 55 = .ok (.ifCond .le 6, 3) := by decide +kernel
theorem dX12_dares_58 : decode kX12_dares.2.1 58 = .ok (.iload 4, 2) := by decide +kernel
theorem dX12_dares_60 : decode kX12_dares.2.1 60 = .ok (.istore_n 3, 1) := by decide +kernel
theorem dX12_dares_61 : decode kX12_dares.2.1 61 = .ok (.iinc 4 1, 3) := by decide +kernel
theorem dX12_dares_64 : decode kX12_dares.2.1 64 = .ok (.goto (-35), 3) := by decide +kernel
theorem dX12_dares_67 : decode kX12_dares.2.1 67 = .ok (.aload_n 0, 1) := by decide +kernel
theorem dX12_dares_68 : decode kX12_dares.2.1 68 = .ok (.getfield 13, 3) := by decide +kernel
theorem dX12_dares_71 : decode kX12_dares.2.1 71 = .ok (.iconst 5, 1) := by decide +kernel
theorem dX12_dares_72 : decode kX12_dares.2.1 72 = .ok (.iload_n 2, 1) := by decide +kernel
theorem dX12_dares_73 : decode kX12_dares.2.1 73 = .ok (.iastore, 1) := by decide +kernel
theorem dX12_dares_74 : decode kX12_dares.2.1 74 = .ok (.iload_n 3, 1) := by decide +kernel
theorem dX12_dares_75 : decode kX12_dares.2.1 75 = .ok (.ireturn, 1) := by decide +kernel
theorem dX12_laysLanded_0 : decode kX12_laysLanded.2.1 0 = .ok (.iconst 0, 1) := by decide +kernel
theorem dX12_laysLanded_1 : decode kX12_laysLanded.2.1 1 = .ok (.istore_n 3, 1) := by decide +kernel
theorem dX12_laysLanded_2 : decode kX12_laysLanded.2.1 2 = .ok (.iload_n 3, 1) := by decide +kernel
theorem dX12_laysLanded_3 : decode kX12_laysLanded.2.1 3 = .ok (.bipush 21, 2) := by decide +kernel
theorem dX12_laysLanded_5 : decode kX12_laysLanded.2.1 5 = .ok (.if_icmp .ge 16, 3) := by decide +kernel
theorem dX12_laysLanded_8 : decode kX12_laysLanded.2.1 8 = .ok (.aload_n 0, 1) := by decide +kernel
theorem dX12_laysLanded_9 : decode kX12_laysLanded.2.1 9 = .ok (.getfield 39, 3) := by decide +kernel
theorem dX12_laysLanded_12 : decode kX12_laysLanded.2.1 12 = .ok (.iload_n 3, 1) := by decide +kernel
theorem dX12_laysLanded_13 : decode kX12_laysLanded.2.1 13 = .ok (.iconst 0, 1) := by decide +kernel
theorem dX12_laysLanded_14 : decode kX12_laysLanded.2.1 14 = .ok (.iastore, 1) := by decide +kernel
theorem dX12_laysLanded_15 : decode kX12_laysLanded.2.1 15 = .ok (.iinc 3 1, 3) := by decide +kernel
theorem dX12_laysLanded_18 : decode kX12_laysLanded.2.1 18 = .ok (.goto (-16), 3) := by decide +kernel
theorem dX12_laysLanded_21 : decode kX12_laysLanded.2.1 21 = .ok (.iconst 0, 1) := by decide +kernel
theorem dX12_laysLanded_22 : decode kX12_laysLanded.2.1 22 = .ok (.istore_n 3, 1) := by decide +kernel
theorem dX12_laysLanded_23 : decode kX12_laysLanded.2.1 23 = .ok (.iload_n 3, 1) := by decide +kernel
theorem dX12_laysLanded_24 : decode kX12_laysLanded.2.1 24 = .ok (.bipush 10, 2) := by decide +kernel
theorem dX12_laysLanded_26 : decode kX12_laysLanded.2.1 26 = .ok (.if_icmp .ge 25, 3) := by decide +kernel
theorem dX12_laysLanded_29 : decode kX12_laysLanded.2.1 29 = .ok (.aload_n 0, 1) := by decide +kernel
theorem dX12_laysLanded_30 : decode kX12_laysLanded.2.1 30 = .ok (.getfield 39, 3) := by decide +kernel
theorem dX12_laysLanded_33 : decode kX12_laysLanded.2.1 33 = .ok (.aload_n 0, 1) := by decide +kernel
theorem dX12_laysLanded_34 : decode kX12_laysLanded.2.1 34 = .ok (.iload_n 1, 1) := by decide +kernel
theorem dX12_laysLanded_35 : decode kX12_laysLanded.2.1 35 = .ok (.iload_n 2, 1) := by decide +kernel
theorem dX12_laysLanded_36 : decode kX12_laysLanded.2.1 36 = .ok (.iload_n 3, 1) := by decide +kernel
theorem dX12_laysLanded_37 : decode kX12_laysLanded.2.1 37 = .ok (.invokevirtual 247, 3) := by decide +kernel
theorem dX12_laysLanded_40 : decode kX12_laysLanded.2.1 40 = .ok (.dup2, 1) := by decide +kernel
theorem dX12_laysLanded_41 : decode kX12_laysLanded.2.1 41 = .ok (.iaload, 1) := by decide +kernel
theorem dX12_laysLanded_42 : decode kX12_laysLanded.2.1 42 = .ok (.iconst 1, 1) := by decide +kernel
theorem dX12_laysLanded_43 : decode kX12_laysLanded.2.1 43 = .ok (.iadd, 1) := by decide +kernel
theorem dX12_laysLanded_44 : decode kX12_laysLanded.2.1 44 = .ok (.iastore, 1) := by decide +kernel
theorem dX12_laysLanded_45 : decode kX12_laysLanded.2.1 45 = .ok (.iinc 3 1, 3) := by decide +kernel
theorem dX12_laysLanded_48 : decode kX12_laysLanded.2.1 48 = .ok (.goto (-25), 3) := by decide +kernel
theorem dX12_laysLanded_51 : decode kX12_laysLanded.2.1 51 = .ok (.return_, 1) := by decide +kernel
theorem dX12_likeliest_0 : decode kX12_likeliest.2.1 0 = .ok (.aload_n 0, 1) := by decide +kernel
theorem dX12_likeliest_1 : decode kX12_likeliest.2.1 1 = .ok (.iconst 0, 1) := by decide +kernel
theorem dX12_likeliest_2 : decode kX12_likeliest.2.1 2 = .ok (.putfield 1, 3) := by decide +kernel
theorem dX12_likeliest_5 : decode kX12_likeliest.2.1 5 = .ok (.aload_n 0, 1) := by decide +kernel
theorem dX12_likeliest_6 : decode kX12_likeliest.2.1 6 = .ok (.iload_n 1, 1) := by decide +kernel
theorem dX12_likeliest_7 : decode kX12_likeliest.2.1 7 = .ok (.i2l, 1) := by decide +kernel
theorem dX12_likeliest_8 : decode kX12_likeliest.2.1 8 = .ok (.invokevirtual 236, 3) := by decide +kernel
theorem dX12_likeliest_11 : decode kX12_likeliest.2.1 11 = .ok (.ifCond .eq 11, 3) := by decide +kernel
theorem dX12_likeliest_14 : decode kX12_likeliest.2.1 14 = .ok (.iload_n 2, 1) := by decide +kernel
theorem dX12_likeliest_15 : decode kX12_likeliest.2.1 15 = .ok (.i2l, 1) := by decide +kernel
theorem dX12_likeliest_16 : decode kX12_likeliest.2.1 16 = .ok (.invokestatic 241, 3) := by decide +kernel
theorem dX12_likeliest_19 : decode kX12_likeliest.2.1 19 = .ok (.ifCond .ne 6, 3) := by decide +kernel
theorem dX12_likeliest_22 : decode kX12_likeliest.2.1 22 = .ok (.bipush (-2), 2) := by decide +kernel
theorem dX12_likeliest_24 : decode kX12_likeliest.2.1 24 = .ok (.ireturn, 1) := by decide +kernel
theorem dX12_likeliest_25 : decode kX12_likeliest.2.1 25 = .ok (.aload_n 0, 1) := by decide +kernel
theorem dX12_likeliest_26 : decode kX12_likeliest.2.1 26 = .ok (.iload_n 1, 1) := by decide +kernel
theorem dX12_likeliest_27 : decode kX12_likeliest.2.1 27 = .ok (.iload_n 2, 1) := by decide +kernel
theorem dX12_likeliest_28 : decode kX12_likeliest.2.1 28 = .ok (.invokevirtual 336, 3) := by decide +kernel
theorem dX12_likeliest_31 : decode kX12_likeliest.2.1 31 = .ok (.iconst 0, 1) := by decide +kernel
theorem dX12_likeliest_32 : decode kX12_likeliest.2.1 32 = .ok (.istore_n 3, 1) := by decide +kernel
theorem dX12_likeliest_33 : decode kX12_likeliest.2.1 33 = .ok (.iconst 1, 1) := by decide +kernel
theorem dX12_likeliest_34 : decode kX12_likeliest.2.1 34 = .ok (.istore 4, 2) := by decide +kernel
theorem dX12_likeliest_36 : decode kX12_likeliest.2.1 36 = .ok (.iload 4, 2) := by decide +kernel
theorem dX12_likeliest_38 : decode kX12_likeliest.2.1 38 = .ok (.bipush 21, 2) := by decide +kernel
theorem dX12_likeliest_40 : decode kX12_likeliest.2.1 40 = .ok (.if_icmp .ge 28, 3) := by decide +kernel
theorem dX12_likeliest_43 : decode kX12_likeliest.2.1 43 = .ok (.aload_n 0, 1) := by decide +kernel
theorem dX12_likeliest_44 : decode kX12_likeliest.2.1 44 = .ok (.getfield 39, 3) := by decide +kernel
theorem dX12_likeliest_47 : decode kX12_likeliest.2.1 47 = .ok (.iload 4, 2) := by decide +kernel
theorem dX12_likeliest_49 : decode kX12_likeliest.2.1 49 = .ok (.iaload, 1) := by decide +kernel
theorem dX12_likeliest_50 : decode kX12_likeliest.2.1 50 = .ok (.aload_n 0, 1) := by decide +kernel
theorem dX12_likeliest_51 : decode kX12_likeliest.2.1 51 = .ok (.getfield 39, 3) := by decide +kernel
theorem dX12_likeliest_54 : decode kX12_likeliest.2.1 54 = .ok (.iload_n 3, 1) := by decide +kernel
theorem dX12_likeliest_55 : decode kX12_likeliest.2.1 55 = .ok (.iaload, 1) := by decide +kernel
theorem dX12_likeliest_56 : decode kX12_likeliest.2.1 56 = .ok (.if_icmp .le 6, 3) := by decide +kernel
theorem dX12_likeliest_59 : decode kX12_likeliest.2.1 59 = .ok (.iload 4, 2) := by decide +kernel
theorem dX12_likeliest_61 : decode kX12_likeliest.2.1 61 = .ok (.istore_n 3, 1) := by decide +kernel
theorem dX12_likeliest_62 : decode kX12_likeliest.2.1 62 = .ok (.iinc 4 1, 3) := by decide +kernel
theorem dX12_likeliest_65 : decode kX12_likeliest.2.1 65 = .ok (.goto (-29), 3) := by decide +kernel
theorem dX12_likeliest_68 : decode kX12_likeliest.2.1 68 = .ok (.iload_n 3, 1) := by decide +kernel
theorem dX12_likeliest_69 : decode kX12_likeliest.2.1 69 = .ok (.ireturn, 1) := by decide +kernel
theorem dX12_leaves_0 : decode kX12_leaves.2.1 0 = .ok (.aload_n 0, 1) := by decide +kernel
theorem dX12_leaves_1 : decode kX12_leaves.2.1 1 = .ok (.iconst 0, 1) := by decide +kernel
theorem dX12_leaves_2 : decode kX12_leaves.2.1 2 = .ok (.putfield 1, 3) := by decide +kernel
theorem dX12_leaves_5 : decode kX12_leaves.2.1 5 = .ok (.aload_n 0, 1) := by decide +kernel
theorem dX12_leaves_6 : decode kX12_leaves.2.1 6 = .ok (.iload_n 1, 1) := by decide +kernel
theorem dX12_leaves_7 : decode kX12_leaves.2.1 7 = .ok (.i2l, 1) := by decide +kernel
theorem dX12_leaves_8 : decode kX12_leaves.2.1 8 = .ok (.invokevirtual 236, 3) := by decide +kernel
theorem dX12_leaves_11 : decode kX12_leaves.2.1 11 = .ok (.ifCond .ne 6, 3) := by decide +kernel
theorem dX12_leaves_14 : decode kX12_leaves.2.1 14 = .ok (.bipush (-2), 2) := by decide +kernel
theorem dX12_leaves_16 : decode kX12_leaves.2.1 16 = .ok (.ireturn, 1) := by decide +kernel
theorem dX12_leaves_17 : decode kX12_leaves.2.1 17 = .ok (.iload_n 2, 1) := by decide +kernel
theorem dX12_leaves_18 : decode kX12_leaves.2.1 18 = .ok (.i2l, 1) := by decide +kernel
theorem dX12_leaves_19 : decode kX12_leaves.2.1 19 = .ok (.lconst 0, 1) := by decide +kernel
theorem dX12_leaves_20 : decode kX12_leaves.2.1 20 = .ok (.ldc2_w 258, 3) := by decide +kernel
theorem dX12_leaves_23 : decode kX12_leaves.2.1 23 = .ok (.invokestatic 142, 3) := by decide +kernel
theorem dX12_leaves_26 : decode kX12_leaves.2.1 26 = .ok (.ifCond .ne 6, 3) := by decide +kernel
theorem dX12_leaves_29 : decode kX12_leaves.2.1 29 = .ok (.bipush (-3), 2) := by decide +kernel
theorem dX12_leaves_31 : decode kX12_leaves.2.1 31 = .ok (.ireturn, 1) := by decide +kernel
theorem dX12_leaves_32 : decode kX12_leaves.2.1 32 = .ok (.aload_n 0, 1) := by decide +kernel
theorem dX12_leaves_33 : decode kX12_leaves.2.1 33 = .ok (.invokevirtual 250, 3) := by decide +kernel
theorem dX12_leaves_36 : decode kX12_leaves.2.1 36 = .ok (.istore_n 3, 1) := by decide +kernel
theorem dX12_leaves_37 : decode kX12_leaves.2.1 37 = .ok (.iconst 0, 1) := by decide +kernel
theorem dX12_leaves_38 : decode kX12_leaves.2.1 38 = .ok (.istore 4, 2) := by decide +kernel
theorem dX12_leaves_40 : decode kX12_leaves.2.1 40 = .ok (.iload 4, 2) := by decide +kernel
theorem dX12_leaves_42 : decode kX12_leaves.2.1 42 = .ok (.bipush 9, 2) := by decide +kernel
theorem dX12_leaves_44 : decode kX12_leaves.2.1 44 = .ok (.if_icmp .gt 35, 3) := by decide +kernel
theorem dX12_leaves_47 : decode kX12_leaves.2.1 47 = .ok (.aload_n 0, 1) := by decide +kernel
theorem dX12_leaves_48 : decode kX12_leaves.2.1 48 = .ok (.iload_n 1, 1) := by decide +kernel
theorem dX12_leaves_49 : decode kX12_leaves.2.1 49 = .ok (.aload_n 0, 1) := by decide +kernel
theorem dX12_leaves_50 : decode kX12_leaves.2.1 50 = .ok (.iload_n 1, 1) := by decide +kernel
theorem dX12_leaves_51 : decode kX12_leaves.2.1 51 = .ok (.iload 4, 2) := by decide +kernel
theorem dX12_leaves_53 : decode kX12_leaves.2.1 53 = .ok (.iload_n 3, 1) := by decide +kernel
theorem dX12_leaves_54 : decode kX12_leaves.2.1 54 = .ok (.invokevirtual 319, 3) := by decide +kernel
theorem dX12_leaves_57 : decode kX12_leaves.2.1 57 = .ok (.iload 4, 2) := by decide +kernel
theorem dX12_leaves_59 : decode kX12_leaves.2.1 59 = .ok (.iload_n 3, 1) := by decide +kernel
theorem dX12_leaves_60 : decode kX12_leaves.2.1 60 = .ok (.invokevirtual 315, 3) := by decide +kernel
theorem dX12_leaves_63 : decode kX12_leaves.2.1 63 = .ok (.bipush 10, 2) := by decide +kernel
theorem dX12_leaves_65 : decode kX12_leaves.2.1 65 = .ok (.iload_n 2, 1) := by decide +kernel
theorem dX12_leaves_66 : decode kX12_leaves.2.1 66 = .ok (.imul, 1) := by decide +kernel
theorem dX12_leaves_67 : decode kX12_leaves.2.1 67 = .ok (.if_icmp .gt 6, 3) := by decide +kernel
theorem dX12_leaves_70 : decode kX12_leaves.2.1 70 = .ok (.iload 4, 2) := by decide +kernel
theorem dX12_leaves_72 : decode kX12_leaves.2.1 72 = .ok (.ireturn, 1) := by decide +kernel
theorem dX12_leaves_73 : decode kX12_leaves.2.1 73 = .ok (.iinc 4 1, 3) := by decide +kernel
theorem dX12_leaves_76 : decode kX12_leaves.2.1 76 = .ok (.goto (-36), 3) := by decide +kernel
theorem dX12_leaves_79 : decode kX12_leaves.2.1 79 = .ok (.iconst (-1), 1) := by decide +kernel
theorem dX12_leaves_80 : decode kX12_leaves.2.1 80 = .ok (.ireturn, 1) := by decide +kernel
theorem dX12_greedy_0 : decode kX12_greedy.2.1 0 = .ok (.aload_n 0, 1) := by decide +kernel
theorem dX12_greedy_1 : decode kX12_greedy.2.1 1 = .ok (.iconst 0, 1) := by decide +kernel
theorem dX12_greedy_2 : decode kX12_greedy.2.1 2 = .ok (.putfield 1, 3) := by decide +kernel
theorem dX12_greedy_5 : decode kX12_greedy.2.1 5 = .ok (.iconst 0, 1) := by decide +kernel
theorem dX12_greedy_6 : decode kX12_greedy.2.1 6 = .ok (.istore_n 1, 1) := by decide +kernel
theorem dX12_greedy_7 : decode kX12_greedy.2.1 7 = .ok (.iconst 0, 1) := by decide +kernel
theorem dX12_greedy_8 : decode kX12_greedy.2.1 8 = .ok (.istore_n 2, 1) := by decide +kernel
theorem dX12_greedy_9 : decode kX12_greedy.2.1 9 = .ok (.iload_n 2, 1) := by decide +kernel
theorem dX12_greedy_10 : decode kX12_greedy.2.1 10 = .ok (.aload_n 0, 1) := by decide +kernel
theorem dX12_greedy_11 : decode kX12_greedy.2.1 11 = .ok (.getfield 13, 3) := by decide +kernel
theorem dX12_greedy_14 : decode kX12_greedy.2.1 14 = .ok (.bipush 6, 2) := by decide +kernel
theorem dX12_greedy_16 : decode kX12_greedy.2.1 16 = .ok (.iaload, 1) := by decide +kernel
theorem dX12_greedy_17 : decode kX12_greedy.2.1 17 = .ok (.if_icmp .ge 33, 3) := by decide +kernel
theorem dX12_greedy_20 : decode kX12_greedy.2.1 20 = .ok (.iload_n 1, 1) := by decide +kernel
theorem dX12_greedy_21 : decode kX12_greedy.2.1 21 = .ok (.aload_n 0, 1) := by decide +kernel
theorem dX12_greedy_22 : decode kX12_greedy.2.1 22 = .ok (.iload_n 2, 1) := by decide +kernel
theorem dX12_greedy_23 : decode kX12_greedy.2.1 23 = .ok (.aload_n 0, 1) := by decide +kernel
theorem dX12_greedy_24 : decode kX12_greedy.2.1 24 = .ok (.iload_n 2, 1) := by decide +kernel
theorem dX12_greedy_25 : decode kX12_greedy.2.1 25 = .ok (.iconst 0, 1) := by decide +kernel
theorem dX12_greedy_26 : decode kX12_greedy.2.1 26 = .ok (.invokevirtual 333, 3) := by decide +kernel
theorem dX12_greedy_29 : decode kX12_greedy.2.1 29 = .ok (.invokevirtual 330, 3) := by decide +kernel
theorem dX12_greedy_32 : decode kX12_greedy.2.1 32 = .ok (.ifCond .le 9, 3) := by decide +kernel
theorem dX12_greedy_35 : decode kX12_greedy.2.1 35 = .ok (.iconst 1, 1) := by decide +kernel
theorem dX12_greedy_36 : decode kX12_greedy.2.1 36 = .ok (.iload_n 2, 1) := by decide +kernel
theorem dX12_greedy_37 : decode kX12_greedy.2.1 37 = .ok (.ishl, 1) := by decide +kernel
theorem dX12_greedy_38 : decode kX12_greedy.2.1 38 = .ok (.goto 4, 3) := by decide +kernel
theorem dX12_greedy_41 : decode kX12_greedy.2.1 41 = .ok (.iconst 0, 1) := by decide +kernel
theorem dX12_greedy_42 : decode kX12_greedy.2.1 42 = .ok (.ior, 1) := by decide +kernel
theorem dX12_greedy_43 : decode kX12_greedy.2.1 43 = .ok (.istore_n 1, 1) := by decide +kernel
theorem dX12_greedy_44 : decode kX12_greedy.2.1 44 = .ok (.iinc 2 1, 3) := by decide +kernel
theorem dX12_greedy_47 : decode kX12_greedy.2.1 47 = .ok (.goto (-38), 3) := by decide +kernel
theorem dX12_greedy_50 : decode kX12_greedy.2.1 50 = .ok (.iload_n 1, 1) := by decide +kernel
theorem dX12_greedy_51 : decode kX12_greedy.2.1 51 = .ok (.ireturn, 1) := by decide +kernel
theorem dX12_laysWays_0 : decode kX12_laysWays.2.1 0 = .ok (.aload_n 0, 1) := by decide +kernel
theorem dX12_laysWays_1 : decode kX12_laysWays.2.1 1 = .ok (.invokevirtual 250, 3) := by decide +kernel
theorem dX12_laysWays_4 : decode kX12_laysWays.2.1 4 = .ok (.istore 4, 2) := by decide +kernel
theorem dX12_laysWays_6 : decode kX12_laysWays.2.1 6 = .ok (.aload_n 0, 1) := by decide +kernel
theorem dX12_laysWays_7 : decode kX12_laysWays.2.1 7 = .ok (.iload_n 1, 1) := by decide +kernel
theorem dX12_laysWays_8 : decode kX12_laysWays.2.1 8 = .ok (.iload 4, 2) := by decide +kernel
theorem dX12_laysWays_10 : decode kX12_laysWays.2.1 10 = .ok (.invokevirtual 333, 3) := by decide +kernel
theorem dX12_laysWays_13 : decode kX12_laysWays.2.1 13 = .ok (.istore 5, 2) := by decide +kernel
theorem dX12_laysWays_15 : decode kX12_laysWays.2.1 15 = .ok (.iconst 0, 1) := by decide +kernel
theorem dX12_laysWays_16 : decode kX12_laysWays.2.1 16 = .ok (.istore 6, 2) := by decide +kernel
theorem dX12_laysWays_18 : decode kX12_laysWays.2.1 18 = .ok (.iload 6, 2) := by decide +kernel
theorem dX12_laysWays_20 : decode kX12_laysWays.2.1 20 = .ok (.sipush 601, 3) := by decide +kernel
theorem dX12_laysWays_23 : decode kX12_laysWays.2.1 23 = .ok (.if_icmp .ge 26, 3) := by decide +kernel
theorem dX12_laysWays_26 : decode kX12_laysWays.2.1 26 = .ok (.aload_n 3, 1) := by decide +kernel
theorem dX12_laysWays_27 : decode kX12_laysWays.2.1 27 = .ok (.iload 6, 2) := by decide +kernel
theorem dX12_laysWays_29 : decode kX12_laysWays.2.1 29 = .ok (.iload 6, 2) := by decide +kernel
theorem dX12_laysWays_31 : decode kX12_laysWays.2.1 31 = .ok (.sipush 300, 3) := by decide +kernel
theorem dX12_laysWays_34 : decode kX12_laysWays.2.1 34 = .ok (.if_icmp .ne 7, 3) := by decide +kernel
theorem dX12_laysWays_37 : decode kX12_laysWays.2.1 37 = .ok (.lconst 1, 1) := by decide +kernel
theorem dX12_laysWays_38 : decode kX12_laysWays.2.1 38 = .ok (.goto 4, 3) := by decide +kernel
theorem dX12_laysWays_41 : decode kX12_laysWays.2.1 41 = .ok (.lconst 0, 1) := by decide +kernel
theorem dX12_laysWays_42 : decode kX12_laysWays.2.1 42 = .ok (.lastore, 1) := by decide +kernel
theorem dX12_laysWays_43 : decode kX12_laysWays.2.1 43 = .ok (.iinc 6 1, 3) := by decide +kernel
theorem dX12_laysWays_46 : decode kX12_laysWays.2.1 46 = .ok (.goto (-28), 3) := by decide +kernel
theorem dX12_laysWays_49 : decode kX12_laysWays.2.1 49 = .ok (.iconst 0, 1) := by decide +kernel
theorem dX12_laysWays_50 : decode kX12_laysWays.2.1 50 = .ok (.istore 6, 2) := by decide +kernel
theorem dX12_laysWays_52 : decode kX12_laysWays.2.1 52 = .ok (.iload 6, 2) := by decide +kernel
theorem dX12_laysWays_54 : decode kX12_laysWays.2.1 54 = .ok (.iload_n 2, 1) := by decide +kernel
theorem dX12_laysWays_55 : decode kX12_laysWays.2.1 55 = .ok (.if_icmp .ge 134, 3) := by decide +kernel
theorem dX12_laysWays_58 : decode kX12_laysWays.2.1 58 = .ok (.iconst 0, 1) := by decide +kernel
theorem dX12_laysWays_59 : decode kX12_laysWays.2.1 59 = .ok (.istore 7, 2) := by decide +kernel
theorem dX12_laysWays_61 : decode kX12_laysWays.2.1 61 = .ok (.iload 7, 2) := by decide +kernel
theorem dX12_laysWays_63 : decode kX12_laysWays.2.1 63 = .ok (.sipush 601, 3) := by decide +kernel
theorem dX12_laysWays_66 : decode kX12_laysWays.2.1 66 = .ok (.if_icmp .ge 17, 3) := by decide +kernel
theorem dX12_laysWays_69 : decode kX12_laysWays.2.1 69 = .ok (.aload_n 0, 1) := by decide +kernel
theorem dX12_laysWays_70 : decode kX12_laysWays.2.1 70 = .ok (.getfield 49, 3) := by decide +kernel
theorem dX12_laysWays_73 : decode kX12_laysWays.2.1 73 = .ok (.iload 7, 2) := by decide +kernel
theorem dX12_laysWays_75 : decode kX12_laysWays.2.1 75 = .ok (.lconst 0, 1) := by decide +kernel
theorem dX12_laysWays_76 : decode kX12_laysWays.2.1 76 = .ok (.lastore, 1) := by decide +kernel
theorem dX12_laysWays_77 : decode kX12_laysWays.2.1 77 = .ok (.iinc 7 1, 3) := by decide +kernel
theorem dX12_laysWays_80 : decode kX12_laysWays.2.1 80 = .ok (.goto (-19), 3) := by decide +kernel
theorem dX12_laysWays_83 : decode kX12_laysWays.2.1 83 = .ok (.iconst 0, 1) := by decide +kernel
theorem dX12_laysWays_84 : decode kX12_laysWays.2.1 84 = .ok (.istore 7, 2) := by decide +kernel
theorem dX12_laysWays_86 : decode kX12_laysWays.2.1 86 = .ok (.iload 7, 2) := by decide +kernel
theorem dX12_laysWays_88 : decode kX12_laysWays.2.1 88 = .ok (.sipush 601, 3) := by decide +kernel
theorem dX12_laysWays_91 : decode kX12_laysWays.2.1 91 = .ok (.if_icmp .ge 64, 3) := by decide +kernel
theorem dX12_laysWays_94 : decode kX12_laysWays.2.1 94 = .ok (.iconst 0, 1) := by decide +kernel
theorem dX12_laysWays_95 : decode kX12_laysWays.2.1 95 = .ok (.istore 8, 2) := by decide +kernel
theorem dX12_laysWays_97 : decode kX12_laysWays.2.1 97 = .ok (.iload 8, 2) := by decide +kernel
theorem dX12_laysWays_99 : decode kX12_laysWays.2.1 99 = .ok (.bipush 10, 2) := by decide +kernel
theorem dX12_laysWays_101 : decode kX12_laysWays.2.1 101 = .ok (.if_icmp .ge 48, 3) := by decide +kernel
theorem dX12_laysWays_104 : decode kX12_laysWays.2.1 104 = .ok (.aload_n 3, 1) := by decide +kernel
theorem dX12_laysWays_105 : decode kX12_laysWays.2.1 105 = .ok (.iload 7, 2) := by decide +kernel
theorem dX12_laysWays_107 : decode kX12_laysWays.2.1 107 = .ok (.laload, 1) := by decide +kernel
theorem dX12_laysWays_108 : decode kX12_laysWays.2.1 108 = .ok (.lconst 0, 1) := by decide +kernel
theorem dX12_laysWays_109 : decode kX12_laysWays.2.1 109 = .ok (.lcmp, 1) := by decide +kernel
theorem dX12_laysWays_110 : decode kX12_laysWays.2.1 110 = .ok (.ifCond .le 39, 3) := by decide +kernel
theorem dX12_laysWays_113 : decode kX12_laysWays.2.1 113 = .ok (.aload_n 0, 1) := by decide +kernel
theorem dX12_laysWays_114 : decode kX12_laysWays.2.1 114 = .ok (.getfield 49, 3) := by decide +kernel
theorem dX12_laysWays_117 : decode kX12_laysWays.2.1 117 = .ok (.iload 7, 2) := by decide +kernel
theorem dX12_laysWays_119 : decode kX12_laysWays.2.1 119 = .ok (.aload_n 0, 1) := by decide +kernel
theorem dX12_laysWays_120 : decode kX12_laysWays.2.1 120 = .ok (.aload_n 0, 1) := by decide +kernel
theorem dX12_laysWays_121 : decode kX12_laysWays.2.1 121 = .ok (.iload_n 1, 1) := by decide +kernel
theorem dX12_laysWays_122 : decode kX12_laysWays.2.1 122 = .ok (.iload 5, 2) := by decide +kernel
theorem dX12_laysWays_124 : decode kX12_laysWays.2.1 124 = .ok (.iload 8, 2) := by decide +kernel
theorem dX12_laysWays_126 : decode kX12_laysWays.2.1 126 = .ok (.invokevirtual 247, 3) := by decide +kernel
theorem dX12_laysWays_129 : decode kX12_laysWays.2.1 129 = .ok (.iload 4, 2) := by decide +kernel
theorem dX12_laysWays_131 : decode kX12_laysWays.2.1 131 = .ok (.invokevirtual 254, 3) := by decide +kernel
theorem dX12_laysWays_134 : decode kX12_laysWays.2.1 134 = .ok (.iadd, 1) := by decide +kernel
theorem dX12_laysWays_135 : decode kX12_laysWays.2.1 135 = .ok (.dup2, 1) := by decide +kernel
theorem dX12_laysWays_136 : decode kX12_laysWays.2.1 136 = .ok (.laload, 1) := by decide +kernel
theorem dX12_laysWays_137 : decode kX12_laysWays.2.1 137 = .ok (.aload_n 3, 1) := by decide +kernel
theorem dX12_laysWays_138 : decode kX12_laysWays.2.1 138 = .ok (.iload 7, 2) := by decide +kernel
theorem dX12_laysWays_140 : decode kX12_laysWays.2.1 140 = .ok (.laload, 1) := by decide +kernel
theorem dX12_laysWays_141 : decode kX12_laysWays.2.1 141 = .ok (.ladd, 1) := by decide +kernel
theorem dX12_laysWays_142 : decode kX12_laysWays.2.1 142 = .ok (.lastore, 1) := by decide +kernel
theorem dX12_laysWays_143 : decode kX12_laysWays.2.1 143 = .ok (.iinc 8 1, 3) := by decide +kernel
theorem dX12_laysWays_146 : decode kX12_laysWays.2.1 146 = .ok (.goto (-49), 3) := by decide +kernel
theorem dX12_laysWays_149 : decode kX12_laysWays.2.1 149 = .ok (.iinc 7 1, 3) := by decide +kernel
theorem dX12_laysWays_152 : decode kX12_laysWays.2.1 152 = .ok (.goto (-66), 3) := by decide +kernel
theorem dX12_laysWays_155 : decode kX12_laysWays.2.1 155 = .ok (.iconst 0, 1) := by decide +kernel
theorem dX12_laysWays_156 : decode kX12_laysWays.2.1 156 = .ok (.istore 7, 2) := by decide +kernel
theorem dX12_laysWays_158 : decode kX12_laysWays.2.1 158 = .ok (.iload 7, 2) := by decide +kernel
theorem dX12_laysWays_160 : decode kX12_laysWays.2.1 160 = .ok (.sipush 601, 3) := by decide +kernel
theorem dX12_laysWays_163 : decode kX12_laysWays.2.1 163 = .ok (.if_icmp .ge 20, 3) := by decide +kernel
theorem dX12_laysWays_166 : decode kX12_laysWays.2.1 166 = .ok (.aload_n 3, 1) := by decide +kernel
theorem dX12_laysWays_167 : decode kX12_laysWays.2.1 167 = .ok (.iload 7, 2) := by decide +kernel
theorem dX12_laysWays_169 : decode kX12_laysWays.2.1 169 = .ok (.aload_n 0, 1) := by decide +kernel
theorem dX12_laysWays_170 : decode kX12_laysWays.2.1 170 = .ok (.getfield 49, 3) := by decide +kernel
theorem dX12_laysWays_173 : decode kX12_laysWays.2.1 173 = .ok (.iload 7, 2) := by decide +kernel
theorem dX12_laysWays_175 : decode kX12_laysWays.2.1 175 = .ok (.laload, 1) := by decide +kernel
theorem dX12_laysWays_176 : decode kX12_laysWays.2.1 176 = .ok (.lastore, 1) := by decide +kernel
theorem dX12_laysWays_177 : decode kX12_laysWays.2.1 177 = .ok (.iinc 7 1, 3) := by decide +kernel
theorem dX12_laysWays_180 : decode kX12_laysWays.2.1 180 = .ok (.goto (-22), 3) := by decide +kernel
theorem dX12_laysWays_183 : decode kX12_laysWays.2.1 183 = .ok (.iinc 6 1, 3) := by decide +kernel
theorem dX12_laysWays_186 : decode kX12_laysWays.2.1 186 = .ok (.goto (-134), 3) := by decide +kernel
theorem dX12_laysWays_189 : decode kX12_laysWays.2.1 189 = .ok (.return_, 1) := by decide +kernel
theorem dX12_wholeOf_0 : decode kX12_wholeOf.2.1 0 = .ok (.lconst 1, 1) := by decide +kernel
theorem dX12_wholeOf_1 : decode kX12_wholeOf.2.1 1 = .ok (.lstore_n 1, 1) := by decide +kernel
theorem dX12_wholeOf_2 : decode kX12_wholeOf.2.1 2 = .ok (.iconst 0, 1) := by decide +kernel
theorem dX12_wholeOf_3 : decode kX12_wholeOf.2.1 3 = .ok (.istore_n 3, 1) := by decide +kernel
theorem dX12_wholeOf_4 : decode kX12_wholeOf.2.1 4 = .ok (.iload_n 3, 1) := by decide +kernel
theorem dX12_wholeOf_5 : decode kX12_wholeOf.2.1 5 = .ok (.iload_n 0, 1) := by decide +kernel
theorem dX12_wholeOf_6 : decode kX12_wholeOf.2.1 6 = .ok (.if_icmp .ge 15, 3) := by decide +kernel
theorem dX12_wholeOf_9 : decode kX12_wholeOf.2.1 9 = .ok (.lload_n 1, 1) := by decide +kernel
theorem dX12_wholeOf_10 : decode kX12_wholeOf.2.1 10 = .ok (.ldc2_w 274, 3) := by decide +kernel
theorem dX12_wholeOf_13 : decode kX12_wholeOf.2.1 13 = .ok (.lmul, 1) := by decide +kernel
theorem dX12_wholeOf_14 : decode kX12_wholeOf.2.1 14 = .ok (.lstore_n 1, 1) := by decide +kernel
theorem dX12_wholeOf_15 : decode kX12_wholeOf.2.1 15 = .ok (.iinc 3 1, 3) := by decide +kernel
theorem dX12_wholeOf_18 : decode kX12_wholeOf.2.1 18 = .ok (.goto (-14), 3) := by decide +kernel
theorem dX12_wholeOf_21 : decode kX12_wholeOf.2.1 21 = .ok (.lload_n 1, 1) := by decide +kernel
theorem dX12_wholeOf_22 : decode kX12_wholeOf.2.1 22 = .ok (.lreturn, 1) := by decide +kernel
theorem dX12_beats_0 : decode kX12_beats.2.1 0 = .ok (.aload_n 0, 1) := by decide +kernel
theorem dX12_beats_1 : decode kX12_beats.2.1 1 = .ok (.iconst 0, 1) := by decide +kernel
theorem dX12_beats_2 : decode kX12_beats.2.1 2 = .ok (.putfield 1, 3) := by decide +kernel
theorem dX12_beats_5 : decode kX12_beats.2.1 5 = .ok (.aload_n 0, 1) := by decide +kernel
theorem dX12_beats_6 : decode kX12_beats.2.1 6 = .ok (.iload_n 1, 1) := by decide +kernel
theorem dX12_beats_7 : decode kX12_beats.2.1 7 = .ok (.i2l, 1) := by decide +kernel
theorem dX12_beats_8 : decode kX12_beats.2.1 8 = .ok (.invokevirtual 236, 3) := by decide +kernel
theorem dX12_beats_11 : decode kX12_beats.2.1 11 = .ok (.ifCond .eq 28, 3) := by decide +kernel
theorem dX12_beats_14 : decode kX12_beats.2.1 14 = .ok (.aload_n 0, 1) := by decide +kernel
theorem dX12_beats_15 : decode kX12_beats.2.1 15 = .ok (.iload_n 2, 1) := by decide +kernel
theorem dX12_beats_16 : decode kX12_beats.2.1 16 = .ok (.i2l, 1) := by decide +kernel
theorem dX12_beats_17 : decode kX12_beats.2.1 17 = .ok (.invokevirtual 236, 3) := by decide +kernel
theorem dX12_beats_20 : decode kX12_beats.2.1 20 = .ok (.ifCond .eq 19, 3) := by decide +kernel
theorem dX12_beats_23 : decode kX12_beats.2.1 23 = .ok (.iload_n 1, 1) := by decide +kernel
theorem dX12_beats_24 : decode kX12_beats.2.1 24 = .ok (.iload_n 2, 1) := by decide +kernel
theorem dX12_beats_25 : decode kX12_beats.2.1 25 = .ok (.if_icmp .eq 14, 3) := by decide +kernel
theorem dX12_beats_28 : decode kX12_beats.2.1 28 = .ok (.iload 4, 2) := by decide +kernel
theorem dX12_beats_30 : decode kX12_beats.2.1 30 = .ok (.i2l, 1) := by decide +kernel
theorem dX12_beats_31 : decode kX12_beats.2.1 31 = .ok (.lconst 0, 1) := by decide +kernel
theorem dX12_beats_32 : decode kX12_beats.2.1 32 = .ok (.lconst 1, 1) := by decide +kernel
theorem dX12_beats_33 : decode kX12_beats.2.1 33 = .ok (.invokestatic 142, 3) := by decide +kernel
theorem dX12_beats_36 : decode kX12_beats.2.1 36 = .ok (.ifCond .ne 7, 3) := by decide +kernel
theorem dX12_beats_39 : decode kX12_beats.2.1 39 = .ok (.ldc2_w 340, 3) := by decide +kernel
theorem dX12_beats_42 : decode kX12_beats.2.1 42 = .ok (.lreturn, 1) := by decide +kernel
theorem dX12_beats_43 : decode kX12_beats.2.1 43 = .ok (.iload_n 3, 1) := by decide +kernel
theorem dX12_beats_44 : decode kX12_beats.2.1 44 = .ok (.i2l, 1) := by decide +kernel
theorem dX12_beats_45 : decode kX12_beats.2.1 45 = .ok (.lconst 1, 1) := by decide +kernel
theorem dX12_beats_46 : decode kX12_beats.2.1 46 = .ok (.ldc2_w 292, 3) := by decide +kernel
theorem dX12_beats_49 : decode kX12_beats.2.1 49 = .ok (.invokestatic 142, 3) := by decide +kernel
theorem dX12_beats_52 : decode kX12_beats.2.1 52 = .ok (.ifCond .ne 7, 3) := by decide +kernel
theorem dX12_beats_55 : decode kX12_beats.2.1 55 = .ok (.ldc2_w 342, 3) := by decide +kernel
theorem dX12_beats_58 : decode kX12_beats.2.1 58 = .ok (.lreturn, 1) := by decide +kernel
theorem dX12_beats_59 : decode kX12_beats.2.1 59 = .ok (.aload_n 0, 1) := by decide +kernel
theorem dX12_beats_60 : decode kX12_beats.2.1 60 = .ok (.iload_n 1, 1) := by decide +kernel
theorem dX12_beats_61 : decode kX12_beats.2.1 61 = .ok (.iload_n 3, 1) := by decide +kernel
theorem dX12_beats_62 : decode kX12_beats.2.1 62 = .ok (.aload_n 0, 1) := by decide +kernel
theorem dX12_beats_63 : decode kX12_beats.2.1 63 = .ok (.getfield 42, 3) := by decide +kernel
theorem dX12_beats_66 : decode kX12_beats.2.1 66 = .ok (.invokevirtual 344, 3) := by decide +kernel
theorem dX12_beats_69 : decode kX12_beats.2.1 69 = .ok (.aload_n 0, 1) := by decide +kernel
theorem dX12_beats_70 : decode kX12_beats.2.1 70 = .ok (.iload_n 2, 1) := by decide +kernel
theorem dX12_beats_71 : decode kX12_beats.2.1 71 = .ok (.iload_n 3, 1) := by decide +kernel
theorem dX12_beats_72 : decode kX12_beats.2.1 72 = .ok (.aload_n 0, 1) := by decide +kernel
theorem dX12_beats_73 : decode kX12_beats.2.1 73 = .ok (.getfield 46, 3) := by decide +kernel
theorem dX12_beats_76 : decode kX12_beats.2.1 76 = .ok (.invokevirtual 344, 3) := by decide +kernel
theorem dX12_beats_79 : decode kX12_beats.2.1 79 = .ok (.lconst 0, 1) := by decide +kernel
theorem dX12_beats_80 : decode kX12_beats.2.1 80 = .ok (.lstore 5, 2) := by decide +kernel
theorem dX12_beats_82 : decode kX12_beats.2.1 82 = .ok (.lconst 0, 1) := by decide +kernel
theorem dX12_beats_83 : decode kX12_beats.2.1 83 = .ok (.lstore 7, 2) := by decide +kernel
theorem dX12_beats_85 : decode kX12_beats.2.1 85 = .ok (.iconst 0, 1) := by decide +kernel
theorem dX12_beats_86 : decode kX12_beats.2.1 86 = .ok (.istore 9, 2) := by decide +kernel
theorem dX12_beats_88 : decode kX12_beats.2.1 88 = .ok (.iload 9, 2) := by decide +kernel
theorem dX12_beats_90 : decode kX12_beats.2.1 90 = .ok (.sipush 601, 3) := by decide +kernel
theorem dX12_beats_93 : decode kX12_beats.2.1 93 = .ok (.if_icmp .ge 36, 3) := by decide +kernel
theorem dX12_beats_96 : decode kX12_beats.2.1 96 = .ok (.lload 5, 2) := by decide +kernel
theorem dX12_beats_98 : decode kX12_beats.2.1 98 = .ok (.aload_n 0, 1) := by decide +kernel
theorem dX12_beats_99 : decode kX12_beats.2.1 99 = .ok (.getfield 42, 3) := by decide +kernel
theorem dX12_beats_102 : decode kX12_beats.2.1 102 = .ok (.iload 9, 2) := by decide +kernel
theorem dX12_beats_104 : decode kX12_beats.2.1 104 = .ok (.laload, 1) := by decide +kernel
theorem dX12_beats_105 : decode kX12_beats.2.1 105 = .ok (.lload 7, 2) := by decide +kernel
theorem dX12_beats_107 : decode kX12_beats.2.1 107 = .ok (.lmul, 1) := by decide +kernel
theorem dX12_beats_108 : decode kX12_beats.2.1 108 = .ok (.ladd, 1) := by decide +kernel
theorem dX12_beats_109 : decode kX12_beats.2.1 109 = .ok (.lstore 5, 2) := by decide +kernel
theorem dX12_beats_111 : decode kX12_beats.2.1 111 = .ok (.lload 7, 2) := by decide +kernel
theorem dX12_beats_113 : decode kX12_beats.2.1 113 = .ok (.aload_n 0, 1) := by decide +kernel
theorem dX12_beats_114 : decode kX12_beats.2.1 114 = .ok (.getfield 46, 3) := by decide +kernel
theorem dX12_beats_117 : decode kX12_beats.2.1 117 = .ok (.iload 9, 2) := by decide +kernel
theorem dX12_beats_119 : decode kX12_beats.2.1 119 = .ok (.laload, 1) := by decide +kernel
theorem dX12_beats_120 : decode kX12_beats.2.1 120 = .ok (.ladd, 1) := by decide +kernel
theorem dX12_beats_121 : decode kX12_beats.2.1 121 = .ok (.lstore 7, 2) := by decide +kernel
theorem dX12_beats_123 : decode kX12_beats.2.1 123 = .ok (.iinc 9 1, 3) := by decide +kernel
theorem dX12_beats_126 : decode kX12_beats.2.1 126 = .ok (.goto (-38), 3) := by decide +kernel
theorem dX12_beats_129 : decode kX12_beats.2.1 129 = .ok (.lload 5, 2) := by decide +kernel
theorem dX12_beats_131 : decode kX12_beats.2.1 131 = .ok (.iconst 2, 1) := by decide +kernel
theorem dX12_beats_132 : decode kX12_beats.2.1 132 = .ok (.iload_n 3, 1) := by decide +kernel
theorem dX12_beats_133 : decode kX12_beats.2.1 133 = .ok (.imul, 1) := by decide +kernel
theorem dX12_beats_134 : decode kX12_beats.2.1 134 = .ok (.invokestatic 348, 3) := by decide +kernel
theorem dX12_beats_137 : decode kX12_beats.2.1 137 = .ok (.iload 4, 2) := by decide +kernel
theorem dX12_beats_139 : decode kX12_beats.2.1 139 = .ok (.invokestatic 352, 3) := by decide +kernel
theorem dX12_beats_142 : decode kX12_beats.2.1 142 = .ok (.lreturn, 1) := by decide +kernel
theorem dX12_roundBy_0 : decode kX12_roundBy.2.1 0 = .ok (.iload 6, 2) := by decide +kernel
theorem dX12_roundBy_2 : decode kX12_roundBy.2.1 2 = .ok (.bipush 21, 2) := by decide +kernel
theorem dX12_roundBy_4 : decode kX12_roundBy.2.1 4 = .ok (.if_icmp .ne 23, 3) := by decide +kernel
theorem dX12_roundBy_7 : decode kX12_roundBy.2.1 7 = .ok (.ldc2_w 274, 3) := by decide +kernel
theorem dX12_roundBy_10 : decode kX12_roundBy.2.1 10 = .ok (.aload_n 0, 1) := by decide +kernel
theorem dX12_roundBy_11 : decode kX12_roundBy.2.1 11 = .ok (.iload_n 1, 1) := by decide +kernel
theorem dX12_roundBy_12 : decode kX12_roundBy.2.1 12 = .ok (.iload_n 2, 1) := by decide +kernel
theorem dX12_roundBy_13 : decode kX12_roundBy.2.1 13 = .ok (.iconst 1, 1) := by decide +kernel
theorem dX12_roundBy_14 : decode kX12_roundBy.2.1 14 = .ok (.isub, 1) := by decide +kernel
theorem dX12_roundBy_15 : decode kX12_roundBy.2.1 15 = .ok (.iload_n 3, 1) := by decide +kernel
theorem dX12_roundBy_16 : decode kX12_roundBy.2.1 16 = .ok (.iload 4, 2) := by decide +kernel
theorem dX12_roundBy_18 : decode kX12_roundBy.2.1 18 = .ok (.iconst 1, 1) := by decide +kernel
theorem dX12_roundBy_19 : decode kX12_roundBy.2.1 19 = .ok (.iadd, 1) := by decide +kernel
theorem dX12_roundBy_20 : decode kX12_roundBy.2.1 20 = .ok (.iload 5, 2) := by decide +kernel
theorem dX12_roundBy_22 : decode kX12_roundBy.2.1 22 = .ok (.invokevirtual 356, 3) := by decide +kernel
theorem dX12_roundBy_25 : decode kX12_roundBy.2.1 25 = .ok (.lmul, 1) := by decide +kernel
theorem dX12_roundBy_26 : decode kX12_roundBy.2.1 26 = .ok (.lreturn, 1) := by decide +kernel
theorem dX12_roundBy_27 : decode kX12_roundBy.2.1 27 = .ok (.aload_n 0, 1) := by decide +kernel
theorem dX12_roundBy_28 : decode kX12_roundBy.2.1 28 = .ok (.iload 4, 2) := by decide +kernel
theorem dX12_roundBy_30 : decode kX12_roundBy.2.1 30 = .ok (.iload 5, 2) := by decide +kernel
theorem dX12_roundBy_32 : decode kX12_roundBy.2.1 32 = .ok (.invokevirtual 229, 3) := by decide +kernel
theorem dX12_roundBy_35 : decode kX12_roundBy.2.1 35 = .ok (.istore 7, 2) := by decide +kernel
theorem dX12_roundBy_37 : decode kX12_roundBy.2.1 37 = .ok (.iconst 0, 1) := by decide +kernel
theorem dX12_roundBy_38 : decode kX12_roundBy.2.1 38 = .ok (.istore 8, 2) := by decide +kernel
theorem dX12_roundBy_40 : decode kX12_roundBy.2.1 40 = .ok (.lconst 0, 1) := by decide +kernel
theorem dX12_roundBy_41 : decode kX12_roundBy.2.1 41 = .ok (.lstore 9, 2) := by decide +kernel
theorem dX12_roundBy_43 : decode kX12_roundBy.2.1 43 = .ok (.iconst 0, 1) := by decide +kernel
theorem dX12_roundBy_44 : decode kX12_roundBy.2.1 44 = .ok (.istore 11, 2) := by decide +kernel
theorem dX12_roundBy_46 : decode kX12_roundBy.2.1 46 = .ok (.iload 11, 2) := by decide +kernel
theorem dX12_roundBy_48 : decode kX12_roundBy.2.1 48 = .ok (.bipush 10, 2) := by decide +kernel
theorem dX12_roundBy_50 : decode kX12_roundBy.2.1 50 = .ok (.if_icmp .ge 66, 3) := by decide +kernel
theorem dX12_roundBy_53 : decode kX12_roundBy.2.1 53 = .ok (.aload_n 0, 1) := by decide +kernel
theorem dX12_roundBy_54 : decode kX12_roundBy.2.1 54 = .ok (.iload_n 1, 1) := by decide +kernel
theorem dX12_roundBy_55 : decode kX12_roundBy.2.1 55 = .ok (.iload 6, 2) := by decide +kernel
theorem dX12_roundBy_57 : decode kX12_roundBy.2.1 57 = .ok (.iload 11, 2) := by decide +kernel
theorem dX12_roundBy_59 : decode kX12_roundBy.2.1 59 = .ok (.iload_n 3, 1) := by decide +kernel
theorem dX12_roundBy_60 : decode kX12_roundBy.2.1 60 = .ok (.aload_n 0, 1) := by decide +kernel
theorem dX12_roundBy_61 : decode kX12_roundBy.2.1 61 = .ok (.getfield 13, 3) := by decide +kernel
theorem dX12_roundBy_64 : decode kX12_roundBy.2.1 64 = .ok (.bipush 26, 2) := by decide +kernel
theorem dX12_roundBy_66 : decode kX12_roundBy.2.1 66 = .ok (.iaload, 1) := by decide +kernel
theorem dX12_roundBy_67 : decode kX12_roundBy.2.1 67 = .ok (.invokevirtual 225, 3) := by decide +kernel
theorem dX12_roundBy_70 : decode kX12_roundBy.2.1 70 = .ok (.istore 12, 2) := by decide +kernel
theorem dX12_roundBy_72 : decode kX12_roundBy.2.1 72 = .ok (.lload 9, 2) := by decide +kernel
theorem dX12_roundBy_74 : decode kX12_roundBy.2.1 74 = .ok (.aload_n 0, 1) := by decide +kernel
theorem dX12_roundBy_75 : decode kX12_roundBy.2.1 75 = .ok (.iload 12, 2) := by decide +kernel
theorem dX12_roundBy_77 : decode kX12_roundBy.2.1 77 = .ok (.iload 7, 2) := by decide +kernel
theorem dX12_roundBy_79 : decode kX12_roundBy.2.1 79 = .ok (.invokevirtual 254, 3) := by decide +kernel
theorem dX12_roundBy_82 : decode kX12_roundBy.2.1 82 = .ok (.i2l, 1) := by decide +kernel
theorem dX12_roundBy_83 : decode kX12_roundBy.2.1 83 = .ok (.ladd, 1) := by decide +kernel
theorem dX12_roundBy_84 : decode kX12_roundBy.2.1 84 = .ok (.lstore 9, 2) := by decide +kernel
theorem dX12_roundBy_86 : decode kX12_roundBy.2.1 86 = .ok (.iload 8, 2) := by decide +kernel
theorem dX12_roundBy_88 : decode kX12_roundBy.2.1 88 = .ok (.iload 7, 2) := by decide +kernel
theorem dX12_roundBy_90 : decode kX12_roundBy.2.1 90 = .ok (.ifCond .eq 16, 3) := by decide +kernel
theorem dX12_roundBy_93 : decode kX12_roundBy.2.1 93 = .ok (.aload_n 0, 1) := by decide +kernel
theorem dX12_roundBy_94 : decode kX12_roundBy.2.1 94 = .ok (.iload 12, 2) := by decide +kernel
theorem dX12_roundBy_96 : decode kX12_roundBy.2.1 96 = .ok (.invokevirtual 233, 3) := by decide +kernel
theorem dX12_roundBy_99 : decode kX12_roundBy.2.1 99 = .ok (.ifCond .ne 7, 3) := by decide +kernel
theorem dX12_roundBy_102 : decode kX12_roundBy.2.1 102 = .ok (.iconst 1, 1) := by decide +kernel
theorem dX12_roundBy_103 : decode kX12_roundBy.2.1 103 = .ok (.goto 4, 3) := by decide +kernel
theorem dX12_roundBy_106 : decode kX12_roundBy.2.1 106 = .ok (.iconst 0, 1) := by decide +kernel
theorem dX12_roundBy_107 : decode kX12_roundBy.2.1 107 = .ok (.iadd, 1) := by decide +kernel
theorem dX12_roundBy_108 : decode kX12_roundBy.2.1 108 = .ok (.istore 8, 2) := by decide +kernel
theorem dX12_roundBy_110 : decode kX12_roundBy.2.1 110 = .ok (.iinc 11 1, 3) := by decide +kernel
theorem dX12_roundBy_113 : decode kX12_roundBy.2.1 113 = .ok (.goto (-67), 3) := by decide +kernel
theorem dX12_roundBy_116 : decode kX12_roundBy.2.1 116 = .ok (.lload 9, 2) := by decide +kernel
theorem dX12_roundBy_118 : decode kX12_roundBy.2.1 118 = .ok (.iload_n 2, 1) := by decide +kernel
theorem dX12_roundBy_119 : decode kX12_roundBy.2.1 119 = .ok (.iconst 1, 1) := by decide +kernel
theorem dX12_roundBy_120 : decode kX12_roundBy.2.1 120 = .ok (.isub, 1) := by decide +kernel
theorem dX12_roundBy_121 : decode kX12_roundBy.2.1 121 = .ok (.invokestatic 348, 3) := by decide +kernel
theorem dX12_roundBy_124 : decode kX12_roundBy.2.1 124 = .ok (.lmul, 1) := by decide +kernel
theorem dX12_roundBy_125 : decode kX12_roundBy.2.1 125 = .ok (.lstore 9, 2) := by decide +kernel
theorem dX12_roundBy_127 : decode kX12_roundBy.2.1 127 = .ok (.iload 8, 2) := by decide +kernel
theorem dX12_roundBy_129 : decode kX12_roundBy.2.1 129 = .ok (.bipush 10, 2) := by decide +kernel
theorem dX12_roundBy_131 : decode kX12_roundBy.2.1 131 = .ok (.if_icmp .ge 32, 3) := by decide +kernel
theorem dX12_roundBy_134 : decode kX12_roundBy.2.1 134 = .ok (.lload 9, 2) := by decide +kernel
theorem dX12_roundBy_136 : decode kX12_roundBy.2.1 136 = .ok (.bipush 10, 2) := by decide +kernel
theorem dX12_roundBy_138 : decode kX12_roundBy.2.1 138 = .ok (.iload 8, 2) := by decide +kernel
theorem dX12_roundBy_140 : decode kX12_roundBy.2.1 140 = .ok (.isub, 1) := by decide +kernel
theorem dX12_roundBy_141 : decode kX12_roundBy.2.1 141 = .ok (.i2l, 1) := by decide +kernel
theorem dX12_roundBy_142 : decode kX12_roundBy.2.1 142 = .ok (.aload_n 0, 1) := by decide +kernel
theorem dX12_roundBy_143 : decode kX12_roundBy.2.1 143 = .ok (.iload_n 1, 1) := by decide +kernel
theorem dX12_roundBy_144 : decode kX12_roundBy.2.1 144 = .ok (.iload_n 2, 1) := by decide +kernel
theorem dX12_roundBy_145 : decode kX12_roundBy.2.1 145 = .ok (.iconst 1, 1) := by decide +kernel
theorem dX12_roundBy_146 : decode kX12_roundBy.2.1 146 = .ok (.isub, 1) := by decide +kernel
theorem dX12_roundBy_147 : decode kX12_roundBy.2.1 147 = .ok (.iload_n 3, 1) := by decide +kernel
theorem dX12_roundBy_148 : decode kX12_roundBy.2.1 148 = .ok (.iconst 1, 1) := by decide +kernel
theorem dX12_roundBy_149 : decode kX12_roundBy.2.1 149 = .ok (.iadd, 1) := by decide +kernel
theorem dX12_roundBy_150 : decode kX12_roundBy.2.1 150 = .ok (.iload 4, 2) := by decide +kernel
theorem dX12_roundBy_152 : decode kX12_roundBy.2.1 152 = .ok (.iconst 1, 1) := by decide +kernel
theorem dX12_roundBy_153 : decode kX12_roundBy.2.1 153 = .ok (.iadd, 1) := by decide +kernel
theorem dX12_roundBy_154 : decode kX12_roundBy.2.1 154 = .ok (.iload 5, 2) := by decide +kernel
theorem dX12_roundBy_156 : decode kX12_roundBy.2.1 156 = .ok (.invokevirtual 356, 3) := by decide +kernel
theorem dX12_roundBy_159 : decode kX12_roundBy.2.1 159 = .ok (.lmul, 1) := by decide +kernel
theorem dX12_roundBy_160 : decode kX12_roundBy.2.1 160 = .ok (.ladd, 1) := by decide +kernel
theorem dX12_roundBy_161 : decode kX12_roundBy.2.1 161 = .ok (.lstore 9, 2) := by decide +kernel
theorem dX12_roundBy_163 : decode kX12_roundBy.2.1 163 = .ok (.iload 8, 2) := by decide +kernel
theorem dX12_roundBy_165 : decode kX12_roundBy.2.1 165 = .ok (.ifCond .le 31, 3) := by decide +kernel
theorem dX12_roundBy_168 : decode kX12_roundBy.2.1 168 = .ok (.lload 9, 2) := by decide +kernel
theorem dX12_roundBy_170 : decode kX12_roundBy.2.1 170 = .ok (.iload 8, 2) := by decide +kernel
theorem dX12_roundBy_172 : decode kX12_roundBy.2.1 172 = .ok (.i2l, 1) := by decide +kernel
theorem dX12_roundBy_173 : decode kX12_roundBy.2.1 173 = .ok (.aload_n 0, 1) := by decide +kernel
theorem dX12_roundBy_174 : decode kX12_roundBy.2.1 174 = .ok (.iload_n 1, 1) := by decide +kernel
theorem dX12_roundBy_175 : decode kX12_roundBy.2.1 175 = .ok (.iload_n 2, 1) := by decide +kernel
theorem dX12_roundBy_176 : decode kX12_roundBy.2.1 176 = .ok (.iconst 1, 1) := by decide +kernel
theorem dX12_roundBy_177 : decode kX12_roundBy.2.1 177 = .ok (.isub, 1) := by decide +kernel
theorem dX12_roundBy_178 : decode kX12_roundBy.2.1 178 = .ok (.iload_n 3, 1) := by decide +kernel
theorem dX12_roundBy_179 : decode kX12_roundBy.2.1 179 = .ok (.iconst 1, 1) := by decide +kernel
theorem dX12_roundBy_180 : decode kX12_roundBy.2.1 180 = .ok (.iadd, 1) := by decide +kernel
theorem dX12_roundBy_181 : decode kX12_roundBy.2.1 181 = .ok (.iload 4, 2) := by decide +kernel
theorem dX12_roundBy_183 : decode kX12_roundBy.2.1 183 = .ok (.iconst 1, 1) := by decide +kernel
theorem dX12_roundBy_184 : decode kX12_roundBy.2.1 184 = .ok (.iadd, 1) := by decide +kernel
theorem dX12_roundBy_185 : decode kX12_roundBy.2.1 185 = .ok (.iload 5, 2) := by decide +kernel
theorem dX12_roundBy_187 : decode kX12_roundBy.2.1 187 = .ok (.iconst 1, 1) := by decide +kernel
theorem dX12_roundBy_188 : decode kX12_roundBy.2.1 188 = .ok (.iadd, 1) := by decide +kernel
theorem dX12_roundBy_189 : decode kX12_roundBy.2.1 189 = .ok (.invokevirtual 356, 3) := by decide +kernel
theorem dX12_roundBy_192 : decode kX12_roundBy.2.1 192 = .ok (.lmul, 1) := by decide +kernel
theorem dX12_roundBy_193 : decode kX12_roundBy.2.1 193 = .ok (.ladd, 1) := by decide +kernel
theorem dX12_roundBy_194 : decode kX12_roundBy.2.1 194 = .ok (.lstore 9, 2) := by decide +kernel
theorem dX12_roundBy_196 : decode kX12_roundBy.2.1 196 = .ok (.lload 9, 2) := by decide +kernel
theorem dX12_roundBy_198 : decode kX12_roundBy.2.1 198 = .ok (.lreturn, 1) := by decide +kernel
theorem dX12_roundOf_0 : decode kX12_roundOf.2.1 0 = .ok (.iload_n 2, 1) := by decide +kernel
theorem dX12_roundOf_1 : decode kX12_roundOf.2.1 1 = .ok (.ifCond .ne 5, 3) := by decide +kernel
theorem dX12_roundOf_4 : decode kX12_roundOf.2.1 4 = .ok (.lconst 0, 1) := by decide +kernel
theorem dX12_roundOf_5 : decode kX12_roundOf.2.1 5 = .ok (.lreturn, 1) := by decide +kernel
theorem dX12_roundOf_6 : decode kX12_roundOf.2.1 6 = .ok (.bipush 25, 2) := by decide +kernel
theorem dX12_roundOf_8 : decode kX12_roundOf.2.1 8 = .ok (.aload_n 0, 1) := by decide +kernel
theorem dX12_roundOf_9 : decode kX12_roundOf.2.1 9 = .ok (.getfield 360, 3) := by decide +kernel
theorem dX12_roundOf_12 : decode kX12_roundOf.2.1 12 = .ok (.iload_n 2, 1) := by decide +kernel
theorem dX12_roundOf_13 : decode kX12_roundOf.2.1 13 = .ok (.isub, 1) := by decide +kernel
theorem dX12_roundOf_14 : decode kX12_roundOf.2.1 14 = .ok (.imul, 1) := by decide +kernel
theorem dX12_roundOf_15 : decode kX12_roundOf.2.1 15 = .ok (.iconst 5, 1) := by decide +kernel
theorem dX12_roundOf_16 : decode kX12_roundOf.2.1 16 = .ok (.iload_n 3, 1) := by decide +kernel
theorem dX12_roundOf_17 : decode kX12_roundOf.2.1 17 = .ok (.aload_n 0, 1) := by decide +kernel
theorem dX12_roundOf_18 : decode kX12_roundOf.2.1 18 = .ok (.getfield 13, 3) := by decide +kernel
theorem dX12_roundOf_21 : decode kX12_roundOf.2.1 21 = .ok (.bipush 21, 2) := by decide +kernel
theorem dX12_roundOf_23 : decode kX12_roundOf.2.1 23 = .ok (.iload_n 1, 1) := by decide +kernel
theorem dX12_roundOf_24 : decode kX12_roundOf.2.1 24 = .ok (.iadd, 1) := by decide +kernel
theorem dX12_roundOf_25 : decode kX12_roundOf.2.1 25 = .ok (.iaload, 1) := by decide +kernel
theorem dX12_roundOf_26 : decode kX12_roundOf.2.1 26 = .ok (.isub, 1) := by decide +kernel
theorem dX12_roundOf_27 : decode kX12_roundOf.2.1 27 = .ok (.imul, 1) := by decide +kernel
theorem dX12_roundOf_28 : decode kX12_roundOf.2.1 28 = .ok (.iadd, 1) := by decide +kernel
theorem dX12_roundOf_29 : decode kX12_roundOf.2.1 29 = .ok (.iload 5, 2) := by decide +kernel
theorem dX12_roundOf_31 : decode kX12_roundOf.2.1 31 = .ok (.iadd, 1) := by decide +kernel
theorem dX12_roundOf_32 : decode kX12_roundOf.2.1 32 = .ok (.aload_n 0, 1) := by decide +kernel
theorem dX12_roundOf_33 : decode kX12_roundOf.2.1 33 = .ok (.getfield 13, 3) := by decide +kernel
theorem dX12_roundOf_36 : decode kX12_roundOf.2.1 36 = .ok (.bipush 25, 2) := by decide +kernel
theorem dX12_roundOf_38 : decode kX12_roundOf.2.1 38 = .ok (.iaload, 1) := by decide +kernel
theorem dX12_roundOf_39 : decode kX12_roundOf.2.1 39 = .ok (.isub, 1) := by decide +kernel
theorem dX12_roundOf_40 : decode kX12_roundOf.2.1 40 = .ok (.istore 6, 2) := by decide +kernel
theorem dX12_roundOf_42 : decode kX12_roundOf.2.1 42 = .ok (.aload_n 0, 1) := by decide +kernel
theorem dX12_roundOf_43 : decode kX12_roundOf.2.1 43 = .ok (.getfield 55, 3) := by decide +kernel
theorem dX12_roundOf_46 : decode kX12_roundOf.2.1 46 = .ok (.iload 6, 2) := by decide +kernel
theorem dX12_roundOf_48 : decode kX12_roundOf.2.1 48 = .ok (.baload, 1) := by decide +kernel
theorem dX12_roundOf_49 : decode kX12_roundOf.2.1 49 = .ok (.ifCond .eq 11, 3) := by decide +kernel
theorem dX12_roundOf_52 : decode kX12_roundOf.2.1 52 = .ok (.aload_n 0, 1) := by decide +kernel
theorem dX12_roundOf_53 : decode kX12_roundOf.2.1 53 = .ok (.getfield 52, 3) := by decide +kernel
theorem dX12_roundOf_56 : decode kX12_roundOf.2.1 56 = .ok (.iload 6, 2) := by decide +kernel
theorem dX12_roundOf_58 : decode kX12_roundOf.2.1 58 = .ok (.laload, 1) := by decide +kernel
theorem dX12_roundOf_59 : decode kX12_roundOf.2.1 59 = .ok (.lreturn, 1) := by decide +kernel
theorem dX12_roundOf_60 : decode kX12_roundOf.2.1 60 = .ok (.aload_n 0, 1) := by decide +kernel
theorem dX12_roundOf_61 : decode kX12_roundOf.2.1 61 = .ok (.iload_n 1, 1) := by decide +kernel
theorem dX12_roundOf_62 : decode kX12_roundOf.2.1 62 = .ok (.iload_n 2, 1) := by decide +kernel
theorem dX12_roundOf_63 : decode kX12_roundOf.2.1 63 = .ok (.iload_n 3, 1) := by decide +kernel
theorem dX12_roundOf_64 : decode kX12_roundOf.2.1 64 = .ok (.iload 4, 2) := by decide +kernel
theorem dX12_roundOf_66 : decode kX12_roundOf.2.1 66 = .ok (.iload 5, 2) := by decide +kernel
theorem dX12_roundOf_68 : decode kX12_roundOf.2.1 68 = .ok (.bipush 21, 2) := by decide +kernel
theorem dX12_roundOf_70 : decode kX12_roundOf.2.1 70 = .ok (.invokevirtual 363, 3) := by decide +kernel
theorem dX12_roundOf_73 : decode kX12_roundOf.2.1 73 = .ok (.lstore 7, 2) := by decide +kernel
theorem dX12_roundOf_75 : decode kX12_roundOf.2.1 75 = .ok (.iconst 0, 1) := by decide +kernel
theorem dX12_roundOf_76 : decode kX12_roundOf.2.1 76 = .ok (.istore 9, 2) := by decide +kernel
theorem dX12_roundOf_78 : decode kX12_roundOf.2.1 78 = .ok (.iload 9, 2) := by decide +kernel
theorem dX12_roundOf_80 : decode kX12_roundOf.2.1 80 = .ok (.bipush 21, 2) := by decide +kernel
theorem dX12_roundOf_82 : decode kX12_roundOf.2.1 82 = .ok (.if_icmp .ge 41, 3) := by decide +kernel
theorem dX12_roundOf_85 : decode kX12_roundOf.2.1 85 = .ok (.aload_n 0, 1) := by decide +kernel
theorem dX12_roundOf_86 : decode kX12_roundOf.2.1 86 = .ok (.iload_n 1, 1) := by decide +kernel
theorem dX12_roundOf_87 : decode kX12_roundOf.2.1 87 = .ok (.iload_n 2, 1) := by decide +kernel
theorem dX12_roundOf_88 : decode kX12_roundOf.2.1 88 = .ok (.iload_n 3, 1) := by decide +kernel
theorem dX12_roundOf_89 : decode kX12_roundOf.2.1 89 = .ok (.iload 4, 2) := by decide +kernel
theorem dX12_roundOf_91 : decode kX12_roundOf.2.1 91 = .ok (.iload 5, 2) := by decide +kernel
theorem dX12_roundOf_93 : decode kX12_roundOf.2.1 93 = .ok (.iload 9, 2) := by decide +kernel
theorem dX12_roundOf_95 : decode kX12_roundOf.2.1 95 = .ok (.invokevirtual 363, 3) := by decide +kernel
theorem dX12_roundOf_98 : decode kX12_roundOf.2.1 98 = .ok (.lstore 10, 2) := by decide +kernel
theorem dX12_roundOf_100 : decode kX12_roundOf.2.1 100 = .ok (.lload 10, 2) := by decide +kernel
theorem dX12_roundOf_102 : decode kX12_roundOf.2.1 102 = .ok (.lload 7, 2) := by decide +kernel
theorem dX12_roundOf_104 : decode kX12_roundOf.2.1 104 = .ok (.lcmp, 1) := by decide +kernel
theorem dX12_roundOf_105 : decode kX12_roundOf.2.1 105 = .ok (.ifCond .le 8, 3) := by decide +kernel
theorem dX12_roundOf_108 : decode kX12_roundOf.2.1 108 = .ok (.lload 10, 2) := by decide +kernel
theorem dX12_roundOf_110 : decode kX12_roundOf.2.1 110 = .ok (.goto 5, 3) := by decide +kernel
theorem dX12_roundOf_113 : decode kX12_roundOf.2.1 113 = .ok (.lload 7, 2) := by decide +kernel
theorem dX12_roundOf_115 : decode kX12_roundOf.2.1 115 = .ok (.lstore 7, 2) := by decide +kernel
theorem dX12_roundOf_117 : decode kX12_roundOf.2.1 117 = .ok (.iinc 9 1, 3) := by decide +kernel
theorem dX12_roundOf_120 : decode kX12_roundOf.2.1 120 = .ok (.goto (-42), 3) := by decide +kernel
theorem dX12_roundOf_123 : decode kX12_roundOf.2.1 123 = .ok (.aload_n 0, 1) := by decide +kernel
theorem dX12_roundOf_124 : decode kX12_roundOf.2.1 124 = .ok (.getfield 55, 3) := by decide +kernel
theorem dX12_roundOf_127 : decode kX12_roundOf.2.1 127 = .ok (.iload 6, 2) := by decide +kernel
theorem dX12_roundOf_129 : decode kX12_roundOf.2.1 129 = .ok (.iconst 1, 1) := by decide +kernel
theorem dX12_roundOf_130 : decode kX12_roundOf.2.1 130 = .ok (.bastore, 1) := by decide +kernel
theorem dX12_roundOf_131 : decode kX12_roundOf.2.1 131 = .ok (.aload_n 0, 1) := by decide +kernel
theorem dX12_roundOf_132 : decode kX12_roundOf.2.1 132 = .ok (.getfield 52, 3) := by decide +kernel
theorem dX12_roundOf_135 : decode kX12_roundOf.2.1 135 = .ok (.iload 6, 2) := by decide +kernel
theorem dX12_roundOf_137 : decode kX12_roundOf.2.1 137 = .ok (.lload 7, 2) := by decide +kernel
theorem dX12_roundOf_139 : decode kX12_roundOf.2.1 139 = .ok (.lastore, 1) := by decide +kernel
theorem dX12_roundOf_140 : decode kX12_roundOf.2.1 140 = .ok (.lload 7, 2) := by decide +kernel
theorem dX12_roundOf_142 : decode kX12_roundOf.2.1 142 = .ok (.lreturn, 1) := by decide +kernel
theorem dX12_laysRound_0 : decode kX12_laysRound.2.1 0 = .ok (.iconst 0, 1) := by decide +kernel
theorem dX12_laysRound_1 : decode kX12_laysRound.2.1 1 = .ok (.istore_n 3, 1) := by decide +kernel
theorem dX12_laysRound_2 : decode kX12_laysRound.2.1 2 = .ok (.iload_n 3, 1) := by decide +kernel
theorem dX12_laysRound_3 : decode kX12_laysRound.2.1 3 = .ok (.bipush 125, 2) := by decide +kernel
theorem dX12_laysRound_5 : decode kX12_laysRound.2.1 5 = .ok (.if_icmp .ge 16, 3) := by decide +kernel
theorem dX12_laysRound_8 : decode kX12_laysRound.2.1 8 = .ok (.aload_n 0, 1) := by decide +kernel
theorem dX12_laysRound_9 : decode kX12_laysRound.2.1 9 = .ok (.getfield 55, 3) := by decide +kernel
theorem dX12_laysRound_12 : decode kX12_laysRound.2.1 12 = .ok (.iload_n 3, 1) := by decide +kernel
theorem dX12_laysRound_13 : decode kX12_laysRound.2.1 13 = .ok (.iconst 0, 1) := by decide +kernel
theorem dX12_laysRound_14 : decode kX12_laysRound.2.1 14 = .ok (.bastore, 1) := by decide +kernel
theorem dX12_laysRound_15 : decode kX12_laysRound.2.1 15 = .ok (.iinc 3 1, 3) := by decide +kernel
theorem dX12_laysRound_18 : decode kX12_laysRound.2.1 18 = .ok (.goto (-16), 3) := by decide +kernel
theorem dX12_laysRound_21 : decode kX12_laysRound.2.1 21 = .ok (.aload_n 0, 1) := by decide +kernel
theorem dX12_laysRound_22 : decode kX12_laysRound.2.1 22 = .ok (.iload_n 2, 1) := by decide +kernel
theorem dX12_laysRound_23 : decode kX12_laysRound.2.1 23 = .ok (.putfield 360, 3) := by decide +kernel
theorem dX12_laysRound_26 : decode kX12_laysRound.2.1 26 = .ok (.aload_n 0, 1) := by decide +kernel
theorem dX12_laysRound_27 : decode kX12_laysRound.2.1 27 = .ok (.iload_n 1, 1) := by decide +kernel
theorem dX12_laysRound_28 : decode kX12_laysRound.2.1 28 = .ok (.iload_n 2, 1) := by decide +kernel
theorem dX12_laysRound_29 : decode kX12_laysRound.2.1 29 = .ok (.aload_n 0, 1) := by decide +kernel
theorem dX12_laysRound_30 : decode kX12_laysRound.2.1 30 = .ok (.getfield 13, 3) := by decide +kernel
theorem dX12_laysRound_33 : decode kX12_laysRound.2.1 33 = .ok (.bipush 21, 2) := by decide +kernel
theorem dX12_laysRound_35 : decode kX12_laysRound.2.1 35 = .ok (.iload_n 1, 1) := by decide +kernel
theorem dX12_laysRound_36 : decode kX12_laysRound.2.1 36 = .ok (.iadd, 1) := by decide +kernel
theorem dX12_laysRound_37 : decode kX12_laysRound.2.1 37 = .ok (.iaload, 1) := by decide +kernel
theorem dX12_laysRound_38 : decode kX12_laysRound.2.1 38 = .ok (.aload_n 0, 1) := by decide +kernel
theorem dX12_laysRound_39 : decode kX12_laysRound.2.1 39 = .ok (.getfield 13, 3) := by decide +kernel
theorem dX12_laysRound_42 : decode kX12_laysRound.2.1 42 = .ok (.bipush 27, 2) := by decide +kernel
theorem dX12_laysRound_44 : decode kX12_laysRound.2.1 44 = .ok (.iaload, 1) := by decide +kernel
theorem dX12_laysRound_45 : decode kX12_laysRound.2.1 45 = .ok (.aload_n 0, 1) := by decide +kernel
theorem dX12_laysRound_46 : decode kX12_laysRound.2.1 46 = .ok (.getfield 13, 3) := by decide +kernel
theorem dX12_laysRound_49 : decode kX12_laysRound.2.1 49 = .ok (.bipush 25, 2) := by decide +kernel
theorem dX12_laysRound_51 : decode kX12_laysRound.2.1 51 = .ok (.iaload, 1) := by decide +kernel
theorem dX12_laysRound_52 : decode kX12_laysRound.2.1 52 = .ok (.invokevirtual 356, 3) := by decide +kernel
theorem dX12_laysRound_55 : decode kX12_laysRound.2.1 55 = .ok (.lreturn, 1) := by decide +kernel
theorem dX12_round_0 : decode kX12_round.2.1 0 = .ok (.aload_n 0, 1) := by decide +kernel
theorem dX12_round_1 : decode kX12_round.2.1 1 = .ok (.iconst 0, 1) := by decide +kernel
theorem dX12_round_2 : decode kX12_round.2.1 2 = .ok (.putfield 1, 3) := by decide +kernel
theorem dX12_round_5 : decode kX12_round.2.1 5 = .ok (.aload_n 0, 1) := by decide +kernel
theorem dX12_round_6 : decode kX12_round.2.1 6 = .ok (.iload_n 1, 1) := by decide +kernel
theorem dX12_round_7 : decode kX12_round.2.1 7 = .ok (.i2l, 1) := by decide +kernel
theorem dX12_round_8 : decode kX12_round.2.1 8 = .ok (.invokevirtual 236, 3) := by decide +kernel
theorem dX12_round_11 : decode kX12_round.2.1 11 = .ok (.ifCond .eq 13, 3) := by decide +kernel
theorem dX12_round_14 : decode kX12_round.2.1 14 = .ok (.iload_n 3, 1) := by decide +kernel
theorem dX12_round_15 : decode kX12_round.2.1 15 = .ok (.i2l, 1) := by decide +kernel
theorem dX12_round_16 : decode kX12_round.2.1 16 = .ok (.lconst 0, 1) := by decide +kernel
theorem dX12_round_17 : decode kX12_round.2.1 17 = .ok (.lconst 1, 1) := by decide +kernel
theorem dX12_round_18 : decode kX12_round.2.1 18 = .ok (.invokestatic 142, 3) := by decide +kernel
theorem dX12_round_21 : decode kX12_round.2.1 21 = .ok (.ifCond .ne 7, 3) := by decide +kernel
theorem dX12_round_24 : decode kX12_round.2.1 24 = .ok (.ldc2_w 367, 3) := by decide +kernel
theorem dX12_round_27 : decode kX12_round.2.1 27 = .ok (.lreturn, 1) := by decide +kernel
theorem dX12_round_28 : decode kX12_round.2.1 28 = .ok (.iload_n 2, 1) := by decide +kernel
theorem dX12_round_29 : decode kX12_round.2.1 29 = .ok (.i2l, 1) := by decide +kernel
theorem dX12_round_30 : decode kX12_round.2.1 30 = .ok (.lconst 0, 1) := by decide +kernel
theorem dX12_round_31 : decode kX12_round.2.1 31 = .ok (.ldc2_w 369, 3) := by decide +kernel
theorem dX12_round_34 : decode kX12_round.2.1 34 = .ok (.invokestatic 142, 3) := by decide +kernel
theorem dX12_round_37 : decode kX12_round.2.1 37 = .ok (.ifCond .ne 7, 3) := by decide +kernel
theorem dX12_round_40 : decode kX12_round.2.1 40 = .ok (.ldc2_w 371, 3) := by decide +kernel
theorem dX12_round_43 : decode kX12_round.2.1 43 = .ok (.lreturn, 1) := by decide +kernel
theorem dX12_round_44 : decode kX12_round.2.1 44 = .ok (.aload_n 0, 1) := by decide +kernel
theorem dX12_round_45 : decode kX12_round.2.1 45 = .ok (.iload_n 1, 1) := by decide +kernel
theorem dX12_round_46 : decode kX12_round.2.1 46 = .ok (.iload_n 2, 1) := by decide +kernel
theorem dX12_round_47 : decode kX12_round.2.1 47 = .ok (.invokevirtual 373, 3) := by decide +kernel
theorem dX12_round_50 : decode kX12_round.2.1 50 = .ok (.iload_n 2, 1) := by decide +kernel
theorem dX12_round_51 : decode kX12_round.2.1 51 = .ok (.invokestatic 348, 3) := by decide +kernel
theorem dX12_round_54 : decode kX12_round.2.1 54 = .ok (.iload_n 3, 1) := by decide +kernel
theorem dX12_round_55 : decode kX12_round.2.1 55 = .ok (.invokestatic 352, 3) := by decide +kernel
theorem dX12_round_58 : decode kX12_round.2.1 58 = .ok (.lreturn, 1) := by decide +kernel
theorem dX12_begins_0 : decode kX12_begins.2.1 0 = .ok (.aload_n 0, 1) := by decide +kernel
theorem dX12_begins_1 : decode kX12_begins.2.1 1 = .ok (.iconst 0, 1) := by decide +kernel
theorem dX12_begins_2 : decode kX12_begins.2.1 2 = .ok (.putfield 1, 3) := by decide +kernel
theorem dX12_begins_5 : decode kX12_begins.2.1 5 = .ok (.aload_n 0, 1) := by decide +kernel
theorem dX12_begins_6 : decode kX12_begins.2.1 6 = .ok (.iload_n 1, 1) := by decide +kernel
theorem dX12_begins_7 : decode kX12_begins.2.1 7 = .ok (.i2l, 1) := by decide +kernel
theorem dX12_begins_8 : decode kX12_begins.2.1 8 = .ok (.invokevirtual 236, 3) := by decide +kernel
theorem dX12_begins_11 : decode kX12_begins.2.1 11 = .ok (.ifCond .ne 6, 3) := by decide +kernel
theorem dX12_begins_14 : decode kX12_begins.2.1 14 = .ok (.bipush (-2), 2) := by decide +kernel
theorem dX12_begins_16 : decode kX12_begins.2.1 16 = .ok (.ireturn, 1) := by decide +kernel
theorem dX12_begins_17 : decode kX12_begins.2.1 17 = .ok (.iload_n 2, 1) := by decide +kernel
theorem dX12_begins_18 : decode kX12_begins.2.1 18 = .ok (.i2l, 1) := by decide +kernel
theorem dX12_begins_19 : decode kX12_begins.2.1 19 = .ok (.lconst 0, 1) := by decide +kernel
theorem dX12_begins_20 : decode kX12_begins.2.1 20 = .ok (.ldc2_w 369, 3) := by decide +kernel
theorem dX12_begins_23 : decode kX12_begins.2.1 23 = .ok (.invokestatic 142, 3) := by decide +kernel
theorem dX12_begins_26 : decode kX12_begins.2.1 26 = .ok (.ifCond .ne 6, 3) := by decide +kernel
theorem dX12_begins_29 : decode kX12_begins.2.1 29 = .ok (.bipush (-3), 2) := by decide +kernel
theorem dX12_begins_31 : decode kX12_begins.2.1 31 = .ok (.ireturn, 1) := by decide +kernel
theorem dX12_begins_32 : decode kX12_begins.2.1 32 = .ok (.iload_n 2, 1) := by decide +kernel
theorem dX12_begins_33 : decode kX12_begins.2.1 33 = .ok (.ifCond .ne 5, 3) := by decide +kernel
theorem dX12_begins_36 : decode kX12_begins.2.1 36 = .ok (.iconst (-1), 1) := by decide +kernel
theorem dX12_begins_37 : decode kX12_begins.2.1 37 = .ok (.ireturn, 1) := by decide +kernel
theorem dX12_begins_38 : decode kX12_begins.2.1 38 = .ok (.aload_n 0, 1) := by decide +kernel
theorem dX12_begins_39 : decode kX12_begins.2.1 39 = .ok (.iload_n 1, 1) := by decide +kernel
theorem dX12_begins_40 : decode kX12_begins.2.1 40 = .ok (.iload_n 2, 1) := by decide +kernel
theorem dX12_begins_41 : decode kX12_begins.2.1 41 = .ok (.invokevirtual 373, 3) := by decide +kernel
theorem dX12_begins_44 : decode kX12_begins.2.1 44 = .ok (.lstore_n 3, 1) := by decide +kernel
theorem dX12_begins_45 : decode kX12_begins.2.1 45 = .ok (.iconst 0, 1) := by decide +kernel
theorem dX12_begins_46 : decode kX12_begins.2.1 46 = .ok (.istore 5, 2) := by decide +kernel
theorem dX12_begins_48 : decode kX12_begins.2.1 48 = .ok (.aload_n 0, 1) := by decide +kernel
theorem dX12_begins_49 : decode kX12_begins.2.1 49 = .ok (.iload_n 1, 1) := by decide +kernel
theorem dX12_begins_50 : decode kX12_begins.2.1 50 = .ok (.iload_n 2, 1) := by decide +kernel
theorem dX12_begins_51 : decode kX12_begins.2.1 51 = .ok (.aload_n 0, 1) := by decide +kernel
theorem dX12_begins_52 : decode kX12_begins.2.1 52 = .ok (.getfield 13, 3) := by decide +kernel
theorem dX12_begins_55 : decode kX12_begins.2.1 55 = .ok (.bipush 21, 2) := by decide +kernel
theorem dX12_begins_57 : decode kX12_begins.2.1 57 = .ok (.iload_n 1, 1) := by decide +kernel
theorem dX12_begins_58 : decode kX12_begins.2.1 58 = .ok (.iadd, 1) := by decide +kernel
theorem dX12_begins_59 : decode kX12_begins.2.1 59 = .ok (.iaload, 1) := by decide +kernel
theorem dX12_begins_60 : decode kX12_begins.2.1 60 = .ok (.aload_n 0, 1) := by decide +kernel
theorem dX12_begins_61 : decode kX12_begins.2.1 61 = .ok (.getfield 13, 3) := by decide +kernel
theorem dX12_begins_64 : decode kX12_begins.2.1 64 = .ok (.bipush 27, 2) := by decide +kernel
theorem dX12_begins_66 : decode kX12_begins.2.1 66 = .ok (.iaload, 1) := by decide +kernel
theorem dX12_begins_67 : decode kX12_begins.2.1 67 = .ok (.aload_n 0, 1) := by decide +kernel
theorem dX12_begins_68 : decode kX12_begins.2.1 68 = .ok (.getfield 13, 3) := by decide +kernel
theorem dX12_begins_71 : decode kX12_begins.2.1 71 = .ok (.bipush 25, 2) := by decide +kernel
theorem dX12_begins_73 : decode kX12_begins.2.1 73 = .ok (.iaload, 1) := by decide +kernel
theorem dX12_begins_74 : decode kX12_begins.2.1 74 = .ok (.iload 5, 2) := by decide +kernel
theorem dX12_begins_76 : decode kX12_begins.2.1 76 = .ok (.invokevirtual 363, 3) := by decide +kernel
theorem dX12_begins_79 : decode kX12_begins.2.1 79 = .ok (.lload_n 3, 1) := by decide +kernel
theorem dX12_begins_80 : decode kX12_begins.2.1 80 = .ok (.lcmp, 1) := by decide +kernel
theorem dX12_begins_81 : decode kX12_begins.2.1 81 = .ok (.ifCond .eq 9, 3) := by decide +kernel
theorem dX12_begins_84 : decode kX12_begins.2.1 84 = .ok (.iinc 5 1, 3) := by decide +kernel
theorem dX12_begins_87 : decode kX12_begins.2.1 87 = .ok (.goto (-39), 3) := by decide +kernel
theorem dX12_begins_90 : decode kX12_begins.2.1 90 = .ok (.iload 5, 2) := by decide +kernel
theorem dX12_begins_92 : decode kX12_begins.2.1 92 = .ok (.ireturn, 1) := by decide +kernel
theorem dX12_noSeen_0 : decode kX12_noSeen.2.1 0 = .ok (.iload_n 1, 1) := by decide +kernel
theorem dX12_noSeen_1 : decode kX12_noSeen.2.1 1 = .ok (.i2l, 1) := by decide +kernel
theorem dX12_noSeen_2 : decode kX12_noSeen.2.1 2 = .ok (.lconst 0, 1) := by decide +kernel
theorem dX12_noSeen_3 : decode kX12_noSeen.2.1 3 = .ok (.ldc2_w 292, 3) := by decide +kernel
theorem dX12_noSeen_6 : decode kX12_noSeen.2.1 6 = .ok (.invokestatic 142, 3) := by decide +kernel
theorem dX12_noSeen_9 : decode kX12_noSeen.2.1 9 = .ok (.ifCond .eq 11, 3) := by decide +kernel
theorem dX12_noSeen_12 : decode kX12_noSeen.2.1 12 = .ok (.iload_n 2, 1) := by decide +kernel
theorem dX12_noSeen_13 : decode kX12_noSeen.2.1 13 = .ok (.i2l, 1) := by decide +kernel
theorem dX12_noSeen_14 : decode kX12_noSeen.2.1 14 = .ok (.invokestatic 241, 3) := by decide +kernel
theorem dX12_noSeen_17 : decode kX12_noSeen.2.1 17 = .ok (.ifCond .ne 6, 3) := by decide +kernel
theorem dX12_noSeen_20 : decode kX12_noSeen.2.1 20 = .ok (.bipush (-2), 2) := by decide +kernel
theorem dX12_noSeen_22 : decode kX12_noSeen.2.1 22 = .ok (.ireturn, 1) := by decide +kernel
theorem dX12_noSeen_23 : decode kX12_noSeen.2.1 23 = .ok (.aload_n 0, 1) := by decide +kernel
theorem dX12_noSeen_24 : decode kX12_noSeen.2.1 24 = .ok (.iload_n 1, 1) := by decide +kernel
theorem dX12_noSeen_25 : decode kX12_noSeen.2.1 25 = .ok (.invokevirtual 294, 3) := by decide +kernel
theorem dX12_noSeen_28 : decode kX12_noSeen.2.1 28 = .ok (.istore_n 3, 1) := by decide +kernel
theorem dX12_noSeen_29 : decode kX12_noSeen.2.1 29 = .ok (.iload_n 3, 1) := by decide +kernel
theorem dX12_noSeen_30 : decode kX12_noSeen.2.1 30 = .ok (.ifCond .eq 5, 3) := by decide +kernel
theorem dX12_noSeen_33 : decode kX12_noSeen.2.1 33 = .ok (.iload_n 3, 1) := by decide +kernel
theorem dX12_noSeen_34 : decode kX12_noSeen.2.1 34 = .ok (.ireturn, 1) := by decide +kernel
theorem dX12_noSeen_35 : decode kX12_noSeen.2.1 35 = .ok (.aload_n 0, 1) := by decide +kernel
theorem dX12_noSeen_36 : decode kX12_noSeen.2.1 36 = .ok (.getfield 70, 3) := by decide +kernel
theorem dX12_noSeen_39 : decode kX12_noSeen.2.1 39 = .ok (.iload_n 1, 1) := by decide +kernel
theorem dX12_noSeen_40 : decode kX12_noSeen.2.1 40 = .ok (.iaload, 1) := by decide +kernel
theorem dX12_noSeen_41 : decode kX12_noSeen.2.1 41 = .ok (.i2l, 1) := by decide +kernel
theorem dX12_noSeen_42 : decode kX12_noSeen.2.1 42 = .ok (.lconst 1, 1) := by decide +kernel
theorem dX12_noSeen_43 : decode kX12_noSeen.2.1 43 = .ok (.ldc2_w 377, 3) := by decide +kernel
theorem dX12_noSeen_46 : decode kX12_noSeen.2.1 46 = .ok (.invokestatic 142, 3) := by decide +kernel
theorem dX12_noSeen_49 : decode kX12_noSeen.2.1 49 = .ok (.ifCond .ne 6, 3) := by decide +kernel
theorem dX12_noSeen_52 : decode kX12_noSeen.2.1 52 = .ok (.bipush (-4), 2) := by decide +kernel
theorem dX12_noSeen_54 : decode kX12_noSeen.2.1 54 = .ok (.ireturn, 1) := by decide +kernel
theorem dX12_noSeen_55 : decode kX12_noSeen.2.1 55 = .ok (.iconst 0, 1) := by decide +kernel
theorem dX12_noSeen_56 : decode kX12_noSeen.2.1 56 = .ok (.istore 4, 2) := by decide +kernel
theorem dX12_noSeen_58 : decode kX12_noSeen.2.1 58 = .ok (.iload 4, 2) := by decide +kernel
theorem dX12_noSeen_60 : decode kX12_noSeen.2.1 60 = .ok (.aload_n 0, 1) := by decide +kernel
theorem dX12_noSeen_61 : decode kX12_noSeen.2.1 61 = .ok (.getfield 70, 3) := by decide +kernel
theorem dX12_noSeen_64 : decode kX12_noSeen.2.1 64 = .ok (.iload_n 1, 1) := by decide +kernel
theorem dX12_noSeen_65 : decode kX12_noSeen.2.1 65 = .ok (.iaload, 1) := by decide +kernel
theorem dX12_noSeen_66 : decode kX12_noSeen.2.1 66 = .ok (.if_icmp .ge 30, 3) := by decide +kernel
theorem dX12_noSeen_69 : decode kX12_noSeen.2.1 69 = .ok (.aload_n 0, 1) := by decide +kernel
theorem dX12_noSeen_70 : decode kX12_noSeen.2.1 70 = .ok (.getfield 73, 3) := by decide +kernel
theorem dX12_noSeen_73 : decode kX12_noSeen.2.1 73 = .ok (.bipush 40, 2) := by decide +kernel
theorem dX12_noSeen_75 : decode kX12_noSeen.2.1 75 = .ok (.iload_n 1, 1) := by decide +kernel
theorem dX12_noSeen_76 : decode kX12_noSeen.2.1 76 = .ok (.imul, 1) := by decide +kernel
theorem dX12_noSeen_77 : decode kX12_noSeen.2.1 77 = .ok (.iload 4, 2) := by decide +kernel
theorem dX12_noSeen_79 : decode kX12_noSeen.2.1 79 = .ok (.iadd, 1) := by decide +kernel
theorem dX12_noSeen_80 : decode kX12_noSeen.2.1 80 = .ok (.laload, 1) := by decide +kernel
theorem dX12_noSeen_81 : decode kX12_noSeen.2.1 81 = .ok (.invokestatic 241, 3) := by decide +kernel
theorem dX12_noSeen_84 : decode kX12_noSeen.2.1 84 = .ok (.ifCond .ne 6, 3) := by decide +kernel
theorem dX12_noSeen_87 : decode kX12_noSeen.2.1 87 = .ok (.bipush (-3), 2) := by decide +kernel
theorem dX12_noSeen_89 : decode kX12_noSeen.2.1 89 = .ok (.ireturn, 1) := by decide +kernel
theorem dX12_noSeen_90 : decode kX12_noSeen.2.1 90 = .ok (.iinc 4 1, 3) := by decide +kernel
theorem dX12_noSeen_93 : decode kX12_noSeen.2.1 93 = .ok (.goto (-35), 3) := by decide +kernel
theorem dX12_noSeen_96 : decode kX12_noSeen.2.1 96 = .ok (.iconst 0, 1) := by decide +kernel
theorem dX12_noSeen_97 : decode kX12_noSeen.2.1 97 = .ok (.ireturn, 1) := by decide +kernel
theorem dX12_lotsOf_0 : decode kX12_lotsOf.2.1 0 = .ok (.aload_n 0, 1) := by decide +kernel
theorem dX12_lotsOf_1 : decode kX12_lotsOf.2.1 1 = .ok (.iload_n 3, 1) := by decide +kernel
theorem dX12_lotsOf_2 : decode kX12_lotsOf.2.1 2 = .ok (.iload_n 2, 1) := by decide +kernel
theorem dX12_lotsOf_3 : decode kX12_lotsOf.2.1 3 = .ok (.invokevirtual 336, 3) := by decide +kernel
theorem dX12_lotsOf_6 : decode kX12_lotsOf.2.1 6 = .ok (.lconst 1, 1) := by decide +kernel
theorem dX12_lotsOf_7 : decode kX12_lotsOf.2.1 7 = .ok (.lstore 4, 2) := by decide +kernel
theorem dX12_lotsOf_9 : decode kX12_lotsOf.2.1 9 = .ok (.iconst 0, 1) := by decide +kernel
theorem dX12_lotsOf_10 : decode kX12_lotsOf.2.1 10 = .ok (.istore 6, 2) := by decide +kernel
theorem dX12_lotsOf_12 : decode kX12_lotsOf.2.1 12 = .ok (.iload 6, 2) := by decide +kernel
theorem dX12_lotsOf_14 : decode kX12_lotsOf.2.1 14 = .ok (.aload_n 0, 1) := by decide +kernel
theorem dX12_lotsOf_15 : decode kX12_lotsOf.2.1 15 = .ok (.getfield 70, 3) := by decide +kernel
theorem dX12_lotsOf_18 : decode kX12_lotsOf.2.1 18 = .ok (.iload_n 1, 1) := by decide +kernel
theorem dX12_lotsOf_19 : decode kX12_lotsOf.2.1 19 = .ok (.iaload, 1) := by decide +kernel
theorem dX12_lotsOf_20 : decode kX12_lotsOf.2.1 20 = .ok (.if_icmp .ge 33, 3) := by decide +kernel
theorem dX12_lotsOf_23 : decode kX12_lotsOf.2.1 23 = .ok (.lload 4, 2) := by decide +kernel
theorem dX12_lotsOf_25 : decode kX12_lotsOf.2.1 25 = .ok (.aload_n 0, 1) := by decide +kernel
theorem dX12_lotsOf_26 : decode kX12_lotsOf.2.1 26 = .ok (.getfield 39, 3) := by decide +kernel
theorem dX12_lotsOf_29 : decode kX12_lotsOf.2.1 29 = .ok (.aload_n 0, 1) := by decide +kernel
theorem dX12_lotsOf_30 : decode kX12_lotsOf.2.1 30 = .ok (.getfield 73, 3) := by decide +kernel
theorem dX12_lotsOf_33 : decode kX12_lotsOf.2.1 33 = .ok (.bipush 40, 2) := by decide +kernel
theorem dX12_lotsOf_35 : decode kX12_lotsOf.2.1 35 = .ok (.iload_n 1, 1) := by decide +kernel
theorem dX12_lotsOf_36 : decode kX12_lotsOf.2.1 36 = .ok (.imul, 1) := by decide +kernel
theorem dX12_lotsOf_37 : decode kX12_lotsOf.2.1 37 = .ok (.iload 6, 2) := by decide +kernel
theorem dX12_lotsOf_39 : decode kX12_lotsOf.2.1 39 = .ok (.iadd, 1) := by decide +kernel
theorem dX12_lotsOf_40 : decode kX12_lotsOf.2.1 40 = .ok (.laload, 1) := by decide +kernel
theorem dX12_lotsOf_41 : decode kX12_lotsOf.2.1 41 = .ok (.l2i, 1) := by decide +kernel
theorem dX12_lotsOf_42 : decode kX12_lotsOf.2.1 42 = .ok (.iaload, 1) := by decide +kernel
theorem dX12_lotsOf_43 : decode kX12_lotsOf.2.1 43 = .ok (.i2l, 1) := by decide +kernel
theorem dX12_lotsOf_44 : decode kX12_lotsOf.2.1 44 = .ok (.lmul, 1) := by decide +kernel
theorem dX12_lotsOf_45 : decode kX12_lotsOf.2.1 45 = .ok (.lstore 4, 2) := by decide +kernel
theorem dX12_lotsOf_47 : decode kX12_lotsOf.2.1 47 = .ok (.iinc 6 1, 3) := by decide +kernel
theorem dX12_lotsOf_50 : decode kX12_lotsOf.2.1 50 = .ok (.goto (-38), 3) := by decide +kernel
theorem dX12_lotsOf_53 : decode kX12_lotsOf.2.1 53 = .ok (.lload 4, 2) := by decide +kernel
theorem dX12_lotsOf_55 : decode kX12_lotsOf.2.1 55 = .ok (.lreturn, 1) := by decide +kernel
theorem dX12_shootersOf_0 : decode kX12_shootersOf.2.1 0 = .ok (.iconst 0, 1) := by decide +kernel
theorem dX12_shootersOf_1 : decode kX12_shootersOf.2.1 1 = .ok (.istore_n 3, 1) := by decide +kernel
theorem dX12_shootersOf_2 : decode kX12_shootersOf.2.1 2 = .ok (.iconst 0, 1) := by decide +kernel
theorem dX12_shootersOf_3 : decode kX12_shootersOf.2.1 3 = .ok (.istore 4, 2) := by decide +kernel
theorem dX12_shootersOf_5 : decode kX12_shootersOf.2.1 5 = .ok (.iload 4, 2) := by decide +kernel
theorem dX12_shootersOf_7 : decode kX12_shootersOf.2.1 7 = .ok (.aload_n 0, 1) := by decide +kernel
theorem dX12_shootersOf_8 : decode kX12_shootersOf.2.1 8 = .ok (.getfield 13, 3) := by decide +kernel
theorem dX12_shootersOf_11 : decode kX12_shootersOf.2.1 11 = .ok (.bipush 6, 2) := by decide +kernel
theorem dX12_shootersOf_13 : decode kX12_shootersOf.2.1 13 = .ok (.iaload, 1) := by decide +kernel
theorem dX12_shootersOf_14 : decode kX12_shootersOf.2.1 14 = .ok (.if_icmp .ge 33, 3) := by decide +kernel
theorem dX12_shootersOf_17 : decode kX12_shootersOf.2.1 17 = .ok (.iload_n 3, 1) := by decide +kernel
theorem dX12_shootersOf_18 : decode kX12_shootersOf.2.1 18 = .ok (.aload_n 0, 1) := by decide +kernel
theorem dX12_shootersOf_19 : decode kX12_shootersOf.2.1 19 = .ok (.iload_n 1, 1) := by decide +kernel
theorem dX12_shootersOf_20 : decode kX12_shootersOf.2.1 20 = .ok (.iload_n 2, 1) := by decide +kernel
theorem dX12_shootersOf_21 : decode kX12_shootersOf.2.1 21 = .ok (.iload 4, 2) := by decide +kernel
theorem dX12_shootersOf_23 : decode kX12_shootersOf.2.1 23 = .ok (.invokevirtual 379, 3) := by decide +kernel
theorem dX12_shootersOf_26 : decode kX12_shootersOf.2.1 26 = .ok (.lconst 0, 1) := by decide +kernel
theorem dX12_shootersOf_27 : decode kX12_shootersOf.2.1 27 = .ok (.lcmp, 1) := by decide +kernel
theorem dX12_shootersOf_28 : decode kX12_shootersOf.2.1 28 = .ok (.ifCond .le 10, 3) := by decide +kernel
theorem dX12_shootersOf_31 : decode kX12_shootersOf.2.1 31 = .ok (.iconst 1, 1) := by decide +kernel
theorem dX12_shootersOf_32 : decode kX12_shootersOf.2.1 32 = .ok (.iload 4, 2) := by decide +kernel
theorem dX12_shootersOf_34 : decode kX12_shootersOf.2.1 34 = .ok (.ishl, 1) := by decide +kernel
theorem dX12_shootersOf_35 : decode kX12_shootersOf.2.1 35 = .ok (.goto 4, 3) := by decide +kernel
theorem dX12_shootersOf_38 : decode kX12_shootersOf.2.1 38 = .ok (.iconst 0, 1) := by decide +kernel
theorem dX12_shootersOf_39 : decode kX12_shootersOf.2.1 39 = .ok (.ior, 1) := by decide +kernel
theorem dX12_shootersOf_40 : decode kX12_shootersOf.2.1 40 = .ok (.istore_n 3, 1) := by decide +kernel
theorem dX12_shootersOf_41 : decode kX12_shootersOf.2.1 41 = .ok (.iinc 4 1, 3) := by decide +kernel
theorem dX12_shootersOf_44 : decode kX12_shootersOf.2.1 44 = .ok (.goto (-39), 3) := by decide +kernel
theorem dX12_shootersOf_47 : decode kX12_shootersOf.2.1 47 = .ok (.iload_n 3, 1) := by decide +kernel
theorem dX12_shootersOf_48 : decode kX12_shootersOf.2.1 48 = .ok (.ireturn, 1) := by decide +kernel
theorem dX12_shooters_0 : decode kX12_shooters.2.1 0 = .ok (.aload_n 0, 1) := by decide +kernel
theorem dX12_shooters_1 : decode kX12_shooters.2.1 1 = .ok (.iconst 0, 1) := by decide +kernel
theorem dX12_shooters_2 : decode kX12_shooters.2.1 2 = .ok (.putfield 1, 3) := by decide +kernel
theorem dX12_shooters_5 : decode kX12_shooters.2.1 5 = .ok (.aload_n 0, 1) := by decide +kernel
theorem dX12_shooters_6 : decode kX12_shooters.2.1 6 = .ok (.iload_n 1, 1) := by decide +kernel
theorem dX12_shooters_7 : decode kX12_shooters.2.1 7 = .ok (.iload_n 2, 1) := by decide +kernel
theorem dX12_shooters_8 : decode kX12_shooters.2.1 8 = .ok (.invokevirtual 383, 3) := by decide +kernel
theorem dX12_shooters_11 : decode kX12_shooters.2.1 11 = .ok (.istore_n 3, 1) := by decide +kernel
theorem dX12_shooters_12 : decode kX12_shooters.2.1 12 = .ok (.iload_n 3, 1) := by decide +kernel
theorem dX12_shooters_13 : decode kX12_shooters.2.1 13 = .ok (.ifCond .eq 7, 3) := by decide +kernel
theorem dX12_shooters_16 : decode kX12_shooters.2.1 16 = .ok (.iload_n 3, 1) := by decide +kernel
theorem dX12_shooters_17 : decode kX12_shooters.2.1 17 = .ok (.goto 9, 3) := by decide +kernel
theorem dX12_shooters_20 : decode kX12_shooters.2.1 20 = .ok (.aload_n 0, 1) := by decide +kernel
theorem dX12_shooters_21 : decode kX12_shooters.2.1 21 = .ok (.iload_n 1, 1) := by decide +kernel
theorem dX12_shooters_22 : decode kX12_shooters.2.1 22 = .ok (.iload_n 2, 1) := by decide +kernel
theorem dX12_shooters_23 : decode kX12_shooters.2.1 23 = .ok (.invokevirtual 386, 3) := by decide +kernel
theorem dX12_shooters_26 : decode kX12_shooters.2.1 26 = .ok (.ireturn, 1) := by decide +kernel
theorem dX12_odds_0 : decode kX12_odds.2.1 0 = .ok (.aload_n 0, 1) := by decide +kernel
theorem dX12_odds_1 : decode kX12_odds.2.1 1 = .ok (.iconst 0, 1) := by decide +kernel
theorem dX12_odds_2 : decode kX12_odds.2.1 2 = .ok (.putfield 1, 3) := by decide +kernel
theorem dX12_odds_5 : decode kX12_odds.2.1 5 = .ok (.iload_n 1, 1) := by decide +kernel
theorem dX12_odds_6 : decode kX12_odds.2.1 6 = .ok (.i2l, 1) := by decide +kernel
theorem dX12_odds_7 : decode kX12_odds.2.1 7 = .ok (.lconst 0, 1) := by decide +kernel
theorem dX12_odds_8 : decode kX12_odds.2.1 8 = .ok (.ldc2_w 292, 3) := by decide +kernel
theorem dX12_odds_11 : decode kX12_odds.2.1 11 = .ok (.invokestatic 142, 3) := by decide +kernel
theorem dX12_odds_14 : decode kX12_odds.2.1 14 = .ok (.ifCond .eq 31, 3) := by decide +kernel
theorem dX12_odds_17 : decode kX12_odds.2.1 17 = .ok (.iload_n 2, 1) := by decide +kernel
theorem dX12_odds_18 : decode kX12_odds.2.1 18 = .ok (.i2l, 1) := by decide +kernel
theorem dX12_odds_19 : decode kX12_odds.2.1 19 = .ok (.invokestatic 241, 3) := by decide +kernel
theorem dX12_odds_22 : decode kX12_odds.2.1 22 = .ok (.ifCond .eq 23, 3) := by decide +kernel
theorem dX12_odds_25 : decode kX12_odds.2.1 25 = .ok (.aload_n 0, 1) := by decide +kernel
theorem dX12_odds_26 : decode kX12_odds.2.1 26 = .ok (.iload_n 3, 1) := by decide +kernel
theorem dX12_odds_27 : decode kX12_odds.2.1 27 = .ok (.i2l, 1) := by decide +kernel
theorem dX12_odds_28 : decode kX12_odds.2.1 28 = .ok (.invokevirtual 236, 3) := by decide +kernel
theorem dX12_odds_31 : decode kX12_odds.2.1 31 = .ok (.ifCond .eq 14, 3) := by decide +kernel
theorem dX12_odds_34 : decode kX12_odds.2.1 34 = .ok (.iload 4, 2) := by decide +kernel
theorem dX12_odds_36 : decode kX12_odds.2.1 36 = .ok (.i2l, 1) := by decide +kernel
theorem dX12_odds_37 : decode kX12_odds.2.1 37 = .ok (.lconst 0, 1) := by decide +kernel
theorem dX12_odds_38 : decode kX12_odds.2.1 38 = .ok (.lconst 1, 1) := by decide +kernel
theorem dX12_odds_39 : decode kX12_odds.2.1 39 = .ok (.invokestatic 142, 3) := by decide +kernel
theorem dX12_odds_42 : decode kX12_odds.2.1 42 = .ok (.ifCond .ne 7, 3) := by decide +kernel
theorem dX12_odds_45 : decode kX12_odds.2.1 45 = .ok (.ldc2_w 340, 3) := by decide +kernel
theorem dX12_odds_48 : decode kX12_odds.2.1 48 = .ok (.lreturn, 1) := by decide +kernel
theorem dX12_odds_49 : decode kX12_odds.2.1 49 = .ok (.aload_n 0, 1) := by decide +kernel
theorem dX12_odds_50 : decode kX12_odds.2.1 50 = .ok (.iload_n 1, 1) := by decide +kernel
theorem dX12_odds_51 : decode kX12_odds.2.1 51 = .ok (.iload_n 2, 1) := by decide +kernel
theorem dX12_odds_52 : decode kX12_odds.2.1 52 = .ok (.invokevirtual 383, 3) := by decide +kernel
theorem dX12_odds_55 : decode kX12_odds.2.1 55 = .ok (.istore 5, 2) := by decide +kernel
theorem dX12_odds_57 : decode kX12_odds.2.1 57 = .ok (.iload 5, 2) := by decide +kernel
theorem dX12_odds_59 : decode kX12_odds.2.1 59 = .ok (.ifCond .eq 7, 3) := by decide +kernel
theorem dX12_odds_62 : decode kX12_odds.2.1 62 = .ok (.iload 5, 2) := by decide +kernel
theorem dX12_odds_64 : decode kX12_odds.2.1 64 = .ok (.i2l, 1) := by decide +kernel
theorem dX12_odds_65 : decode kX12_odds.2.1 65 = .ok (.lreturn, 1) := by decide +kernel
theorem dX12_odds_66 : decode kX12_odds.2.1 66 = .ok (.lconst 0, 1) := by decide +kernel
theorem dX12_odds_67 : decode kX12_odds.2.1 67 = .ok (.lstore 6, 2) := by decide +kernel
theorem dX12_odds_69 : decode kX12_odds.2.1 69 = .ok (.iconst 0, 1) := by decide +kernel
theorem dX12_odds_70 : decode kX12_odds.2.1 70 = .ok (.istore 8, 2) := by decide +kernel
theorem dX12_odds_72 : decode kX12_odds.2.1 72 = .ok (.iload 8, 2) := by decide +kernel
theorem dX12_odds_74 : decode kX12_odds.2.1 74 = .ok (.aload_n 0, 1) := by decide +kernel
theorem dX12_odds_75 : decode kX12_odds.2.1 75 = .ok (.getfield 13, 3) := by decide +kernel
theorem dX12_odds_78 : decode kX12_odds.2.1 78 = .ok (.bipush 6, 2) := by decide +kernel
theorem dX12_odds_80 : decode kX12_odds.2.1 80 = .ok (.iaload, 1) := by decide +kernel
theorem dX12_odds_81 : decode kX12_odds.2.1 81 = .ok (.if_icmp .ge 22, 3) := by decide +kernel
theorem dX12_odds_84 : decode kX12_odds.2.1 84 = .ok (.lload 6, 2) := by decide +kernel
theorem dX12_odds_86 : decode kX12_odds.2.1 86 = .ok (.aload_n 0, 1) := by decide +kernel
theorem dX12_odds_87 : decode kX12_odds.2.1 87 = .ok (.iload_n 1, 1) := by decide +kernel
theorem dX12_odds_88 : decode kX12_odds.2.1 88 = .ok (.iload_n 2, 1) := by decide +kernel
theorem dX12_odds_89 : decode kX12_odds.2.1 89 = .ok (.iload 8, 2) := by decide +kernel
theorem dX12_odds_91 : decode kX12_odds.2.1 91 = .ok (.invokevirtual 379, 3) := by decide +kernel
theorem dX12_odds_94 : decode kX12_odds.2.1 94 = .ok (.ladd, 1) := by decide +kernel
theorem dX12_odds_95 : decode kX12_odds.2.1 95 = .ok (.lstore 6, 2) := by decide +kernel
theorem dX12_odds_97 : decode kX12_odds.2.1 97 = .ok (.iinc 8 1, 3) := by decide +kernel
theorem dX12_odds_100 : decode kX12_odds.2.1 100 = .ok (.goto (-28), 3) := by decide +kernel
theorem dX12_odds_103 : decode kX12_odds.2.1 103 = .ok (.lload 6, 2) := by decide +kernel
theorem dX12_odds_105 : decode kX12_odds.2.1 105 = .ok (.lconst 0, 1) := by decide +kernel
theorem dX12_odds_106 : decode kX12_odds.2.1 106 = .ok (.lcmp, 1) := by decide +kernel
theorem dX12_odds_107 : decode kX12_odds.2.1 107 = .ok (.ifCond .ne 9, 3) := by decide +kernel
theorem dX12_odds_110 : decode kX12_odds.2.1 110 = .ok (.ldc2_w 389, 3) := by decide +kernel
theorem dX12_odds_113 : decode kX12_odds.2.1 113 = .ok (.goto 17, 3) := by decide +kernel
theorem dX12_odds_116 : decode kX12_odds.2.1 116 = .ok (.aload_n 0, 1) := by decide +kernel
theorem dX12_odds_117 : decode kX12_odds.2.1 117 = .ok (.iload_n 1, 1) := by decide +kernel
theorem dX12_odds_118 : decode kX12_odds.2.1 118 = .ok (.iload_n 2, 1) := by decide +kernel
theorem dX12_odds_119 : decode kX12_odds.2.1 119 = .ok (.iload_n 3, 1) := by decide +kernel
theorem dX12_odds_120 : decode kX12_odds.2.1 120 = .ok (.invokevirtual 379, 3) := by decide +kernel
theorem dX12_odds_123 : decode kX12_odds.2.1 123 = .ok (.lload 6, 2) := by decide +kernel
theorem dX12_odds_125 : decode kX12_odds.2.1 125 = .ok (.iload 4, 2) := by decide +kernel
theorem dX12_odds_127 : decode kX12_odds.2.1 127 = .ok (.invokestatic 352, 3) := by decide +kernel
theorem dX12_odds_130 : decode kX12_odds.2.1 130 = .ok (.lreturn, 1) := by decide +kernel
theorem dX12_placesOf_0 : decode kX12_placesOf.2.1 0 = .ok (.iconst 0, 1) := by decide +kernel
theorem dX12_placesOf_1 : decode kX12_placesOf.2.1 1 = .ok (.istore_n 3, 1) := by decide +kernel
theorem dX12_placesOf_2 : decode kX12_placesOf.2.1 2 = .ok (.iconst 0, 1) := by decide +kernel
theorem dX12_placesOf_3 : decode kX12_placesOf.2.1 3 = .ok (.istore 4, 2) := by decide +kernel
theorem dX12_placesOf_5 : decode kX12_placesOf.2.1 5 = .ok (.iload 4, 2) := by decide +kernel
theorem dX12_placesOf_7 : decode kX12_placesOf.2.1 7 = .ok (.bipush 10, 2) := by decide +kernel
theorem dX12_placesOf_9 : decode kX12_placesOf.2.1 9 = .ok (.if_icmp .ge 22, 3) := by decide +kernel
theorem dX12_placesOf_12 : decode kX12_placesOf.2.1 12 = .ok (.iload_n 3, 1) := by decide +kernel
theorem dX12_placesOf_13 : decode kX12_placesOf.2.1 13 = .ok (.iconst 1, 1) := by decide +kernel
theorem dX12_placesOf_14 : decode kX12_placesOf.2.1 14 = .ok (.aload_n 0, 1) := by decide +kernel
theorem dX12_placesOf_15 : decode kX12_placesOf.2.1 15 = .ok (.iload_n 1, 1) := by decide +kernel
theorem dX12_placesOf_16 : decode kX12_placesOf.2.1 16 = .ok (.iload_n 2, 1) := by decide +kernel
theorem dX12_placesOf_17 : decode kX12_placesOf.2.1 17 = .ok (.iload 4, 2) := by decide +kernel
theorem dX12_placesOf_19 : decode kX12_placesOf.2.1 19 = .ok (.invokevirtual 247, 3) := by decide +kernel
theorem dX12_placesOf_22 : decode kX12_placesOf.2.1 22 = .ok (.ishl, 1) := by decide +kernel
theorem dX12_placesOf_23 : decode kX12_placesOf.2.1 23 = .ok (.ior, 1) := by decide +kernel
theorem dX12_placesOf_24 : decode kX12_placesOf.2.1 24 = .ok (.istore_n 3, 1) := by decide +kernel
theorem dX12_placesOf_25 : decode kX12_placesOf.2.1 25 = .ok (.iinc 4 1, 3) := by decide +kernel
theorem dX12_placesOf_28 : decode kX12_placesOf.2.1 28 = .ok (.goto (-23), 3) := by decide +kernel
theorem dX12_placesOf_31 : decode kX12_placesOf.2.1 31 = .ok (.iload_n 3, 1) := by decide +kernel
theorem dX12_placesOf_32 : decode kX12_placesOf.2.1 32 = .ok (.ireturn, 1) := by decide +kernel
theorem dX12_alikeAt_0 : decode kX12_alikeAt.2.1 0 = .ok (.iconst 0, 1) := by decide +kernel
theorem dX12_alikeAt_1 : decode kX12_alikeAt.2.1 1 = .ok (.istore_n 3, 1) := by decide +kernel
theorem dX12_alikeAt_2 : decode kX12_alikeAt.2.1 2 = .ok (.iconst 0, 1) := by decide +kernel
theorem dX12_alikeAt_3 : decode kX12_alikeAt.2.1 3 = .ok (.istore 4, 2) := by decide +kernel
theorem dX12_alikeAt_5 : decode kX12_alikeAt.2.1 5 = .ok (.iload 4, 2) := by decide +kernel
theorem dX12_alikeAt_7 : decode kX12_alikeAt.2.1 7 = .ok (.aload_n 0, 1) := by decide +kernel
theorem dX12_alikeAt_8 : decode kX12_alikeAt.2.1 8 = .ok (.getfield 13, 3) := by decide +kernel
theorem dX12_alikeAt_11 : decode kX12_alikeAt.2.1 11 = .ok (.bipush 6, 2) := by decide +kernel
theorem dX12_alikeAt_13 : decode kX12_alikeAt.2.1 13 = .ok (.iaload, 1) := by decide +kernel
theorem dX12_alikeAt_14 : decode kX12_alikeAt.2.1 14 = .ok (.if_icmp .ge 71, 3) := by decide +kernel
theorem dX12_alikeAt_17 : decode kX12_alikeAt.2.1 17 = .ok (.iconst 0, 1) := by decide +kernel
theorem dX12_alikeAt_18 : decode kX12_alikeAt.2.1 18 = .ok (.istore 5, 2) := by decide +kernel
theorem dX12_alikeAt_20 : decode kX12_alikeAt.2.1 20 = .ok (.iload 5, 2) := by decide +kernel
theorem dX12_alikeAt_22 : decode kX12_alikeAt.2.1 22 = .ok (.iload 4, 2) := by decide +kernel
theorem dX12_alikeAt_24 : decode kX12_alikeAt.2.1 24 = .ok (.if_icmp .ge 55, 3) := by decide +kernel
theorem dX12_alikeAt_27 : decode kX12_alikeAt.2.1 27 = .ok (.iload_n 3, 1) := by decide +kernel
theorem dX12_alikeAt_28 : decode kX12_alikeAt.2.1 28 = .ok (.iload_n 1, 1) := by decide +kernel
theorem dX12_alikeAt_29 : decode kX12_alikeAt.2.1 29 = .ok (.i2l, 1) := by decide +kernel
theorem dX12_alikeAt_30 : decode kX12_alikeAt.2.1 30 = .ok (.iload 4, 2) := by decide +kernel
theorem dX12_alikeAt_32 : decode kX12_alikeAt.2.1 32 = .ok (.invokestatic 391, 3) := by decide +kernel
theorem dX12_alikeAt_35 : decode kX12_alikeAt.2.1 35 = .ok (.ifCond .eq 35, 3) := by decide +kernel
theorem dX12_alikeAt_38 : decode kX12_alikeAt.2.1 38 = .ok (.iload_n 1, 1) := by decide +kernel
theorem dX12_alikeAt_39 : decode kX12_alikeAt.2.1 39 = .ok (.i2l, 1) := by decide +kernel
theorem dX12_alikeAt_40 : decode kX12_alikeAt.2.1 40 = .ok (.iload 5, 2) := by decide +kernel
theorem dX12_alikeAt_42 : decode kX12_alikeAt.2.1 42 = .ok (.invokestatic 391, 3) := by decide +kernel
theorem dX12_alikeAt_45 : decode kX12_alikeAt.2.1 45 = .ok (.ifCond .eq 25, 3) := by decide +kernel
theorem dX12_alikeAt_48 : decode kX12_alikeAt.2.1 48 = .ok (.aload_n 0, 1) := by decide +kernel
theorem dX12_alikeAt_49 : decode kX12_alikeAt.2.1 49 = .ok (.iload 4, 2) := by decide +kernel
theorem dX12_alikeAt_51 : decode kX12_alikeAt.2.1 51 = .ok (.iload_n 2, 1) := by decide +kernel
theorem dX12_alikeAt_52 : decode kX12_alikeAt.2.1 52 = .ok (.invokevirtual 395, 3) := by decide +kernel
theorem dX12_alikeAt_55 : decode kX12_alikeAt.2.1 55 = .ok (.aload_n 0, 1) := by decide +kernel
theorem dX12_alikeAt_56 : decode kX12_alikeAt.2.1 56 = .ok (.iload 5, 2) := by decide +kernel
theorem dX12_alikeAt_58 : decode kX12_alikeAt.2.1 58 = .ok (.iload_n 2, 1) := by decide +kernel
theorem dX12_alikeAt_59 : decode kX12_alikeAt.2.1 59 = .ok (.invokevirtual 395, 3) := by decide +kernel
theorem dX12_alikeAt_62 : decode kX12_alikeAt.2.1 62 = .ok (.iand, 1) := by decide +kernel
theorem dX12_alikeAt_63 : decode kX12_alikeAt.2.1 63 = .ok (.ifCond .eq 7, 3) := by decide +kernel
theorem dX12_alikeAt_66 : decode kX12_alikeAt.2.1 66 = .ok (.iconst 1, 1) := by decide +kernel
theorem dX12_alikeAt_67 : decode kX12_alikeAt.2.1 67 = .ok (.goto 4, 3) := by decide +kernel
theorem dX12_alikeAt_70 : decode kX12_alikeAt.2.1 70 = .ok (.iconst 0, 1) := by decide +kernel
theorem dX12_alikeAt_71 : decode kX12_alikeAt.2.1 71 = .ok (.iadd, 1) := by decide +kernel
theorem dX12_alikeAt_72 : decode kX12_alikeAt.2.1 72 = .ok (.istore_n 3, 1) := by decide +kernel
theorem dX12_alikeAt_73 : decode kX12_alikeAt.2.1 73 = .ok (.iinc 5 1, 3) := by decide +kernel
theorem dX12_alikeAt_76 : decode kX12_alikeAt.2.1 76 = .ok (.goto (-56), 3) := by decide +kernel
theorem dX12_alikeAt_79 : decode kX12_alikeAt.2.1 79 = .ok (.iinc 4 1, 3) := by decide +kernel
theorem dX12_alikeAt_82 : decode kX12_alikeAt.2.1 82 = .ok (.goto (-77), 3) := by decide +kernel
theorem dX12_alikeAt_85 : decode kX12_alikeAt.2.1 85 = .ok (.iload_n 3, 1) := by decide +kernel
theorem dX12_alikeAt_86 : decode kX12_alikeAt.2.1 86 = .ok (.ireturn, 1) := by decide +kernel
theorem dX12_tells_0 : decode kX12_tells.2.1 0 = .ok (.aload_n 0, 1) := by decide +kernel
theorem dX12_tells_1 : decode kX12_tells.2.1 1 = .ok (.iconst 0, 1) := by decide +kernel
theorem dX12_tells_2 : decode kX12_tells.2.1 2 = .ok (.putfield 1, 3) := by decide +kernel
theorem dX12_tells_5 : decode kX12_tells.2.1 5 = .ok (.aload_n 0, 1) := by decide +kernel
theorem dX12_tells_6 : decode kX12_tells.2.1 6 = .ok (.iload_n 1, 1) := by decide +kernel
theorem dX12_tells_7 : decode kX12_tells.2.1 7 = .ok (.iload_n 2, 1) := by decide +kernel
theorem dX12_tells_8 : decode kX12_tells.2.1 8 = .ok (.invokevirtual 383, 3) := by decide +kernel
theorem dX12_tells_11 : decode kX12_tells.2.1 11 = .ok (.istore_n 3, 1) := by decide +kernel
theorem dX12_tells_12 : decode kX12_tells.2.1 12 = .ok (.iload_n 3, 1) := by decide +kernel
theorem dX12_tells_13 : decode kX12_tells.2.1 13 = .ok (.ifCond .eq 5, 3) := by decide +kernel
theorem dX12_tells_16 : decode kX12_tells.2.1 16 = .ok (.iload_n 3, 1) := by decide +kernel
theorem dX12_tells_17 : decode kX12_tells.2.1 17 = .ok (.ireturn, 1) := by decide +kernel
theorem dX12_tells_18 : decode kX12_tells.2.1 18 = .ok (.aload_n 0, 1) := by decide +kernel
theorem dX12_tells_19 : decode kX12_tells.2.1 19 = .ok (.iload_n 1, 1) := by decide +kernel
theorem dX12_tells_20 : decode kX12_tells.2.1 20 = .ok (.iload_n 2, 1) := by decide +kernel
theorem dX12_tells_21 : decode kX12_tells.2.1 21 = .ok (.invokevirtual 386, 3) := by decide +kernel
theorem dX12_tells_24 : decode kX12_tells.2.1 24 = .ok (.istore 4, 2) := by decide +kernel
theorem dX12_tells_26 : decode kX12_tells.2.1 26 = .ok (.iconst (-1), 1) := by decide +kernel
theorem dX12_tells_27 : decode kX12_tells.2.1 27 = .ok (.istore 5, 2) := by decide +kernel
theorem dX12_tells_29 : decode kX12_tells.2.1 29 = .ok (.ldc_w 398, 3) := by decide +kernel
theorem dX12_tells_32 : decode kX12_tells.2.1 32 = .ok (.istore 6, 2) := by decide +kernel
theorem dX12_tells_34 : decode kX12_tells.2.1 34 = .ok (.iconst 0, 1) := by decide +kernel
theorem dX12_tells_35 : decode kX12_tells.2.1 35 = .ok (.istore 7, 2) := by decide +kernel
theorem dX12_tells_37 : decode kX12_tells.2.1 37 = .ok (.iload 7, 2) := by decide +kernel
theorem dX12_tells_39 : decode kX12_tells.2.1 39 = .ok (.bipush 21, 2) := by decide +kernel
theorem dX12_tells_41 : decode kX12_tells.2.1 41 = .ok (.if_icmp .ge 42, 3) := by decide +kernel
theorem dX12_tells_44 : decode kX12_tells.2.1 44 = .ok (.iload 4, 2) := by decide +kernel
theorem dX12_tells_46 : decode kX12_tells.2.1 46 = .ok (.ifCond .eq 37, 3) := by decide +kernel
theorem dX12_tells_49 : decode kX12_tells.2.1 49 = .ok (.aload_n 0, 1) := by decide +kernel
theorem dX12_tells_50 : decode kX12_tells.2.1 50 = .ok (.iload 4, 2) := by decide +kernel
theorem dX12_tells_52 : decode kX12_tells.2.1 52 = .ok (.iload 7, 2) := by decide +kernel
theorem dX12_tells_54 : decode kX12_tells.2.1 54 = .ok (.invokevirtual 399, 3) := by decide +kernel
theorem dX12_tells_57 : decode kX12_tells.2.1 57 = .ok (.istore 8, 2) := by decide +kernel
theorem dX12_tells_59 : decode kX12_tells.2.1 59 = .ok (.iload 8, 2) := by decide +kernel
theorem dX12_tells_61 : decode kX12_tells.2.1 61 = .ok (.iload 6, 2) := by decide +kernel
theorem dX12_tells_63 : decode kX12_tells.2.1 63 = .ok (.if_icmp .lt 6, 3) := by decide +kernel
theorem dX12_tells_66 : decode kX12_tells.2.1 66 = .ok (.goto 11, 3) := by decide +kernel
theorem dX12_tells_69 : decode kX12_tells.2.1 69 = .ok (.iload 7, 2) := by decide +kernel
theorem dX12_tells_71 : decode kX12_tells.2.1 71 = .ok (.istore 5, 2) := by decide +kernel
theorem dX12_tells_73 : decode kX12_tells.2.1 73 = .ok (.iload 8, 2) := by decide +kernel
theorem dX12_tells_75 : decode kX12_tells.2.1 75 = .ok (.istore 6, 2) := by decide +kernel
theorem dX12_tells_77 : decode kX12_tells.2.1 77 = .ok (.iinc 7 1, 3) := by decide +kernel
theorem dX12_tells_80 : decode kX12_tells.2.1 80 = .ok (.goto (-43), 3) := by decide +kernel
theorem dX12_tells_83 : decode kX12_tells.2.1 83 = .ok (.iload 5, 2) := by decide +kernel
theorem dX12_tells_85 : decode kX12_tells.2.1 85 = .ok (.ireturn, 1) := by decide +kernel
theorem dX12_noStrayed_0 : decode kX12_noStrayed.2.1 0 = .ok (.iload_n 1, 1) := by decide +kernel
theorem dX12_noStrayed_1 : decode kX12_noStrayed.2.1 1 = .ok (.i2l, 1) := by decide +kernel
theorem dX12_noStrayed_2 : decode kX12_noStrayed.2.1 2 = .ok (.lconst 0, 1) := by decide +kernel
theorem dX12_noStrayed_3 : decode kX12_noStrayed.2.1 3 = .ok (.ldc2_w 292, 3) := by decide +kernel
theorem dX12_noStrayed_6 : decode kX12_noStrayed.2.1 6 = .ok (.invokestatic 142, 3) := by decide +kernel
theorem dX12_noStrayed_9 : decode kX12_noStrayed.2.1 9 = .ok (.ifCond .eq 20, 3) := by decide +kernel
theorem dX12_noStrayed_12 : decode kX12_noStrayed.2.1 12 = .ok (.aload_n 0, 1) := by decide +kernel
theorem dX12_noStrayed_13 : decode kX12_noStrayed.2.1 13 = .ok (.iload_n 2, 1) := by decide +kernel
theorem dX12_noStrayed_14 : decode kX12_noStrayed.2.1 14 = .ok (.i2l, 1) := by decide +kernel
theorem dX12_noStrayed_15 : decode kX12_noStrayed.2.1 15 = .ok (.invokevirtual 236, 3) := by decide +kernel
theorem dX12_noStrayed_18 : decode kX12_noStrayed.2.1 18 = .ok (.ifCond .eq 11, 3) := by decide +kernel
theorem dX12_noStrayed_21 : decode kX12_noStrayed.2.1 21 = .ok (.iload_n 3, 1) := by decide +kernel
theorem dX12_noStrayed_22 : decode kX12_noStrayed.2.1 22 = .ok (.i2l, 1) := by decide +kernel
theorem dX12_noStrayed_23 : decode kX12_noStrayed.2.1 23 = .ok (.invokestatic 241, 3) := by decide +kernel
theorem dX12_noStrayed_26 : decode kX12_noStrayed.2.1 26 = .ok (.ifCond .ne 6, 3) := by decide +kernel
theorem dX12_noStrayed_29 : decode kX12_noStrayed.2.1 29 = .ok (.bipush (-2), 2) := by decide +kernel
theorem dX12_noStrayed_31 : decode kX12_noStrayed.2.1 31 = .ok (.ireturn, 1) := by decide +kernel
theorem dX12_noStrayed_32 : decode kX12_noStrayed.2.1 32 = .ok (.aload_n 0, 1) := by decide +kernel
theorem dX12_noStrayed_33 : decode kX12_noStrayed.2.1 33 = .ok (.iload_n 1, 1) := by decide +kernel
theorem dX12_noStrayed_34 : decode kX12_noStrayed.2.1 34 = .ok (.invokevirtual 294, 3) := by decide +kernel
theorem dX12_noStrayed_37 : decode kX12_noStrayed.2.1 37 = .ok (.istore 4, 2) := by decide +kernel
theorem dX12_noStrayed_39 : decode kX12_noStrayed.2.1 39 = .ok (.iload 4, 2) := by decide +kernel
theorem dX12_noStrayed_41 : decode kX12_noStrayed.2.1 41 = .ok (.ifCond .eq 6, 3) := by decide +kernel
theorem dX12_noStrayed_44 : decode kX12_noStrayed.2.1 44 = .ok (.iload 4, 2) := by decide +kernel
theorem dX12_noStrayed_46 : decode kX12_noStrayed.2.1 46 = .ok (.ireturn, 1) := by decide +kernel
theorem dX12_noStrayed_47 : decode kX12_noStrayed.2.1 47 = .ok (.aload_n 0, 1) := by decide +kernel
theorem dX12_noStrayed_48 : decode kX12_noStrayed.2.1 48 = .ok (.getfield 70, 3) := by decide +kernel
theorem dX12_noStrayed_51 : decode kX12_noStrayed.2.1 51 = .ok (.iload_n 1, 1) := by decide +kernel
theorem dX12_noStrayed_52 : decode kX12_noStrayed.2.1 52 = .ok (.iaload, 1) := by decide +kernel
theorem dX12_noStrayed_53 : decode kX12_noStrayed.2.1 53 = .ok (.i2l, 1) := by decide +kernel
theorem dX12_noStrayed_54 : decode kX12_noStrayed.2.1 54 = .ok (.lconst 1, 1) := by decide +kernel
theorem dX12_noStrayed_55 : decode kX12_noStrayed.2.1 55 = .ok (.ldc2_w 377, 3) := by decide +kernel
theorem dX12_noStrayed_58 : decode kX12_noStrayed.2.1 58 = .ok (.invokestatic 142, 3) := by decide +kernel
theorem dX12_noStrayed_61 : decode kX12_noStrayed.2.1 61 = .ok (.ifCond .ne 6, 3) := by decide +kernel
theorem dX12_noStrayed_64 : decode kX12_noStrayed.2.1 64 = .ok (.bipush (-4), 2) := by decide +kernel
theorem dX12_noStrayed_66 : decode kX12_noStrayed.2.1 66 = .ok (.ireturn, 1) := by decide +kernel
theorem dX12_noStrayed_67 : decode kX12_noStrayed.2.1 67 = .ok (.iconst 0, 1) := by decide +kernel
theorem dX12_noStrayed_68 : decode kX12_noStrayed.2.1 68 = .ok (.istore 5, 2) := by decide +kernel
theorem dX12_noStrayed_70 : decode kX12_noStrayed.2.1 70 = .ok (.iload 5, 2) := by decide +kernel
theorem dX12_noStrayed_72 : decode kX12_noStrayed.2.1 72 = .ok (.aload_n 0, 1) := by decide +kernel
theorem dX12_noStrayed_73 : decode kX12_noStrayed.2.1 73 = .ok (.getfield 70, 3) := by decide +kernel
theorem dX12_noStrayed_76 : decode kX12_noStrayed.2.1 76 = .ok (.iload_n 1, 1) := by decide +kernel
theorem dX12_noStrayed_77 : decode kX12_noStrayed.2.1 77 = .ok (.iaload, 1) := by decide +kernel
theorem dX12_noStrayed_78 : decode kX12_noStrayed.2.1 78 = .ok (.if_icmp .ge 50, 3) := by decide +kernel
theorem dX12_noStrayed_81 : decode kX12_noStrayed.2.1 81 = .ok (.aload_n 0, 1) := by decide +kernel
theorem dX12_noStrayed_82 : decode kX12_noStrayed.2.1 82 = .ok (.getfield 73, 3) := by decide +kernel
theorem dX12_noStrayed_85 : decode kX12_noStrayed.2.1 85 = .ok (.bipush 40, 2) := by decide +kernel
theorem dX12_noStrayed_87 : decode kX12_noStrayed.2.1 87 = .ok (.iload_n 1, 1) := by decide +kernel
theorem dX12_noStrayed_88 : decode kX12_noStrayed.2.1 88 = .ok (.imul, 1) := by decide +kernel
theorem dX12_noStrayed_89 : decode kX12_noStrayed.2.1 89 = .ok (.iload 5, 2) := by decide +kernel
theorem dX12_noStrayed_91 : decode kX12_noStrayed.2.1 91 = .ok (.iadd, 1) := by decide +kernel
theorem dX12_noStrayed_92 : decode kX12_noStrayed.2.1 92 = .ok (.laload, 1) := by decide +kernel
theorem dX12_noStrayed_93 : decode kX12_noStrayed.2.1 93 = .ok (.lstore 6, 2) := by decide +kernel
theorem dX12_noStrayed_95 : decode kX12_noStrayed.2.1 95 = .ok (.lload 6, 2) := by decide +kernel
theorem dX12_noStrayed_97 : decode kX12_noStrayed.2.1 97 = .ok (.lconst 0, 1) := by decide +kernel
theorem dX12_noStrayed_98 : decode kX12_noStrayed.2.1 98 = .ok (.ldc2_w 402, 3) := by decide +kernel
theorem dX12_noStrayed_101 : decode kX12_noStrayed.2.1 101 = .ok (.invokestatic 142, 3) := by decide +kernel
theorem dX12_noStrayed_104 : decode kX12_noStrayed.2.1 104 = .ok (.ifCond .eq 15, 3) := by decide +kernel
theorem dX12_noStrayed_107 : decode kX12_noStrayed.2.1 107 = .ok (.lload 6, 2) := by decide +kernel
theorem dX12_noStrayed_109 : decode kX12_noStrayed.2.1 109 = .ok (.ldc2_w 404, 3) := by decide +kernel
theorem dX12_noStrayed_112 : decode kX12_noStrayed.2.1 112 = .ok (.lrem, 1) := by decide +kernel
theorem dX12_noStrayed_113 : decode kX12_noStrayed.2.1 113 = .ok (.invokestatic 241, 3) := by decide +kernel
theorem dX12_noStrayed_116 : decode kX12_noStrayed.2.1 116 = .ok (.ifCond .ne 6, 3) := by decide +kernel
theorem dX12_noStrayed_119 : decode kX12_noStrayed.2.1 119 = .ok (.bipush (-3), 2) := by decide +kernel
theorem dX12_noStrayed_121 : decode kX12_noStrayed.2.1 121 = .ok (.ireturn, 1) := by decide +kernel
theorem dX12_noStrayed_122 : decode kX12_noStrayed.2.1 122 = .ok (.iinc 5 1, 3) := by decide +kernel
theorem dX12_noStrayed_125 : decode kX12_noStrayed.2.1 125 = .ok (.goto (-55), 3) := by decide +kernel
theorem dX12_noStrayed_128 : decode kX12_noStrayed.2.1 128 = .ok (.iconst 0, 1) := by decide +kernel
theorem dX12_noStrayed_129 : decode kX12_noStrayed.2.1 129 = .ok (.ireturn, 1) := by decide +kernel
theorem dX12_windsOf_0 : decode kX12_windsOf.2.1 0 = .ok (.iconst 0, 1) := by decide +kernel
theorem dX12_windsOf_1 : decode kX12_windsOf.2.1 1 = .ok (.istore 4, 2) := by decide +kernel
theorem dX12_windsOf_3 : decode kX12_windsOf.2.1 3 = .ok (.iconst 0, 1) := by decide +kernel
theorem dX12_windsOf_4 : decode kX12_windsOf.2.1 4 = .ok (.istore 5, 2) := by decide +kernel
theorem dX12_windsOf_6 : decode kX12_windsOf.2.1 6 = .ok (.iload 5, 2) := by decide +kernel
theorem dX12_windsOf_8 : decode kX12_windsOf.2.1 8 = .ok (.bipush 10, 2) := by decide +kernel
theorem dX12_windsOf_10 : decode kX12_windsOf.2.1 10 = .ok (.if_icmp .ge 105, 3) := by decide +kernel
theorem dX12_windsOf_13 : decode kX12_windsOf.2.1 13 = .ok (.iconst 1, 1) := by decide +kernel
theorem dX12_windsOf_14 : decode kX12_windsOf.2.1 14 = .ok (.istore 6, 2) := by decide +kernel
theorem dX12_windsOf_16 : decode kX12_windsOf.2.1 16 = .ok (.iconst 0, 1) := by decide +kernel
theorem dX12_windsOf_17 : decode kX12_windsOf.2.1 17 = .ok (.istore 7, 2) := by decide +kernel
theorem dX12_windsOf_19 : decode kX12_windsOf.2.1 19 = .ok (.iload 7, 2) := by decide +kernel
theorem dX12_windsOf_21 : decode kX12_windsOf.2.1 21 = .ok (.aload_n 0, 1) := by decide +kernel
theorem dX12_windsOf_22 : decode kX12_windsOf.2.1 22 = .ok (.getfield 70, 3) := by decide +kernel
theorem dX12_windsOf_25 : decode kX12_windsOf.2.1 25 = .ok (.iload_n 1, 1) := by decide +kernel
theorem dX12_windsOf_26 : decode kX12_windsOf.2.1 26 = .ok (.iaload, 1) := by decide +kernel
theorem dX12_windsOf_27 : decode kX12_windsOf.2.1 27 = .ok (.if_icmp .ge 64, 3) := by decide +kernel
theorem dX12_windsOf_30 : decode kX12_windsOf.2.1 30 = .ok (.aload_n 0, 1) := by decide +kernel
theorem dX12_windsOf_31 : decode kX12_windsOf.2.1 31 = .ok (.getfield 73, 3) := by decide +kernel
theorem dX12_windsOf_34 : decode kX12_windsOf.2.1 34 = .ok (.bipush 40, 2) := by decide +kernel
theorem dX12_windsOf_36 : decode kX12_windsOf.2.1 36 = .ok (.iload_n 1, 1) := by decide +kernel
theorem dX12_windsOf_37 : decode kX12_windsOf.2.1 37 = .ok (.imul, 1) := by decide +kernel
theorem dX12_windsOf_38 : decode kX12_windsOf.2.1 38 = .ok (.iload 7, 2) := by decide +kernel
theorem dX12_windsOf_40 : decode kX12_windsOf.2.1 40 = .ok (.iadd, 1) := by decide +kernel
theorem dX12_windsOf_41 : decode kX12_windsOf.2.1 41 = .ok (.laload, 1) := by decide +kernel
theorem dX12_windsOf_42 : decode kX12_windsOf.2.1 42 = .ok (.l2i, 1) := by decide +kernel
theorem dX12_windsOf_43 : decode kX12_windsOf.2.1 43 = .ok (.istore 8, 2) := by decide +kernel
theorem dX12_windsOf_45 : decode kX12_windsOf.2.1 45 = .ok (.iload 6, 2) := by decide +kernel
theorem dX12_windsOf_47 : decode kX12_windsOf.2.1 47 = .ok (.aload_n 0, 1) := by decide +kernel
theorem dX12_windsOf_48 : decode kX12_windsOf.2.1 48 = .ok (.iload_n 2, 1) := by decide +kernel
theorem dX12_windsOf_49 : decode kX12_windsOf.2.1 49 = .ok (.iload_n 3, 1) := by decide +kernel
theorem dX12_windsOf_50 : decode kX12_windsOf.2.1 50 = .ok (.iload 8, 2) := by decide +kernel
theorem dX12_windsOf_52 : decode kX12_windsOf.2.1 52 = .ok (.bipush 100, 2) := by decide +kernel
theorem dX12_windsOf_54 : decode kX12_windsOf.2.1 54 = .ok (.idiv, 1) := by decide +kernel
theorem dX12_windsOf_55 : decode kX12_windsOf.2.1 55 = .ok (.aload_n 0, 1) := by decide +kernel
theorem dX12_windsOf_56 : decode kX12_windsOf.2.1 56 = .ok (.getfield 13, 3) := by decide +kernel
theorem dX12_windsOf_59 : decode kX12_windsOf.2.1 59 = .ok (.bipush 21, 2) := by decide +kernel
theorem dX12_windsOf_61 : decode kX12_windsOf.2.1 61 = .ok (.iload_n 2, 1) := by decide +kernel
theorem dX12_windsOf_62 : decode kX12_windsOf.2.1 62 = .ok (.iadd, 1) := by decide +kernel
theorem dX12_windsOf_63 : decode kX12_windsOf.2.1 63 = .ok (.iaload, 1) := by decide +kernel
theorem dX12_windsOf_64 : decode kX12_windsOf.2.1 64 = .ok (.iload 5, 2) := by decide +kernel
theorem dX12_windsOf_66 : decode kX12_windsOf.2.1 66 = .ok (.invokevirtual 225, 3) := by decide +kernel
theorem dX12_windsOf_69 : decode kX12_windsOf.2.1 69 = .ok (.iload 8, 2) := by decide +kernel
theorem dX12_windsOf_71 : decode kX12_windsOf.2.1 71 = .ok (.bipush 100, 2) := by decide +kernel
theorem dX12_windsOf_73 : decode kX12_windsOf.2.1 73 = .ok (.irem, 1) := by decide +kernel
theorem dX12_windsOf_74 : decode kX12_windsOf.2.1 74 = .ok (.if_icmp .ne 7, 3) := by decide +kernel
theorem dX12_windsOf_77 : decode kX12_windsOf.2.1 77 = .ok (.iconst 1, 1) := by decide +kernel
theorem dX12_windsOf_78 : decode kX12_windsOf.2.1 78 = .ok (.goto 4, 3) := by decide +kernel
theorem dX12_windsOf_81 : decode kX12_windsOf.2.1 81 = .ok (.iconst 0, 1) := by decide +kernel
theorem dX12_windsOf_82 : decode kX12_windsOf.2.1 82 = .ok (.iand, 1) := by decide +kernel
theorem dX12_windsOf_83 : decode kX12_windsOf.2.1 83 = .ok (.istore 6, 2) := by decide +kernel
theorem dX12_windsOf_85 : decode kX12_windsOf.2.1 85 = .ok (.iinc 7 1, 3) := by decide +kernel
theorem dX12_windsOf_88 : decode kX12_windsOf.2.1 88 = .ok (.goto (-69), 3) := by decide +kernel
theorem dX12_windsOf_91 : decode kX12_windsOf.2.1 91 = .ok (.iload 4, 2) := by decide +kernel
theorem dX12_windsOf_93 : decode kX12_windsOf.2.1 93 = .ok (.iload 6, 2) := by decide +kernel
theorem dX12_windsOf_95 : decode kX12_windsOf.2.1 95 = .ok (.ifCond .eq 10, 3) := by decide +kernel
theorem dX12_windsOf_98 : decode kX12_windsOf.2.1 98 = .ok (.iconst 1, 1) := by decide +kernel
theorem dX12_windsOf_99 : decode kX12_windsOf.2.1 99 = .ok (.iload 5, 2) := by decide +kernel
theorem dX12_windsOf_101 : decode kX12_windsOf.2.1 101 = .ok (.ishl, 1) := by decide +kernel
theorem dX12_windsOf_102 : decode kX12_windsOf.2.1 102 = .ok (.goto 4, 3) := by decide +kernel
theorem dX12_windsOf_105 : decode kX12_windsOf.2.1 105 = .ok (.iconst 0, 1) := by decide +kernel
theorem dX12_windsOf_106 : decode kX12_windsOf.2.1 106 = .ok (.ior, 1) := by decide +kernel
theorem dX12_windsOf_107 : decode kX12_windsOf.2.1 107 = .ok (.istore 4, 2) := by decide +kernel
theorem dX12_windsOf_109 : decode kX12_windsOf.2.1 109 = .ok (.iinc 5 1, 3) := by decide +kernel
theorem dX12_windsOf_112 : decode kX12_windsOf.2.1 112 = .ok (.goto (-106), 3) := by decide +kernel
theorem dX12_windsOf_115 : decode kX12_windsOf.2.1 115 = .ok (.iload 4, 2) := by decide +kernel
theorem dX12_windsOf_117 : decode kX12_windsOf.2.1 117 = .ok (.ireturn, 1) := by decide +kernel
theorem dX12_winds_0 : decode kX12_winds.2.1 0 = .ok (.aload_n 0, 1) := by decide +kernel
theorem dX12_winds_1 : decode kX12_winds.2.1 1 = .ok (.iconst 0, 1) := by decide +kernel
theorem dX12_winds_2 : decode kX12_winds.2.1 2 = .ok (.putfield 1, 3) := by decide +kernel
theorem dX12_winds_5 : decode kX12_winds.2.1 5 = .ok (.aload_n 0, 1) := by decide +kernel
theorem dX12_winds_6 : decode kX12_winds.2.1 6 = .ok (.iload_n 1, 1) := by decide +kernel
theorem dX12_winds_7 : decode kX12_winds.2.1 7 = .ok (.iload_n 2, 1) := by decide +kernel
theorem dX12_winds_8 : decode kX12_winds.2.1 8 = .ok (.iload_n 3, 1) := by decide +kernel
theorem dX12_winds_9 : decode kX12_winds.2.1 9 = .ok (.invokevirtual 406, 3) := by decide +kernel
theorem dX12_winds_12 : decode kX12_winds.2.1 12 = .ok (.istore 4, 2) := by decide +kernel
theorem dX12_winds_14 : decode kX12_winds.2.1 14 = .ok (.iload 4, 2) := by decide +kernel
theorem dX12_winds_16 : decode kX12_winds.2.1 16 = .ok (.ifCond .eq 8, 3) := by decide +kernel
theorem dX12_winds_19 : decode kX12_winds.2.1 19 = .ok (.iload 4, 2) := by decide +kernel
theorem dX12_winds_21 : decode kX12_winds.2.1 21 = .ok (.goto 10, 3) := by decide +kernel
theorem dX12_winds_24 : decode kX12_winds.2.1 24 = .ok (.aload_n 0, 1) := by decide +kernel
theorem dX12_winds_25 : decode kX12_winds.2.1 25 = .ok (.iload_n 1, 1) := by decide +kernel
theorem dX12_winds_26 : decode kX12_winds.2.1 26 = .ok (.iload_n 2, 1) := by decide +kernel
theorem dX12_winds_27 : decode kX12_winds.2.1 27 = .ok (.iload_n 3, 1) := by decide +kernel
theorem dX12_winds_28 : decode kX12_winds.2.1 28 = .ok (.invokevirtual 409, 3) := by decide +kernel
theorem dX12_winds_31 : decode kX12_winds.2.1 31 = .ok (.ireturn, 1) := by decide +kernel
theorem dX12_mostOften_0 : decode kX12_mostOften.2.1 0 = .ok (.iconst 0, 1) := by decide +kernel
theorem dX12_mostOften_1 : decode kX12_mostOften.2.1 1 = .ok (.istore 5, 2) := by decide +kernel
theorem dX12_mostOften_3 : decode kX12_mostOften.2.1 3 = .ok (.iconst 0, 1) := by decide +kernel
theorem dX12_mostOften_4 : decode kX12_mostOften.2.1 4 = .ok (.istore 6, 2) := by decide +kernel
theorem dX12_mostOften_6 : decode kX12_mostOften.2.1 6 = .ok (.iload 6, 2) := by decide +kernel
theorem dX12_mostOften_8 : decode kX12_mostOften.2.1 8 = .ok (.bipush 21, 2) := by decide +kernel
theorem dX12_mostOften_10 : decode kX12_mostOften.2.1 10 = .ok (.if_icmp .ge 17, 3) := by decide +kernel
theorem dX12_mostOften_13 : decode kX12_mostOften.2.1 13 = .ok (.aload_n 0, 1) := by decide +kernel
theorem dX12_mostOften_14 : decode kX12_mostOften.2.1 14 = .ok (.getfield 39, 3) := by decide +kernel
theorem dX12_mostOften_17 : decode kX12_mostOften.2.1 17 = .ok (.iload 6, 2) := by decide +kernel
theorem dX12_mostOften_19 : decode kX12_mostOften.2.1 19 = .ok (.iconst 0, 1) := by decide +kernel
theorem dX12_mostOften_20 : decode kX12_mostOften.2.1 20 = .ok (.iastore, 1) := by decide +kernel
theorem dX12_mostOften_21 : decode kX12_mostOften.2.1 21 = .ok (.iinc 6 1, 3) := by decide +kernel
theorem dX12_mostOften_24 : decode kX12_mostOften.2.1 24 = .ok (.goto (-18), 3) := by decide +kernel
theorem dX12_mostOften_27 : decode kX12_mostOften.2.1 27 = .ok (.iconst 0, 1) := by decide +kernel
theorem dX12_mostOften_28 : decode kX12_mostOften.2.1 28 = .ok (.istore 6, 2) := by decide +kernel
theorem dX12_mostOften_30 : decode kX12_mostOften.2.1 30 = .ok (.iload 6, 2) := by decide +kernel
theorem dX12_mostOften_32 : decode kX12_mostOften.2.1 32 = .ok (.bipush 10, 2) := by decide +kernel
theorem dX12_mostOften_34 : decode kX12_mostOften.2.1 34 = .ok (.if_icmp .ge 80, 3) := by decide +kernel
theorem dX12_mostOften_37 : decode kX12_mostOften.2.1 37 = .ok (.iload_n 1, 1) := by decide +kernel
theorem dX12_mostOften_38 : decode kX12_mostOften.2.1 38 = .ok (.i2l, 1) := by decide +kernel
theorem dX12_mostOften_39 : decode kX12_mostOften.2.1 39 = .ok (.iload 6, 2) := by decide +kernel
theorem dX12_mostOften_41 : decode kX12_mostOften.2.1 41 = .ok (.invokestatic 391, 3) := by decide +kernel
theorem dX12_mostOften_44 : decode kX12_mostOften.2.1 44 = .ok (.ifCond .ne 6, 3) := by decide +kernel
theorem dX12_mostOften_47 : decode kX12_mostOften.2.1 47 = .ok (.goto 61, 3) := by decide +kernel
theorem dX12_mostOften_50 : decode kX12_mostOften.2.1 50 = .ok (.aload_n 0, 1) := by decide +kernel
theorem dX12_mostOften_51 : decode kX12_mostOften.2.1 51 = .ok (.iload_n 2, 1) := by decide +kernel
theorem dX12_mostOften_52 : decode kX12_mostOften.2.1 52 = .ok (.iload_n 3, 1) := by decide +kernel
theorem dX12_mostOften_53 : decode kX12_mostOften.2.1 53 = .ok (.iload 4, 2) := by decide +kernel
theorem dX12_mostOften_55 : decode kX12_mostOften.2.1 55 = .ok (.aload_n 0, 1) := by decide +kernel
theorem dX12_mostOften_56 : decode kX12_mostOften.2.1 56 = .ok (.getfield 13, 3) := by decide +kernel
theorem dX12_mostOften_59 : decode kX12_mostOften.2.1 59 = .ok (.bipush 21, 2) := by decide +kernel
theorem dX12_mostOften_61 : decode kX12_mostOften.2.1 61 = .ok (.iload_n 2, 1) := by decide +kernel
theorem dX12_mostOften_62 : decode kX12_mostOften.2.1 62 = .ok (.iadd, 1) := by decide +kernel
theorem dX12_mostOften_63 : decode kX12_mostOften.2.1 63 = .ok (.iaload, 1) := by decide +kernel
theorem dX12_mostOften_64 : decode kX12_mostOften.2.1 64 = .ok (.iload 6, 2) := by decide +kernel
theorem dX12_mostOften_66 : decode kX12_mostOften.2.1 66 = .ok (.invokevirtual 225, 3) := by decide +kernel
theorem dX12_mostOften_69 : decode kX12_mostOften.2.1 69 = .ok (.istore 7, 2) := by decide +kernel
theorem dX12_mostOften_71 : decode kX12_mostOften.2.1 71 = .ok (.aload_n 0, 1) := by decide +kernel
theorem dX12_mostOften_72 : decode kX12_mostOften.2.1 72 = .ok (.getfield 39, 3) := by decide +kernel
theorem dX12_mostOften_75 : decode kX12_mostOften.2.1 75 = .ok (.iload 7, 2) := by decide +kernel
theorem dX12_mostOften_77 : decode kX12_mostOften.2.1 77 = .ok (.dup2, 1) := by decide +kernel
theorem dX12_mostOften_78 : decode kX12_mostOften.2.1 78 = .ok (.iaload, 1) := by decide +kernel
theorem dX12_mostOften_79 : decode kX12_mostOften.2.1 79 = .ok (.iconst 1, 1) := by decide +kernel
theorem dX12_mostOften_80 : decode kX12_mostOften.2.1 80 = .ok (.iadd, 1) := by decide +kernel
theorem dX12_mostOften_81 : decode kX12_mostOften.2.1 81 = .ok (.iastore, 1) := by decide +kernel
theorem dX12_mostOften_82 : decode kX12_mostOften.2.1 82 = .ok (.aload_n 0, 1) := by decide +kernel
theorem dX12_mostOften_83 : decode kX12_mostOften.2.1 83 = .ok (.getfield 39, 3) := by decide +kernel
theorem dX12_mostOften_86 : decode kX12_mostOften.2.1 86 = .ok (.iload 7, 2) := by decide +kernel
theorem dX12_mostOften_88 : decode kX12_mostOften.2.1 88 = .ok (.iaload, 1) := by decide +kernel
theorem dX12_mostOften_89 : decode kX12_mostOften.2.1 89 = .ok (.iload 5, 2) := by decide +kernel
theorem dX12_mostOften_91 : decode kX12_mostOften.2.1 91 = .ok (.if_icmp .le 13, 3) := by decide +kernel
theorem dX12_mostOften_94 : decode kX12_mostOften.2.1 94 = .ok (.aload_n 0, 1) := by decide +kernel
theorem dX12_mostOften_95 : decode kX12_mostOften.2.1 95 = .ok (.getfield 39, 3) := by decide +kernel
theorem dX12_mostOften_98 : decode kX12_mostOften.2.1 98 = .ok (.iload 7, 2) := by decide +kernel
theorem dX12_mostOften_100 : decode kX12_mostOften.2.1 100 = .ok (.iaload, 1) := by decide +kernel
theorem dX12_mostOften_101 : decode kX12_mostOften.2.1 101 = .ok (.goto 5, 3) := by decide +kernel
theorem dX12_mostOften_104 : decode kX12_mostOften.2.1 104 = .ok (.iload 5, 2) := by decide +kernel
theorem dX12_mostOften_106 : decode kX12_mostOften.2.1 106 = .ok (.istore 5, 2) := by decide +kernel
theorem dX12_mostOften_108 : decode kX12_mostOften.2.1 108 = .ok (.iinc 6 1, 3) := by decide +kernel
theorem dX12_mostOften_111 : decode kX12_mostOften.2.1 111 = .ok (.goto (-81), 3) := by decide +kernel
theorem dX12_mostOften_114 : decode kX12_mostOften.2.1 114 = .ok (.iload 5, 2) := by decide +kernel
theorem dX12_mostOften_116 : decode kX12_mostOften.2.1 116 = .ok (.ireturn, 1) := by decide +kernel
theorem dX12_attempt_0 : decode kX12_attempt.2.1 0 = .ok (.aload_n 0, 1) := by decide +kernel
theorem dX12_attempt_1 : decode kX12_attempt.2.1 1 = .ok (.iconst 0, 1) := by decide +kernel
theorem dX12_attempt_2 : decode kX12_attempt.2.1 2 = .ok (.putfield 1, 3) := by decide +kernel
theorem dX12_attempt_5 : decode kX12_attempt.2.1 5 = .ok (.aload_n 0, 1) := by decide +kernel
theorem dX12_attempt_6 : decode kX12_attempt.2.1 6 = .ok (.iload_n 1, 1) := by decide +kernel
theorem dX12_attempt_7 : decode kX12_attempt.2.1 7 = .ok (.iload_n 2, 1) := by decide +kernel
theorem dX12_attempt_8 : decode kX12_attempt.2.1 8 = .ok (.iload_n 3, 1) := by decide +kernel
theorem dX12_attempt_9 : decode kX12_attempt.2.1 9 = .ok (.invokevirtual 406, 3) := by decide +kernel
theorem dX12_attempt_12 : decode kX12_attempt.2.1 12 = .ok (.istore 4, 2) := by decide +kernel
theorem dX12_attempt_14 : decode kX12_attempt.2.1 14 = .ok (.iload 4, 2) := by decide +kernel
theorem dX12_attempt_16 : decode kX12_attempt.2.1 16 = .ok (.ifCond .eq 6, 3) := by decide +kernel
theorem dX12_attempt_19 : decode kX12_attempt.2.1 19 = .ok (.iload 4, 2) := by decide +kernel
theorem dX12_attempt_21 : decode kX12_attempt.2.1 21 = .ok (.ireturn, 1) := by decide +kernel
theorem dX12_attempt_22 : decode kX12_attempt.2.1 22 = .ok (.aload_n 0, 1) := by decide +kernel
theorem dX12_attempt_23 : decode kX12_attempt.2.1 23 = .ok (.iload_n 1, 1) := by decide +kernel
theorem dX12_attempt_24 : decode kX12_attempt.2.1 24 = .ok (.iload_n 2, 1) := by decide +kernel
theorem dX12_attempt_25 : decode kX12_attempt.2.1 25 = .ok (.iload_n 3, 1) := by decide +kernel
theorem dX12_attempt_26 : decode kX12_attempt.2.1 26 = .ok (.invokevirtual 409, 3) := by decide +kernel
theorem dX12_attempt_29 : decode kX12_attempt.2.1 29 = .ok (.istore 5, 2) := by decide +kernel
theorem dX12_attempt_31 : decode kX12_attempt.2.1 31 = .ok (.iconst (-1), 1) := by decide +kernel
theorem dX12_attempt_32 : decode kX12_attempt.2.1 32 = .ok (.istore 6, 2) := by decide +kernel
theorem dX12_attempt_34 : decode kX12_attempt.2.1 34 = .ok (.ldc_w 398, 3) := by decide +kernel
theorem dX12_attempt_37 : decode kX12_attempt.2.1 37 = .ok (.istore 7, 2) := by decide +kernel
theorem dX12_attempt_39 : decode kX12_attempt.2.1 39 = .ok (.iconst 0, 1) := by decide +kernel
theorem dX12_attempt_40 : decode kX12_attempt.2.1 40 = .ok (.istore 8, 2) := by decide +kernel
theorem dX12_attempt_42 : decode kX12_attempt.2.1 42 = .ok (.iload 8, 2) := by decide +kernel
theorem dX12_attempt_44 : decode kX12_attempt.2.1 44 = .ok (.bipush 10, 2) := by decide +kernel
theorem dX12_attempt_46 : decode kX12_attempt.2.1 46 = .ok (.if_icmp .ge 44, 3) := by decide +kernel
theorem dX12_attempt_49 : decode kX12_attempt.2.1 49 = .ok (.iload 5, 2) := by decide +kernel
theorem dX12_attempt_51 : decode kX12_attempt.2.1 51 = .ok (.ifCond .eq 39, 3) := by decide +kernel
theorem dX12_attempt_54 : decode kX12_attempt.2.1 54 = .ok (.aload_n 0, 1) := by decide +kernel
theorem dX12_attempt_55 : decode kX12_attempt.2.1 55 = .ok (.iload 5, 2) := by decide +kernel
theorem dX12_attempt_57 : decode kX12_attempt.2.1 57 = .ok (.iload_n 2, 1) := by decide +kernel
theorem dX12_attempt_58 : decode kX12_attempt.2.1 58 = .ok (.iload_n 3, 1) := by decide +kernel
theorem dX12_attempt_59 : decode kX12_attempt.2.1 59 = .ok (.iload 8, 2) := by decide +kernel
theorem dX12_attempt_61 : decode kX12_attempt.2.1 61 = .ok (.invokevirtual 412, 3) := by decide +kernel
theorem dX12_attempt_64 : decode kX12_attempt.2.1 64 = .ok (.istore 9, 2) := by decide +kernel
theorem dX12_attempt_66 : decode kX12_attempt.2.1 66 = .ok (.iload 9, 2) := by decide +kernel
theorem dX12_attempt_68 : decode kX12_attempt.2.1 68 = .ok (.iload 7, 2) := by decide +kernel
theorem dX12_attempt_70 : decode kX12_attempt.2.1 70 = .ok (.if_icmp .lt 6, 3) := by decide +kernel
theorem dX12_attempt_73 : decode kX12_attempt.2.1 73 = .ok (.goto 11, 3) := by decide +kernel
theorem dX12_attempt_76 : decode kX12_attempt.2.1 76 = .ok (.iload 8, 2) := by decide +kernel
theorem dX12_attempt_78 : decode kX12_attempt.2.1 78 = .ok (.istore 6, 2) := by decide +kernel
theorem dX12_attempt_80 : decode kX12_attempt.2.1 80 = .ok (.iload 9, 2) := by decide +kernel
theorem dX12_attempt_82 : decode kX12_attempt.2.1 82 = .ok (.istore 7, 2) := by decide +kernel
theorem dX12_attempt_84 : decode kX12_attempt.2.1 84 = .ok (.iinc 8 1, 3) := by decide +kernel
theorem dX12_attempt_87 : decode kX12_attempt.2.1 87 = .ok (.goto (-45), 3) := by decide +kernel
theorem dX12_attempt_90 : decode kX12_attempt.2.1 90 = .ok (.iload 6, 2) := by decide +kernel
theorem dX12_attempt_92 : decode kX12_attempt.2.1 92 = .ok (.ireturn, 1) := by decide +kernel
theorem dX12_goesOrder_0 : decode kX12_goesOrder.2.1 0 = .ok (.iload_n 1, 1) := by decide +kernel
theorem dX12_goesOrder_1 : decode kX12_goesOrder.2.1 1 = .ok (.aload_n 0, 1) := by decide +kernel
theorem dX12_goesOrder_2 : decode kX12_goesOrder.2.1 2 = .ok (.getfield 13, 3) := by decide +kernel
theorem dX12_goesOrder_5 : decode kX12_goesOrder.2.1 5 = .ok (.bipush 6, 2) := by decide +kernel
theorem dX12_goesOrder_7 : decode kX12_goesOrder.2.1 7 = .ok (.iaload, 1) := by decide +kernel
theorem dX12_goesOrder_8 : decode kX12_goesOrder.2.1 8 = .ok (.if_icmp .ne 47, 3) := by decide +kernel
theorem dX12_goesOrder_11 : decode kX12_goesOrder.2.1 11 = .ok (.iload_n 3, 1) := by decide +kernel
theorem dX12_goesOrder_12 : decode kX12_goesOrder.2.1 12 = .ok (.aload_n 0, 1) := by decide +kernel
theorem dX12_goesOrder_13 : decode kX12_goesOrder.2.1 13 = .ok (.getfield 416, 3) := by decide +kernel
theorem dX12_goesOrder_16 : decode kX12_goesOrder.2.1 16 = .ok (.if_icmp .gt 4, 3) := by decide +kernel
theorem dX12_goesOrder_19 : decode kX12_goesOrder.2.1 19 = .ok (.return_, 1) := by decide +kernel
theorem dX12_goesOrder_20 : decode kX12_goesOrder.2.1 20 = .ok (.aload_n 0, 1) := by decide +kernel
theorem dX12_goesOrder_21 : decode kX12_goesOrder.2.1 21 = .ok (.iload_n 3, 1) := by decide +kernel
theorem dX12_goesOrder_22 : decode kX12_goesOrder.2.1 22 = .ok (.putfield 416, 3) := by decide +kernel
theorem dX12_goesOrder_25 : decode kX12_goesOrder.2.1 25 = .ok (.iconst 0, 1) := by decide +kernel
theorem dX12_goesOrder_26 : decode kX12_goesOrder.2.1 26 = .ok (.istore 4, 2) := by decide +kernel
theorem dX12_goesOrder_28 : decode kX12_goesOrder.2.1 28 = .ok (.iload 4, 2) := by decide +kernel
theorem dX12_goesOrder_30 : decode kX12_goesOrder.2.1 30 = .ok (.iconst 4, 1) := by decide +kernel
theorem dX12_goesOrder_31 : decode kX12_goesOrder.2.1 31 = .ok (.if_icmp .ge 23, 3) := by decide +kernel
theorem dX12_goesOrder_34 : decode kX12_goesOrder.2.1 34 = .ok (.aload_n 0, 1) := by decide +kernel
theorem dX12_goesOrder_35 : decode kX12_goesOrder.2.1 35 = .ok (.getfield 64, 3) := by decide +kernel
theorem dX12_goesOrder_38 : decode kX12_goesOrder.2.1 38 = .ok (.iload 4, 2) := by decide +kernel
theorem dX12_goesOrder_40 : decode kX12_goesOrder.2.1 40 = .ok (.aload_n 0, 1) := by decide +kernel
theorem dX12_goesOrder_41 : decode kX12_goesOrder.2.1 41 = .ok (.getfield 61, 3) := by decide +kernel
theorem dX12_goesOrder_44 : decode kX12_goesOrder.2.1 44 = .ok (.iload 4, 2) := by decide +kernel
theorem dX12_goesOrder_46 : decode kX12_goesOrder.2.1 46 = .ok (.iaload, 1) := by decide +kernel
theorem dX12_goesOrder_47 : decode kX12_goesOrder.2.1 47 = .ok (.iastore, 1) := by decide +kernel
theorem dX12_goesOrder_48 : decode kX12_goesOrder.2.1 48 = .ok (.iinc 4 1, 3) := by decide +kernel
theorem dX12_goesOrder_51 : decode kX12_goesOrder.2.1 51 = .ok (.goto (-23), 3) := by decide +kernel
theorem dX12_goesOrder_54 : decode kX12_goesOrder.2.1 54 = .ok (.return_, 1) := by decide +kernel
theorem dX12_goesOrder_55 : decode kX12_goesOrder.2.1 55 = .ok (.iconst 0, 1) := by decide +kernel
theorem dX12_goesOrder_56 : decode kX12_goesOrder.2.1 56 = .ok (.istore 4, 2) := by decide +kernel
theorem dX12_goesOrder_58 : decode kX12_goesOrder.2.1 58 = .ok (.iload 4, 2) := by decide +kernel
theorem dX12_goesOrder_60 : decode kX12_goesOrder.2.1 60 = .ok (.aload_n 0, 1) := by decide +kernel
theorem dX12_goesOrder_61 : decode kX12_goesOrder.2.1 61 = .ok (.getfield 13, 3) := by decide +kernel
theorem dX12_goesOrder_64 : decode kX12_goesOrder.2.1 64 = .ok (.bipush 6, 2) := by decide +kernel
theorem dX12_goesOrder_66 : decode kX12_goesOrder.2.1 66 = .ok (.iaload, 1) := by decide +kernel
theorem dX12_goesOrder_67 : decode kX12_goesOrder.2.1 67 = .ok (.if_icmp .ge 56, 3) := by decide +kernel
theorem dX12_goesOrder_70 : decode kX12_goesOrder.2.1 70 = .ok (.iload_n 2, 1) := by decide +kernel
theorem dX12_goesOrder_71 : decode kX12_goesOrder.2.1 71 = .ok (.i2l, 1) := by decide +kernel
theorem dX12_goesOrder_72 : decode kX12_goesOrder.2.1 72 = .ok (.iload 4, 2) := by decide +kernel
theorem dX12_goesOrder_74 : decode kX12_goesOrder.2.1 74 = .ok (.invokestatic 391, 3) := by decide +kernel
theorem dX12_goesOrder_77 : decode kX12_goesOrder.2.1 77 = .ok (.ifCond .eq 6, 3) := by decide +kernel
theorem dX12_goesOrder_80 : decode kX12_goesOrder.2.1 80 = .ok (.goto 37, 3) := by decide +kernel
theorem dX12_goesOrder_83 : decode kX12_goesOrder.2.1 83 = .ok (.aload_n 0, 1) := by decide +kernel
theorem dX12_goesOrder_84 : decode kX12_goesOrder.2.1 84 = .ok (.getfield 61, 3) := by decide +kernel
theorem dX12_goesOrder_87 : decode kX12_goesOrder.2.1 87 = .ok (.iload_n 1, 1) := by decide +kernel
theorem dX12_goesOrder_88 : decode kX12_goesOrder.2.1 88 = .ok (.iload 4, 2) := by decide +kernel
theorem dX12_goesOrder_90 : decode kX12_goesOrder.2.1 90 = .ok (.iastore, 1) := by decide +kernel
theorem dX12_goesOrder_91 : decode kX12_goesOrder.2.1 91 = .ok (.aload_n 0, 1) := by decide +kernel
theorem dX12_goesOrder_92 : decode kX12_goesOrder.2.1 92 = .ok (.iload_n 1, 1) := by decide +kernel
theorem dX12_goesOrder_93 : decode kX12_goesOrder.2.1 93 = .ok (.iconst 1, 1) := by decide +kernel
theorem dX12_goesOrder_94 : decode kX12_goesOrder.2.1 94 = .ok (.iadd, 1) := by decide +kernel
theorem dX12_goesOrder_95 : decode kX12_goesOrder.2.1 95 = .ok (.iload_n 2, 1) := by decide +kernel
theorem dX12_goesOrder_96 : decode kX12_goesOrder.2.1 96 = .ok (.iconst 1, 1) := by decide +kernel
theorem dX12_goesOrder_97 : decode kX12_goesOrder.2.1 97 = .ok (.iload 4, 2) := by decide +kernel
theorem dX12_goesOrder_99 : decode kX12_goesOrder.2.1 99 = .ok (.ishl, 1) := by decide +kernel
theorem dX12_goesOrder_100 : decode kX12_goesOrder.2.1 100 = .ok (.ior, 1) := by decide +kernel
theorem dX12_goesOrder_101 : decode kX12_goesOrder.2.1 101 = .ok (.iload_n 3, 1) := by decide +kernel
theorem dX12_goesOrder_102 : decode kX12_goesOrder.2.1 102 = .ok (.aload_n 0, 1) := by decide +kernel
theorem dX12_goesOrder_103 : decode kX12_goesOrder.2.1 103 = .ok (.getfield 58, 3) := by decide +kernel
theorem dX12_goesOrder_106 : decode kX12_goesOrder.2.1 106 = .ok (.iconst 4, 1) := by decide +kernel
theorem dX12_goesOrder_107 : decode kX12_goesOrder.2.1 107 = .ok (.iload_n 1, 1) := by decide +kernel
theorem dX12_goesOrder_108 : decode kX12_goesOrder.2.1 108 = .ok (.imul, 1) := by decide +kernel
theorem dX12_goesOrder_109 : decode kX12_goesOrder.2.1 109 = .ok (.iload 4, 2) := by decide +kernel
theorem dX12_goesOrder_111 : decode kX12_goesOrder.2.1 111 = .ok (.iadd, 1) := by decide +kernel
theorem dX12_goesOrder_112 : decode kX12_goesOrder.2.1 112 = .ok (.iaload, 1) := by decide +kernel
theorem dX12_goesOrder_113 : decode kX12_goesOrder.2.1 113 = .ok (.iadd, 1) := by decide +kernel
theorem dX12_goesOrder_114 : decode kX12_goesOrder.2.1 114 = .ok (.invokevirtual 419, 3) := by decide +kernel
theorem dX12_goesOrder_117 : decode kX12_goesOrder.2.1 117 = .ok (.iinc 4 1, 3) := by decide +kernel
theorem dX12_goesOrder_120 : decode kX12_goesOrder.2.1 120 = .ok (.goto (-62), 3) := by decide +kernel
theorem dX12_goesOrder_123 : decode kX12_goesOrder.2.1 123 = .ok (.return_, 1) := by decide +kernel
theorem dX12_order_0 : decode kX12_order.2.1 0 = .ok (.aload_n 0, 1) := by decide +kernel
theorem dX12_order_1 : decode kX12_order.2.1 1 = .ok (.iconst 0, 1) := by decide +kernel
theorem dX12_order_2 : decode kX12_order.2.1 2 = .ok (.putfield 1, 3) := by decide +kernel
theorem dX12_order_5 : decode kX12_order.2.1 5 = .ok (.iload_n 1, 1) := by decide +kernel
theorem dX12_order_6 : decode kX12_order.2.1 6 = .ok (.ifCond .eq 24, 3) := by decide +kernel
theorem dX12_order_9 : decode kX12_order.2.1 9 = .ok (.iload_n 1, 1) := by decide +kernel
theorem dX12_order_10 : decode kX12_order.2.1 10 = .ok (.bipush 10, 2) := by decide +kernel
theorem dX12_order_12 : decode kX12_order.2.1 12 = .ok (.if_icmp .lt 15, 3) := by decide +kernel
theorem dX12_order_15 : decode kX12_order.2.1 15 = .ok (.aload_n 0, 1) := by decide +kernel
theorem dX12_order_16 : decode kX12_order.2.1 16 = .ok (.iload_n 1, 1) := by decide +kernel
theorem dX12_order_17 : decode kX12_order.2.1 17 = .ok (.bipush 10, 2) := by decide +kernel
theorem dX12_order_19 : decode kX12_order.2.1 19 = .ok (.isub, 1) := by decide +kernel
theorem dX12_order_20 : decode kX12_order.2.1 20 = .ok (.i2l, 1) := by decide +kernel
theorem dX12_order_21 : decode kX12_order.2.1 21 = .ok (.invokevirtual 236, 3) := by decide +kernel
theorem dX12_order_24 : decode kX12_order.2.1 24 = .ok (.ifCond .ne 6, 3) := by decide +kernel
theorem dX12_order_27 : decode kX12_order.2.1 27 = .ok (.ldc 240, 2) := by decide +kernel
theorem dX12_order_29 : decode kX12_order.2.1 29 = .ok (.ireturn, 1) := by decide +kernel
theorem dX12_order_30 : decode kX12_order.2.1 30 = .ok (.iconst 0, 1) := by decide +kernel
theorem dX12_order_31 : decode kX12_order.2.1 31 = .ok (.istore_n 2, 1) := by decide +kernel
theorem dX12_order_32 : decode kX12_order.2.1 32 = .ok (.iload_n 2, 1) := by decide +kernel
theorem dX12_order_33 : decode kX12_order.2.1 33 = .ok (.aload_n 0, 1) := by decide +kernel
theorem dX12_order_34 : decode kX12_order.2.1 34 = .ok (.getfield 13, 3) := by decide +kernel
theorem dX12_order_37 : decode kX12_order.2.1 37 = .ok (.bipush 6, 2) := by decide +kernel
theorem dX12_order_39 : decode kX12_order.2.1 39 = .ok (.iaload, 1) := by decide +kernel
theorem dX12_order_40 : decode kX12_order.2.1 40 = .ok (.if_icmp .ge 86, 3) := by decide +kernel
theorem dX12_order_43 : decode kX12_order.2.1 43 = .ok (.aload_n 0, 1) := by decide +kernel
theorem dX12_order_44 : decode kX12_order.2.1 44 = .ok (.aload_n 0, 1) := by decide +kernel
theorem dX12_order_45 : decode kX12_order.2.1 45 = .ok (.getfield 13, 3) := by decide +kernel
theorem dX12_order_48 : decode kX12_order.2.1 48 = .ok (.bipush 27, 2) := by decide +kernel
theorem dX12_order_50 : decode kX12_order.2.1 50 = .ok (.iaload, 1) := by decide +kernel
theorem dX12_order_51 : decode kX12_order.2.1 51 = .ok (.iload_n 2, 1) := by decide +kernel
theorem dX12_order_52 : decode kX12_order.2.1 52 = .ok (.iadd, 1) := by decide +kernel
theorem dX12_order_53 : decode kX12_order.2.1 53 = .ok (.aload_n 0, 1) := by decide +kernel
theorem dX12_order_54 : decode kX12_order.2.1 54 = .ok (.getfield 13, 3) := by decide +kernel
theorem dX12_order_57 : decode kX12_order.2.1 57 = .ok (.bipush 25, 2) := by decide +kernel
theorem dX12_order_59 : decode kX12_order.2.1 59 = .ok (.iaload, 1) := by decide +kernel
theorem dX12_order_60 : decode kX12_order.2.1 60 = .ok (.invokevirtual 229, 3) := by decide +kernel
theorem dX12_order_63 : decode kX12_order.2.1 63 = .ok (.istore_n 3, 1) := by decide +kernel
theorem dX12_order_64 : decode kX12_order.2.1 64 = .ok (.iconst 0, 1) := by decide +kernel
theorem dX12_order_65 : decode kX12_order.2.1 65 = .ok (.istore 4, 2) := by decide +kernel
theorem dX12_order_67 : decode kX12_order.2.1 67 = .ok (.iload 4, 2) := by decide +kernel
theorem dX12_order_69 : decode kX12_order.2.1 69 = .ok (.aload_n 0, 1) := by decide +kernel
theorem dX12_order_70 : decode kX12_order.2.1 70 = .ok (.getfield 13, 3) := by decide +kernel
theorem dX12_order_73 : decode kX12_order.2.1 73 = .ok (.bipush 6, 2) := by decide +kernel
theorem dX12_order_75 : decode kX12_order.2.1 75 = .ok (.iaload, 1) := by decide +kernel
theorem dX12_order_76 : decode kX12_order.2.1 76 = .ok (.if_icmp .ge 44, 3) := by decide +kernel
theorem dX12_order_79 : decode kX12_order.2.1 79 = .ok (.aload_n 0, 1) := by decide +kernel
theorem dX12_order_80 : decode kX12_order.2.1 80 = .ok (.getfield 58, 3) := by decide +kernel
theorem dX12_order_83 : decode kX12_order.2.1 83 = .ok (.iconst 4, 1) := by decide +kernel
theorem dX12_order_84 : decode kX12_order.2.1 84 = .ok (.iload_n 2, 1) := by decide +kernel
theorem dX12_order_85 : decode kX12_order.2.1 85 = .ok (.imul, 1) := by decide +kernel
theorem dX12_order_86 : decode kX12_order.2.1 86 = .ok (.iload 4, 2) := by decide +kernel
theorem dX12_order_88 : decode kX12_order.2.1 88 = .ok (.iadd, 1) := by decide +kernel
theorem dX12_order_89 : decode kX12_order.2.1 89 = .ok (.aload_n 0, 1) := by decide +kernel
theorem dX12_order_90 : decode kX12_order.2.1 90 = .ok (.iload 4, 2) := by decide +kernel
theorem dX12_order_92 : decode kX12_order.2.1 92 = .ok (.aload_n 0, 1) := by decide +kernel
theorem dX12_order_93 : decode kX12_order.2.1 93 = .ok (.iload 4, 2) := by decide +kernel
theorem dX12_order_95 : decode kX12_order.2.1 95 = .ok (.iload_n 3, 1) := by decide +kernel
theorem dX12_order_96 : decode kX12_order.2.1 96 = .ok (.invokevirtual 333, 3) := by decide +kernel
theorem dX12_order_99 : decode kX12_order.2.1 99 = .ok (.aload_n 0, 1) := by decide +kernel
theorem dX12_order_100 : decode kX12_order.2.1 100 = .ok (.getfield 13, 3) := by decide +kernel
theorem dX12_order_103 : decode kX12_order.2.1 103 = .ok (.bipush 21, 2) := by decide +kernel
theorem dX12_order_105 : decode kX12_order.2.1 105 = .ok (.iload 4, 2) := by decide +kernel
theorem dX12_order_107 : decode kX12_order.2.1 107 = .ok (.iadd, 1) := by decide +kernel
theorem dX12_order_108 : decode kX12_order.2.1 108 = .ok (.iaload, 1) := by decide +kernel
theorem dX12_order_109 : decode kX12_order.2.1 109 = .ok (.iload_n 3, 1) := by decide +kernel
theorem dX12_order_110 : decode kX12_order.2.1 110 = .ok (.invokevirtual 315, 3) := by decide +kernel
theorem dX12_order_113 : decode kX12_order.2.1 113 = .ok (.iastore, 1) := by decide +kernel
theorem dX12_order_114 : decode kX12_order.2.1 114 = .ok (.iinc 4 1, 3) := by decide +kernel
theorem dX12_order_117 : decode kX12_order.2.1 117 = .ok (.goto (-50), 3) := by decide +kernel
theorem dX12_order_120 : decode kX12_order.2.1 120 = .ok (.iinc 2 1, 3) := by decide +kernel
theorem dX12_order_123 : decode kX12_order.2.1 123 = .ok (.goto (-91), 3) := by decide +kernel
theorem dX12_order_126 : decode kX12_order.2.1 126 = .ok (.aload_n 0, 1) := by decide +kernel
theorem dX12_order_127 : decode kX12_order.2.1 127 = .ok (.ldc_w 423, 3) := by decide +kernel
theorem dX12_order_130 : decode kX12_order.2.1 130 = .ok (.putfield 416, 3) := by decide +kernel
theorem dX12_order_133 : decode kX12_order.2.1 133 = .ok (.aload_n 0, 1) := by decide +kernel
theorem dX12_order_134 : decode kX12_order.2.1 134 = .ok (.iconst 0, 1) := by decide +kernel
theorem dX12_order_135 : decode kX12_order.2.1 135 = .ok (.iconst 0, 1) := by decide +kernel
theorem dX12_order_136 : decode kX12_order.2.1 136 = .ok (.iconst 0, 1) := by decide +kernel
theorem dX12_order_137 : decode kX12_order.2.1 137 = .ok (.invokevirtual 419, 3) := by decide +kernel
theorem dX12_order_140 : decode kX12_order.2.1 140 = .ok (.iload_n 1, 1) := by decide +kernel
theorem dX12_order_141 : decode kX12_order.2.1 141 = .ok (.ifCond .ne 10, 3) := by decide +kernel
theorem dX12_order_144 : decode kX12_order.2.1 144 = .ok (.aload_n 0, 1) := by decide +kernel
theorem dX12_order_145 : decode kX12_order.2.1 145 = .ok (.getfield 416, 3) := by decide +kernel
theorem dX12_order_148 : decode kX12_order.2.1 148 = .ok (.goto 12, 3) := by decide +kernel
theorem dX12_order_151 : decode kX12_order.2.1 151 = .ok (.aload_n 0, 1) := by decide +kernel
theorem dX12_order_152 : decode kX12_order.2.1 152 = .ok (.getfield 64, 3) := by decide +kernel
theorem dX12_order_155 : decode kX12_order.2.1 155 = .ok (.iload_n 1, 1) := by decide +kernel
theorem dX12_order_156 : decode kX12_order.2.1 156 = .ok (.bipush 10, 2) := by decide +kernel
theorem dX12_order_158 : decode kX12_order.2.1 158 = .ok (.isub, 1) := by decide +kernel
theorem dX12_order_159 : decode kX12_order.2.1 159 = .ok (.iaload, 1) := by decide +kernel
theorem dX12_order_160 : decode kX12_order.2.1 160 = .ok (.ireturn, 1) := by decide +kernel
theorem dX12_isRatherOpen_0 : decode kX12_isRatherOpen.2.1 0 = .ok (.aload_n 0, 1) := by decide +kernel
theorem dX12_isRatherOpen_1 : decode kX12_isRatherOpen.2.1 1 = .ok (.iload_n 1, 1) := by decide +kernel
theorem dX12_isRatherOpen_2 : decode kX12_isRatherOpen.2.1 2 = .ok (.iload_n 2, 1) := by decide +kernel
theorem dX12_isRatherOpen_3 : decode kX12_isRatherOpen.2.1 3 = .ok (.aload_n 0, 1) := by decide +kernel
theorem dX12_isRatherOpen_4 : decode kX12_isRatherOpen.2.1 4 = .ok (.getfield 13, 3) := by decide +kernel
theorem dX12_isRatherOpen_7 : decode kX12_isRatherOpen.2.1 7 = .ok (.bipush 21, 2) := by decide +kernel
theorem dX12_isRatherOpen_9 : decode kX12_isRatherOpen.2.1 9 = .ok (.iload_n 1, 1) := by decide +kernel
theorem dX12_isRatherOpen_10 : decode kX12_isRatherOpen.2.1 10 = .ok (.iadd, 1) := by decide +kernel
theorem dX12_isRatherOpen_11 : decode kX12_isRatherOpen.2.1 11 = .ok (.iaload, 1) := by decide +kernel
theorem dX12_isRatherOpen_12 : decode kX12_isRatherOpen.2.1 12 = .ok (.iconst 1, 1) := by decide +kernel
theorem dX12_isRatherOpen_13 : decode kX12_isRatherOpen.2.1 13 = .ok (.invokevirtual 315, 3) := by decide +kernel
theorem dX12_isRatherOpen_16 : decode kX12_isRatherOpen.2.1 16 = .ok (.aload_n 0, 1) := by decide +kernel
theorem dX12_isRatherOpen_17 : decode kX12_isRatherOpen.2.1 17 = .ok (.iload_n 1, 1) := by decide +kernel
theorem dX12_isRatherOpen_18 : decode kX12_isRatherOpen.2.1 18 = .ok (.iload_n 2, 1) := by decide +kernel
theorem dX12_isRatherOpen_19 : decode kX12_isRatherOpen.2.1 19 = .ok (.aload_n 0, 1) := by decide +kernel
theorem dX12_isRatherOpen_20 : decode kX12_isRatherOpen.2.1 20 = .ok (.getfield 13, 3) := by decide +kernel
theorem dX12_isRatherOpen_23 : decode kX12_isRatherOpen.2.1 23 = .ok (.bipush 21, 2) := by decide +kernel
theorem dX12_isRatherOpen_25 : decode kX12_isRatherOpen.2.1 25 = .ok (.iload_n 1, 1) := by decide +kernel
theorem dX12_isRatherOpen_26 : decode kX12_isRatherOpen.2.1 26 = .ok (.iadd, 1) := by decide +kernel
theorem dX12_isRatherOpen_27 : decode kX12_isRatherOpen.2.1 27 = .ok (.iaload, 1) := by decide +kernel
theorem dX12_isRatherOpen_28 : decode kX12_isRatherOpen.2.1 28 = .ok (.iconst 0, 1) := by decide +kernel
theorem dX12_isRatherOpen_29 : decode kX12_isRatherOpen.2.1 29 = .ok (.invokevirtual 315, 3) := by decide +kernel
theorem dX12_isRatherOpen_32 : decode kX12_isRatherOpen.2.1 32 = .ok (.if_icmp .gt 7, 3) := by decide +kernel
theorem dX12_isRatherOpen_35 : decode kX12_isRatherOpen.2.1 35 = .ok (.iconst 1, 1) := by decide +kernel
theorem dX12_isRatherOpen_36 : decode kX12_isRatherOpen.2.1 36 = .ok (.goto 4, 3) := by decide +kernel
theorem dX12_isRatherOpen_39 : decode kX12_isRatherOpen.2.1 39 = .ok (.iconst 0, 1) := by decide +kernel
theorem dX12_isRatherOpen_40 : decode kX12_isRatherOpen.2.1 40 = .ok (.ireturn, 1) := by decide +kernel
theorem dX12_expects_0 : decode kX12_expects.2.1 0 = .ok (.aload_n 0, 1) := by decide +kernel
theorem dX12_expects_1 : decode kX12_expects.2.1 1 = .ok (.iconst 0, 1) := by decide +kernel
theorem dX12_expects_2 : decode kX12_expects.2.1 2 = .ok (.putfield 1, 3) := by decide +kernel
theorem dX12_expects_5 : decode kX12_expects.2.1 5 = .ok (.aload_n 0, 1) := by decide +kernel
theorem dX12_expects_6 : decode kX12_expects.2.1 6 = .ok (.iload_n 1, 1) := by decide +kernel
theorem dX12_expects_7 : decode kX12_expects.2.1 7 = .ok (.i2l, 1) := by decide +kernel
theorem dX12_expects_8 : decode kX12_expects.2.1 8 = .ok (.invokevirtual 236, 3) := by decide +kernel
theorem dX12_expects_11 : decode kX12_expects.2.1 11 = .ok (.ifCond .eq 11, 3) := by decide +kernel
theorem dX12_expects_14 : decode kX12_expects.2.1 14 = .ok (.iload_n 2, 1) := by decide +kernel
theorem dX12_expects_15 : decode kX12_expects.2.1 15 = .ok (.i2l, 1) := by decide +kernel
theorem dX12_expects_16 : decode kX12_expects.2.1 16 = .ok (.invokestatic 241, 3) := by decide +kernel
theorem dX12_expects_19 : decode kX12_expects.2.1 19 = .ok (.ifCond .ne 6, 3) := by decide +kernel
theorem dX12_expects_22 : decode kX12_expects.2.1 22 = .ok (.bipush (-2), 2) := by decide +kernel
theorem dX12_expects_24 : decode kX12_expects.2.1 24 = .ok (.ireturn, 1) := by decide +kernel
theorem dX12_expects_25 : decode kX12_expects.2.1 25 = .ok (.iload_n 3, 1) := by decide +kernel
theorem dX12_expects_26 : decode kX12_expects.2.1 26 = .ok (.i2l, 1) := by decide +kernel
theorem dX12_expects_27 : decode kX12_expects.2.1 27 = .ok (.lconst 0, 1) := by decide +kernel
theorem dX12_expects_28 : decode kX12_expects.2.1 28 = .ok (.ldc2_w 402, 3) := by decide +kernel
theorem dX12_expects_31 : decode kX12_expects.2.1 31 = .ok (.invokestatic 142, 3) := by decide +kernel
theorem dX12_expects_34 : decode kX12_expects.2.1 34 = .ok (.ifCond .ne 6, 3) := by decide +kernel
theorem dX12_expects_37 : decode kX12_expects.2.1 37 = .ok (.bipush (-3), 2) := by decide +kernel
theorem dX12_expects_39 : decode kX12_expects.2.1 39 = .ok (.ireturn, 1) := by decide +kernel
theorem dX12_expects_40 : decode kX12_expects.2.1 40 = .ok (.iload_n 2, 1) := by decide +kernel
theorem dX12_expects_41 : decode kX12_expects.2.1 41 = .ok (.istore 4, 2) := by decide +kernel
theorem dX12_expects_43 : decode kX12_expects.2.1 43 = .ok (.aload_n 0, 1) := by decide +kernel
theorem dX12_expects_44 : decode kX12_expects.2.1 44 = .ok (.iload_n 1, 1) := by decide +kernel
theorem dX12_expects_45 : decode kX12_expects.2.1 45 = .ok (.iconst 1, 1) := by decide +kernel
theorem dX12_expects_46 : decode kX12_expects.2.1 46 = .ok (.invokevirtual 333, 3) := by decide +kernel
theorem dX12_expects_49 : decode kX12_expects.2.1 49 = .ok (.istore 5, 2) := by decide +kernel
theorem dX12_expects_51 : decode kX12_expects.2.1 51 = .ok (.aload_n 0, 1) := by decide +kernel
theorem dX12_expects_52 : decode kX12_expects.2.1 52 = .ok (.iload_n 1, 1) := by decide +kernel
theorem dX12_expects_53 : decode kX12_expects.2.1 53 = .ok (.iconst 0, 1) := by decide +kernel
theorem dX12_expects_54 : decode kX12_expects.2.1 54 = .ok (.invokevirtual 333, 3) := by decide +kernel
theorem dX12_expects_57 : decode kX12_expects.2.1 57 = .ok (.istore 6, 2) := by decide +kernel
theorem dX12_expects_59 : decode kX12_expects.2.1 59 = .ok (.iconst 2, 1) := by decide +kernel
theorem dX12_expects_60 : decode kX12_expects.2.1 60 = .ok (.istore 7, 2) := by decide +kernel
theorem dX12_expects_62 : decode kX12_expects.2.1 62 = .ok (.iload 7, 2) := by decide +kernel
theorem dX12_expects_64 : decode kX12_expects.2.1 64 = .ok (.iload_n 3, 1) := by decide +kernel
theorem dX12_expects_65 : decode kX12_expects.2.1 65 = .ok (.if_icmp .gt 28, 3) := by decide +kernel
theorem dX12_expects_68 : decode kX12_expects.2.1 68 = .ok (.aload_n 0, 1) := by decide +kernel
theorem dX12_expects_69 : decode kX12_expects.2.1 69 = .ok (.iload_n 1, 1) := by decide +kernel
theorem dX12_expects_70 : decode kX12_expects.2.1 70 = .ok (.iload 4, 2) := by decide +kernel
theorem dX12_expects_72 : decode kX12_expects.2.1 72 = .ok (.invokevirtual 424, 3) := by decide +kernel
theorem dX12_expects_75 : decode kX12_expects.2.1 75 = .ok (.ifCond .eq 8, 3) := by decide +kernel
theorem dX12_expects_78 : decode kX12_expects.2.1 78 = .ok (.iload 5, 2) := by decide +kernel
theorem dX12_expects_80 : decode kX12_expects.2.1 80 = .ok (.goto 5, 3) := by decide +kernel
theorem dX12_expects_83 : decode kX12_expects.2.1 83 = .ok (.iload 6, 2) := by decide +kernel
theorem dX12_expects_85 : decode kX12_expects.2.1 85 = .ok (.istore 4, 2) := by decide +kernel
theorem dX12_expects_87 : decode kX12_expects.2.1 87 = .ok (.iinc 7 2, 3) := by decide +kernel
theorem dX12_expects_90 : decode kX12_expects.2.1 90 = .ok (.goto (-28), 3) := by decide +kernel
theorem dX12_expects_93 : decode kX12_expects.2.1 93 = .ok (.iload_n 3, 1) := by decide +kernel
theorem dX12_expects_94 : decode kX12_expects.2.1 94 = .ok (.iconst 2, 1) := by decide +kernel
theorem dX12_expects_95 : decode kX12_expects.2.1 95 = .ok (.irem, 1) := by decide +kernel
theorem dX12_expects_96 : decode kX12_expects.2.1 96 = .ok (.ifCond .ne 8, 3) := by decide +kernel
theorem dX12_expects_99 : decode kX12_expects.2.1 99 = .ok (.iload 4, 2) := by decide +kernel
theorem dX12_expects_101 : decode kX12_expects.2.1 101 = .ok (.goto 18, 3) := by decide +kernel
theorem dX12_expects_104 : decode kX12_expects.2.1 104 = .ok (.aload_n 0, 1) := by decide +kernel
theorem dX12_expects_105 : decode kX12_expects.2.1 105 = .ok (.iload_n 1, 1) := by decide +kernel
theorem dX12_expects_106 : decode kX12_expects.2.1 106 = .ok (.iload 4, 2) := by decide +kernel
theorem dX12_expects_108 : decode kX12_expects.2.1 108 = .ok (.invokevirtual 424, 3) := by decide +kernel
theorem dX12_expects_111 : decode kX12_expects.2.1 111 = .ok (.ifCond .eq 7, 3) := by decide +kernel
theorem dX12_expects_114 : decode kX12_expects.2.1 114 = .ok (.iconst 1, 1) := by decide +kernel
theorem dX12_expects_115 : decode kX12_expects.2.1 115 = .ok (.goto 4, 3) := by decide +kernel
theorem dX12_expects_118 : decode kX12_expects.2.1 118 = .ok (.iconst 0, 1) := by decide +kernel
theorem dX12_expects_119 : decode kX12_expects.2.1 119 = .ok (.ireturn, 1) := by decide +kernel
theorem dX12_rests_0 : decode kX12_rests.2.1 0 = .ok (.aload_n 0, 1) := by decide +kernel
theorem dX12_rests_1 : decode kX12_rests.2.1 1 = .ok (.iconst 0, 1) := by decide +kernel
theorem dX12_rests_2 : decode kX12_rests.2.1 2 = .ok (.putfield 1, 3) := by decide +kernel
theorem dX12_rests_5 : decode kX12_rests.2.1 5 = .ok (.aload_n 0, 1) := by decide +kernel
theorem dX12_rests_6 : decode kX12_rests.2.1 6 = .ok (.iload_n 1, 1) := by decide +kernel
theorem dX12_rests_7 : decode kX12_rests.2.1 7 = .ok (.i2l, 1) := by decide +kernel
theorem dX12_rests_8 : decode kX12_rests.2.1 8 = .ok (.invokevirtual 236, 3) := by decide +kernel
theorem dX12_rests_11 : decode kX12_rests.2.1 11 = .ok (.ifCond .eq 11, 3) := by decide +kernel
theorem dX12_rests_14 : decode kX12_rests.2.1 14 = .ok (.iload_n 2, 1) := by decide +kernel
theorem dX12_rests_15 : decode kX12_rests.2.1 15 = .ok (.i2l, 1) := by decide +kernel
theorem dX12_rests_16 : decode kX12_rests.2.1 16 = .ok (.invokestatic 241, 3) := by decide +kernel
theorem dX12_rests_19 : decode kX12_rests.2.1 19 = .ok (.ifCond .ne 6, 3) := by decide +kernel
theorem dX12_rests_22 : decode kX12_rests.2.1 22 = .ok (.bipush (-2), 2) := by decide +kernel
theorem dX12_rests_24 : decode kX12_rests.2.1 24 = .ok (.ireturn, 1) := by decide +kernel
theorem dX12_rests_25 : decode kX12_rests.2.1 25 = .ok (.iload_n 2, 1) := by decide +kernel
theorem dX12_rests_26 : decode kX12_rests.2.1 26 = .ok (.istore_n 3, 1) := by decide +kernel
theorem dX12_rests_27 : decode kX12_rests.2.1 27 = .ok (.aload_n 0, 1) := by decide +kernel
theorem dX12_rests_28 : decode kX12_rests.2.1 28 = .ok (.iload_n 1, 1) := by decide +kernel
theorem dX12_rests_29 : decode kX12_rests.2.1 29 = .ok (.iconst 1, 1) := by decide +kernel
theorem dX12_rests_30 : decode kX12_rests.2.1 30 = .ok (.invokevirtual 333, 3) := by decide +kernel
theorem dX12_rests_33 : decode kX12_rests.2.1 33 = .ok (.istore 4, 2) := by decide +kernel
theorem dX12_rests_35 : decode kX12_rests.2.1 35 = .ok (.aload_n 0, 1) := by decide +kernel
theorem dX12_rests_36 : decode kX12_rests.2.1 36 = .ok (.iload_n 1, 1) := by decide +kernel
theorem dX12_rests_37 : decode kX12_rests.2.1 37 = .ok (.iconst 0, 1) := by decide +kernel
theorem dX12_rests_38 : decode kX12_rests.2.1 38 = .ok (.invokevirtual 333, 3) := by decide +kernel
theorem dX12_rests_41 : decode kX12_rests.2.1 41 = .ok (.istore 5, 2) := by decide +kernel
theorem dX12_rests_43 : decode kX12_rests.2.1 43 = .ok (.iconst 0, 1) := by decide +kernel
theorem dX12_rests_44 : decode kX12_rests.2.1 44 = .ok (.istore 6, 2) := by decide +kernel
theorem dX12_rests_46 : decode kX12_rests.2.1 46 = .ok (.iload 6, 2) := by decide +kernel
theorem dX12_rests_48 : decode kX12_rests.2.1 48 = .ok (.bipush 8, 2) := by decide +kernel
theorem dX12_rests_50 : decode kX12_rests.2.1 50 = .ok (.if_icmp .ge 38, 3) := by decide +kernel
theorem dX12_rests_53 : decode kX12_rests.2.1 53 = .ok (.aload_n 0, 1) := by decide +kernel
theorem dX12_rests_54 : decode kX12_rests.2.1 54 = .ok (.iload_n 1, 1) := by decide +kernel
theorem dX12_rests_55 : decode kX12_rests.2.1 55 = .ok (.iload_n 3, 1) := by decide +kernel
theorem dX12_rests_56 : decode kX12_rests.2.1 56 = .ok (.invokevirtual 424, 3) := by decide +kernel
theorem dX12_rests_59 : decode kX12_rests.2.1 59 = .ok (.ifCond .eq 8, 3) := by decide +kernel
theorem dX12_rests_62 : decode kX12_rests.2.1 62 = .ok (.iload 4, 2) := by decide +kernel
theorem dX12_rests_64 : decode kX12_rests.2.1 64 = .ok (.goto 5, 3) := by decide +kernel
theorem dX12_rests_67 : decode kX12_rests.2.1 67 = .ok (.iload 5, 2) := by decide +kernel
theorem dX12_rests_69 : decode kX12_rests.2.1 69 = .ok (.istore 7, 2) := by decide +kernel
theorem dX12_rests_71 : decode kX12_rests.2.1 71 = .ok (.iload 7, 2) := by decide +kernel
theorem dX12_rests_73 : decode kX12_rests.2.1 73 = .ok (.iload_n 3, 1) := by decide +kernel
theorem dX12_rests_74 : decode kX12_rests.2.1 74 = .ok (.if_icmp .ne 5, 3) := by decide +kernel
theorem dX12_rests_77 : decode kX12_rests.2.1 77 = .ok (.iconst 1, 1) := by decide +kernel
theorem dX12_rests_78 : decode kX12_rests.2.1 78 = .ok (.ireturn, 1) := by decide +kernel
theorem dX12_rests_79 : decode kX12_rests.2.1 79 = .ok (.iload 7, 2) := by decide +kernel
theorem dX12_rests_81 : decode kX12_rests.2.1 81 = .ok (.istore_n 3, 1) := by decide +kernel
theorem dX12_rests_82 : decode kX12_rests.2.1 82 = .ok (.iinc 6 1, 3) := by decide +kernel
theorem dX12_rests_85 : decode kX12_rests.2.1 85 = .ok (.goto (-39), 3) := by decide +kernel
theorem dX12_rests_88 : decode kX12_rests.2.1 88 = .ok (.iconst 0, 1) := by decide +kernel
theorem dX12_rests_89 : decode kX12_rests.2.1 89 = .ok (.ireturn, 1) := by decide +kernel
theorem dX12_leastOf_0 : decode kX12_leastOf.2.1 0 = .ok (.aload_n 0, 1) := by decide +kernel
theorem dX12_leastOf_1 : decode kX12_leastOf.2.1 1 = .ok (.iload_n 1, 1) := by decide +kernel
theorem dX12_leastOf_2 : decode kX12_leastOf.2.1 2 = .ok (.iload_n 2, 1) := by decide +kernel
theorem dX12_leastOf_3 : decode kX12_leastOf.2.1 3 = .ok (.aload_n 0, 1) := by decide +kernel
theorem dX12_leastOf_4 : decode kX12_leastOf.2.1 4 = .ok (.getfield 13, 3) := by decide +kernel
theorem dX12_leastOf_7 : decode kX12_leastOf.2.1 7 = .ok (.bipush 21, 2) := by decide +kernel
theorem dX12_leastOf_9 : decode kX12_leastOf.2.1 9 = .ok (.iload_n 1, 1) := by decide +kernel
theorem dX12_leastOf_10 : decode kX12_leastOf.2.1 10 = .ok (.iadd, 1) := by decide +kernel
theorem dX12_leastOf_11 : decode kX12_leastOf.2.1 11 = .ok (.iaload, 1) := by decide +kernel
theorem dX12_leastOf_12 : decode kX12_leastOf.2.1 12 = .ok (.iconst 1, 1) := by decide +kernel
theorem dX12_leastOf_13 : decode kX12_leastOf.2.1 13 = .ok (.invokevirtual 315, 3) := by decide +kernel
theorem dX12_leastOf_16 : decode kX12_leastOf.2.1 16 = .ok (.istore_n 3, 1) := by decide +kernel
theorem dX12_leastOf_17 : decode kX12_leastOf.2.1 17 = .ok (.aload_n 0, 1) := by decide +kernel
theorem dX12_leastOf_18 : decode kX12_leastOf.2.1 18 = .ok (.iload_n 1, 1) := by decide +kernel
theorem dX12_leastOf_19 : decode kX12_leastOf.2.1 19 = .ok (.iload_n 2, 1) := by decide +kernel
theorem dX12_leastOf_20 : decode kX12_leastOf.2.1 20 = .ok (.aload_n 0, 1) := by decide +kernel
theorem dX12_leastOf_21 : decode kX12_leastOf.2.1 21 = .ok (.getfield 13, 3) := by decide +kernel
theorem dX12_leastOf_24 : decode kX12_leastOf.2.1 24 = .ok (.bipush 21, 2) := by decide +kernel
theorem dX12_leastOf_26 : decode kX12_leastOf.2.1 26 = .ok (.iload_n 1, 1) := by decide +kernel
theorem dX12_leastOf_27 : decode kX12_leastOf.2.1 27 = .ok (.iadd, 1) := by decide +kernel
theorem dX12_leastOf_28 : decode kX12_leastOf.2.1 28 = .ok (.iaload, 1) := by decide +kernel
theorem dX12_leastOf_29 : decode kX12_leastOf.2.1 29 = .ok (.iconst 0, 1) := by decide +kernel
theorem dX12_leastOf_30 : decode kX12_leastOf.2.1 30 = .ok (.invokevirtual 315, 3) := by decide +kernel
theorem dX12_leastOf_33 : decode kX12_leastOf.2.1 33 = .ok (.istore 4, 2) := by decide +kernel
theorem dX12_leastOf_35 : decode kX12_leastOf.2.1 35 = .ok (.iload_n 3, 1) := by decide +kernel
theorem dX12_leastOf_36 : decode kX12_leastOf.2.1 36 = .ok (.iload 4, 2) := by decide +kernel
theorem dX12_leastOf_38 : decode kX12_leastOf.2.1 38 = .ok (.if_icmp .ge 7, 3) := by decide +kernel
theorem dX12_leastOf_41 : decode kX12_leastOf.2.1 41 = .ok (.iload_n 3, 1) := by decide +kernel
theorem dX12_leastOf_42 : decode kX12_leastOf.2.1 42 = .ok (.goto 5, 3) := by decide +kernel
theorem dX12_leastOf_45 : decode kX12_leastOf.2.1 45 = .ok (.iload 4, 2) := by decide +kernel
theorem dX12_leastOf_47 : decode kX12_leastOf.2.1 47 = .ok (.ireturn, 1) := by decide +kernel
theorem dX12_guards_0 : decode kX12_guards.2.1 0 = .ok (.aload_n 0, 1) := by decide +kernel
theorem dX12_guards_1 : decode kX12_guards.2.1 1 = .ok (.iconst 0, 1) := by decide +kernel
theorem dX12_guards_2 : decode kX12_guards.2.1 2 = .ok (.putfield 1, 3) := by decide +kernel
theorem dX12_guards_5 : decode kX12_guards.2.1 5 = .ok (.aload_n 0, 1) := by decide +kernel
theorem dX12_guards_6 : decode kX12_guards.2.1 6 = .ok (.iload_n 1, 1) := by decide +kernel
theorem dX12_guards_7 : decode kX12_guards.2.1 7 = .ok (.i2l, 1) := by decide +kernel
theorem dX12_guards_8 : decode kX12_guards.2.1 8 = .ok (.invokevirtual 236, 3) := by decide +kernel
theorem dX12_guards_11 : decode kX12_guards.2.1 11 = .ok (.ifCond .ne 6, 3) := by decide +kernel
theorem dX12_guards_14 : decode kX12_guards.2.1 14 = .ok (.bipush (-2), 2) := by decide +kernel
theorem dX12_guards_16 : decode kX12_guards.2.1 16 = .ok (.ireturn, 1) := by decide +kernel
theorem dX12_guards_17 : decode kX12_guards.2.1 17 = .ok (.iconst 0, 1) := by decide +kernel
theorem dX12_guards_18 : decode kX12_guards.2.1 18 = .ok (.istore_n 2, 1) := by decide +kernel
theorem dX12_guards_19 : decode kX12_guards.2.1 19 = .ok (.iconst 1, 1) := by decide +kernel
theorem dX12_guards_20 : decode kX12_guards.2.1 20 = .ok (.istore_n 3, 1) := by decide +kernel
theorem dX12_guards_21 : decode kX12_guards.2.1 21 = .ok (.iload_n 3, 1) := by decide +kernel
theorem dX12_guards_22 : decode kX12_guards.2.1 22 = .ok (.bipush 21, 2) := by decide +kernel
theorem dX12_guards_24 : decode kX12_guards.2.1 24 = .ok (.if_icmp .ge 26, 3) := by decide +kernel
theorem dX12_guards_27 : decode kX12_guards.2.1 27 = .ok (.aload_n 0, 1) := by decide +kernel
theorem dX12_guards_28 : decode kX12_guards.2.1 28 = .ok (.iload_n 1, 1) := by decide +kernel
theorem dX12_guards_29 : decode kX12_guards.2.1 29 = .ok (.iload_n 3, 1) := by decide +kernel
theorem dX12_guards_30 : decode kX12_guards.2.1 30 = .ok (.invokevirtual 427, 3) := by decide +kernel
theorem dX12_guards_33 : decode kX12_guards.2.1 33 = .ok (.aload_n 0, 1) := by decide +kernel
theorem dX12_guards_34 : decode kX12_guards.2.1 34 = .ok (.iload_n 1, 1) := by decide +kernel
theorem dX12_guards_35 : decode kX12_guards.2.1 35 = .ok (.iload_n 2, 1) := by decide +kernel
theorem dX12_guards_36 : decode kX12_guards.2.1 36 = .ok (.invokevirtual 427, 3) := by decide +kernel
theorem dX12_guards_39 : decode kX12_guards.2.1 39 = .ok (.if_icmp .le 5, 3) := by decide +kernel
theorem dX12_guards_42 : decode kX12_guards.2.1 42 = .ok (.iload_n 3, 1) := by decide +kernel
theorem dX12_guards_43 : decode kX12_guards.2.1 43 = .ok (.istore_n 2, 1) := by decide +kernel
theorem dX12_guards_44 : decode kX12_guards.2.1 44 = .ok (.iinc 3 1, 3) := by decide +kernel
theorem dX12_guards_47 : decode kX12_guards.2.1 47 = .ok (.goto (-26), 3) := by decide +kernel
theorem dX12_guards_50 : decode kX12_guards.2.1 50 = .ok (.iload_n 2, 1) := by decide +kernel
theorem dX12_guards_51 : decode kX12_guards.2.1 51 = .ok (.ireturn, 1) := by decide +kernel
theorem dX12_cut_0 : decode kX12_cut.2.1 0 = .ok (.iload_n 2, 1) := by decide +kernel
theorem dX12_cut_1 : decode kX12_cut.2.1 1 = .ok (.ifCond .ne 10, 3) := by decide +kernel
theorem dX12_cut_4 : decode kX12_cut.2.1 4 = .ok (.lload_n 0, 1) := by decide +kernel
theorem dX12_cut_5 : decode kX12_cut.2.1 5 = .ok (.l2i, 1) := by decide +kernel
theorem dX12_cut_6 : decode kX12_cut.2.1 6 = .ok (.i2b, 1) := by decide +kernel
theorem dX12_cut_7 : decode kX12_cut.2.1 7 = .ok (.i2l, 1) := by decide +kernel
theorem dX12_cut_8 : decode kX12_cut.2.1 8 = .ok (.goto 27, 3) := by decide +kernel
theorem dX12_cut_11 : decode kX12_cut.2.1 11 = .ok (.iload_n 2, 1) := by decide +kernel
theorem dX12_cut_12 : decode kX12_cut.2.1 12 = .ok (.iconst 1, 1) := by decide +kernel
theorem dX12_cut_13 : decode kX12_cut.2.1 13 = .ok (.if_icmp .ne 10, 3) := by decide +kernel
theorem dX12_cut_16 : decode kX12_cut.2.1 16 = .ok (.lload_n 0, 1) := by decide +kernel
theorem dX12_cut_17 : decode kX12_cut.2.1 17 = .ok (.l2i, 1) := by decide +kernel
theorem dX12_cut_18 : decode kX12_cut.2.1 18 = .ok (.i2s, 1) := by decide +kernel
theorem dX12_cut_19 : decode kX12_cut.2.1 19 = .ok (.i2l, 1) := by decide +kernel
theorem dX12_cut_20 : decode kX12_cut.2.1 20 = .ok (.goto 15, 3) := by decide +kernel
theorem dX12_cut_23 : decode kX12_cut.2.1 23 = .ok (.iload_n 2, 1) := by decide +kernel
theorem dX12_cut_24 : decode kX12_cut.2.1 24 = .ok (.iconst 2, 1) := by decide +kernel
theorem dX12_cut_25 : decode kX12_cut.2.1 25 = .ok (.if_icmp .ne 9, 3) := by decide +kernel
theorem dX12_cut_28 : decode kX12_cut.2.1 28 = .ok (.lload_n 0, 1) := by decide +kernel
theorem dX12_cut_29 : decode kX12_cut.2.1 29 = .ok (.l2i, 1) := by decide +kernel
theorem dX12_cut_30 : decode kX12_cut.2.1 30 = .ok (.i2l, 1) := by decide +kernel
theorem dX12_cut_31 : decode kX12_cut.2.1 31 = .ok (.goto 4, 3) := by decide +kernel
theorem dX12_cut_34 : decode kX12_cut.2.1 34 = .ok (.lload_n 0, 1) := by decide +kernel
theorem dX12_cut_35 : decode kX12_cut.2.1 35 = .ok (.lreturn, 1) := by decide +kernel
theorem dX12_numbers_0 : decode kX12_numbers.2.1 0 = .ok (.aload_n 0, 1) := by decide +kernel
theorem dX12_numbers_1 : decode kX12_numbers.2.1 1 = .ok (.iconst 0, 1) := by decide +kernel
theorem dX12_numbers_2 : decode kX12_numbers.2.1 2 = .ok (.putfield 1, 3) := by decide +kernel
theorem dX12_numbers_5 : decode kX12_numbers.2.1 5 = .ok (.iload_n 1, 1) := by decide +kernel
theorem dX12_numbers_6 : decode kX12_numbers.2.1 6 = .ok (.i2l, 1) := by decide +kernel
theorem dX12_numbers_7 : decode kX12_numbers.2.1 7 = .ok (.lconst 0, 1) := by decide +kernel
theorem dX12_numbers_8 : decode kX12_numbers.2.1 8 = .ok (.ldc2_w 292, 3) := by decide +kernel
theorem dX12_numbers_11 : decode kX12_numbers.2.1 11 = .ok (.invokestatic 142, 3) := by decide +kernel
theorem dX12_numbers_14 : decode kX12_numbers.2.1 14 = .ok (.ifCond .eq 15, 3) := by decide +kernel
theorem dX12_numbers_17 : decode kX12_numbers.2.1 17 = .ok (.iload_n 2, 1) := by decide +kernel
theorem dX12_numbers_18 : decode kX12_numbers.2.1 18 = .ok (.i2l, 1) := by decide +kernel
theorem dX12_numbers_19 : decode kX12_numbers.2.1 19 = .ok (.lconst 0, 1) := by decide +kernel
theorem dX12_numbers_20 : decode kX12_numbers.2.1 20 = .ok (.ldc2_w 292, 3) := by decide +kernel
theorem dX12_numbers_23 : decode kX12_numbers.2.1 23 = .ok (.invokestatic 142, 3) := by decide +kernel
theorem dX12_numbers_26 : decode kX12_numbers.2.1 26 = .ok (.ifCond .ne 6, 3) := by decide +kernel
theorem dX12_numbers_29 : decode kX12_numbers.2.1 29 = .ok (.bipush (-2), 2) := by decide +kernel
theorem dX12_numbers_31 : decode kX12_numbers.2.1 31 = .ok (.ireturn, 1) := by decide +kernel
theorem dX12_numbers_32 : decode kX12_numbers.2.1 32 = .ok (.iload_n 3, 1) := by decide +kernel
theorem dX12_numbers_33 : decode kX12_numbers.2.1 33 = .ok (.i2l, 1) := by decide +kernel
theorem dX12_numbers_34 : decode kX12_numbers.2.1 34 = .ok (.lconst 0, 1) := by decide +kernel
theorem dX12_numbers_35 : decode kX12_numbers.2.1 35 = .ok (.ldc2_w 310, 3) := by decide +kernel
theorem dX12_numbers_38 : decode kX12_numbers.2.1 38 = .ok (.invokestatic 142, 3) := by decide +kernel
theorem dX12_numbers_41 : decode kX12_numbers.2.1 41 = .ok (.ifCond .ne 6, 3) := by decide +kernel
theorem dX12_numbers_44 : decode kX12_numbers.2.1 44 = .ok (.bipush (-3), 2) := by decide +kernel
theorem dX12_numbers_46 : decode kX12_numbers.2.1 46 = .ok (.ireturn, 1) := by decide +kernel
theorem dX12_numbers_47 : decode kX12_numbers.2.1 47 = .ok (.aload_n 0, 1) := by decide +kernel
theorem dX12_numbers_48 : decode kX12_numbers.2.1 48 = .ok (.getfield 67, 3) := by decide +kernel
theorem dX12_numbers_51 : decode kX12_numbers.2.1 51 = .ok (.iload_n 1, 1) := by decide +kernel
theorem dX12_numbers_52 : decode kX12_numbers.2.1 52 = .ok (.iload_n 2, 1) := by decide +kernel
theorem dX12_numbers_53 : decode kX12_numbers.2.1 53 = .ok (.iastore, 1) := by decide +kernel
theorem dX12_numbers_54 : decode kX12_numbers.2.1 54 = .ok (.aload_n 0, 1) := by decide +kernel
theorem dX12_numbers_55 : decode kX12_numbers.2.1 55 = .ok (.getfield 70, 3) := by decide +kernel
theorem dX12_numbers_58 : decode kX12_numbers.2.1 58 = .ok (.iload_n 1, 1) := by decide +kernel
theorem dX12_numbers_59 : decode kX12_numbers.2.1 59 = .ok (.iload_n 3, 1) := by decide +kernel
theorem dX12_numbers_60 : decode kX12_numbers.2.1 60 = .ok (.iastore, 1) := by decide +kernel
theorem dX12_numbers_61 : decode kX12_numbers.2.1 61 = .ok (.iconst 0, 1) := by decide +kernel
theorem dX12_numbers_62 : decode kX12_numbers.2.1 62 = .ok (.istore 4, 2) := by decide +kernel
theorem dX12_numbers_64 : decode kX12_numbers.2.1 64 = .ok (.iload 4, 2) := by decide +kernel
theorem dX12_numbers_66 : decode kX12_numbers.2.1 66 = .ok (.iload_n 3, 1) := by decide +kernel
theorem dX12_numbers_67 : decode kX12_numbers.2.1 67 = .ok (.if_icmp .ge 22, 3) := by decide +kernel
theorem dX12_numbers_70 : decode kX12_numbers.2.1 70 = .ok (.aload_n 0, 1) := by decide +kernel
theorem dX12_numbers_71 : decode kX12_numbers.2.1 71 = .ok (.getfield 73, 3) := by decide +kernel
theorem dX12_numbers_74 : decode kX12_numbers.2.1 74 = .ok (.bipush 40, 2) := by decide +kernel
theorem dX12_numbers_76 : decode kX12_numbers.2.1 76 = .ok (.iload_n 1, 1) := by decide +kernel
theorem dX12_numbers_77 : decode kX12_numbers.2.1 77 = .ok (.imul, 1) := by decide +kernel
theorem dX12_numbers_78 : decode kX12_numbers.2.1 78 = .ok (.iload 4, 2) := by decide +kernel
theorem dX12_numbers_80 : decode kX12_numbers.2.1 80 = .ok (.iadd, 1) := by decide +kernel
theorem dX12_numbers_81 : decode kX12_numbers.2.1 81 = .ok (.lconst 0, 1) := by decide +kernel
theorem dX12_numbers_82 : decode kX12_numbers.2.1 82 = .ok (.lastore, 1) := by decide +kernel
theorem dX12_numbers_83 : decode kX12_numbers.2.1 83 = .ok (.iinc 4 1, 3) := by decide +kernel
theorem dX12_numbers_86 : decode kX12_numbers.2.1 86 = .ok (.goto (-22), 3) := by decide +kernel
theorem dX12_numbers_89 : decode kX12_numbers.2.1 89 = .ok (.iconst 0, 1) := by decide +kernel
theorem dX12_numbers_90 : decode kX12_numbers.2.1 90 = .ok (.ireturn, 1) := by decide +kernel
theorem dX12_write_0 : decode kX12_write.2.1 0 = .ok (.aload_n 0, 1) := by decide +kernel
theorem dX12_write_1 : decode kX12_write.2.1 1 = .ok (.iconst 0, 1) := by decide +kernel
theorem dX12_write_2 : decode kX12_write.2.1 2 = .ok (.putfield 1, 3) := by decide +kernel
theorem dX12_write_5 : decode kX12_write.2.1 5 = .ok (.aload_n 0, 1) := by decide +kernel
theorem dX12_write_6 : decode kX12_write.2.1 6 = .ok (.iload_n 1, 1) := by decide +kernel
theorem dX12_write_7 : decode kX12_write.2.1 7 = .ok (.invokevirtual 294, 3) := by decide +kernel
theorem dX12_write_10 : decode kX12_write.2.1 10 = .ok (.istore 5, 2) := by decide +kernel
theorem dX12_write_12 : decode kX12_write.2.1 12 = .ok (.iload 5, 2) := by decide +kernel
theorem dX12_write_14 : decode kX12_write.2.1 14 = .ok (.ifCond .eq 7, 3) := by decide +kernel
theorem dX12_write_17 : decode kX12_write.2.1 17 = .ok (.iload 5, 2) := by decide +kernel
theorem dX12_write_19 : decode kX12_write.2.1 19 = .ok (.i2l, 1) := by decide +kernel
theorem dX12_write_20 : decode kX12_write.2.1 20 = .ok (.lreturn, 1) := by decide +kernel
theorem dX12_write_21 : decode kX12_write.2.1 21 = .ok (.iload_n 2, 1) := by decide +kernel
theorem dX12_write_22 : decode kX12_write.2.1 22 = .ok (.i2l, 1) := by decide +kernel
theorem dX12_write_23 : decode kX12_write.2.1 23 = .ok (.lconst 0, 1) := by decide +kernel
theorem dX12_write_24 : decode kX12_write.2.1 24 = .ok (.aload_n 0, 1) := by decide +kernel
theorem dX12_write_25 : decode kX12_write.2.1 25 = .ok (.getfield 70, 3) := by decide +kernel
theorem dX12_write_28 : decode kX12_write.2.1 28 = .ok (.iload_n 1, 1) := by decide +kernel
theorem dX12_write_29 : decode kX12_write.2.1 29 = .ok (.iaload, 1) := by decide +kernel
theorem dX12_write_30 : decode kX12_write.2.1 30 = .ok (.iconst 1, 1) := by decide +kernel
theorem dX12_write_31 : decode kX12_write.2.1 31 = .ok (.isub, 1) := by decide +kernel
theorem dX12_write_32 : decode kX12_write.2.1 32 = .ok (.i2l, 1) := by decide +kernel
theorem dX12_write_33 : decode kX12_write.2.1 33 = .ok (.invokestatic 142, 3) := by decide +kernel
theorem dX12_write_36 : decode kX12_write.2.1 36 = .ok (.ifCond .ne 7, 3) := by decide +kernel
theorem dX12_write_39 : decode kX12_write.2.1 39 = .ok (.ldc2_w 430, 3) := by decide +kernel
theorem dX12_write_42 : decode kX12_write.2.1 42 = .ok (.lreturn, 1) := by decide +kernel
theorem dX12_write_43 : decode kX12_write.2.1 43 = .ok (.aload_n 0, 1) := by decide +kernel
theorem dX12_write_44 : decode kX12_write.2.1 44 = .ok (.getfield 73, 3) := by decide +kernel
theorem dX12_write_47 : decode kX12_write.2.1 47 = .ok (.bipush 40, 2) := by decide +kernel
theorem dX12_write_49 : decode kX12_write.2.1 49 = .ok (.iload_n 1, 1) := by decide +kernel
theorem dX12_write_50 : decode kX12_write.2.1 50 = .ok (.imul, 1) := by decide +kernel
theorem dX12_write_51 : decode kX12_write.2.1 51 = .ok (.iload_n 2, 1) := by decide +kernel
theorem dX12_write_52 : decode kX12_write.2.1 52 = .ok (.iadd, 1) := by decide +kernel
theorem dX12_write_53 : decode kX12_write.2.1 53 = .ok (.lload_n 3, 1) := by decide +kernel
theorem dX12_write_54 : decode kX12_write.2.1 54 = .ok (.aload_n 0, 1) := by decide +kernel
theorem dX12_write_55 : decode kX12_write.2.1 55 = .ok (.getfield 67, 3) := by decide +kernel
theorem dX12_write_58 : decode kX12_write.2.1 58 = .ok (.iload_n 1, 1) := by decide +kernel
theorem dX12_write_59 : decode kX12_write.2.1 59 = .ok (.iaload, 1) := by decide +kernel
theorem dX12_write_60 : decode kX12_write.2.1 60 = .ok (.invokestatic 432, 3) := by decide +kernel
theorem dX12_write_63 : decode kX12_write.2.1 63 = .ok (.lastore, 1) := by decide +kernel
theorem dX12_write_64 : decode kX12_write.2.1 64 = .ok (.aload_n 0, 1) := by decide +kernel
theorem dX12_write_65 : decode kX12_write.2.1 65 = .ok (.getfield 73, 3) := by decide +kernel
theorem dX12_write_68 : decode kX12_write.2.1 68 = .ok (.bipush 40, 2) := by decide +kernel
theorem dX12_write_70 : decode kX12_write.2.1 70 = .ok (.iload_n 1, 1) := by decide +kernel
theorem dX12_write_71 : decode kX12_write.2.1 71 = .ok (.imul, 1) := by decide +kernel
theorem dX12_write_72 : decode kX12_write.2.1 72 = .ok (.iload_n 2, 1) := by decide +kernel
theorem dX12_write_73 : decode kX12_write.2.1 73 = .ok (.iadd, 1) := by decide +kernel
theorem dX12_write_74 : decode kX12_write.2.1 74 = .ok (.laload, 1) := by decide +kernel
theorem dX12_write_75 : decode kX12_write.2.1 75 = .ok (.lreturn, 1) := by decide +kernel
theorem dX12_lists_0 : decode kX12_lists.2.1 0 = .ok (.aload_n 0, 1) := by decide +kernel
theorem dX12_lists_1 : decode kX12_lists.2.1 1 = .ok (.iconst 0, 1) := by decide +kernel
theorem dX12_lists_2 : decode kX12_lists.2.1 2 = .ok (.putfield 1, 3) := by decide +kernel
theorem dX12_lists_5 : decode kX12_lists.2.1 5 = .ok (.iload_n 1, 1) := by decide +kernel
theorem dX12_lists_6 : decode kX12_lists.2.1 6 = .ok (.i2l, 1) := by decide +kernel
theorem dX12_lists_7 : decode kX12_lists.2.1 7 = .ok (.lconst 0, 1) := by decide +kernel
theorem dX12_lists_8 : decode kX12_lists.2.1 8 = .ok (.ldc2_w 292, 3) := by decide +kernel
theorem dX12_lists_11 : decode kX12_lists.2.1 11 = .ok (.invokestatic 142, 3) := by decide +kernel
theorem dX12_lists_14 : decode kX12_lists.2.1 14 = .ok (.ifCond .eq 20, 3) := by decide +kernel
theorem dX12_lists_17 : decode kX12_lists.2.1 17 = .ok (.aload_n 0, 1) := by decide +kernel
theorem dX12_lists_18 : decode kX12_lists.2.1 18 = .ok (.iload_n 2, 1) := by decide +kernel
theorem dX12_lists_19 : decode kX12_lists.2.1 19 = .ok (.i2l, 1) := by decide +kernel
theorem dX12_lists_20 : decode kX12_lists.2.1 20 = .ok (.invokevirtual 236, 3) := by decide +kernel
theorem dX12_lists_23 : decode kX12_lists.2.1 23 = .ok (.ifCond .eq 11, 3) := by decide +kernel
theorem dX12_lists_26 : decode kX12_lists.2.1 26 = .ok (.iload_n 3, 1) := by decide +kernel
theorem dX12_lists_27 : decode kX12_lists.2.1 27 = .ok (.i2l, 1) := by decide +kernel
theorem dX12_lists_28 : decode kX12_lists.2.1 28 = .ok (.invokestatic 241, 3) := by decide +kernel
theorem dX12_lists_31 : decode kX12_lists.2.1 31 = .ok (.ifCond .ne 6, 3) := by decide +kernel
theorem dX12_lists_34 : decode kX12_lists.2.1 34 = .ok (.bipush (-2), 2) := by decide +kernel
theorem dX12_lists_36 : decode kX12_lists.2.1 36 = .ok (.ireturn, 1) := by decide +kernel
theorem dX12_lists_37 : decode kX12_lists.2.1 37 = .ok (.aload_n 0, 1) := by decide +kernel
theorem dX12_lists_38 : decode kX12_lists.2.1 38 = .ok (.iload_n 1, 1) := by decide +kernel
theorem dX12_lists_39 : decode kX12_lists.2.1 39 = .ok (.invokevirtual 294, 3) := by decide +kernel
theorem dX12_lists_42 : decode kX12_lists.2.1 42 = .ok (.istore 4, 2) := by decide +kernel
theorem dX12_lists_44 : decode kX12_lists.2.1 44 = .ok (.iload 4, 2) := by decide +kernel
theorem dX12_lists_46 : decode kX12_lists.2.1 46 = .ok (.ifCond .eq 6, 3) := by decide +kernel
theorem dX12_lists_49 : decode kX12_lists.2.1 49 = .ok (.iload 4, 2) := by decide +kernel
theorem dX12_lists_51 : decode kX12_lists.2.1 51 = .ok (.ireturn, 1) := by decide +kernel
theorem dX12_lists_52 : decode kX12_lists.2.1 52 = .ok (.aload_n 0, 1) := by decide +kernel
theorem dX12_lists_53 : decode kX12_lists.2.1 53 = .ok (.getfield 70, 3) := by decide +kernel
theorem dX12_lists_56 : decode kX12_lists.2.1 56 = .ok (.iload_n 1, 1) := by decide +kernel
theorem dX12_lists_57 : decode kX12_lists.2.1 57 = .ok (.iaload, 1) := by decide +kernel
theorem dX12_lists_58 : decode kX12_lists.2.1 58 = .ok (.bipush 10, 2) := by decide +kernel
theorem dX12_lists_60 : decode kX12_lists.2.1 60 = .ok (.if_icmp .ge 12, 3) := by decide +kernel
theorem dX12_lists_63 : decode kX12_lists.2.1 63 = .ok (.aload_n 0, 1) := by decide +kernel
theorem dX12_lists_64 : decode kX12_lists.2.1 64 = .ok (.getfield 70, 3) := by decide +kernel
theorem dX12_lists_67 : decode kX12_lists.2.1 67 = .ok (.iload_n 1, 1) := by decide +kernel
theorem dX12_lists_68 : decode kX12_lists.2.1 68 = .ok (.iaload, 1) := by decide +kernel
theorem dX12_lists_69 : decode kX12_lists.2.1 69 = .ok (.goto 5, 3) := by decide +kernel
theorem dX12_lists_72 : decode kX12_lists.2.1 72 = .ok (.bipush 10, 2) := by decide +kernel
theorem dX12_lists_74 : decode kX12_lists.2.1 74 = .ok (.istore 5, 2) := by decide +kernel
theorem dX12_lists_76 : decode kX12_lists.2.1 76 = .ok (.iconst 0, 1) := by decide +kernel
theorem dX12_lists_77 : decode kX12_lists.2.1 77 = .ok (.istore 6, 2) := by decide +kernel
theorem dX12_lists_79 : decode kX12_lists.2.1 79 = .ok (.iload 6, 2) := by decide +kernel
theorem dX12_lists_81 : decode kX12_lists.2.1 81 = .ok (.iload 5, 2) := by decide +kernel
theorem dX12_lists_83 : decode kX12_lists.2.1 83 = .ok (.if_icmp .ge 30, 3) := by decide +kernel
theorem dX12_lists_86 : decode kX12_lists.2.1 86 = .ok (.aload_n 0, 1) := by decide +kernel
theorem dX12_lists_87 : decode kX12_lists.2.1 87 = .ok (.getfield 73, 3) := by decide +kernel
theorem dX12_lists_90 : decode kX12_lists.2.1 90 = .ok (.bipush 40, 2) := by decide +kernel
theorem dX12_lists_92 : decode kX12_lists.2.1 92 = .ok (.iload_n 1, 1) := by decide +kernel
theorem dX12_lists_93 : decode kX12_lists.2.1 93 = .ok (.imul, 1) := by decide +kernel
theorem dX12_lists_94 : decode kX12_lists.2.1 94 = .ok (.iload 6, 2) := by decide +kernel
theorem dX12_lists_96 : decode kX12_lists.2.1 96 = .ok (.iadd, 1) := by decide +kernel
theorem dX12_lists_97 : decode kX12_lists.2.1 97 = .ok (.aload_n 0, 1) := by decide +kernel
theorem dX12_lists_98 : decode kX12_lists.2.1 98 = .ok (.iload_n 2, 1) := by decide +kernel
theorem dX12_lists_99 : decode kX12_lists.2.1 99 = .ok (.iload_n 3, 1) := by decide +kernel
theorem dX12_lists_100 : decode kX12_lists.2.1 100 = .ok (.iload 6, 2) := by decide +kernel
theorem dX12_lists_102 : decode kX12_lists.2.1 102 = .ok (.invokevirtual 247, 3) := by decide +kernel
theorem dX12_lists_105 : decode kX12_lists.2.1 105 = .ok (.i2l, 1) := by decide +kernel
theorem dX12_lists_106 : decode kX12_lists.2.1 106 = .ok (.lastore, 1) := by decide +kernel
theorem dX12_lists_107 : decode kX12_lists.2.1 107 = .ok (.iinc 6 1, 3) := by decide +kernel
theorem dX12_lists_110 : decode kX12_lists.2.1 110 = .ok (.goto (-31), 3) := by decide +kernel
theorem dX12_lists_113 : decode kX12_lists.2.1 113 = .ok (.iload 5, 2) := by decide +kernel
theorem dX12_lists_115 : decode kX12_lists.2.1 115 = .ok (.ireturn, 1) := by decide +kernel
theorem dX12_image_0 : decode kX12_image.2.1 0 = .ok (.aload_n 0, 1) := by decide +kernel
theorem dX12_image_1 : decode kX12_image.2.1 1 = .ok (.iconst 0, 1) := by decide +kernel
theorem dX12_image_2 : decode kX12_image.2.1 2 = .ok (.putfield 1, 3) := by decide +kernel
theorem dX12_image_5 : decode kX12_image.2.1 5 = .ok (.iload_n 1, 1) := by decide +kernel
theorem dX12_image_6 : decode kX12_image.2.1 6 = .ok (.i2l, 1) := by decide +kernel
theorem dX12_image_7 : decode kX12_image.2.1 7 = .ok (.lconst 0, 1) := by decide +kernel
theorem dX12_image_8 : decode kX12_image.2.1 8 = .ok (.lconst 1, 1) := by decide +kernel
theorem dX12_image_9 : decode kX12_image.2.1 9 = .ok (.invokestatic 142, 3) := by decide +kernel
theorem dX12_image_12 : decode kX12_image.2.1 12 = .ok (.ifCond .ne 6, 3) := by decide +kernel
theorem dX12_image_15 : decode kX12_image.2.1 15 = .ok (.bipush (-2), 2) := by decide +kernel
theorem dX12_image_17 : decode kX12_image.2.1 17 = .ok (.ireturn, 1) := by decide +kernel
theorem dX12_image_18 : decode kX12_image.2.1 18 = .ok (.iconst 0, 1) := by decide +kernel
theorem dX12_image_19 : decode kX12_image.2.1 19 = .ok (.istore_n 2, 1) := by decide +kernel
theorem dX12_image_20 : decode kX12_image.2.1 20 = .ok (.iload_n 2, 1) := by decide +kernel
theorem dX12_image_21 : decode kX12_image.2.1 21 = .ok (.sipush 1040, 3) := by decide +kernel
theorem dX12_image_24 : decode kX12_image.2.1 24 = .ok (.if_icmp .ge 29, 3) := by decide +kernel
theorem dX12_image_27 : decode kX12_image.2.1 27 = .ok (.aload_n 0, 1) := by decide +kernel
theorem dX12_image_28 : decode kX12_image.2.1 28 = .ok (.getfield 13, 3) := by decide +kernel
theorem dX12_image_31 : decode kX12_image.2.1 31 = .ok (.sipush 1040, 3) := by decide +kernel
theorem dX12_image_34 : decode kX12_image.2.1 34 = .ok (.iload_n 1, 1) := by decide +kernel
theorem dX12_image_35 : decode kX12_image.2.1 35 = .ok (.iconst 1, 1) := by decide +kernel
theorem dX12_image_36 : decode kX12_image.2.1 36 = .ok (.iadd, 1) := by decide +kernel
theorem dX12_image_37 : decode kX12_image.2.1 37 = .ok (.imul, 1) := by decide +kernel
theorem dX12_image_38 : decode kX12_image.2.1 38 = .ok (.iload_n 2, 1) := by decide +kernel
theorem dX12_image_39 : decode kX12_image.2.1 39 = .ok (.iadd, 1) := by decide +kernel
theorem dX12_image_40 : decode kX12_image.2.1 40 = .ok (.aload_n 0, 1) := by decide +kernel
theorem dX12_image_41 : decode kX12_image.2.1 41 = .ok (.getfield 13, 3) := by decide +kernel
theorem dX12_image_44 : decode kX12_image.2.1 44 = .ok (.iload_n 2, 1) := by decide +kernel
theorem dX12_image_45 : decode kX12_image.2.1 45 = .ok (.iaload, 1) := by decide +kernel
theorem dX12_image_46 : decode kX12_image.2.1 46 = .ok (.iastore, 1) := by decide +kernel
theorem dX12_image_47 : decode kX12_image.2.1 47 = .ok (.iinc 2 1, 3) := by decide +kernel
theorem dX12_image_50 : decode kX12_image.2.1 50 = .ok (.goto (-30), 3) := by decide +kernel
theorem dX12_image_53 : decode kX12_image.2.1 53 = .ok (.aload_n 0, 1) := by decide +kernel
theorem dX12_image_54 : decode kX12_image.2.1 54 = .ok (.getfield 17, 3) := by decide +kernel
theorem dX12_image_57 : decode kX12_image.2.1 57 = .ok (.iload_n 1, 1) := by decide +kernel
theorem dX12_image_58 : decode kX12_image.2.1 58 = .ok (.iconst 1, 1) := by decide +kernel
theorem dX12_image_59 : decode kX12_image.2.1 59 = .ok (.bastore, 1) := by decide +kernel
theorem dX12_image_60 : decode kX12_image.2.1 60 = .ok (.iconst 0, 1) := by decide +kernel
theorem dX12_image_61 : decode kX12_image.2.1 61 = .ok (.ireturn, 1) := by decide +kernel
theorem dX12_restore_0 : decode kX12_restore.2.1 0 = .ok (.aload_n 0, 1) := by decide +kernel
theorem dX12_restore_1 : decode kX12_restore.2.1 1 = .ok (.iconst 0, 1) := by decide +kernel
theorem dX12_restore_2 : decode kX12_restore.2.1 2 = .ok (.putfield 1, 3) := by decide +kernel
theorem dX12_restore_5 : decode kX12_restore.2.1 5 = .ok (.iload_n 1, 1) := by decide +kernel
theorem dX12_restore_6 : decode kX12_restore.2.1 6 = .ok (.i2l, 1) := by decide +kernel
theorem dX12_restore_7 : decode kX12_restore.2.1 7 = .ok (.lconst 0, 1) := by decide +kernel
theorem dX12_restore_8 : decode kX12_restore.2.1 8 = .ok (.lconst 1, 1) := by decide +kernel
theorem dX12_restore_9 : decode kX12_restore.2.1 9 = .ok (.invokestatic 142, 3) := by decide +kernel
theorem dX12_restore_12 : decode kX12_restore.2.1 12 = .ok (.ifCond .ne 6, 3) := by decide +kernel
theorem dX12_restore_15 : decode kX12_restore.2.1 15 = .ok (.bipush (-2), 2) := by decide +kernel
theorem dX12_restore_17 : decode kX12_restore.2.1 17 = .ok (.ireturn, 1) := by decide +kernel
theorem dX12_restore_18 : decode kX12_restore.2.1 18 = .ok (.aload_n 0, 1) := by decide +kernel
theorem dX12_restore_19 : decode kX12_restore.2.1 19 = .ok (.getfield 17, 3) := by decide +kernel
theorem dX12_restore_22 : decode kX12_restore.2.1 22 = .ok (.iload_n 1, 1) := by decide +kernel
theorem dX12_restore_23 : decode kX12_restore.2.1 23 = .ok (.baload, 1) := by decide +kernel
theorem dX12_restore_24 : decode kX12_restore.2.1 24 = .ok (.ifCond .ne 6, 3) := by decide +kernel
theorem dX12_restore_27 : decode kX12_restore.2.1 27 = .ok (.bipush (-5), 2) := by decide +kernel
theorem dX12_restore_29 : decode kX12_restore.2.1 29 = .ok (.ireturn, 1) := by decide +kernel
theorem dX12_restore_30 : decode kX12_restore.2.1 30 = .ok (.iconst 0, 1) := by decide +kernel
theorem dX12_restore_31 : decode kX12_restore.2.1 31 = .ok (.istore_n 2, 1) := by decide +kernel
theorem dX12_restore_32 : decode kX12_restore.2.1 32 = .ok (.iload_n 2, 1) := by decide +kernel
theorem dX12_restore_33 : decode kX12_restore.2.1 33 = .ok (.sipush 1040, 3) := by decide +kernel
theorem dX12_restore_36 : decode kX12_restore.2.1 36 = .ok (.if_icmp .ge 29, 3) := by decide +kernel
theorem dX12_restore_39 : decode kX12_restore.2.1 39 = .ok (.aload_n 0, 1) := by decide +kernel
theorem dX12_restore_40 : decode kX12_restore.2.1 40 = .ok (.getfield 13, 3) := by decide +kernel
theorem dX12_restore_43 : decode kX12_restore.2.1 43 = .ok (.iload_n 2, 1) := by decide +kernel
theorem dX12_restore_44 : decode kX12_restore.2.1 44 = .ok (.aload_n 0, 1) := by decide +kernel
theorem dX12_restore_45 : decode kX12_restore.2.1 45 = .ok (.getfield 13, 3) := by decide +kernel
theorem dX12_restore_48 : decode kX12_restore.2.1 48 = .ok (.sipush 1040, 3) := by decide +kernel
theorem dX12_restore_51 : decode kX12_restore.2.1 51 = .ok (.iload_n 1, 1) := by decide +kernel
theorem dX12_restore_52 : decode kX12_restore.2.1 52 = .ok (.iconst 1, 1) := by decide +kernel
theorem dX12_restore_53 : decode kX12_restore.2.1 53 = .ok (.iadd, 1) := by decide +kernel
theorem dX12_restore_54 : decode kX12_restore.2.1 54 = .ok (.imul, 1) := by decide +kernel
theorem dX12_restore_55 : decode kX12_restore.2.1 55 = .ok (.iload_n 2, 1) := by decide +kernel
theorem dX12_restore_56 : decode kX12_restore.2.1 56 = .ok (.iadd, 1) := by decide +kernel
theorem dX12_restore_57 : decode kX12_restore.2.1 57 = .ok (.iaload, 1) := by decide +kernel
theorem dX12_restore_58 : decode kX12_restore.2.1 58 = .ok (.iastore, 1) := by decide +kernel
theorem dX12_restore_59 : decode kX12_restore.2.1 59 = .ok (.iinc 2 1, 3) := by decide +kernel
theorem dX12_restore_62 : decode kX12_restore.2.1 62 = .ok (.goto (-30), 3) := by decide +kernel
theorem dX12_restore_65 : decode kX12_restore.2.1 65 = .ok (.aload_n 0, 1) := by decide +kernel
theorem dX12_restore_66 : decode kX12_restore.2.1 66 = .ok (.getfield 13, 3) := by decide +kernel
theorem dX12_restore_69 : decode kX12_restore.2.1 69 = .ok (.bipush 28, 2) := by decide +kernel
theorem dX12_restore_71 : decode kX12_restore.2.1 71 = .ok (.iconst 0, 1) := by decide +kernel
theorem dX12_restore_72 : decode kX12_restore.2.1 72 = .ok (.iastore, 1) := by decide +kernel
theorem dX12_restore_73 : decode kX12_restore.2.1 73 = .ok (.iconst 0, 1) := by decide +kernel
theorem dX12_restore_74 : decode kX12_restore.2.1 74 = .ok (.ireturn, 1) := by decide +kernel
theorem dX12_count_0 : decode kX12_count.2.1 0 = .ok (.aload_n 0, 1) := by decide +kernel
theorem dX12_count_1 : decode kX12_count.2.1 1 = .ok (.iconst 0, 1) := by decide +kernel
theorem dX12_count_2 : decode kX12_count.2.1 2 = .ok (.putfield 1, 3) := by decide +kernel
theorem dX12_count_5 : decode kX12_count.2.1 5 = .ok (.iload_n 1, 1) := by decide +kernel
theorem dX12_count_6 : decode kX12_count.2.1 6 = .ok (.tableswitch 149 0 11 #[62, 69, 76, 84, 91, 98, 105, 113, 121, 129, 137, 142], 62) := by decide +kernel
theorem dX12_count_68 : decode kX12_count.2.1 68 = .ok (.aload_n 0, 1) := by decide +kernel
theorem dX12_count_69 : decode kX12_count.2.1 69 = .ok (.getfield 13, 3) := by decide +kernel
theorem dX12_count_72 : decode kX12_count.2.1 72 = .ok (.iconst 1, 1) := by decide +kernel
theorem dX12_count_73 : decode kX12_count.2.1 73 = .ok (.iaload, 1) := by decide +kernel
theorem dX12_count_74 : decode kX12_count.2.1 74 = .ok (.ireturn, 1) := by decide +kernel
theorem dX12_count_75 : decode kX12_count.2.1 75 = .ok (.aload_n 0, 1) := by decide +kernel
theorem dX12_count_76 : decode kX12_count.2.1 76 = .ok (.getfield 13, 3) := by decide +kernel
theorem dX12_count_79 : decode kX12_count.2.1 79 = .ok (.iconst 2, 1) := by decide +kernel
theorem dX12_count_80 : decode kX12_count.2.1 80 = .ok (.iaload, 1) := by decide +kernel
theorem dX12_count_81 : decode kX12_count.2.1 81 = .ok (.ireturn, 1) := by decide +kernel
theorem dX12_count_82 : decode kX12_count.2.1 82 = .ok (.aload_n 0, 1) := by decide +kernel
theorem dX12_count_83 : decode kX12_count.2.1 83 = .ok (.getfield 13, 3) := by decide +kernel
theorem dX12_count_86 : decode kX12_count.2.1 86 = .ok (.bipush 6, 2) := by decide +kernel
theorem dX12_count_88 : decode kX12_count.2.1 88 = .ok (.iaload, 1) := by decide +kernel
theorem dX12_count_89 : decode kX12_count.2.1 89 = .ok (.ireturn, 1) := by decide +kernel
theorem dX12_count_90 : decode kX12_count.2.1 90 = .ok (.aload_n 0, 1) := by decide +kernel
theorem dX12_count_91 : decode kX12_count.2.1 91 = .ok (.getfield 13, 3) := by decide +kernel
theorem dX12_count_94 : decode kX12_count.2.1 94 = .ok (.iconst 3, 1) := by decide +kernel
theorem dX12_count_95 : decode kX12_count.2.1 95 = .ok (.iaload, 1) := by decide +kernel
theorem dX12_count_96 : decode kX12_count.2.1 96 = .ok (.ireturn, 1) := by decide +kernel
theorem dX12_count_97 : decode kX12_count.2.1 97 = .ok (.aload_n 0, 1) := by decide +kernel
theorem dX12_count_98 : decode kX12_count.2.1 98 = .ok (.getfield 13, 3) := by decide +kernel
theorem dX12_count_101 : decode kX12_count.2.1 101 = .ok (.iconst 4, 1) := by decide +kernel
theorem dX12_count_102 : decode kX12_count.2.1 102 = .ok (.iaload, 1) := by decide +kernel
theorem dX12_count_103 : decode kX12_count.2.1 103 = .ok (.ireturn, 1) := by decide +kernel
theorem dX12_count_104 : decode kX12_count.2.1 104 = .ok (.aload_n 0, 1) := by decide +kernel
theorem dX12_count_105 : decode kX12_count.2.1 105 = .ok (.getfield 13, 3) := by decide +kernel
theorem dX12_count_108 : decode kX12_count.2.1 108 = .ok (.iconst 5, 1) := by decide +kernel
theorem dX12_count_109 : decode kX12_count.2.1 109 = .ok (.iaload, 1) := by decide +kernel
theorem dX12_count_110 : decode kX12_count.2.1 110 = .ok (.ireturn, 1) := by decide +kernel
theorem dX12_count_111 : decode kX12_count.2.1 111 = .ok (.aload_n 0, 1) := by decide +kernel
theorem dX12_count_112 : decode kX12_count.2.1 112 = .ok (.getfield 13, 3) := by decide +kernel
theorem dX12_count_115 : decode kX12_count.2.1 115 = .ok (.bipush 26, 2) := by decide +kernel
theorem dX12_count_117 : decode kX12_count.2.1 117 = .ok (.iaload, 1) := by decide +kernel
theorem dX12_count_118 : decode kX12_count.2.1 118 = .ok (.ireturn, 1) := by decide +kernel
theorem dX12_count_119 : decode kX12_count.2.1 119 = .ok (.aload_n 0, 1) := by decide +kernel
theorem dX12_count_120 : decode kX12_count.2.1 120 = .ok (.getfield 13, 3) := by decide +kernel
theorem dX12_count_123 : decode kX12_count.2.1 123 = .ok (.bipush 27, 2) := by decide +kernel
theorem dX12_count_125 : decode kX12_count.2.1 125 = .ok (.iaload, 1) := by decide +kernel
theorem dX12_count_126 : decode kX12_count.2.1 126 = .ok (.ireturn, 1) := by decide +kernel
theorem dX12_count_127 : decode kX12_count.2.1 127 = .ok (.aload_n 0, 1) := by decide +kernel
theorem dX12_count_128 : decode kX12_count.2.1 128 = .ok (.getfield 13, 3) := by decide +kernel
theorem dX12_count_131 : decode kX12_count.2.1 131 = .ok (.bipush 25, 2) := by decide +kernel
theorem dX12_count_133 : decode kX12_count.2.1 133 = .ok (.iaload, 1) := by decide +kernel
theorem dX12_count_134 : decode kX12_count.2.1 134 = .ok (.ireturn, 1) := by decide +kernel
theorem dX12_count_135 : decode kX12_count.2.1 135 = .ok (.aload_n 0, 1) := by decide +kernel
theorem dX12_count_136 : decode kX12_count.2.1 136 = .ok (.getfield 13, 3) := by decide +kernel
theorem dX12_count_139 : decode kX12_count.2.1 139 = .ok (.bipush 28, 2) := by decide +kernel
theorem dX12_count_141 : decode kX12_count.2.1 141 = .ok (.iaload, 1) := by decide +kernel
theorem dX12_count_142 : decode kX12_count.2.1 142 = .ok (.ireturn, 1) := by decide +kernel
theorem dX12_count_143 : decode kX12_count.2.1 143 = .ok (.aload_n 0, 1) := by decide +kernel
theorem dX12_count_144 : decode kX12_count.2.1 144 = .ok (.getfield 80, 3) := by decide +kernel
theorem dX12_count_147 : decode kX12_count.2.1 147 = .ok (.ireturn, 1) := by decide +kernel
theorem dX12_count_148 : decode kX12_count.2.1 148 = .ok (.aload_n 0, 1) := by decide +kernel
theorem dX12_count_149 : decode kX12_count.2.1 149 = .ok (.getfield 13, 3) := by decide +kernel
theorem dX12_count_152 : decode kX12_count.2.1 152 = .ok (.iconst 0, 1) := by decide +kernel
theorem dX12_count_153 : decode kX12_count.2.1 153 = .ok (.iaload, 1) := by decide +kernel
theorem dX12_count_154 : decode kX12_count.2.1 154 = .ok (.ireturn, 1) := by decide +kernel
theorem dX12_count_155 : decode kX12_count.2.1 155 = .ok (.iconst (-1), 1) := by decide +kernel
theorem dX12_count_156 : decode kX12_count.2.1 156 = .ok (.ireturn, 1) := by decide +kernel
