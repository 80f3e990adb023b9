theorem dX8_hasPrefix_4 : decode cX8_hasPrefix 4 = .ok (.istore 5, 2) := by decide +kernel
theorem dX8_hasPrefix_6 : decode cX8_hasPrefix 6 = .ok (.iload 5, 2) := by decide +kernel
theorem dX8_hasPrefix_8 : decode cX8_hasPrefix 8 = .ok (.aload_n 0, 1) := by decide +kernel
theorem dX8_hasPrefix_9 : decode cX8_hasPrefix 9 = .ok (.getfield 95, 3) := by decide +kernel
theorem dX8_hasPrefix_12 : decode cX8_hasPrefix 12 = .ok (.if_icmp .ge 45, 3) := by decide +kernel
theorem dX8_hasPrefix_15 : decode cX8_hasPrefix 15 = .ok (.aload_n 0, 1) := by decide +kernel
theorem dX8_hasPrefix_16 : decode cX8_hasPrefix 16 = .ok (.getfield 26, 3) := by decide +kernel
theorem dX8_hasPrefix_19 : decode cX8_hasPrefix 19 = .ok (.iload 5, 2) := by decide +kernel
theorem dX8_hasPrefix_21 : decode cX8_hasPrefix 21 = .ok (.iaload, 1) := by decide +kernel
theorem dX8_hasPrefix_22 : decode cX8_hasPrefix 22 = .ok (.iload_n 1, 1) := by decide +kernel
theorem dX8_hasPrefix_23 : decode cX8_hasPrefix 23 = .ok (.if_icmp .ne 24, 3) := by decide +kernel
theorem dX8_hasPrefix_26 : decode cX8_hasPrefix 26 = .ok (.aload_n 0, 1) := by decide +kernel
theorem dX8_hasPrefix_27 : decode cX8_hasPrefix 27 = .ok (.getfield 32, 3) := by decide +kernel
theorem dX8_hasPrefix_30 : decode cX8_hasPrefix 30 = .ok (.iload 5, 2) := by decide +kernel
theorem dX8_hasPrefix_32 : decode cX8_hasPrefix 32 = .ok (.iaload, 1) := by decide +kernel
theorem dX8_hasPrefix_33 : decode cX8_hasPrefix 33 = .ok (.iload_n 2, 1) := by decide +kernel
theorem dX8_hasPrefix_34 : decode cX8_hasPrefix 34 = .ok (.if_icmp .ne 13, 3) := by decide +kernel
theorem dX8_hasPrefix_37 : decode cX8_hasPrefix 37 = .ok (.aload_n 0, 1) := by decide +kernel
theorem dX8_hasPrefix_38 : decode cX8_hasPrefix 38 = .ok (.getfield 29, 3) := by decide +kernel
theorem dX8_hasPrefix_41 : decode cX8_hasPrefix 41 = .ok (.iload 5, 2) := by decide +kernel
theorem dX8_hasPrefix_43 : decode cX8_hasPrefix 43 = .ok (.iaload, 1) := by decide +kernel
theorem dX8_hasPrefix_44 : decode cX8_hasPrefix 44 = .ok (.goto 5, 3) := by decide +kernel
theorem dX8_hasPrefix_47 : decode cX8_hasPrefix 47 = .ok (.iload 4, 2) := by decide +kernel
theorem dX8_hasPrefix_49 : decode cX8_hasPrefix 49 = .ok (.istore 4, 2) := by decide +kernel
theorem dX8_hasPrefix_51 : decode cX8_hasPrefix 51 = .ok (.iinc 5 1, 3) := by decide +kernel
theorem dX8_hasPrefix_54 : decode cX8_hasPrefix 54 = .ok (.goto (-48), 3) := by decide +kernel
theorem dX8_hasPrefix_57 : decode cX8_hasPrefix 57 = .ok (.iload 4, 2) := by decide +kernel
theorem dX8_hasPrefix_59 : decode cX8_hasPrefix 59 = .ok (.iload_n 3, 1) := by decide +kernel
theorem dX8_hasPrefix_60 : decode cX8_hasPrefix 60 = .ok (.if_icmp .ne 7, 3) := by decide +kernel
theorem dX8_hasPrefix_63 : decode cX8_hasPrefix 63 = .ok (.iconst 1, 1) := by decide +kernel
theorem dX8_hasPrefix_64 : decode cX8_hasPrefix 64 = .ok (.goto 4, 3) := by decide +kernel
theorem dX8_hasPrefix_67 : decode cX8_hasPrefix 67 = .ok (.iconst 0, 1) := by decide +kernel
theorem dX8_hasPrefix_68 : decode cX8_hasPrefix 68 = .ok (.ireturn, 1) := by decide +kernel
set_option maxRecDepth 20000 in
theorem ggX8_prefix_X8_in : GoodIn wsX8_prefix wsX8_in := goodIn_r _ [8] (by decide +kernel) (by decide +kernel)
set_option maxRecDepth 20000 in
theorem gX8_prefix_X8_in : GoodIn wsX8_prefix (va_wsS RX8 87 yX8_in wsX8_in) := goodIn_app (goodIn_of _ (by decide +kernel)) ggX8_prefix_X8_in
set_option maxRecDepth 20000 in
theorem ggX8_prefix_X8_hasPrefix : GoodIn wsX8_prefix wsX8_hasPrefix := goodIn_r _ [12, 13, 14, 15, 16, 17, 18, 19, 20, 21, 22, 23, 24, 25, 26, 27, 28, 29, 30, 31, 32, 33, 34, 35, 36, 37, 38, 39, 40, 41, 42, 43, 44, 45, 46, 47, 48, 49, 50, 51] (by decide +kernel) (by decide +kernel)
set_option maxRecDepth 20000 in
theorem gX8_prefix_X8_hasPrefix : GoodIn wsX8_prefix (wsV RX8 192 RX8 yX8_hasPrefix wsX8_hasPrefix) := goodIn_app (goodIn_of _ (by decide +kernel)) ggX8_prefix_X8_hasPrefix
theorem dX8_prefix_0 : decode cX8_prefix 0 = .ok (.iload_n 1, 1) := by decide +kernel
theorem dX8_prefix_1 : decode cX8_prefix 1 = .ok (.iconst 0, 1) := by decide +kernel
theorem dX8_prefix_2 : decode cX8_prefix 2 = .ok (.iconst 1, 1) := by decide +kernel
theorem dX8_prefix_3 : decode cX8_prefix 3 = .ok (.invokestatic 87, 3) := by decide +kernel
theorem dX8_prefix_6 : decode cX8_prefix 6 = .ok (.ifCond .ne 5, 3) := by decide +kernel
theorem dX8_prefix_9 : decode cX8_prefix 9 = .ok (.iconst (-1), 1) := by decide +kernel
theorem dX8_prefix_10 : decode cX8_prefix 10 = .ok (.ireturn, 1) := by decide +kernel
theorem dX8_prefix_11 : decode cX8_prefix 11 = .ok (.iconst 1, 1) := by decide +kernel
theorem dX8_prefix_12 : decode cX8_prefix 12 = .ok (.istore_n 2, 1) := by decide +kernel
theorem dX8_prefix_13 : decode cX8_prefix 13 = .ok (.iconst 0, 1) := by decide +kernel
theorem dX8_prefix_14 : decode cX8_prefix 14 = .ok (.istore_n 3, 1) := by decide +kernel
theorem dX8_prefix_15 : decode cX8_prefix 15 = .ok (.iload_n 3, 1) := by decide +kernel
theorem dX8_prefix_16 : decode cX8_prefix 16 = .ok (.bipush 6, 2) := by decide +kernel
theorem dX8_prefix_18 : decode cX8_prefix 18 = .ok (.if_icmp .ge 66, 3) := by decide +kernel
theorem dX8_prefix_21 : decode cX8_prefix 21 = .ok (.iload_n 2, 1) := by decide +kernel
theorem dX8_prefix_22 : decode cX8_prefix 22 = .ok (.ifCond .eq 54, 3) := by decide +kernel
theorem dX8_prefix_25 : decode cX8_prefix 25 = .ok (.iload_n 1, 1) := by decide +kernel
theorem dX8_prefix_26 : decode cX8_prefix 26 = .ok (.ifCond .ne 26, 3) := by decide +kernel
theorem dX8_prefix_29 : decode cX8_prefix 29 = .ok (.aload_n 0, 1) := by decide +kernel
theorem dX8_prefix_30 : decode cX8_prefix 30 = .ok (.iload_n 3, 1) := by decide +kernel
theorem dX8_prefix_31 : decode cX8_prefix 31 = .ok (.aload_n 0, 1) := by decide +kernel
theorem dX8_prefix_32 : decode cX8_prefix 32 = .ok (.getfield 56, 3) := by decide +kernel
theorem dX8_prefix_35 : decode cX8_prefix 35 = .ok (.iload_n 3, 1) := by decide +kernel
theorem dX8_prefix_36 : decode cX8_prefix 36 = .ok (.iaload, 1) := by decide +kernel
theorem dX8_prefix_37 : decode cX8_prefix 37 = .ok (.aload_n 0, 1) := by decide +kernel
theorem dX8_prefix_38 : decode cX8_prefix 38 = .ok (.getfield 53, 3) := by decide +kernel
theorem dX8_prefix_41 : decode cX8_prefix 41 = .ok (.iload_n 3, 1) := by decide +kernel
theorem dX8_prefix_42 : decode cX8_prefix 42 = .ok (.iaload, 1) := by decide +kernel
theorem dX8_prefix_43 : decode cX8_prefix 43 = .ok (.invokevirtual 192, 3) := by decide +kernel
theorem dX8_prefix_46 : decode cX8_prefix 46 = .ok (.ifCond .eq 30, 3) := by decide +kernel
theorem dX8_prefix_49 : decode cX8_prefix 49 = .ok (.goto 23, 3) := by decide +kernel
theorem dX8_prefix_52 : decode cX8_prefix 52 = .ok (.aload_n 0, 1) := by decide +kernel
theorem dX8_prefix_53 : decode cX8_prefix 53 = .ok (.iload_n 3, 1) := by decide +kernel
theorem dX8_prefix_54 : decode cX8_prefix 54 = .ok (.aload_n 0, 1) := by decide +kernel
theorem dX8_prefix_55 : decode cX8_prefix 55 = .ok (.getfield 65, 3) := by decide +kernel
theorem dX8_prefix_58 : decode cX8_prefix 58 = .ok (.iload_n 3, 1) := by decide +kernel
theorem dX8_prefix_59 : decode cX8_prefix 59 = .ok (.iaload, 1) := by decide +kernel
theorem dX8_prefix_60 : decode cX8_prefix 60 = .ok (.aload_n 0, 1) := by decide +kernel
theorem dX8_prefix_61 : decode cX8_prefix 61 = .ok (.getfield 62, 3) := by decide +kernel
theorem dX8_prefix_64 : decode cX8_prefix 64 = .ok (.iload_n 3, 1) := by decide +kernel
theorem dX8_prefix_65 : decode cX8_prefix 65 = .ok (.iaload, 1) := by decide +kernel
theorem dX8_prefix_66 : decode cX8_prefix 66 = .ok (.invokevirtual 192, 3) := by decide +kernel
theorem dX8_prefix_69 : decode cX8_prefix 69 = .ok (.ifCond .eq 7, 3) := by decide +kernel
theorem dX8_prefix_72 : decode cX8_prefix 72 = .ok (.iconst 1, 1) := by decide +kernel
theorem dX8_prefix_73 : decode cX8_prefix 73 = .ok (.goto 4, 3) := by decide +kernel
theorem dX8_prefix_76 : decode cX8_prefix 76 = .ok (.iconst 0, 1) := by decide +kernel
theorem dX8_prefix_77 : decode cX8_prefix 77 = .ok (.istore_n 2, 1) := by decide +kernel
theorem dX8_prefix_78 : decode cX8_prefix 78 = .ok (.iinc 3 1, 3) := by decide +kernel
theorem dX8_prefix_81 : decode cX8_prefix 81 = .ok (.goto (-66), 3) := by decide +kernel
theorem dX8_prefix_84 : decode cX8_prefix 84 = .ok (.iload_n 2, 1) := by decide +kernel
theorem dX8_prefix_85 : decode cX8_prefix 85 = .ok (.ifCond .eq 7, 3) := by decide +kernel
theorem dX8_prefix_88 : decode cX8_prefix 88 = .ok (.iconst 1, 1) := by decide +kernel
theorem dX8_prefix_89 : decode cX8_prefix 89 = .ok (.goto 4, 3) := by decide +kernel
theorem dX8_prefix_92 : decode cX8_prefix 92 = .ok (.iconst 0, 1) := by decide +kernel
theorem dX8_prefix_93 : decode cX8_prefix 93 = .ok (.ireturn, 1) := by decide +kernel
set_option maxRecDepth 20000 in
theorem ggX8_count_X8_toAck : GoodIn wsX8_count wsX8_toAck := goodIn_r _ [18, 19, 20, 21, 22, 23, 24, 25, 26, 27, 28, 29, 30, 31, 32, 33, 34, 35, 36, 37, 38, 39, 40, 41, 42, 43, 44, 45, 46, 47, 48, 49, 50, 51, 52, 53, 54] (by decide +kernel) (by decide +kernel)
set_option maxRecDepth 20000 in
theorem gX8_count_X8_toAck : GoodIn wsX8_count (wsV RX8 185 RX8 yX8_toAck wsX8_toAck) := goodIn_app (goodIn_of _ (by decide +kernel)) ggX8_count_X8_toAck
theorem dX8_count_0 : decode cX8_count 0 = .ok (.iconst 0, 1) := by decide +kernel
theorem dX8_count_1 : decode cX8_count 1 = .ok (.istore_n 2, 1) := by decide +kernel
theorem dX8_count_2 : decode cX8_count 2 = .ok (.iload_n 1, 1) := by decide +kernel
theorem dX8_count_3 : decode cX8_count 3 = .ok (.tableswitch 182 0 13 #[69, 101, 106, 111, 116, 121, 126, 147, 152, 157, 162, 167, 172, 177], 69) := by decide +kernel
theorem dX8_count_72 : decode cX8_count 72 = .ok (.iconst 0, 1) := by decide +kernel
theorem dX8_count_73 : decode cX8_count 73 = .ok (.istore_n 3, 1) := by decide +kernel
theorem dX8_count_74 : decode cX8_count 74 = .ok (.iload_n 3, 1) := by decide +kernel
theorem dX8_count_75 : decode cX8_count 75 = .ok (.iconst 4, 1) := by decide +kernel
theorem dX8_count_76 : decode cX8_count 76 = .ok (.if_icmp .ge 26, 3) := by decide +kernel
theorem dX8_count_79 : decode cX8_count 79 = .ok (.iload_n 2, 1) := by decide +kernel
theorem dX8_count_80 : decode cX8_count 80 = .ok (.aload_n 0, 1) := by decide +kernel
theorem dX8_count_81 : decode cX8_count 81 = .ok (.getfield 7, 3) := by decide +kernel
theorem dX8_count_84 : decode cX8_count 84 = .ok (.iload_n 3, 1) := by decide +kernel
theorem dX8_count_85 : decode cX8_count 85 = .ok (.baload, 1) := by decide +kernel
theorem dX8_count_86 : decode cX8_count 86 = .ok (.ifCond .eq 7, 3) := by decide +kernel
theorem dX8_count_89 : decode cX8_count 89 = .ok (.iconst 1, 1) := by decide +kernel
theorem dX8_count_90 : decode cX8_count 90 = .ok (.goto 4, 3) := by decide +kernel
theorem dX8_count_93 : decode cX8_count 93 = .ok (.iconst 0, 1) := by decide +kernel
theorem dX8_count_94 : decode cX8_count 94 = .ok (.iadd, 1) := by decide +kernel
theorem dX8_count_95 : decode cX8_count 95 = .ok (.istore_n 2, 1) := by decide +kernel
theorem dX8_count_96 : decode cX8_count 96 = .ok (.iinc 3 1, 3) := by decide +kernel
theorem dX8_count_99 : decode cX8_count 99 = .ok (.goto (-25), 3) := by decide +kernel
theorem dX8_count_102 : decode cX8_count 102 = .ok (.iload_n 2, 1) := by decide +kernel
theorem dX8_count_103 : decode cX8_count 103 = .ok (.ireturn, 1) := by decide +kernel
theorem dX8_count_104 : decode cX8_count 104 = .ok (.aload_n 0, 1) := by decide +kernel
theorem dX8_count_105 : decode cX8_count 105 = .ok (.getfield 83, 3) := by decide +kernel
theorem dX8_count_108 : decode cX8_count 108 = .ok (.ireturn, 1) := by decide +kernel
theorem dX8_count_109 : decode cX8_count 109 = .ok (.aload_n 0, 1) := by decide +kernel
theorem dX8_count_110 : decode cX8_count 110 = .ok (.getfield 95, 3) := by decide +kernel
theorem dX8_count_113 : decode cX8_count 113 = .ok (.ireturn, 1) := by decide +kernel
theorem dX8_count_114 : decode cX8_count 114 = .ok (.aload_n 0, 1) := by decide +kernel
theorem dX8_count_115 : decode cX8_count 115 = .ok (.getfield 125, 3) := by decide +kernel
theorem dX8_count_118 : decode cX8_count 118 = .ok (.ireturn, 1) := by decide +kernel
theorem dX8_count_119 : decode cX8_count 119 = .ok (.aload_n 0, 1) := by decide +kernel
theorem dX8_count_120 : decode cX8_count 120 = .ok (.getfield 128, 3) := by decide +kernel
theorem dX8_count_123 : decode cX8_count 123 = .ok (.ireturn, 1) := by decide +kernel
theorem dX8_count_124 : decode cX8_count 124 = .ok (.aload_n 0, 1) := by decide +kernel
theorem dX8_count_125 : decode cX8_count 125 = .ok (.getfield 134, 3) := by decide +kernel
theorem dX8_count_128 : decode cX8_count 128 = .ok (.ireturn, 1) := by decide +kernel
theorem dX8_count_129 : decode cX8_count 129 = .ok (.aload_n 0, 1) := by decide +kernel
theorem dX8_count_130 : decode cX8_count 130 = .ok (.getfield 38, 3) := by decide +kernel
theorem dX8_count_133 : decode cX8_count 133 = .ok (.iconst 0, 1) := by decide +kernel
theorem dX8_count_134 : decode cX8_count 134 = .ok (.iaload, 1) := by decide +kernel
theorem dX8_count_135 : decode cX8_count 135 = .ok (.aload_n 0, 1) := by decide +kernel
theorem dX8_count_136 : decode cX8_count 136 = .ok (.getfield 38, 3) := by decide +kernel
theorem dX8_count_139 : decode cX8_count 139 = .ok (.iconst 1, 1) := by decide +kernel
theorem dX8_count_140 : decode cX8_count 140 = .ok (.iaload, 1) := by decide +kernel
theorem dX8_count_141 : decode cX8_count 141 = .ok (.iadd, 1) := by decide +kernel
theorem dX8_count_142 : decode cX8_count 142 = .ok (.aload_n 0, 1) := by decide +kernel
theorem dX8_count_143 : decode cX8_count 143 = .ok (.getfield 38, 3) := by decide +kernel
theorem dX8_count_146 : decode cX8_count 146 = .ok (.iconst 2, 1) := by decide +kernel
theorem dX8_count_147 : decode cX8_count 147 = .ok (.iaload, 1) := by decide +kernel
theorem dX8_count_148 : decode cX8_count 148 = .ok (.iadd, 1) := by decide +kernel
theorem dX8_count_149 : decode cX8_count 149 = .ok (.ireturn, 1) := by decide +kernel
theorem dX8_count_150 : decode cX8_count 150 = .ok (.aload_n 0, 1) := by decide +kernel
theorem dX8_count_151 : decode cX8_count 151 = .ok (.getfield 137, 3) := by decide +kernel
theorem dX8_count_154 : decode cX8_count 154 = .ok (.ireturn, 1) := by decide +kernel
theorem dX8_count_155 : decode cX8_count 155 = .ok (.aload_n 0, 1) := by decide +kernel
theorem dX8_count_156 : decode cX8_count 156 = .ok (.getfield 143, 3) := by decide +kernel
theorem dX8_count_159 : decode cX8_count 159 = .ok (.ireturn, 1) := by decide +kernel
theorem dX8_count_160 : decode cX8_count 160 = .ok (.aload_n 0, 1) := by decide +kernel
theorem dX8_count_161 : decode cX8_count 161 = .ok (.getfield 146, 3) := by decide +kernel
theorem dX8_count_164 : decode cX8_count 164 = .ok (.ireturn, 1) := by decide +kernel
theorem dX8_count_165 : decode cX8_count 165 = .ok (.aload_n 0, 1) := by decide +kernel
theorem dX8_count_166 : decode cX8_count 166 = .ok (.getfield 115, 3) := by decide +kernel
theorem dX8_count_169 : decode cX8_count 169 = .ok (.ireturn, 1) := by decide +kernel
theorem dX8_count_170 : decode cX8_count 170 = .ok (.aload_n 0, 1) := by decide +kernel
theorem dX8_count_171 : decode cX8_count 171 = .ok (.getfield 153, 3) := by decide +kernel
theorem dX8_count_174 : decode cX8_count 174 = .ok (.ireturn, 1) := by decide +kernel
theorem dX8_count_175 : decode cX8_count 175 = .ok (.aload_n 0, 1) := by decide +kernel
theorem dX8_count_176 : decode cX8_count 176 = .ok (.getfield 118, 3) := by decide +kernel
theorem dX8_count_179 : decode cX8_count 179 = .ok (.ireturn, 1) := by decide +kernel
theorem dX8_count_180 : decode cX8_count 180 = .ok (.aload_n 0, 1) := by decide +kernel
theorem dX8_count_181 : decode cX8_count 181 = .ok (.invokevirtual 185, 3) := by decide +kernel
theorem dX8_count_184 : decode cX8_count 184 = .ok (.ireturn, 1) := by decide +kernel
theorem dX8_count_185 : decode cX8_count 185 = .ok (.iconst (-1), 1) := by decide +kernel
theorem dX8_count_186 : decode cX8_count 186 = .ok (.ireturn, 1) := by decide +kernel
theorem dJ9_max_7cf53_0 : decode cJ9_max_7cf53 0 = .ok (.iload_n 0, 1) := by decide +kernel
theorem dJ9_max_7cf53_1 : decode cJ9_max_7cf53 1 = .ok (.iload_n 1, 1) := by decide +kernel
theorem dJ9_max_7cf53_2 : decode cJ9_max_7cf53 2 = .ok (.if_icmp .lt 7, 3) := by decide +kernel
theorem dJ9_max_7cf53_5 : decode cJ9_max_7cf53 5 = .ok (.iload_n 0, 1) := by decide +kernel
theorem dJ9_max_7cf53_6 : decode cJ9_max_7cf53 6 = .ok (.goto 4, 3) := by decide +kernel
theorem dJ9_max_7cf53_9 : decode cJ9_max_7cf53 9 = .ok (.iload_n 1, 1) := by decide +kernel
theorem dJ9_max_7cf53_10 : decode cJ9_max_7cf53 10 = .ok (.ireturn, 1) := by decide +kernel
theorem dJ7_fill_53178_0 : decode cJ7_fill_53178 0 = .ok (.iconst 0, 1) := by decide +kernel
theorem dJ7_fill_53178_1 : decode cJ7_fill_53178 1 = .ok (.istore_n 2, 1) := by decide +kernel
theorem dJ7_fill_53178_2 : decode cJ7_fill_53178 2 = .ok (.aload_n 0, 1) := by decide +kernel
theorem dJ7_fill_53178_3 : decode cJ7_fill_53178 3 = .ok (.arraylength, 1) := by decide +kernel
theorem dJ7_fill_53178_4 : decode cJ7_fill_53178 4 = .ok (.istore_n 3, 1) := by decide +kernel
theorem dJ7_fill_53178_5 : decode cJ7_fill_53178 5 = .ok (.iload_n 2, 1) := by decide +kernel
theorem dJ7_fill_53178_6 : decode cJ7_fill_53178 6 = .ok (.iload_n 3, 1) := by decide +kernel
theorem dJ7_fill_53178_7 : decode cJ7_fill_53178 7 = .ok (.if_icmp .ge 13, 3) := by decide +kernel
theorem dJ7_fill_53178_10 : decode cJ7_fill_53178 10 = .ok (.aload_n 0, 1) := by decide +kernel
theorem dJ7_fill_53178_11 : decode cJ7_fill_53178 11 = .ok (.iload_n 2, 1) := by decide +kernel
theorem dJ7_fill_53178_12 : decode cJ7_fill_53178 12 = .ok (.iload_n 1, 1) := by decide +kernel
theorem dJ7_fill_53178_13 : decode cJ7_fill_53178 13 = .ok (.iastore, 1) := by decide +kernel
theorem dJ7_fill_53178_14 : decode cJ7_fill_53178 14 = .ok (.iinc 2 1, 3) := by decide +kernel
theorem dJ7_fill_53178_17 : decode cJ7_fill_53178 17 = .ok (.goto (-12), 3) := by decide +kernel
theorem dJ7_fill_53178_20 : decode cJ7_fill_53178 20 = .ok (.return_, 1) := by decide +kernel
abbrev vwCl : List vw_C := [(RX0, TX0, 5), (RX1, TX1, 4), (RX2, TX2, 6), (RX3, TX3, 2), (RX4, TX4, 6), (RX5, TX5, 7), (RX6, TX6, 3), (RX7, TX7, 5), (RX8, TX8, 35)]
