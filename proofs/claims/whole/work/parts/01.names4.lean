theorem dX7_count_92 : decode cX7_count 92 = .ok (.getfield 191, 3) := by decide +kernel
theorem dX7_count_95 : decode cX7_count 95 = .ok (.ireturn, 1) := by decide +kernel
theorem dX7_count_96 : decode cX7_count 96 = .ok (.aload_n 0, 1) := by decide +kernel
theorem dX7_count_97 : decode cX7_count 97 = .ok (.getfield 28, 3) := by decide +kernel
theorem dX7_count_100 : decode cX7_count 100 = .ok (.getfield 194, 3) := by decide +kernel
theorem dX7_count_103 : decode cX7_count 103 = .ok (.ireturn, 1) := by decide +kernel
theorem dX7_count_104 : decode cX7_count 104 = .ok (.aload_n 0, 1) := by decide +kernel
theorem dX7_count_105 : decode cX7_count 105 = .ok (.getfield 28, 3) := by decide +kernel
theorem dX7_count_108 : decode cX7_count 108 = .ok (.getfield 136, 3) := by decide +kernel
theorem dX7_count_111 : decode cX7_count 111 = .ok (.ireturn, 1) := by decide +kernel
theorem dX7_count_112 : decode cX7_count 112 = .ok (.aload_n 0, 1) := by decide +kernel
theorem dX7_count_113 : decode cX7_count 113 = .ok (.getfield 10, 3) := by decide +kernel
theorem dX7_count_116 : decode cX7_count 116 = .ok (.getfield 197, 3) := by decide +kernel
theorem dX7_count_119 : decode cX7_count 119 = .ok (.ireturn, 1) := by decide +kernel
theorem dX7_count_120 : decode cX7_count 120 = .ok (.aload_n 0, 1) := by decide +kernel
theorem dX7_count_121 : decode cX7_count 121 = .ok (.getfield 28, 3) := by decide +kernel
theorem dX7_count_124 : decode cX7_count 124 = .ok (.invokevirtual 200, 3) := by decide +kernel
theorem dX7_count_127 : decode cX7_count 127 = .ok (.ireturn, 1) := by decide +kernel
theorem dX7_count_128 : decode cX7_count 128 = .ok (.aload_n 0, 1) := by decide +kernel
theorem dX7_count_129 : decode cX7_count 129 = .ok (.getfield 28, 3) := by decide +kernel
theorem dX7_count_132 : decode cX7_count 132 = .ok (.getfield 203, 3) := by decide +kernel
theorem dX7_count_135 : decode cX7_count 135 = .ok (.ireturn, 1) := by decide +kernel
theorem dX7_count_136 : decode cX7_count 136 = .ok (.aload_n 0, 1) := by decide +kernel
theorem dX7_count_137 : decode cX7_count 137 = .ok (.getfield 35, 3) := by decide +kernel
theorem dX7_count_140 : decode cX7_count 140 = .ok (.getfield 171, 3) := by decide +kernel
theorem dX7_count_143 : decode cX7_count 143 = .ok (.ireturn, 1) := by decide +kernel
theorem dX7_count_144 : decode cX7_count 144 = .ok (.aload_n 0, 1) := by decide +kernel
theorem dX7_count_145 : decode cX7_count 145 = .ok (.getfield 35, 3) := by decide +kernel
theorem dX7_count_148 : decode cX7_count 148 = .ok (.getfield 206, 3) := by decide +kernel
theorem dX7_count_151 : decode cX7_count 151 = .ok (.ireturn, 1) := by decide +kernel
theorem dX7_count_152 : decode cX7_count 152 = .ok (.aload_n 0, 1) := by decide +kernel
theorem dX7_count_153 : decode cX7_count 153 = .ok (.getfield 35, 3) := by decide +kernel
theorem dX7_count_156 : decode cX7_count 156 = .ok (.getfield 209, 3) := by decide +kernel
theorem dX7_count_159 : decode cX7_count 159 = .ok (.getfield 213, 3) := by decide +kernel
theorem dX7_count_162 : decode cX7_count 162 = .ok (.ireturn, 1) := by decide +kernel
theorem dX7_count_163 : decode cX7_count 163 = .ok (.aload_n 0, 1) := by decide +kernel
theorem dX7_count_164 : decode cX7_count 164 = .ok (.getfield 28, 3) := by decide +kernel
theorem dX7_count_167 : decode cX7_count 167 = .ok (.getfield 153, 3) := by decide +kernel
theorem dX7_count_170 : decode cX7_count 170 = .ok (.aload_n 0, 1) := by decide +kernel
theorem dX7_count_171 : decode cX7_count 171 = .ok (.getfield 35, 3) := by decide +kernel
theorem dX7_count_174 : decode cX7_count 174 = .ok (.getfield 218, 3) := by decide +kernel
theorem dX7_count_177 : decode cX7_count 177 = .ok (.iadd, 1) := by decide +kernel
theorem dX7_count_178 : decode cX7_count 178 = .ok (.ireturn, 1) := by decide +kernel
theorem dX7_count_179 : decode cX7_count 179 = .ok (.aload_n 0, 1) := by decide +kernel
theorem dX7_count_180 : decode cX7_count 180 = .ok (.getfield 76, 3) := by decide +kernel
theorem dX7_count_183 : decode cX7_count 183 = .ok (.ireturn, 1) := by decide +kernel
theorem dX7_count_184 : decode cX7_count 184 = .ok (.aload_n 0, 1) := by decide +kernel
theorem dX7_count_185 : decode cX7_count 185 = .ok (.getfield 35, 3) := by decide +kernel
theorem dX7_count_188 : decode cX7_count 188 = .ok (.getfield 105, 3) := by decide +kernel
theorem dX7_count_191 : decode cX7_count 191 = .ok (.getfield 165, 3) := by decide +kernel
theorem dX7_count_194 : decode cX7_count 194 = .ok (.ireturn, 1) := by decide +kernel
theorem dX7_count_195 : decode cX7_count 195 = .ok (.iconst (-1), 1) := by decide +kernel
theorem dX7_count_196 : decode cX7_count 196 = .ok (.ireturn, 1) := by decide +kernel
set_option maxRecDepth 20000 in
theorem ggX7_deliverAll_X3_at : GoodIn wsX7_deliverAll wsX3_at := goodIn_r _ [7, 8, 9, 88, 89] (by decide +kernel) (by decide +kernel)
set_option maxRecDepth 20000 in
theorem gX7_deliverAll_X3_at : GoodIn wsX7_deliverAll (wsV RX7 225 RX3 yX3_at wsX3_at) := goodIn_app (goodIn_of _ (by decide +kernel)) ggX7_deliverAll_X3_at
set_option maxRecDepth 20000 in
theorem ggX7_deliverAll_X5_take : GoodIn wsX7_deliverAll wsX5_take := goodIn_r _ [14, 15, 16, 17, 18, 19, 20, 21, 22, 23, 24, 25, 26, 27, 28, 29, 30, 31, 6, 32, 8, 9, 33, 34, 35, 36, 37, 13, 38, 39, 40, 41, 42, 43, 44, 45, 46, 47, 48, 49, 50, 51, 52, 53, 54, 55, 56, 57, 58, 59, 60, 4, 5, 7, 61, 62, 63, 64, 65, 66, 67, 68, 69, 70, 71, 72, 90, 91, 92, 93, 94, 95, 96, 97, 98, 99, 100, 101, 102, 103, 104, 88, 89, 105, 106, 107, 108] (by decide +kernel) (by decide +kernel)
set_option maxRecDepth 20000 in
theorem gX7_deliverAll_X5_take : GoodIn wsX7_deliverAll (wsV RX7 149 RX5 yX5_take wsX5_take) := goodIn_app (goodIn_of _ (by decide +kernel)) ggX7_deliverAll_X5_take
set_option maxRecDepth 20000 in
theorem ggX7_deliverAll_X3_clear : GoodIn wsX7_deliverAll wsX3_clear := goodIn_r _ [76, 8, 88, 89] (by decide +kernel) (by decide +kernel)
set_option maxRecDepth 20000 in
theorem gX7_deliverAll_X3_clear : GoodIn wsX7_deliverAll (wsV RX7 226 RX3 yX3_clear wsX3_clear) := goodIn_app (goodIn_of _ (by decide +kernel)) ggX7_deliverAll_X3_clear
theorem dX7_deliverAll_0 : decode cX7_deliverAll 0 = .ok (.iconst 0, 1) := by decide +kernel
theorem dX7_deliverAll_1 : decode cX7_deliverAll 1 = .ok (.istore_n 1, 1) := by decide +kernel
theorem dX7_deliverAll_2 : decode cX7_deliverAll 2 = .ok (.iload_n 1, 1) := by decide +kernel
theorem dX7_deliverAll_3 : decode cX7_deliverAll 3 = .ok (.iconst 3, 1) := by decide +kernel
theorem dX7_deliverAll_4 : decode cX7_deliverAll 4 = .ok (.if_icmp .ge 62, 3) := by decide +kernel
theorem dX7_deliverAll_7 : decode cX7_deliverAll 7 = .ok (.aload_n 0, 1) := by decide +kernel
theorem dX7_deliverAll_8 : decode cX7_deliverAll 8 = .ok (.getfield 28, 3) := by decide +kernel
theorem dX7_deliverAll_11 : decode cX7_deliverAll 11 = .ok (.getfield 221, 3) := by decide +kernel
theorem dX7_deliverAll_14 : decode cX7_deliverAll 14 = .ok (.iload_n 1, 1) := by decide +kernel
theorem dX7_deliverAll_15 : decode cX7_deliverAll 15 = .ok (.aaload, 1) := by decide +kernel
theorem dX7_deliverAll_16 : decode cX7_deliverAll 16 = .ok (.astore_n 2, 1) := by decide +kernel
theorem dX7_deliverAll_17 : decode cX7_deliverAll 17 = .ok (.iconst 0, 1) := by decide +kernel
theorem dX7_deliverAll_18 : decode cX7_deliverAll 18 = .ok (.istore_n 3, 1) := by decide +kernel
theorem dX7_deliverAll_19 : decode cX7_deliverAll 19 = .ok (.iload_n 3, 1) := by decide +kernel
theorem dX7_deliverAll_20 : decode cX7_deliverAll 20 = .ok (.bipush 40, 2) := by decide +kernel
theorem dX7_deliverAll_22 : decode cX7_deliverAll 22 = .ok (.if_icmp .ge 34, 3) := by decide +kernel
theorem dX7_deliverAll_25 : decode cX7_deliverAll 25 = .ok (.aload_n 2, 1) := by decide +kernel
theorem dX7_deliverAll_26 : decode cX7_deliverAll 26 = .ok (.iload_n 3, 1) := by decide +kernel
theorem dX7_deliverAll_27 : decode cX7_deliverAll 27 = .ok (.invokevirtual 225, 3) := by decide +kernel
theorem dX7_deliverAll_30 : decode cX7_deliverAll 30 = .ok (.astore 4, 2) := by decide +kernel
theorem dX7_deliverAll_32 : decode cX7_deliverAll 32 = .ok (.aload 4, 2) := by decide +kernel
theorem dX7_deliverAll_34 : decode cX7_deliverAll 34 = .ok (.ifnonnull 6, 3) := by decide +kernel
theorem dX7_deliverAll_37 : decode cX7_deliverAll 37 = .ok (.goto 19, 3) := by decide +kernel
theorem dX7_deliverAll_40 : decode cX7_deliverAll 40 = .ok (.aload_n 0, 1) := by decide +kernel
theorem dX7_deliverAll_41 : decode cX7_deliverAll 41 = .ok (.getfield 35, 3) := by decide +kernel
theorem dX7_deliverAll_44 : decode cX7_deliverAll 44 = .ok (.aload 4, 2) := by decide +kernel
theorem dX7_deliverAll_46 : decode cX7_deliverAll 46 = .ok (.invokevirtual 149, 3) := by decide +kernel
theorem dX7_deliverAll_49 : decode cX7_deliverAll 49 = .ok (.pop, 1) := by decide +kernel
theorem dX7_deliverAll_50 : decode cX7_deliverAll 50 = .ok (.iinc 3 1, 3) := by decide +kernel
theorem dX7_deliverAll_53 : decode cX7_deliverAll 53 = .ok (.goto (-34), 3) := by decide +kernel
theorem dX7_deliverAll_56 : decode cX7_deliverAll 56 = .ok (.aload_n 2, 1) := by decide +kernel
theorem dX7_deliverAll_57 : decode cX7_deliverAll 57 = .ok (.invokevirtual 226, 3) := by decide +kernel
theorem dX7_deliverAll_60 : decode cX7_deliverAll 60 = .ok (.iinc 1 1, 3) := by decide +kernel
theorem dX7_deliverAll_63 : decode cX7_deliverAll 63 = .ok (.goto (-61), 3) := by decide +kernel
theorem dX7_deliverAll_66 : decode cX7_deliverAll 66 = .ok (.return_, 1) := by decide +kernel
theorem dX7_isKey_0 : decode cX7_isKey 0 = .ok (.iload_n 0, 1) := by decide +kernel
theorem dX7_isKey_1 : decode cX7_isKey 1 = .ok (.ifCond .lt 13, 3) := by decide +kernel
theorem dX7_isKey_4 : decode cX7_isKey 4 = .ok (.iload_n 0, 1) := by decide +kernel
theorem dX7_isKey_5 : decode cX7_isKey 5 = .ok (.bipush 6, 2) := by decide +kernel
theorem dX7_isKey_7 : decode cX7_isKey 7 = .ok (.if_icmp .ge 7, 3) := by decide +kernel
theorem dX7_isKey_10 : decode cX7_isKey 10 = .ok (.iconst 1, 1) := by decide +kernel
theorem dX7_isKey_11 : decode cX7_isKey 11 = .ok (.goto 4, 3) := by decide +kernel
theorem dX7_isKey_14 : decode cX7_isKey 14 = .ok (.iconst 0, 1) := by decide +kernel
theorem dX7_isKey_15 : decode cX7_isKey 15 = .ok (.ireturn, 1) := by decide +kernel
theorem dX7_isLane_0 : decode cX7_isLane 0 = .ok (.iload_n 0, 1) := by decide +kernel
theorem dX7_isLane_1 : decode cX7_isLane 1 = .ok (.ifCond .lt 12, 3) := by decide +kernel
theorem dX7_isLane_4 : decode cX7_isLane 4 = .ok (.iload_n 0, 1) := by decide +kernel
theorem dX7_isLane_5 : decode cX7_isLane 5 = .ok (.iconst 3, 1) := by decide +kernel
theorem dX7_isLane_6 : decode cX7_isLane 6 = .ok (.if_icmp .ge 7, 3) := by decide +kernel
theorem dX7_isLane_9 : decode cX7_isLane 9 = .ok (.iconst 1, 1) := by decide +kernel
theorem dX7_isLane_10 : decode cX7_isLane 10 = .ok (.goto 4, 3) := by decide +kernel
theorem dX7_isLane_13 : decode cX7_isLane 13 = .ok (.iconst 0, 1) := by decide +kernel
theorem dX7_isLane_14 : decode cX7_isLane 14 = .ok (.ireturn, 1) := by decide +kernel
theorem dX8_init_0 : decode cX8_init 0 = .ok (.aload_n 0, 1) := by decide +kernel
theorem dX8_init_1 : decode cX8_init 1 = .ok (.invokespecial 1, 3) := by decide +kernel
theorem dX8_init_4 : decode cX8_init 4 = .ok (.aload_n 0, 1) := by decide +kernel
theorem dX8_init_5 : decode cX8_init 5 = .ok (.iconst 4, 1) := by decide +kernel
theorem dX8_init_6 : decode cX8_init 6 = .ok (.newarray .boolean, 2) := by decide +kernel
theorem dX8_init_8 : decode cX8_init 8 = .ok (.putfield 7, 3) := by decide +kernel
theorem dX8_init_11 : decode cX8_init 11 = .ok (.aload_n 0, 1) := by decide +kernel
theorem dX8_init_12 : decode cX8_init 12 = .ok (.bipush 24, 2) := by decide +kernel
theorem dX8_init_14 : decode cX8_init 14 = .ok (.newarray .boolean, 2) := by decide +kernel
theorem dX8_init_16 : decode cX8_init 16 = .ok (.putfield 13, 3) := by decide +kernel
theorem dX8_init_19 : decode cX8_init 19 = .ok (.aload_n 0, 1) := by decide +kernel
theorem dX8_init_20 : decode cX8_init 20 = .ok (.bipush 24, 2) := by decide +kernel
theorem dX8_init_22 : decode cX8_init 22 = .ok (.newarray .int, 2) := by decide +kernel
theorem dX8_init_24 : decode cX8_init 24 = .ok (.putfield 16, 3) := by decide +kernel
theorem dX8_init_27 : decode cX8_init 27 = .ok (.aload_n 0, 1) := by decide +kernel
theorem dX8_init_28 : decode cX8_init 28 = .ok (.bipush 6, 2) := by decide +kernel
theorem dX8_init_30 : decode cX8_init 30 = .ok (.newarray .int, 2) := by decide +kernel
theorem dX8_init_32 : decode cX8_init 32 = .ok (.putfield 20, 3) := by decide +kernel
theorem dX8_init_35 : decode cX8_init 35 = .ok (.aload_n 0, 1) := by decide +kernel
theorem dX8_init_36 : decode cX8_init 36 = .ok (.bipush 6, 2) := by decide +kernel
theorem dX8_init_38 : decode cX8_init 38 = .ok (.newarray .int, 2) := by decide +kernel
theorem dX8_init_40 : decode cX8_init 40 = .ok (.putfield 23, 3) := by decide +kernel
theorem dX8_init_43 : decode cX8_init 43 = .ok (.aload_n 0, 1) := by decide +kernel
theorem dX8_init_44 : decode cX8_init 44 = .ok (.sipush 400, 3) := by decide +kernel
theorem dX8_init_47 : decode cX8_init 47 = .ok (.newarray .int, 2) := by decide +kernel
theorem dX8_init_49 : decode cX8_init 49 = .ok (.putfield 26, 3) := by decide +kernel
theorem dX8_init_52 : decode cX8_init 52 = .ok (.aload_n 0, 1) := by decide +kernel
theorem dX8_init_53 : decode cX8_init 53 = .ok (.sipush 400, 3) := by decide +kernel
theorem dX8_init_56 : decode cX8_init 56 = .ok (.newarray .int, 2) := by decide +kernel
theorem dX8_init_58 : decode cX8_init 58 = .ok (.putfield 29, 3) := by decide +kernel
theorem dX8_init_61 : decode cX8_init 61 = .ok (.aload_n 0, 1) := by decide +kernel
theorem dX8_init_62 : decode cX8_init 62 = .ok (.sipush 400, 3) := by decide +kernel
theorem dX8_init_65 : decode cX8_init 65 = .ok (.newarray .int, 2) := by decide +kernel
theorem dX8_init_67 : decode cX8_init 67 = .ok (.putfield 32, 3) := by decide +kernel
theorem dX8_init_70 : decode cX8_init 70 = .ok (.aload_n 0, 1) := by decide +kernel
theorem dX8_init_71 : decode cX8_init 71 = .ok (.sipush 400, 3) := by decide +kernel
theorem dX8_init_74 : decode cX8_init 74 = .ok (.newarray .boolean, 2) := by decide +kernel
theorem dX8_init_76 : decode cX8_init 76 = .ok (.putfield 35, 3) := by decide +kernel
theorem dX8_init_79 : decode cX8_init 79 = .ok (.aload_n 0, 1) := by decide +kernel
theorem dX8_init_80 : decode cX8_init 80 = .ok (.iconst 3, 1) := by decide +kernel
theorem dX8_init_81 : decode cX8_init 81 = .ok (.newarray .int, 2) := by decide +kernel
theorem dX8_init_83 : decode cX8_init 83 = .ok (.putfield 38, 3) := by decide +kernel
theorem dX8_init_86 : decode cX8_init 86 = .ok (.aload_n 0, 1) := by decide +kernel
theorem dX8_init_87 : decode cX8_init 87 = .ok (.bipush 120, 2) := by decide +kernel
theorem dX8_init_89 : decode cX8_init 89 = .ok (.newarray .int, 2) := by decide +kernel
theorem dX8_init_91 : decode cX8_init 91 = .ok (.putfield 41, 3) := by decide +kernel
theorem dX8_init_94 : decode cX8_init 94 = .ok (.aload_n 0, 1) := by decide +kernel
theorem dX8_init_95 : decode cX8_init 95 = .ok (.bipush 120, 2) := by decide +kernel
theorem dX8_init_97 : decode cX8_init 97 = .ok (.newarray .int, 2) := by decide +kernel
theorem dX8_init_99 : decode cX8_init 99 = .ok (.putfield 44, 3) := by decide +kernel
theorem dX8_init_102 : decode cX8_init 102 = .ok (.aload_n 0, 1) := by decide +kernel
theorem dX8_init_103 : decode cX8_init 103 = .ok (.bipush 120, 2) := by decide +kernel
theorem dX8_init_105 : decode cX8_init 105 = .ok (.newarray .int, 2) := by decide +kernel
theorem dX8_init_107 : decode cX8_init 107 = .ok (.putfield 47, 3) := by decide +kernel
theorem dX8_init_110 : decode cX8_init 110 = .ok (.aload_n 0, 1) := by decide +kernel
theorem dX8_init_111 : decode cX8_init 111 = .ok (.bipush 120, 2) := by decide +kernel
theorem dX8_init_113 : decode cX8_init 113 = .ok (.newarray .int, 2) := by decide +kernel
theorem dX8_init_115 : decode cX8_init 115 = .ok (.putfield 50, 3) := by decide +kernel
theorem dX8_init_118 : decode cX8_init 118 = .ok (.aload_n 0, 1) := by decide +kernel
theorem dX8_init_119 : decode cX8_init 119 = .ok (.bipush 6, 2) := by decide +kernel
theorem dX8_init_121 : decode cX8_init 121 = .ok (.newarray .int, 2) := by decide +kernel
theorem dX8_init_123 : decode cX8_init 123 = .ok (.putfield 53, 3) := by decide +kernel
theorem dX8_init_126 : decode cX8_init 126 = .ok (.aload_n 0, 1) := by decide +kernel
theorem dX8_init_127 : decode cX8_init 127 = .ok (.bipush 6, 2) := by decide +kernel
theorem dX8_init_129 : decode cX8_init 129 = .ok (.newarray .int, 2) := by decide +kernel
theorem dX8_init_131 : decode cX8_init 131 = .ok (.putfield 56, 3) := by decide +kernel
theorem dX8_init_134 : decode cX8_init 134 = .ok (.aload_n 0, 1) := by decide +kernel
theorem dX8_init_135 : decode cX8_init 135 = .ok (.sipush 400, 3) := by decide +kernel
theorem dX8_init_138 : decode cX8_init 138 = .ok (.newarray .boolean, 2) := by decide +kernel
theorem dX8_init_140 : decode cX8_init 140 = .ok (.putfield 59, 3) := by decide +kernel
theorem dX8_init_143 : decode cX8_init 143 = .ok (.aload_n 0, 1) := by decide +kernel
theorem dX8_init_144 : decode cX8_init 144 = .ok (.bipush 6, 2) := by decide +kernel
theorem dX8_init_146 : decode cX8_init 146 = .ok (.newarray .int, 2) := by decide +kernel
theorem dX8_init_148 : decode cX8_init 148 = .ok (.putfield 62, 3) := by decide +kernel
theorem dX8_init_151 : decode cX8_init 151 = .ok (.aload_n 0, 1) := by decide +kernel
theorem dX8_init_152 : decode cX8_init 152 = .ok (.bipush 6, 2) := by decide +kernel
theorem dX8_init_154 : decode cX8_init 154 = .ok (.newarray .int, 2) := by decide +kernel
theorem dX8_init_156 : decode cX8_init 156 = .ok (.putfield 65, 3) := by decide +kernel
theorem dX8_init_159 : decode cX8_init 159 = .ok (.aload_n 0, 1) := by decide +kernel
theorem dX8_init_160 : decode cX8_init 160 = .ok (.sipush 400, 3) := by decide +kernel
theorem dX8_init_163 : decode cX8_init 163 = .ok (.newarray .boolean, 2) := by decide +kernel
theorem dX8_init_165 : decode cX8_init 165 = .ok (.putfield 68, 3) := by decide +kernel
theorem dX8_init_168 : decode cX8_init 168 = .ok (.aload_n 0, 1) := by decide +kernel
theorem dX8_init_169 : decode cX8_init 169 = .ok (.bipush 8, 2) := by decide +kernel
theorem dX8_init_171 : decode cX8_init 171 = .ok (.newarray .int, 2) := by decide +kernel
theorem dX8_init_173 : decode cX8_init 173 = .ok (.putfield 71, 3) := by decide +kernel
theorem dX8_init_176 : decode cX8_init 176 = .ok (.aload_n 0, 1) := by decide +kernel
theorem dX8_init_177 : decode cX8_init 177 = .ok (.bipush 8, 2) := by decide +kernel
theorem dX8_init_179 : decode cX8_init 179 = .ok (.newarray .int, 2) := by decide +kernel
theorem dX8_init_181 : decode cX8_init 181 = .ok (.putfield 74, 3) := by decide +kernel
theorem dX8_init_184 : decode cX8_init 184 = .ok (.aload_n 0, 1) := by decide +kernel
theorem dX8_init_185 : decode cX8_init 185 = .ok (.bipush 8, 2) := by decide +kernel
theorem dX8_init_187 : decode cX8_init 187 = .ok (.newarray .int, 2) := by decide +kernel
theorem dX8_init_189 : decode cX8_init 189 = .ok (.putfield 77, 3) := by decide +kernel
theorem dX8_init_192 : decode cX8_init 192 = .ok (.aload_n 0, 1) := by decide +kernel
theorem dX8_init_193 : decode cX8_init 193 = .ok (.bipush 8, 2) := by decide +kernel
theorem dX8_init_195 : decode cX8_init 195 = .ok (.newarray .int, 2) := by decide +kernel
theorem dX8_init_197 : decode cX8_init 197 = .ok (.putfield 80, 3) := by decide +kernel
theorem dX8_init_200 : decode cX8_init 200 = .ok (.aload_n 0, 1) := by decide +kernel
theorem dX8_init_201 : decode cX8_init 201 = .ok (.iconst 0, 1) := by decide +kernel
theorem dX8_init_202 : decode cX8_init 202 = .ok (.putfield 83, 3) := by decide +kernel
theorem dX8_init_205 : decode cX8_init 205 = .ok (.return_, 1) := by decide +kernel
theorem dX8_in_0 : decode cX8_in 0 = .ok (.iload_n 0, 1) := by decide +kernel
theorem dX8_in_1 : decode cX8_in 1 = .ok (.iload_n 1, 1) := by decide +kernel
theorem dX8_in_2 : decode cX8_in 2 = .ok (.if_icmp .lt 12, 3) := by decide +kernel
theorem dX8_in_5 : decode cX8_in 5 = .ok (.iload_n 0, 1) := by decide +kernel
theorem dX8_in_6 : decode cX8_in 6 = .ok (.iload_n 2, 1) := by decide +kernel
theorem dX8_in_7 : decode cX8_in 7 = .ok (.if_icmp .gt 7, 3) := by decide +kernel
theorem dX8_in_10 : decode cX8_in 10 = .ok (.iconst 1, 1) := by decide +kernel
theorem dX8_in_11 : decode cX8_in 11 = .ok (.goto 4, 3) := by decide +kernel
theorem dX8_in_14 : decode cX8_in 14 = .ok (.iconst 0, 1) := by decide +kernel
theorem dX8_in_15 : decode cX8_in 15 = .ok (.ireturn, 1) := by decide +kernel
set_option maxRecDepth 20000 in
theorem ggX8_isTransaction_X8_in : GoodIn wsX8_isTransaction wsX8_in := goodIn_r _ [5] (by decide +kernel) (by decide +kernel)
set_option maxRecDepth 20000 in
theorem gX8_isTransaction_X8_in : GoodIn wsX8_isTransaction (va_wsS RX8 87 yX8_in wsX8_in) := goodIn_app (goodIn_of _ (by decide +kernel)) ggX8_isTransaction_X8_in
theorem dX8_isTransaction_0 : decode cX8_isTransaction 0 = .ok (.iload_n 1, 1) := by decide +kernel
theorem dX8_isTransaction_1 : decode cX8_isTransaction 1 = .ok (.iconst 0, 1) := by decide +kernel
theorem dX8_isTransaction_2 : decode cX8_isTransaction 2 = .ok (.iconst 3, 1) := by decide +kernel
theorem dX8_isTransaction_3 : decode cX8_isTransaction 3 = .ok (.invokestatic 87, 3) := by decide +kernel
theorem dX8_isTransaction_6 : decode cX8_isTransaction 6 = .ok (.ifCond .eq 16, 3) := by decide +kernel
theorem dX8_isTransaction_9 : decode cX8_isTransaction 9 = .ok (.aload_n 0, 1) := by decide +kernel
theorem dX8_isTransaction_10 : decode cX8_isTransaction 10 = .ok (.getfield 7, 3) := by decide +kernel
theorem dX8_isTransaction_13 : decode cX8_isTransaction 13 = .ok (.iload_n 1, 1) := by decide +kernel
theorem dX8_isTransaction_14 : decode cX8_isTransaction 14 = .ok (.baload, 1) := by decide +kernel
theorem dX8_isTransaction_15 : decode cX8_isTransaction 15 = .ok (.ifCond .eq 7, 3) := by decide +kernel
theorem dX8_isTransaction_18 : decode cX8_isTransaction 18 = .ok (.iconst 1, 1) := by decide +kernel
theorem dX8_isTransaction_19 : decode cX8_isTransaction 19 = .ok (.goto 4, 3) := by decide +kernel
theorem dX8_isTransaction_22 : decode cX8_isTransaction 22 = .ok (.iconst 0, 1) := by decide +kernel
theorem dX8_isTransaction_23 : decode cX8_isTransaction 23 = .ok (.ireturn, 1) := by decide +kernel
set_option maxRecDepth 20000 in
theorem ggX8_isKey_X8_in : GoodIn wsX8_isKey wsX8_in := goodIn_r _ [4] (by decide +kernel) (by decide +kernel)
set_option maxRecDepth 20000 in
theorem gX8_isKey_X8_in : GoodIn wsX8_isKey (va_wsS RX8 87 yX8_in wsX8_in) := goodIn_app (goodIn_of _ (by decide +kernel)) ggX8_isKey_X8_in
theorem dX8_isKey_0 : decode cX8_isKey 0 = .ok (.iload_n 0, 1) := by decide +kernel
theorem dX8_isKey_1 : decode cX8_isKey 1 = .ok (.iconst 0, 1) := by decide +kernel
theorem dX8_isKey_2 : decode cX8_isKey 2 = .ok (.iconst 5, 1) := by decide +kernel
theorem dX8_isKey_3 : decode cX8_isKey 3 = .ok (.invokestatic 87, 3) := by decide +kernel
theorem dX8_isKey_6 : decode cX8_isKey 6 = .ok (.ireturn, 1) := by decide +kernel
set_option maxRecDepth 20000 in
theorem ggX8_begin_X8_clears : GoodIn wsX8_begin wsX8_clears := goodIn_r _ [6, 7, 8, 9, 10, 11, 12, 13, 14, 15, 16, 17, 18, 19, 20, 21, 22, 23, 24, 25, 26, 27, 28, 29, 30, 31, 32, 33, 34, 35, 36, 37, 38, 39, 40, 41, 42] (by decide +kernel) (by decide +kernel)
set_option maxRecDepth 20000 in
theorem gX8_begin_X8_clears : GoodIn wsX8_begin (wsV RX8 91 RX8 yX8_clears wsX8_clears) := goodIn_app (goodIn_of _ (by decide +kernel)) ggX8_begin_X8_clears
theorem dX8_begin_0 : decode cX8_begin 0 = .ok (.iconst 0, 1) := by decide +kernel
theorem dX8_begin_1 : decode cX8_begin 1 = .ok (.istore_n 1, 1) := by decide +kernel
theorem dX8_begin_2 : decode cX8_begin 2 = .ok (.iload_n 1, 1) := by decide +kernel
theorem dX8_begin_3 : decode cX8_begin 3 = .ok (.iconst 4, 1) := by decide +kernel
theorem dX8_begin_4 : decode cX8_begin 4 = .ok (.if_icmp .ge 32, 3) := by decide +kernel
theorem dX8_begin_7 : decode cX8_begin 7 = .ok (.aload_n 0, 1) := by decide +kernel
theorem dX8_begin_8 : decode cX8_begin 8 = .ok (.getfield 7, 3) := by decide +kernel
theorem dX8_begin_11 : decode cX8_begin 11 = .ok (.iload_n 1, 1) := by decide +kernel
theorem dX8_begin_12 : decode cX8_begin 12 = .ok (.baload, 1) := by decide +kernel
theorem dX8_begin_13 : decode cX8_begin 13 = .ok (.ifCond .ne 17, 3) := by decide +kernel
theorem dX8_begin_16 : decode cX8_begin 16 = .ok (.aload_n 0, 1) := by decide +kernel
theorem dX8_begin_17 : decode cX8_begin 17 = .ok (.getfield 7, 3) := by decide +kernel
theorem dX8_begin_20 : decode cX8_begin 20 = .ok (.iload_n 1, 1) := by decide +kernel
theorem dX8_begin_21 : decode cX8_begin 21 = .ok (.iconst 1, 1) := by decide +kernel
theorem dX8_begin_22 : decode cX8_begin 22 = .ok (.bastore, 1) := by decide +kernel
theorem dX8_begin_23 : decode cX8_begin 23 = .ok (.aload_n 0, 1) := by decide +kernel
theorem dX8_begin_24 : decode cX8_begin 24 = .ok (.iload_n 1, 1) := by decide +kernel
theorem dX8_begin_25 : decode cX8_begin 25 = .ok (.invokevirtual 91, 3) := by decide +kernel
theorem dX8_begin_28 : decode cX8_begin 28 = .ok (.iload_n 1, 1) := by decide +kernel
theorem dX8_begin_29 : decode cX8_begin 29 = .ok (.ireturn, 1) := by decide +kernel
theorem dX8_begin_30 : decode cX8_begin 30 = .ok (.iinc 1 1, 3) := by decide +kernel
theorem dX8_begin_33 : decode cX8_begin 33 = .ok (.goto (-31), 3) := by decide +kernel
theorem dX8_begin_36 : decode cX8_begin 36 = .ok (.bipush (-3), 2) := by decide +kernel
theorem dX8_begin_38 : decode cX8_begin 38 = .ok (.ireturn, 1) := by decide +kernel
theorem dX8_clears_0 : decode cX8_clears 0 = .ok (.iconst 0, 1) := by decide +kernel
theorem dX8_clears_1 : decode cX8_clears 1 = .ok (.istore_n 2, 1) := by decide +kernel
theorem dX8_clears_2 : decode cX8_clears 2 = .ok (.iload_n 2, 1) := by decide +kernel
theorem dX8_clears_3 : decode cX8_clears 3 = .ok (.bipush 6, 2) := by decide +kernel
theorem dX8_clears_5 : decode cX8_clears 5 = .ok (.if_icmp .ge 21, 3) := by decide +kernel
theorem dX8_clears_8 : decode cX8_clears 8 = .ok (.aload_n 0, 1) := by decide +kernel
theorem dX8_clears_9 : decode cX8_clears 9 = .ok (.getfield 13, 3) := by decide +kernel
theorem dX8_clears_12 : decode cX8_clears 12 = .ok (.bipush 6, 2) := by decide +kernel
theorem dX8_clears_14 : decode cX8_clears 14 = .ok (.iload_n 1, 1) := by decide +kernel
theorem dX8_clears_15 : decode cX8_clears 15 = .ok (.imul, 1) := by decide +kernel
theorem dX8_clears_16 : decode cX8_clears 16 = .ok (.iload_n 2, 1) := by decide +kernel
theorem dX8_clears_17 : decode cX8_clears 17 = .ok (.iadd, 1) := by decide +kernel
theorem dX8_clears_18 : decode cX8_clears 18 = .ok (.iconst 0, 1) := by decide +kernel
theorem dX8_clears_19 : decode cX8_clears 19 = .ok (.bastore, 1) := by decide +kernel
theorem dX8_clears_20 : decode cX8_clears 20 = .ok (.iinc 2 1, 3) := by decide +kernel
theorem dX8_clears_23 : decode cX8_clears 23 = .ok (.goto (-21), 3) := by decide +kernel
theorem dX8_clears_26 : decode cX8_clears 26 = .ok (.return_, 1) := by decide +kernel
theorem dX8_isUnderWay_0 : decode cX8_isUnderWay 0 = .ok (.iconst 0, 1) := by decide +kernel
theorem dX8_isUnderWay_1 : decode cX8_isUnderWay 1 = .ok (.istore_n 2, 1) := by decide +kernel
theorem dX8_isUnderWay_2 : decode cX8_isUnderWay 2 = .ok (.aload_n 0, 1) := by decide +kernel
theorem dX8_isUnderWay_3 : decode cX8_isUnderWay 3 = .ok (.getfield 95, 3) := by decide +kernel
theorem dX8_isUnderWay_6 : decode cX8_isUnderWay 6 = .ok (.istore_n 3, 1) := by decide +kernel
theorem dX8_isUnderWay_7 : decode cX8_isUnderWay 7 = .ok (.iload_n 3, 1) := by decide +kernel
theorem dX8_isUnderWay_8 : decode cX8_isUnderWay 8 = .ok (.aload_n 0, 1) := by decide +kernel
theorem dX8_isUnderWay_9 : decode cX8_isUnderWay 9 = .ok (.getfield 83, 3) := by decide +kernel
theorem dX8_isUnderWay_12 : decode cX8_isUnderWay 12 = .ok (.if_icmp .ge 29, 3) := by decide +kernel
theorem dX8_isUnderWay_15 : decode cX8_isUnderWay 15 = .ok (.iload_n 2, 1) := by decide +kernel
theorem dX8_isUnderWay_16 : decode cX8_isUnderWay 16 = .ok (.ifCond .ne 13, 3) := by decide +kernel
theorem dX8_isUnderWay_19 : decode cX8_isUnderWay 19 = .ok (.aload_n 0, 1) := by decide +kernel
theorem dX8_isUnderWay_20 : decode cX8_isUnderWay 20 = .ok (.getfield 26, 3) := by decide +kernel
theorem dX8_isUnderWay_23 : decode cX8_isUnderWay 23 = .ok (.iload_n 3, 1) := by decide +kernel
theorem dX8_isUnderWay_24 : decode cX8_isUnderWay 24 = .ok (.iaload, 1) := by decide +kernel
theorem dX8_isUnderWay_25 : decode cX8_isUnderWay 25 = .ok (.iload_n 1, 1) := by decide +kernel
theorem dX8_isUnderWay_26 : decode cX8_isUnderWay 26 = .ok (.if_icmp .ne 7, 3) := by decide +kernel
theorem dX8_isUnderWay_29 : decode cX8_isUnderWay 29 = .ok (.iconst 1, 1) := by decide +kernel
theorem dX8_isUnderWay_30 : decode cX8_isUnderWay 30 = .ok (.goto 4, 3) := by decide +kernel
theorem dX8_isUnderWay_33 : decode cX8_isUnderWay 33 = .ok (.iconst 0, 1) := by decide +kernel
theorem dX8_isUnderWay_34 : decode cX8_isUnderWay 34 = .ok (.istore_n 2, 1) := by decide +kernel
theorem dX8_isUnderWay_35 : decode cX8_isUnderWay 35 = .ok (.iinc 3 1, 3) := by decide +kernel
theorem dX8_isUnderWay_38 : decode cX8_isUnderWay 38 = .ok (.goto (-31), 3) := by decide +kernel
theorem dX8_isUnderWay_41 : decode cX8_isUnderWay 41 = .ok (.iload_n 2, 1) := by decide +kernel
theorem dX8_isUnderWay_42 : decode cX8_isUnderWay 42 = .ok (.ireturn, 1) := by decide +kernel
theorem dX8_writer_0 : decode cX8_writer 0 = .ok (.iconst 0, 1) := by decide +kernel
theorem dX8_writer_1 : decode cX8_writer 1 = .ok (.istore_n 2, 1) := by decide +kernel
theorem dX8_writer_2 : decode cX8_writer 2 = .ok (.iload_n 2, 1) := by decide +kernel
theorem dX8_writer_3 : decode cX8_writer 3 = .ok (.iconst 4, 1) := by decide +kernel
theorem dX8_writer_4 : decode cX8_writer 4 = .ok (.if_icmp .ge 34, 3) := by decide +kernel
theorem dX8_writer_7 : decode cX8_writer 7 = .ok (.aload_n 0, 1) := by decide +kernel
theorem dX8_writer_8 : decode cX8_writer 8 = .ok (.getfield 7, 3) := by decide +kernel
theorem dX8_writer_11 : decode cX8_writer 11 = .ok (.iload_n 2, 1) := by decide +kernel
theorem dX8_writer_12 : decode cX8_writer 12 = .ok (.baload, 1) := by decide +kernel
theorem dX8_writer_13 : decode cX8_writer 13 = .ok (.ifCond .eq 19, 3) := by decide +kernel
theorem dX8_writer_16 : decode cX8_writer 16 = .ok (.aload_n 0, 1) := by decide +kernel
theorem dX8_writer_17 : decode cX8_writer 17 = .ok (.getfield 13, 3) := by decide +kernel
theorem dX8_writer_20 : decode cX8_writer 20 = .ok (.bipush 6, 2) := by decide +kernel
theorem dX8_writer_22 : decode cX8_writer 22 = .ok (.iload_n 2, 1) := by decide +kernel
theorem dX8_writer_23 : decode cX8_writer 23 = .ok (.imul, 1) := by decide +kernel
theorem dX8_writer_24 : decode cX8_writer 24 = .ok (.iload_n 1, 1) := by decide +kernel
theorem dX8_writer_25 : decode cX8_writer 25 = .ok (.iadd, 1) := by decide +kernel
theorem dX8_writer_26 : decode cX8_writer 26 = .ok (.baload, 1) := by decide +kernel
theorem dX8_writer_27 : decode cX8_writer 27 = .ok (.ifCond .eq 5, 3) := by decide +kernel
theorem dX8_writer_30 : decode cX8_writer 30 = .ok (.iload_n 2, 1) := by decide +kernel
theorem dX8_writer_31 : decode cX8_writer 31 = .ok (.ireturn, 1) := by decide +kernel
theorem dX8_writer_32 : decode cX8_writer 32 = .ok (.iinc 2 1, 3) := by decide +kernel
theorem dX8_writer_35 : decode cX8_writer 35 = .ok (.goto (-33), 3) := by decide +kernel
theorem dX8_writer_38 : decode cX8_writer 38 = .ok (.iconst (-1), 1) := by decide +kernel
theorem dX8_writer_39 : decode cX8_writer 39 = .ok (.ireturn, 1) := by decide +kernel
set_option maxRecDepth 20000 in
theorem ggX8_write_X8_isTransaction : GoodIn wsX8_write wsX8_isTransaction := goodIn_r _ [7, 8, 9, 10, 6, 11, 26, 27, 28, 29, 30, 31, 32, 33, 34, 35, 36, 37, 38, 39, 40, 41, 42, 43, 44, 45, 46, 47, 48, 49, 50, 51, 52, 53, 54, 55, 56, 57, 58, 59, 60] (by decide +kernel) (by decide +kernel)
set_option maxRecDepth 20000 in
theorem gX8_write_X8_isTransaction : GoodIn wsX8_write (wsV RX8 98 RX8 yX8_isTransaction wsX8_isTransaction) := goodIn_app (goodIn_of _ (by decide +kernel)) ggX8_write_X8_isTransaction
set_option maxRecDepth 20000 in
theorem ggX8_write_X8_isKey : GoodIn wsX8_write wsX8_isKey := goodIn_r _ [14, 9, 10, 6, 11] (by decide +kernel) (by decide +kernel)
set_option maxRecDepth 20000 in
theorem gX8_write_X8_isKey : GoodIn wsX8_write (va_wsS RX8 102 yX8_isKey wsX8_isKey) := goodIn_app (goodIn_of _ (by decide +kernel)) ggX8_write_X8_isKey
set_option maxRecDepth 20000 in
theorem ggX8_write_X8_writer : GoodIn wsX8_write wsX8_writer := goodIn_r _ [18, 8, 1, 26, 27, 28, 29, 30, 31, 32, 33, 34, 35, 36, 37, 38, 39, 40, 41, 42, 43, 44, 45, 46, 47, 48, 49, 50, 51, 52, 53, 54, 55, 56, 57, 58, 59, 60] (by decide +kernel) (by decide +kernel)
set_option maxRecDepth 20000 in
theorem gX8_write_X8_writer : GoodIn wsX8_write (wsV RX8 105 RX8 yX8_writer wsX8_writer) := goodIn_app (goodIn_of _ (by decide +kernel)) ggX8_write_X8_writer
set_option maxRecDepth 20000 in
theorem ggX8_write_X8_isUnderWay : GoodIn wsX8_write wsX8_isUnderWay := goodIn_r _ [22, 23, 24, 25, 26, 27, 28, 29, 30, 31, 32, 33, 34, 35, 36, 37, 38, 39, 40, 41, 42, 43, 44, 45, 46, 47, 48, 49, 50, 51, 52, 53, 54, 55, 56, 57, 58, 59, 60] (by decide +kernel) (by decide +kernel)
set_option maxRecDepth 20000 in
theorem gX8_write_X8_isUnderWay : GoodIn wsX8_write (wsV RX8 109 RX8 yX8_isUnderWay wsX8_isUnderWay) := goodIn_app (goodIn_of _ (by decide +kernel)) ggX8_write_X8_isUnderWay
theorem dX8_write_0 : decode cX8_write 0 = .ok (.aload_n 0, 1) := by decide +kernel
theorem dX8_write_1 : decode cX8_write 1 = .ok (.iload_n 1, 1) := by decide +kernel
theorem dX8_write_2 : decode cX8_write 2 = .ok (.invokevirtual 98, 3) := by decide +kernel
theorem dX8_write_5 : decode cX8_write 5 = .ok (.ifCond .eq 10, 3) := by decide +kernel
theorem dX8_write_8 : decode cX8_write 8 = .ok (.iload_n 2, 1) := by decide +kernel
theorem dX8_write_9 : decode cX8_write 9 = .ok (.invokestatic 102, 3) := by decide +kernel
theorem dX8_write_12 : decode cX8_write 12 = .ok (.ifCond .ne 5, 3) := by decide +kernel
theorem dX8_write_15 : decode cX8_write 15 = .ok (.iconst (-1), 1) := by decide +kernel
theorem dX8_write_16 : decode cX8_write 16 = .ok (.ireturn, 1) := by decide +kernel
theorem dX8_write_17 : decode cX8_write 17 = .ok (.aload_n 0, 1) := by decide +kernel
theorem dX8_write_18 : decode cX8_write 18 = .ok (.iload_n 2, 1) := by decide +kernel
theorem dX8_write_19 : decode cX8_write 19 = .ok (.invokevirtual 105, 3) := by decide +kernel
theorem dX8_write_22 : decode cX8_write 22 = .ok (.istore 4, 2) := by decide +kernel
theorem dX8_write_24 : decode cX8_write 24 = .ok (.aload_n 0, 1) := by decide +kernel
theorem dX8_write_25 : decode cX8_write 25 = .ok (.iload_n 2, 1) := by decide +kernel
theorem dX8_write_26 : decode cX8_write 26 = .ok (.invokevirtual 109, 3) := by decide +kernel
theorem dX8_write_29 : decode cX8_write 29 = .ok (.ifCond .ne 14, 3) := by decide +kernel
theorem dX8_write_32 : decode cX8_write 32 = .ok (.iload 4, 2) := by decide +kernel
theorem dX8_write_34 : decode cX8_write 34 = .ok (.ifCond .lt 12, 3) := by decide +kernel
theorem dX8_write_37 : decode cX8_write 37 = .ok (.iload 4, 2) := by decide +kernel
theorem dX8_write_39 : decode cX8_write 39 = .ok (.iload_n 1, 1) := by decide +kernel
theorem dX8_write_40 : decode cX8_write 40 = .ok (.if_icmp .eq 6, 3) := by decide +kernel
theorem dX8_write_43 : decode cX8_write 43 = .ok (.bipush (-2), 2) := by decide +kernel
theorem dX8_write_45 : decode cX8_write 45 = .ok (.ireturn, 1) := by decide +kernel
theorem dX8_write_46 : decode cX8_write 46 = .ok (.aload_n 0, 1) := by decide +kernel
theorem dX8_write_47 : decode cX8_write 47 = .ok (.getfield 13, 3) := by decide +kernel
theorem dX8_write_50 : decode cX8_write 50 = .ok (.bipush 6, 2) := by decide +kernel
theorem dX8_write_52 : decode cX8_write 52 = .ok (.iload_n 1, 1) := by decide +kernel
theorem dX8_write_53 : decode cX8_write 53 = .ok (.imul, 1) := by decide +kernel
theorem dX8_write_54 : decode cX8_write 54 = .ok (.iload_n 2, 1) := by decide +kernel
theorem dX8_write_55 : decode cX8_write 55 = .ok (.iadd, 1) := by decide +kernel
theorem dX8_write_56 : decode cX8_write 56 = .ok (.iconst 1, 1) := by decide +kernel
theorem dX8_write_57 : decode cX8_write 57 = .ok (.bastore, 1) := by decide +kernel
theorem dX8_write_58 : decode cX8_write 58 = .ok (.aload_n 0, 1) := by decide +kernel
theorem dX8_write_59 : decode cX8_write 59 = .ok (.getfield 16, 3) := by decide +kernel
theorem dX8_write_62 : decode cX8_write 62 = .ok (.bipush 6, 2) := by decide +kernel
theorem dX8_write_64 : decode cX8_write 64 = .ok (.iload_n 1, 1) := by decide +kernel
theorem dX8_write_65 : decode cX8_write 65 = .ok (.imul, 1) := by decide +kernel
theorem dX8_write_66 : decode cX8_write 66 = .ok (.iload_n 2, 1) := by decide +kernel
theorem dX8_write_67 : decode cX8_write 67 = .ok (.iadd, 1) := by decide +kernel
theorem dX8_write_68 : decode cX8_write 68 = .ok (.iload_n 3, 1) := by decide +kernel
theorem dX8_write_69 : decode cX8_write 69 = .ok (.iastore, 1) := by decide +kernel
theorem dX8_write_70 : decode cX8_write 70 = .ok (.iconst 1, 1) := by decide +kernel
theorem dX8_write_71 : decode cX8_write 71 = .ok (.ireturn, 1) := by decide +kernel
set_option maxRecDepth 20000 in
theorem ggX8_read_X8_isTransaction : GoodIn wsX8_read wsX8_isTransaction := goodIn_r _ [8, 9, 10, 11, 7, 12, 16, 17, 18, 19, 20, 21, 22, 23, 24, 25, 26, 27, 28, 29, 30, 31, 32, 33, 34, 35, 36, 37, 38, 39, 40, 41, 42, 43, 44, 45, 46, 47, 48, 49, 50] (by decide +kernel) (by decide +kernel)
set_option maxRecDepth 20000 in
theorem gX8_read_X8_isTransaction : GoodIn wsX8_read (wsV RX8 98 RX8 yX8_isTransaction wsX8_isTransaction) := goodIn_app (goodIn_of _ (by decide +kernel)) ggX8_read_X8_isTransaction
set_option maxRecDepth 20000 in
theorem ggX8_read_X8_isKey : GoodIn wsX8_read wsX8_isKey := goodIn_r _ [15, 10, 11, 7, 12] (by decide +kernel) (by decide +kernel)
set_option maxRecDepth 20000 in
theorem gX8_read_X8_isKey : GoodIn wsX8_read (va_wsS RX8 102 yX8_isKey wsX8_isKey) := goodIn_app (goodIn_of _ (by decide +kernel)) ggX8_read_X8_isKey
theorem dX8_read_0 : decode cX8_read 0 = .ok (.aload_n 0, 1) := by decide +kernel
theorem dX8_read_1 : decode cX8_read 1 = .ok (.iload_n 1, 1) := by decide +kernel
theorem dX8_read_2 : decode cX8_read 2 = .ok (.invokevirtual 98, 3) := by decide +kernel
theorem dX8_read_5 : decode cX8_read 5 = .ok (.ifCond .eq 10, 3) := by decide +kernel
theorem dX8_read_8 : decode cX8_read 8 = .ok (.iload_n 2, 1) := by decide +kernel
theorem dX8_read_9 : decode cX8_read 9 = .ok (.invokestatic 102, 3) := by decide +kernel
theorem dX8_read_12 : decode cX8_read 12 = .ok (.ifCond .ne 5, 3) := by decide +kernel
theorem dX8_read_15 : decode cX8_read 15 = .ok (.iconst 0, 1) := by decide +kernel
theorem dX8_read_16 : decode cX8_read 16 = .ok (.ireturn, 1) := by decide +kernel
theorem dX8_read_17 : decode cX8_read 17 = .ok (.aload_n 0, 1) := by decide +kernel
theorem dX8_read_18 : decode cX8_read 18 = .ok (.getfield 13, 3) := by decide +kernel
theorem dX8_read_21 : decode cX8_read 21 = .ok (.bipush 6, 2) := by decide +kernel
theorem dX8_read_23 : decode cX8_read 23 = .ok (.iload_n 1, 1) := by decide +kernel
theorem dX8_read_24 : decode cX8_read 24 = .ok (.imul, 1) := by decide +kernel
theorem dX8_read_25 : decode cX8_read 25 = .ok (.iload_n 2, 1) := by decide +kernel
theorem dX8_read_26 : decode cX8_read 26 = .ok (.iadd, 1) := by decide +kernel
theorem dX8_read_27 : decode cX8_read 27 = .ok (.baload, 1) := by decide +kernel
theorem dX8_read_28 : decode cX8_read 28 = .ok (.ifCond .eq 17, 3) := by decide +kernel
theorem dX8_read_31 : decode cX8_read 31 = .ok (.aload_n 0, 1) := by decide +kernel
theorem dX8_read_32 : decode cX8_read 32 = .ok (.getfield 16, 3) := by decide +kernel
theorem dX8_read_35 : decode cX8_read 35 = .ok (.bipush 6, 2) := by decide +kernel
theorem dX8_read_37 : decode cX8_read 37 = .ok (.iload_n 1, 1) := by decide +kernel
theorem dX8_read_38 : decode cX8_read 38 = .ok (.imul, 1) := by decide +kernel
theorem dX8_read_39 : decode cX8_read 39 = .ok (.iload_n 2, 1) := by decide +kernel
theorem dX8_read_40 : decode cX8_read 40 = .ok (.iadd, 1) := by decide +kernel
theorem dX8_read_41 : decode cX8_read 41 = .ok (.iaload, 1) := by decide +kernel
theorem dX8_read_42 : decode cX8_read 42 = .ok (.goto 9, 3) := by decide +kernel
theorem dX8_read_45 : decode cX8_read 45 = .ok (.aload_n 0, 1) := by decide +kernel
theorem dX8_read_46 : decode cX8_read 46 = .ok (.getfield 20, 3) := by decide +kernel
theorem dX8_read_49 : decode cX8_read 49 = .ok (.iload_n 2, 1) := by decide +kernel
theorem dX8_read_50 : decode cX8_read 50 = .ok (.iaload, 1) := by decide +kernel
theorem dX8_read_51 : decode cX8_read 51 = .ok (.ireturn, 1) := by decide +kernel
theorem dX8_writtenBy_0 : decode cX8_writtenBy 0 = .ok (.iconst 0, 1) := by decide +kernel
theorem dX8_writtenBy_1 : decode cX8_writtenBy 1 = .ok (.istore_n 2, 1) := by decide +kernel
theorem dX8_writtenBy_2 : decode cX8_writtenBy 2 = .ok (.iconst 0, 1) := by decide +kernel
theorem dX8_writtenBy_3 : decode cX8_writtenBy 3 = .ok (.istore_n 3, 1) := by decide +kernel
theorem dX8_writtenBy_4 : decode cX8_writtenBy 4 = .ok (.iload_n 3, 1) := by decide +kernel
theorem dX8_writtenBy_5 : decode cX8_writtenBy 5 = .ok (.bipush 6, 2) := by decide +kernel
theorem dX8_writtenBy_7 : decode cX8_writtenBy 7 = .ok (.if_icmp .ge 31, 3) := by decide +kernel
theorem dX8_writtenBy_10 : decode cX8_writtenBy 10 = .ok (.iload_n 2, 1) := by decide +kernel
theorem dX8_writtenBy_11 : decode cX8_writtenBy 11 = .ok (.aload_n 0, 1) := by decide +kernel
theorem dX8_writtenBy_12 : decode cX8_writtenBy 12 = .ok (.getfield 13, 3) := by decide +kernel
theorem dX8_writtenBy_15 : decode cX8_writtenBy 15 = .ok (.bipush 6, 2) := by decide +kernel
theorem dX8_writtenBy_17 : decode cX8_writtenBy 17 = .ok (.iload_n 1, 1) := by decide +kernel
theorem dX8_writtenBy_18 : decode cX8_writtenBy 18 = .ok (.imul, 1) := by decide +kernel
theorem dX8_writtenBy_19 : decode cX8_writtenBy 19 = .ok (.iload_n 3, 1) := by decide +kernel
theorem dX8_writtenBy_20 : decode cX8_writtenBy 20 = .ok (.iadd, 1) := by decide +kernel
theorem dX8_writtenBy_21 : decode cX8_writtenBy 21 = .ok (.baload, 1) := by decide +kernel
theorem dX8_writtenBy_22 : decode cX8_writtenBy 22 = .ok (.ifCond .eq 7, 3) := by decide +kernel
theorem dX8_writtenBy_25 : decode cX8_writtenBy 25 = .ok (.iconst 1, 1) := by decide +kernel
theorem dX8_writtenBy_26 : decode cX8_writtenBy 26 = .ok (.goto 4, 3) := by decide +kernel
theorem dX8_writtenBy_29 : decode cX8_writtenBy 29 = .ok (.iconst 0, 1) := by decide +kernel
theorem dX8_writtenBy_30 : decode cX8_writtenBy 30 = .ok (.iadd, 1) := by decide +kernel
theorem dX8_writtenBy_31 : decode cX8_writtenBy 31 = .ok (.istore_n 2, 1) := by decide +kernel
theorem dX8_writtenBy_32 : decode cX8_writtenBy 32 = .ok (.iinc 3 1, 3) := by decide +kernel
theorem dX8_writtenBy_35 : decode cX8_writtenBy 35 = .ok (.goto (-31), 3) := by decide +kernel
theorem dX8_writtenBy_38 : decode cX8_writtenBy 38 = .ok (.iload_n 2, 1) := by decide +kernel
theorem dX8_writtenBy_39 : decode cX8_writtenBy 39 = .ok (.ireturn, 1) := by decide +kernel
set_option maxRecDepth 20000 in
theorem ggX8_commit_X8_isTransaction : GoodIn wsX8_commit wsX8_isTransaction := goodIn_r _ [16, 11, 17, 18, 15, 19, 28, 29, 30, 31, 32, 33, 34, 35, 36, 37, 38, 39, 40, 41, 42, 43, 44, 45, 46, 47, 48, 49, 50, 51, 52, 53, 54, 55, 56, 57, 58, 59, 60, 61, 62] (by decide +kernel) (by decide +kernel)
set_option maxRecDepth 20000 in
theorem gX8_commit_X8_isTransaction : GoodIn wsX8_commit (wsV RX8 98 RX8 yX8_isTransaction wsX8_isTransaction) := goodIn_app (goodIn_of _ (by decide +kernel)) ggX8_commit_X8_isTransaction
set_option maxRecDepth 20000 in
theorem ggX8_commit_X8_writtenBy : GoodIn wsX8_commit wsX8_writtenBy := goodIn_r _ [23, 2, 28, 29, 30, 31, 32, 33, 34, 35, 36, 37, 38, 39, 40, 41, 42, 43, 44, 45, 46, 47, 48, 49, 50, 51, 52, 53, 54, 55, 56, 57, 58, 59, 60, 61, 62] (by decide +kernel) (by decide +kernel)
set_option maxRecDepth 20000 in
theorem gX8_commit_X8_writtenBy : GoodIn wsX8_commit (wsV RX8 112 RX8 yX8_writtenBy wsX8_writtenBy) := goodIn_app (goodIn_of _ (by decide +kernel)) ggX8_commit_X8_writtenBy
set_option maxRecDepth 20000 in
theorem ggX8_commit_X8_clears : GoodIn wsX8_commit wsX8_clears := goodIn_r _ [27, 2, 28, 29, 30, 31, 32, 33, 34, 35, 36, 37, 38, 39, 40, 41, 42, 43, 44, 45, 46, 47, 48, 49, 50, 51, 52, 53, 54, 55, 56, 57, 58, 59, 60, 61, 62] (by decide +kernel) (by decide +kernel)
set_option maxRecDepth 20000 in
theorem gX8_commit_X8_clears : GoodIn wsX8_commit (wsV RX8 91 RX8 yX8_clears wsX8_clears) := goodIn_app (goodIn_of _ (by decide +kernel)) ggX8_commit_X8_clears
theorem dX8_commit_0 : decode cX8_commit 0 = .ok (.aload_n 0, 1) := by decide +kernel
theorem dX8_commit_1 : decode cX8_commit 1 = .ok (.iload_n 1, 1) := by decide +kernel
theorem dX8_commit_2 : decode cX8_commit 2 = .ok (.invokevirtual 98, 3) := by decide +kernel
theorem dX8_commit_5 : decode cX8_commit 5 = .ok (.ifCond .ne 5, 3) := by decide +kernel
theorem dX8_commit_8 : decode cX8_commit 8 = .ok (.iconst (-1), 1) := by decide +kernel
theorem dX8_commit_9 : decode cX8_commit 9 = .ok (.ireturn, 1) := by decide +kernel
theorem dX8_commit_10 : decode cX8_commit 10 = .ok (.aload_n 0, 1) := by decide +kernel
theorem dX8_commit_11 : decode cX8_commit 11 = .ok (.iload_n 1, 1) := by decide +kernel
theorem dX8_commit_12 : decode cX8_commit 12 = .ok (.invokevirtual 112, 3) := by decide +kernel
theorem dX8_commit_15 : decode cX8_commit 15 = .ok (.istore_n 2, 1) := by decide +kernel
theorem dX8_commit_16 : decode cX8_commit 16 = .ok (.aload_n 0, 1) := by decide +kernel
theorem dX8_commit_17 : decode cX8_commit 17 = .ok (.getfield 83, 3) := by decide +kernel
theorem dX8_commit_20 : decode cX8_commit 20 = .ok (.iload_n 2, 1) := by decide +kernel
theorem dX8_commit_21 : decode cX8_commit 21 = .ok (.iadd, 1) := by decide +kernel
theorem dX8_commit_22 : decode cX8_commit 22 = .ok (.sipush 400, 3) := by decide +kernel
theorem dX8_commit_25 : decode cX8_commit 25 = .ok (.if_icmp .le 6, 3) := by decide +kernel
theorem dX8_commit_28 : decode cX8_commit 28 = .ok (.bipush (-3), 2) := by decide +kernel
theorem dX8_commit_30 : decode cX8_commit 30 = .ok (.ireturn, 1) := by decide +kernel
theorem dX8_commit_31 : decode cX8_commit 31 = .ok (.iload_n 2, 1) := by decide +kernel
theorem dX8_commit_32 : decode cX8_commit 32 = .ok (.istore_n 3, 1) := by decide +kernel
theorem dX8_commit_33 : decode cX8_commit 33 = .ok (.iconst 0, 1) := by decide +kernel
theorem dX8_commit_34 : decode cX8_commit 34 = .ok (.istore 4, 2) := by decide +kernel
theorem dX8_commit_36 : decode cX8_commit 36 = .ok (.iload 4, 2) := by decide +kernel
theorem dX8_commit_38 : decode cX8_commit 38 = .ok (.bipush 6, 2) := by decide +kernel
theorem dX8_commit_40 : decode cX8_commit 40 = .ok (.if_icmp .ge 125, 3) := by decide +kernel
theorem dX8_commit_43 : decode cX8_commit 43 = .ok (.aload_n 0, 1) := by decide +kernel
theorem dX8_commit_44 : decode cX8_commit 44 = .ok (.getfield 13, 3) := by decide +kernel
theorem dX8_commit_47 : decode cX8_commit 47 = .ok (.bipush 6, 2) := by decide +kernel
theorem dX8_commit_49 : decode cX8_commit 49 = .ok (.iload_n 1, 1) := by decide +kernel
theorem dX8_commit_50 : decode cX8_commit 50 = .ok (.imul, 1) := by decide +kernel
theorem dX8_commit_51 : decode cX8_commit 51 = .ok (.iload 4, 2) := by decide +kernel
theorem dX8_commit_53 : decode cX8_commit 53 = .ok (.iadd, 1) := by decide +kernel
theorem dX8_commit_54 : decode cX8_commit 54 = .ok (.baload, 1) := by decide +kernel
theorem dX8_commit_55 : decode cX8_commit 55 = .ok (.ifCond .eq 104, 3) := by decide +kernel
theorem dX8_commit_58 : decode cX8_commit 58 = .ok (.iinc 3 (-1), 3) := by decide +kernel
theorem dX8_commit_61 : decode cX8_commit 61 = .ok (.aload_n 0, 1) := by decide +kernel
theorem dX8_commit_62 : decode cX8_commit 62 = .ok (.getfield 26, 3) := by decide +kernel
theorem dX8_commit_65 : decode cX8_commit 65 = .ok (.aload_n 0, 1) := by decide +kernel
theorem dX8_commit_66 : decode cX8_commit 66 = .ok (.getfield 83, 3) := by decide +kernel
theorem dX8_commit_69 : decode cX8_commit 69 = .ok (.iload 4, 2) := by decide +kernel
theorem dX8_commit_71 : decode cX8_commit 71 = .ok (.iastore, 1) := by decide +kernel
theorem dX8_commit_72 : decode cX8_commit 72 = .ok (.aload_n 0, 1) := by decide +kernel
theorem dX8_commit_73 : decode cX8_commit 73 = .ok (.getfield 29, 3) := by decide +kernel
theorem dX8_commit_76 : decode cX8_commit 76 = .ok (.aload_n 0, 1) := by decide +kernel
theorem dX8_commit_77 : decode cX8_commit 77 = .ok (.getfield 83, 3) := by decide +kernel
theorem dX8_commit_80 : decode cX8_commit 80 = .ok (.aload_n 0, 1) := by decide +kernel
theorem dX8_commit_81 : decode cX8_commit 81 = .ok (.getfield 16, 3) := by decide +kernel
theorem dX8_commit_84 : decode cX8_commit 84 = .ok (.bipush 6, 2) := by decide +kernel
theorem dX8_commit_86 : decode cX8_commit 86 = .ok (.iload_n 1, 1) := by decide +kernel
theorem dX8_commit_87 : decode cX8_commit 87 = .ok (.imul, 1) := by decide +kernel
theorem dX8_commit_88 : decode cX8_commit 88 = .ok (.iload 4, 2) := by decide +kernel
theorem dX8_commit_90 : decode cX8_commit 90 = .ok (.iadd, 1) := by decide +kernel
theorem dX8_commit_91 : decode cX8_commit 91 = .ok (.iaload, 1) := by decide +kernel
theorem dX8_commit_92 : decode cX8_commit 92 = .ok (.iastore, 1) := by decide +kernel
theorem dX8_commit_93 : decode cX8_commit 93 = .ok (.aload_n 0, 1) := by decide +kernel
theorem dX8_commit_94 : decode cX8_commit 94 = .ok (.getfield 32, 3) := by decide +kernel
theorem dX8_commit_97 : decode cX8_commit 97 = .ok (.aload_n 0, 1) := by decide +kernel
theorem dX8_commit_98 : decode cX8_commit 98 = .ok (.getfield 83, 3) := by decide +kernel
theorem dX8_commit_101 : decode cX8_commit 101 = .ok (.aload_n 0, 1) := by decide +kernel
theorem dX8_commit_102 : decode cX8_commit 102 = .ok (.getfield 23, 3) := by decide +kernel
theorem dX8_commit_105 : decode cX8_commit 105 = .ok (.iload 4, 2) := by decide +kernel
theorem dX8_commit_107 : decode cX8_commit 107 = .ok (.iaload, 1) := by decide +kernel
theorem dX8_commit_108 : decode cX8_commit 108 = .ok (.iconst 1, 1) := by decide +kernel
theorem dX8_commit_109 : decode cX8_commit 109 = .ok (.iadd, 1) := by decide +kernel
theorem dX8_commit_110 : decode cX8_commit 110 = .ok (.iastore, 1) := by decide +kernel
theorem dX8_commit_111 : decode cX8_commit 111 = .ok (.aload_n 0, 1) := by decide +kernel
theorem dX8_commit_112 : decode cX8_commit 112 = .ok (.getfield 35, 3) := by decide +kernel
theorem dX8_commit_115 : decode cX8_commit 115 = .ok (.aload_n 0, 1) := by decide +kernel
theorem dX8_commit_116 : decode cX8_commit 116 = .ok (.getfield 83, 3) := by decide +kernel
theorem dX8_commit_119 : decode cX8_commit 119 = .ok (.iload_n 3, 1) := by decide +kernel
theorem dX8_commit_120 : decode cX8_commit 120 = .ok (.ifCond .ne 7, 3) := by decide +kernel
theorem dX8_commit_123 : decode cX8_commit 123 = .ok (.iconst 1, 1) := by decide +kernel
theorem dX8_commit_124 : decode cX8_commit 124 = .ok (.goto 4, 3) := by decide +kernel
theorem dX8_commit_127 : decode cX8_commit 127 = .ok (.iconst 0, 1) := by decide +kernel
theorem dX8_commit_128 : decode cX8_commit 128 = .ok (.bastore, 1) := by decide +kernel
theorem dX8_commit_129 : decode cX8_commit 129 = .ok (.aload_n 0, 1) := by decide +kernel
theorem dX8_commit_130 : decode cX8_commit 130 = .ok (.getfield 59, 3) := by decide +kernel
theorem dX8_commit_133 : decode cX8_commit 133 = .ok (.aload_n 0, 1) := by decide +kernel
theorem dX8_commit_134 : decode cX8_commit 134 = .ok (.getfield 83, 3) := by decide +kernel
theorem dX8_commit_137 : decode cX8_commit 137 = .ok (.iconst 0, 1) := by decide +kernel
theorem dX8_commit_138 : decode cX8_commit 138 = .ok (.bastore, 1) := by decide +kernel
theorem dX8_commit_139 : decode cX8_commit 139 = .ok (.aload_n 0, 1) := by decide +kernel
theorem dX8_commit_140 : decode cX8_commit 140 = .ok (.getfield 68, 3) := by decide +kernel
theorem dX8_commit_143 : decode cX8_commit 143 = .ok (.aload_n 0, 1) := by decide +kernel
theorem dX8_commit_144 : decode cX8_commit 144 = .ok (.getfield 83, 3) := by decide +kernel
theorem dX8_commit_147 : decode cX8_commit 147 = .ok (.iconst 0, 1) := by decide +kernel
theorem dX8_commit_148 : decode cX8_commit 148 = .ok (.bastore, 1) := by decide +kernel
theorem dX8_commit_149 : decode cX8_commit 149 = .ok (.aload_n 0, 1) := by decide +kernel
theorem dX8_commit_150 : decode cX8_commit 150 = .ok (.dup, 1) := by decide +kernel
theorem dX8_commit_151 : decode cX8_commit 151 = .ok (.getfield 83, 3) := by decide +kernel
theorem dX8_commit_154 : decode cX8_commit 154 = .ok (.iconst 1, 1) := by decide +kernel
theorem dX8_commit_155 : decode cX8_commit 155 = .ok (.iadd, 1) := by decide +kernel
theorem dX8_commit_156 : decode cX8_commit 156 = .ok (.putfield 83, 3) := by decide +kernel
theorem dX8_commit_159 : decode cX8_commit 159 = .ok (.iinc 4 1, 3) := by decide +kernel
theorem dX8_commit_162 : decode cX8_commit 162 = .ok (.goto (-126), 3) := by decide +kernel
theorem dX8_commit_165 : decode cX8_commit 165 = .ok (.aload_n 0, 1) := by decide +kernel
theorem dX8_commit_166 : decode cX8_commit 166 = .ok (.getfield 7, 3) := by decide +kernel
theorem dX8_commit_169 : decode cX8_commit 169 = .ok (.iload_n 1, 1) := by decide +kernel
theorem dX8_commit_170 : decode cX8_commit 170 = .ok (.iconst 0, 1) := by decide +kernel
theorem dX8_commit_171 : decode cX8_commit 171 = .ok (.bastore, 1) := by decide +kernel
theorem dX8_commit_172 : decode cX8_commit 172 = .ok (.aload_n 0, 1) := by decide +kernel
theorem dX8_commit_173 : decode cX8_commit 173 = .ok (.iload_n 1, 1) := by decide +kernel
theorem dX8_commit_174 : decode cX8_commit 174 = .ok (.invokevirtual 91, 3) := by decide +kernel
theorem dX8_commit_177 : decode cX8_commit 177 = .ok (.iload_n 2, 1) := by decide +kernel
theorem dX8_commit_178 : decode cX8_commit 178 = .ok (.ireturn, 1) := by decide +kernel
set_option maxRecDepth 20000 in
theorem ggX8_abort_X8_isTransaction : GoodIn wsX8_abort wsX8_isTransaction := goodIn_r _ [6, 1, 7, 8, 5, 9, 19, 20, 21, 22, 23, 24, 25, 26, 27, 28, 29, 30, 31, 32, 33, 34, 35, 36, 37, 38, 39, 40, 41, 42, 43, 44, 45, 46, 47, 48, 49, 50, 51, 52, 53] (by decide +kernel) (by decide +kernel)
set_option maxRecDepth 20000 in
theorem gX8_abort_X8_isTransaction : GoodIn wsX8_abort (wsV RX8 98 RX8 yX8_isTransaction wsX8_isTransaction) := goodIn_app (goodIn_of _ (by decide +kernel)) ggX8_abort_X8_isTransaction
set_option maxRecDepth 20000 in
theorem ggX8_abort_X8_writtenBy : GoodIn wsX8_abort wsX8_writtenBy := goodIn_r _ [13, 14, 19, 20, 21, 22, 23, 24, 25, 26, 27, 28, 29, 30, 31, 32, 33, 34, 35, 36, 37, 38, 39, 40, 41, 42, 43, 44, 45, 46, 47, 48, 49, 50, 51, 52, 53] (by decide +kernel) (by decide +kernel)
set_option maxRecDepth 20000 in
theorem gX8_abort_X8_writtenBy : GoodIn wsX8_abort (wsV RX8 112 RX8 yX8_writtenBy wsX8_writtenBy) := goodIn_app (goodIn_of _ (by decide +kernel)) ggX8_abort_X8_writtenBy
set_option maxRecDepth 20000 in
theorem ggX8_abort_X8_clears : GoodIn wsX8_abort wsX8_clears := goodIn_r _ [18, 14, 19, 20, 21, 22, 23, 24, 25, 26, 27, 28, 29, 30, 31, 32, 33, 34, 35, 36, 37, 38, 39, 40, 41, 42, 43, 44, 45, 46, 47, 48, 49, 50, 51, 52, 53] (by decide +kernel) (by decide +kernel)
set_option maxRecDepth 20000 in
theorem gX8_abort_X8_clears : GoodIn wsX8_abort (wsV RX8 91 RX8 yX8_clears wsX8_clears) := goodIn_app (goodIn_of _ (by decide +kernel)) ggX8_abort_X8_clears
theorem dX8_abort_0 : decode cX8_abort 0 = .ok (.aload_n 0, 1) := by decide +kernel
theorem dX8_abort_1 : decode cX8_abort 1 = .ok (.iload_n 1, 1) := by decide +kernel
theorem dX8_abort_2 : decode cX8_abort 2 = .ok (.invokevirtual 98, 3) := by decide +kernel
theorem dX8_abort_5 : decode cX8_abort 5 = .ok (.ifCond .ne 5, 3) := by decide +kernel
theorem dX8_abort_8 : decode cX8_abort 8 = .ok (.iconst (-1), 1) := by decide +kernel
theorem dX8_abort_9 : decode cX8_abort 9 = .ok (.ireturn, 1) := by decide +kernel
theorem dX8_abort_10 : decode cX8_abort 10 = .ok (.aload_n 0, 1) := by decide +kernel
theorem dX8_abort_11 : decode cX8_abort 11 = .ok (.iload_n 1, 1) := by decide +kernel
theorem dX8_abort_12 : decode cX8_abort 12 = .ok (.invokevirtual 112, 3) := by decide +kernel
theorem dX8_abort_15 : decode cX8_abort 15 = .ok (.istore_n 2, 1) := by decide +kernel
theorem dX8_abort_16 : decode cX8_abort 16 = .ok (.aload_n 0, 1) := by decide +kernel
theorem dX8_abort_17 : decode cX8_abort 17 = .ok (.getfield 7, 3) := by decide +kernel
theorem dX8_abort_20 : decode cX8_abort 20 = .ok (.iload_n 1, 1) := by decide +kernel
theorem dX8_abort_21 : decode cX8_abort 21 = .ok (.iconst 0, 1) := by decide +kernel
theorem dX8_abort_22 : decode cX8_abort 22 = .ok (.bastore, 1) := by decide +kernel
theorem dX8_abort_23 : decode cX8_abort 23 = .ok (.aload_n 0, 1) := by decide +kernel
theorem dX8_abort_24 : decode cX8_abort 24 = .ok (.iload_n 1, 1) := by decide +kernel
theorem dX8_abort_25 : decode cX8_abort 25 = .ok (.invokevirtual 91, 3) := by decide +kernel
theorem dX8_abort_28 : decode cX8_abort 28 = .ok (.iload_n 2, 1) := by decide +kernel
theorem dX8_abort_29 : decode cX8_abort 29 = .ok (.ireturn, 1) := by decide +kernel
theorem dX8_flush_0 : decode cX8_flush 0 = .ok (.aload_n 0, 1) := by decide +kernel
theorem dX8_flush_1 : decode cX8_flush 1 = .ok (.getfield 83, 3) := by decide +kernel
theorem dX8_flush_4 : decode cX8_flush 4 = .ok (.aload_n 0, 1) := by decide +kernel
theorem dX8_flush_5 : decode cX8_flush 5 = .ok (.getfield 95, 3) := by decide +kernel
theorem dX8_flush_8 : decode cX8_flush 8 = .ok (.isub, 1) := by decide +kernel
theorem dX8_flush_9 : decode cX8_flush 9 = .ok (.istore_n 1, 1) := by decide +kernel
theorem dX8_flush_10 : decode cX8_flush 10 = .ok (.aload_n 0, 1) := by decide +kernel
theorem dX8_flush_11 : decode cX8_flush 11 = .ok (.getfield 95, 3) := by decide +kernel
theorem dX8_flush_14 : decode cX8_flush 14 = .ok (.aload_n 0, 1) := by decide +kernel
theorem dX8_flush_15 : decode cX8_flush 15 = .ok (.getfield 83, 3) := by decide +kernel
theorem dX8_flush_18 : decode cX8_flush 18 = .ok (.if_icmp .ge 57, 3) := by decide +kernel
theorem dX8_flush_21 : decode cX8_flush 21 = .ok (.aload_n 0, 1) := by decide +kernel
theorem dX8_flush_22 : decode cX8_flush 22 = .ok (.getfield 20, 3) := by decide +kernel
theorem dX8_flush_25 : decode cX8_flush 25 = .ok (.aload_n 0, 1) := by decide +kernel
theorem dX8_flush_26 : decode cX8_flush 26 = .ok (.getfield 26, 3) := by decide +kernel
theorem dX8_flush_29 : decode cX8_flush 29 = .ok (.aload_n 0, 1) := by decide +kernel
theorem dX8_flush_30 : decode cX8_flush 30 = .ok (.getfield 95, 3) := by decide +kernel
theorem dX8_flush_33 : decode cX8_flush 33 = .ok (.iaload, 1) := by decide +kernel
theorem dX8_flush_34 : decode cX8_flush 34 = .ok (.aload_n 0, 1) := by decide +kernel
theorem dX8_flush_35 : decode cX8_flush 35 = .ok (.getfield 29, 3) := by decide +kernel
theorem dX8_flush_38 : decode cX8_flush 38 = .ok (.aload_n 0, 1) := by decide +kernel
theorem dX8_flush_39 : decode cX8_flush 39 = .ok (.getfield 95, 3) := by decide +kernel
theorem dX8_flush_42 : decode cX8_flush 42 = .ok (.iaload, 1) := by decide +kernel
theorem dX8_flush_43 : decode cX8_flush 43 = .ok (.iastore, 1) := by decide +kernel
theorem dX8_flush_44 : decode cX8_flush 44 = .ok (.aload_n 0, 1) := by decide +kernel
theorem dX8_flush_45 : decode cX8_flush 45 = .ok (.getfield 23, 3) := by decide +kernel
theorem dX8_flush_48 : decode cX8_flush 48 = .ok (.aload_n 0, 1) := by decide +kernel
theorem dX8_flush_49 : decode cX8_flush 49 = .ok (.getfield 26, 3) := by decide +kernel
theorem dX8_flush_52 : decode cX8_flush 52 = .ok (.aload_n 0, 1) := by decide +kernel
theorem dX8_flush_53 : decode cX8_flush 53 = .ok (.getfield 95, 3) := by decide +kernel
theorem dX8_flush_56 : decode cX8_flush 56 = .ok (.iaload, 1) := by decide +kernel
theorem dX8_flush_57 : decode cX8_flush 57 = .ok (.dup2, 1) := by decide +kernel
theorem dX8_flush_58 : decode cX8_flush 58 = .ok (.iaload, 1) := by decide +kernel
theorem dX8_flush_59 : decode cX8_flush 59 = .ok (.iconst 1, 1) := by decide +kernel
theorem dX8_flush_60 : decode cX8_flush 60 = .ok (.iadd, 1) := by decide +kernel
theorem dX8_flush_61 : decode cX8_flush 61 = .ok (.iastore, 1) := by decide +kernel
theorem dX8_flush_62 : decode cX8_flush 62 = .ok (.aload_n 0, 1) := by decide +kernel
theorem dX8_flush_63 : decode cX8_flush 63 = .ok (.dup, 1) := by decide +kernel
theorem dX8_flush_64 : decode cX8_flush 64 = .ok (.getfield 95, 3) := by decide +kernel
theorem dX8_flush_67 : decode cX8_flush 67 = .ok (.iconst 1, 1) := by decide +kernel
theorem dX8_flush_68 : decode cX8_flush 68 = .ok (.iadd, 1) := by decide +kernel
theorem dX8_flush_69 : decode cX8_flush 69 = .ok (.putfield 95, 3) := by decide +kernel
theorem dX8_flush_72 : decode cX8_flush 72 = .ok (.goto (-62), 3) := by decide +kernel
theorem dX8_flush_75 : decode cX8_flush 75 = .ok (.iload_n 1, 1) := by decide +kernel
theorem dX8_flush_76 : decode cX8_flush 76 = .ok (.ireturn, 1) := by decide +kernel
set_option maxRecDepth 20000 in
theorem ggX8_crashSource_X8_clears : GoodIn wsX8_crashSource wsX8_clears := goodIn_r _ [8, 9, 10, 11, 12, 13, 14, 15, 16, 17, 18, 19, 20, 21, 22, 23, 24, 25, 26, 27, 28, 29, 30, 31, 32, 33, 34, 35, 36, 37, 38, 39, 40, 41, 42, 43, 44] (by decide +kernel) (by decide +kernel)
set_option maxRecDepth 20000 in
theorem gX8_crashSource_X8_clears : GoodIn wsX8_crashSource (wsV RX8 91 RX8 yX8_clears wsX8_clears) := goodIn_app (goodIn_of _ (by decide +kernel)) ggX8_crashSource_X8_clears
theorem dX8_crashSource_0 : decode cX8_crashSource 0 = .ok (.aload_n 0, 1) := by decide +kernel
theorem dX8_crashSource_1 : decode cX8_crashSource 1 = .ok (.getfield 83, 3) := by decide +kernel
theorem dX8_crashSource_4 : decode cX8_crashSource 4 = .ok (.aload_n 0, 1) := by decide +kernel
theorem dX8_crashSource_5 : decode cX8_crashSource 5 = .ok (.getfield 95, 3) := by decide +kernel
theorem dX8_crashSource_8 : decode cX8_crashSource 8 = .ok (.isub, 1) := by decide +kernel
theorem dX8_crashSource_9 : decode cX8_crashSource 9 = .ok (.istore_n 1, 1) := by decide +kernel
theorem dX8_crashSource_10 : decode cX8_crashSource 10 = .ok (.aload_n 0, 1) := by decide +kernel
theorem dX8_crashSource_11 : decode cX8_crashSource 11 = .ok (.aload_n 0, 1) := by decide +kernel
theorem dX8_crashSource_12 : decode cX8_crashSource 12 = .ok (.getfield 95, 3) := by decide +kernel
theorem dX8_crashSource_15 : decode cX8_crashSource 15 = .ok (.putfield 83, 3) := by decide +kernel
theorem dX8_crashSource_18 : decode cX8_crashSource 18 = .ok (.iconst 0, 1) := by decide +kernel
theorem dX8_crashSource_19 : decode cX8_crashSource 19 = .ok (.istore_n 2, 1) := by decide +kernel
theorem dX8_crashSource_20 : decode cX8_crashSource 20 = .ok (.iload_n 2, 1) := by decide +kernel
theorem dX8_crashSource_21 : decode cX8_crashSource 21 = .ok (.iconst 4, 1) := by decide +kernel
theorem dX8_crashSource_22 : decode cX8_crashSource 22 = .ok (.if_icmp .ge 21, 3) := by decide +kernel
theorem dX8_crashSource_25 : decode cX8_crashSource 25 = .ok (.aload_n 0, 1) := by decide +kernel
theorem dX8_crashSource_26 : decode cX8_crashSource 26 = .ok (.getfield 7, 3) := by decide +kernel
theorem dX8_crashSource_29 : decode cX8_crashSource 29 = .ok (.iload_n 2, 1) := by decide +kernel
theorem dX8_crashSource_30 : decode cX8_crashSource 30 = .ok (.iconst 0, 1) := by decide +kernel
theorem dX8_crashSource_31 : decode cX8_crashSource 31 = .ok (.bastore, 1) := by decide +kernel
theorem dX8_crashSource_32 : decode cX8_crashSource 32 = .ok (.aload_n 0, 1) := by decide +kernel
theorem dX8_crashSource_33 : decode cX8_crashSource 33 = .ok (.iload_n 2, 1) := by decide +kernel
theorem dX8_crashSource_34 : decode cX8_crashSource 34 = .ok (.invokevirtual 91, 3) := by decide +kernel
theorem dX8_crashSource_37 : decode cX8_crashSource 37 = .ok (.iinc 2 1, 3) := by decide +kernel
theorem dX8_crashSource_40 : decode cX8_crashSource 40 = .ok (.goto (-20), 3) := by decide +kernel
theorem dX8_crashSource_43 : decode cX8_crashSource 43 = .ok (.iload_n 1, 1) := by decide +kernel
theorem dX8_crashSource_44 : decode cX8_crashSource 44 = .ok (.ireturn, 1) := by decide +kernel
theorem dX8_crashTarget_0 : decode cX8_crashTarget 0 = .ok (.iconst 0, 1) := by decide +kernel
theorem dX8_crashTarget_1 : decode cX8_crashTarget 1 = .ok (.istore_n 1, 1) := by decide +kernel
theorem dX8_crashTarget_2 : decode cX8_crashTarget 2 = .ok (.iconst 0, 1) := by decide +kernel
theorem dX8_crashTarget_3 : decode cX8_crashTarget 3 = .ok (.istore_n 2, 1) := by decide +kernel
theorem dX8_crashTarget_4 : decode cX8_crashTarget 4 = .ok (.iload_n 2, 1) := by decide +kernel
theorem dX8_crashTarget_5 : decode cX8_crashTarget 5 = .ok (.bipush 6, 2) := by decide +kernel
theorem dX8_crashTarget_7 : decode cX8_crashTarget 7 = .ok (.if_icmp .ge 49, 3) := by decide +kernel
theorem dX8_crashTarget_10 : decode cX8_crashTarget 10 = .ok (.iload_n 1, 1) := by decide +kernel
theorem dX8_crashTarget_11 : decode cX8_crashTarget 11 = .ok (.aload_n 0, 1) := by decide +kernel
theorem dX8_crashTarget_12 : decode cX8_crashTarget 12 = .ok (.getfield 56, 3) := by decide +kernel
theorem dX8_crashTarget_15 : decode cX8_crashTarget 15 = .ok (.iload_n 2, 1) := by decide +kernel
theorem dX8_crashTarget_16 : decode cX8_crashTarget 16 = .ok (.iaload, 1) := by decide +kernel
theorem dX8_crashTarget_17 : decode cX8_crashTarget 17 = .ok (.aload_n 0, 1) := by decide +kernel
theorem dX8_crashTarget_18 : decode cX8_crashTarget 18 = .ok (.getfield 65, 3) := by decide +kernel
theorem dX8_crashTarget_21 : decode cX8_crashTarget 21 = .ok (.iload_n 2, 1) := by decide +kernel
theorem dX8_crashTarget_22 : decode cX8_crashTarget 22 = .ok (.iaload, 1) := by decide +kernel
theorem dX8_crashTarget_23 : decode cX8_crashTarget 23 = .ok (.isub, 1) := by decide +kernel
theorem dX8_crashTarget_24 : decode cX8_crashTarget 24 = .ok (.iadd, 1) := by decide +kernel
theorem dX8_crashTarget_25 : decode cX8_crashTarget 25 = .ok (.istore_n 1, 1) := by decide +kernel
theorem dX8_crashTarget_26 : decode cX8_crashTarget 26 = .ok (.aload_n 0, 1) := by decide +kernel
theorem dX8_crashTarget_27 : decode cX8_crashTarget 27 = .ok (.getfield 53, 3) := by decide +kernel
theorem dX8_crashTarget_30 : decode cX8_crashTarget 30 = .ok (.iload_n 2, 1) := by decide +kernel
theorem dX8_crashTarget_31 : decode cX8_crashTarget 31 = .ok (.aload_n 0, 1) := by decide +kernel
theorem dX8_crashTarget_32 : decode cX8_crashTarget 32 = .ok (.getfield 62, 3) := by decide +kernel
theorem dX8_crashTarget_35 : decode cX8_crashTarget 35 = .ok (.iload_n 2, 1) := by decide +kernel
theorem dX8_crashTarget_36 : decode cX8_crashTarget 36 = .ok (.iaload, 1) := by decide +kernel
theorem dX8_crashTarget_37 : decode cX8_crashTarget 37 = .ok (.iastore, 1) := by decide +kernel
theorem dX8_crashTarget_38 : decode cX8_crashTarget 38 = .ok (.aload_n 0, 1) := by decide +kernel
theorem dX8_crashTarget_39 : decode cX8_crashTarget 39 = .ok (.getfield 56, 3) := by decide +kernel
theorem dX8_crashTarget_42 : decode cX8_crashTarget 42 = .ok (.iload_n 2, 1) := by decide +kernel
theorem dX8_crashTarget_43 : decode cX8_crashTarget 43 = .ok (.aload_n 0, 1) := by decide +kernel
theorem dX8_crashTarget_44 : decode cX8_crashTarget 44 = .ok (.getfield 65, 3) := by decide +kernel
theorem dX8_crashTarget_47 : decode cX8_crashTarget 47 = .ok (.iload_n 2, 1) := by decide +kernel
theorem dX8_crashTarget_48 : decode cX8_crashTarget 48 = .ok (.iaload, 1) := by decide +kernel
theorem dX8_crashTarget_49 : decode cX8_crashTarget 49 = .ok (.iastore, 1) := by decide +kernel
theorem dX8_crashTarget_50 : decode cX8_crashTarget 50 = .ok (.iinc 2 1, 3) := by decide +kernel
theorem dX8_crashTarget_53 : decode cX8_crashTarget 53 = .ok (.goto (-49), 3) := by decide +kernel
theorem dX8_crashTarget_56 : decode cX8_crashTarget 56 = .ok (.iconst 0, 1) := by decide +kernel
theorem dX8_crashTarget_57 : decode cX8_crashTarget 57 = .ok (.istore_n 2, 1) := by decide +kernel
theorem dX8_crashTarget_58 : decode cX8_crashTarget 58 = .ok (.iload_n 2, 1) := by decide +kernel
theorem dX8_crashTarget_59 : decode cX8_crashTarget 59 = .ok (.sipush 400, 3) := by decide +kernel
theorem dX8_crashTarget_62 : decode cX8_crashTarget 62 = .ok (.if_icmp .ge 21, 3) := by decide +kernel
theorem dX8_crashTarget_65 : decode cX8_crashTarget 65 = .ok (.aload_n 0, 1) := by decide +kernel
theorem dX8_crashTarget_66 : decode cX8_crashTarget 66 = .ok (.getfield 59, 3) := by decide +kernel
theorem dX8_crashTarget_69 : decode cX8_crashTarget 69 = .ok (.iload_n 2, 1) := by decide +kernel
theorem dX8_crashTarget_70 : decode cX8_crashTarget 70 = .ok (.aload_n 0, 1) := by decide +kernel
theorem dX8_crashTarget_71 : decode cX8_crashTarget 71 = .ok (.getfield 68, 3) := by decide +kernel
theorem dX8_crashTarget_74 : decode cX8_crashTarget 74 = .ok (.iload_n 2, 1) := by decide +kernel
theorem dX8_crashTarget_75 : decode cX8_crashTarget 75 = .ok (.baload, 1) := by decide +kernel
theorem dX8_crashTarget_76 : decode cX8_crashTarget 76 = .ok (.bastore, 1) := by decide +kernel
theorem dX8_crashTarget_77 : decode cX8_crashTarget 77 = .ok (.iinc 2 1, 3) := by decide +kernel
theorem dX8_crashTarget_80 : decode cX8_crashTarget 80 = .ok (.goto (-22), 3) := by decide +kernel
theorem dX8_crashTarget_83 : decode cX8_crashTarget 83 = .ok (.aload_n 0, 1) := by decide +kernel
theorem dX8_crashTarget_84 : decode cX8_crashTarget 84 = .ok (.iconst 0, 1) := by decide +kernel
theorem dX8_crashTarget_85 : decode cX8_crashTarget 85 = .ok (.putfield 115, 3) := by decide +kernel
theorem dX8_crashTarget_88 : decode cX8_crashTarget 88 = .ok (.iload_n 1, 1) := by decide +kernel
theorem dX8_crashTarget_89 : decode cX8_crashTarget 89 = .ok (.ireturn, 1) := by decide +kernel
set_option maxRecDepth 20000 in
theorem ggX8_crash_X8_in : GoodIn wsX8_crash wsX8_in := goodIn_r _ [7] (by decide +kernel) (by decide +kernel)
set_option maxRecDepth 20000 in
theorem gX8_crash_X8_in : GoodIn wsX8_crash (va_wsS RX8 87 yX8_in wsX8_in) := goodIn_app (goodIn_of _ (by decide +kernel)) ggX8_crash_X8_in
set_option maxRecDepth 20000 in
theorem ggX8_crash_X8_crashSource : GoodIn wsX8_crash wsX8_crashSource := goodIn_r _ [11, 12, 13, 14, 15, 16, 17, 6, 18, 19, 31, 32, 33, 34, 35, 36, 37, 38, 39, 40, 41, 42, 43, 44, 45, 46, 47, 48, 49, 50, 51, 52, 53, 54, 55, 56, 57, 58, 59, 60, 61, 62, 63, 64, 65] (by decide +kernel) (by decide +kernel)
set_option maxRecDepth 20000 in
theorem gX8_crash_X8_crashSource : GoodIn wsX8_crash (wsV RX8 121 RX8 yX8_crashSource wsX8_crashSource) := goodIn_app (goodIn_of _ (by decide +kernel)) ggX8_crash_X8_crashSource
set_option maxRecDepth 20000 in
theorem ggX8_crash_X8_crashTarget : GoodIn wsX8_crash wsX8_crashTarget := goodIn_r _ [23, 24, 25, 26, 27, 28, 29, 30, 31, 32, 33, 34, 35, 36, 37, 38, 39, 40, 41, 42, 43, 44, 45, 46, 47, 48, 49, 50, 51, 52, 53, 54, 55, 56, 57, 58, 59, 60, 61, 62, 63, 64, 65] (by decide +kernel) (by decide +kernel)
set_option maxRecDepth 20000 in
theorem gX8_crash_X8_crashTarget : GoodIn wsX8_crash (wsV RX8 131 RX8 yX8_crashTarget wsX8_crashTarget) := goodIn_app (goodIn_of _ (by decide +kernel)) ggX8_crash_X8_crashTarget
theorem dX8_crash_0 : decode cX8_crash 0 = .ok (.iload_n 1, 1) := by decide +kernel
theorem dX8_crash_1 : decode cX8_crash 1 = .ok (.iconst 0, 1) := by decide +kernel
theorem dX8_crash_2 : decode cX8_crash 2 = .ok (.iconst 2, 1) := by decide +kernel
theorem dX8_crash_3 : decode cX8_crash 3 = .ok (.invokestatic 87, 3) := by decide +kernel
theorem dX8_crash_6 : decode cX8_crash 6 = .ok (.ifCond .ne 5, 3) := by decide +kernel
theorem dX8_crash_9 : decode cX8_crash 9 = .ok (.iconst (-1), 1) := by decide +kernel
theorem dX8_crash_10 : decode cX8_crash 10 = .ok (.ireturn, 1) := by decide +kernel
theorem dX8_crash_11 : decode cX8_crash 11 = .ok (.aload_n 0, 1) := by decide +kernel
theorem dX8_crash_12 : decode cX8_crash 12 = .ok (.dup, 1) := by decide +kernel
theorem dX8_crash_13 : decode cX8_crash 13 = .ok (.getfield 118, 3) := by decide +kernel
theorem dX8_crash_16 : decode cX8_crash 16 = .ok (.iconst 1, 1) := by decide +kernel
theorem dX8_crash_17 : decode cX8_crash 17 = .ok (.iadd, 1) := by decide +kernel
theorem dX8_crash_18 : decode cX8_crash 18 = .ok (.putfield 118, 3) := by decide +kernel
theorem dX8_crash_21 : decode cX8_crash 21 = .ok (.iload_n 1, 1) := by decide +kernel
theorem dX8_crash_22 : decode cX8_crash 22 = .ok (.ifCond .ne 8, 3) := by decide +kernel
theorem dX8_crash_25 : decode cX8_crash 25 = .ok (.aload_n 0, 1) := by decide +kernel
theorem dX8_crash_26 : decode cX8_crash 26 = .ok (.invokevirtual 121, 3) := by decide +kernel
theorem dX8_crash_29 : decode cX8_crash 29 = .ok (.ireturn, 1) := by decide +kernel
theorem dX8_crash_30 : decode cX8_crash 30 = .ok (.iload_n 1, 1) := by decide +kernel
theorem dX8_crash_31 : decode cX8_crash 31 = .ok (.iconst 1, 1) := by decide +kernel
theorem dX8_crash_32 : decode cX8_crash 32 = .ok (.if_icmp .ne 23, 3) := by decide +kernel
theorem dX8_crash_35 : decode cX8_crash 35 = .ok (.aload_n 0, 1) := by decide +kernel
theorem dX8_crash_36 : decode cX8_crash 36 = .ok (.getfield 125, 3) := by decide +kernel
theorem dX8_crash_39 : decode cX8_crash 39 = .ok (.aload_n 0, 1) := by decide +kernel
theorem dX8_crash_40 : decode cX8_crash 40 = .ok (.getfield 128, 3) := by decide +kernel
theorem dX8_crash_43 : decode cX8_crash 43 = .ok (.isub, 1) := by decide +kernel
theorem dX8_crash_44 : decode cX8_crash 44 = .ok (.istore_n 2, 1) := by decide +kernel
theorem dX8_crash_45 : decode cX8_crash 45 = .ok (.aload_n 0, 1) := by decide +kernel
theorem dX8_crash_46 : decode cX8_crash 46 = .ok (.aload_n 0, 1) := by decide +kernel
theorem dX8_crash_47 : decode cX8_crash 47 = .ok (.getfield 128, 3) := by decide +kernel
theorem dX8_crash_50 : decode cX8_crash 50 = .ok (.putfield 125, 3) := by decide +kernel
theorem dX8_crash_53 : decode cX8_crash 53 = .ok (.iload_n 2, 1) := by decide +kernel
theorem dX8_crash_54 : decode cX8_crash 54 = .ok (.ireturn, 1) := by decide +kernel
theorem dX8_crash_55 : decode cX8_crash 55 = .ok (.aload_n 0, 1) := by decide +kernel
theorem dX8_crash_56 : decode cX8_crash 56 = .ok (.invokevirtual 131, 3) := by decide +kernel
theorem dX8_crash_59 : decode cX8_crash 59 = .ok (.ireturn, 1) := by decide +kernel
set_option maxRecDepth 20000 in
theorem ggX8_key_X8_isKey : GoodIn wsX8_key wsX8_isKey := goodIn_r _ [10, 11, 12, 9, 13] (by decide +kernel) (by decide +kernel)
set_option maxRecDepth 20000 in
theorem gX8_key_X8_isKey : GoodIn wsX8_key (va_wsS RX8 102 yX8_isKey wsX8_isKey) := goodIn_app (goodIn_of _ (by decide +kernel)) ggX8_key_X8_isKey
set_option maxRecDepth 20000 in
theorem ggX8_key_X8_isUnderWay : GoodIn wsX8_key wsX8_isUnderWay := goodIn_r _ [17, 18, 19, 20, 27, 28, 29, 30, 31, 32, 33, 34, 35, 36, 37, 38, 39, 40, 41, 42, 43, 44, 45, 46, 47, 48, 49, 50, 51, 52, 53, 54, 55, 56, 57, 58, 59, 60, 61] (by decide +kernel) (by decide +kernel)
set_option maxRecDepth 20000 in
theorem gX8_key_X8_isUnderWay : GoodIn wsX8_key (wsV RX8 109 RX8 yX8_isUnderWay wsX8_isUnderWay) := goodIn_app (goodIn_of _ (by decide +kernel)) ggX8_key_X8_isUnderWay
set_option maxRecDepth 20000 in
theorem ggX8_key_X8_writer : GoodIn wsX8_key wsX8_writer := goodIn_r _ [24, 25, 26, 27, 28, 29, 30, 31, 32, 33, 34, 35, 36, 37, 38, 39, 40, 41, 42, 43, 44, 45, 46, 47, 48, 49, 50, 51, 52, 53, 54, 55, 56, 57, 58, 59, 60, 61] (by decide +kernel) (by decide +kernel)
set_option maxRecDepth 20000 in
theorem gX8_key_X8_writer : GoodIn wsX8_key (wsV RX8 105 RX8 yX8_writer wsX8_writer) := goodIn_app (goodIn_of _ (by decide +kernel)) ggX8_key_X8_writer
theorem dX8_key_0 : decode cX8_key 0 = .ok (.iload_n 1, 1) := by decide +kernel
theorem dX8_key_1 : decode cX8_key 1 = .ok (.invokestatic 102, 3) := by decide +kernel
theorem dX8_key_4 : decode cX8_key 4 = .ok (.ifCond .ne 5, 3) := by decide +kernel
theorem dX8_key_7 : decode cX8_key 7 = .ok (.iconst 0, 1) := by decide +kernel
theorem dX8_key_8 : decode cX8_key 8 = .ok (.ireturn, 1) := by decide +kernel
theorem dX8_key_9 : decode cX8_key 9 = .ok (.iload_n 2, 1) := by decide +kernel
theorem dX8_key_10 : decode cX8_key 10 = .ok (.tableswitch 110 0 6 #[42, 49, 56, 82, 89, 96, 103], 42) := by decide +kernel
theorem dX8_key_52 : decode cX8_key 52 = .ok (.aload_n 0, 1) := by decide +kernel
theorem dX8_key_53 : decode cX8_key 53 = .ok (.getfield 20, 3) := by decide +kernel
theorem dX8_key_56 : decode cX8_key 56 = .ok (.iload_n 1, 1) := by decide +kernel
theorem dX8_key_57 : decode cX8_key 57 = .ok (.iaload, 1) := by decide +kernel
theorem dX8_key_58 : decode cX8_key 58 = .ok (.ireturn, 1) := by decide +kernel
theorem dX8_key_59 : decode cX8_key 59 = .ok (.aload_n 0, 1) := by decide +kernel
theorem dX8_key_60 : decode cX8_key 60 = .ok (.getfield 23, 3) := by decide +kernel
theorem dX8_key_63 : decode cX8_key 63 = .ok (.iload_n 1, 1) := by decide +kernel
theorem dX8_key_64 : decode cX8_key 64 = .ok (.iaload, 1) := by decide +kernel
theorem dX8_key_65 : decode cX8_key 65 = .ok (.ireturn, 1) := by decide +kernel
theorem dX8_key_66 : decode cX8_key 66 = .ok (.aload_n 0, 1) := by decide +kernel
theorem dX8_key_67 : decode cX8_key 67 = .ok (.iload_n 1, 1) := by decide +kernel
theorem dX8_key_68 : decode cX8_key 68 = .ok (.invokevirtual 109, 3) := by decide +kernel
theorem dX8_key_71 : decode cX8_key 71 = .ok (.ifCond .eq 7, 3) := by decide +kernel
theorem dX8_key_74 : decode cX8_key 74 = .ok (.iconst 2, 1) := by decide +kernel
theorem dX8_key_75 : decode cX8_key 75 = .ok (.goto 16, 3) := by decide +kernel
theorem dX8_key_78 : decode cX8_key 78 = .ok (.aload_n 0, 1) := by decide +kernel
theorem dX8_key_79 : decode cX8_key 79 = .ok (.iload_n 1, 1) := by decide +kernel
theorem dX8_key_80 : decode cX8_key 80 = .ok (.invokevirtual 105, 3) := by decide +kernel
theorem dX8_key_83 : decode cX8_key 83 = .ok (.ifCond .lt 7, 3) := by decide +kernel
theorem dX8_key_86 : decode cX8_key 86 = .ok (.iconst 1, 1) := by decide +kernel
theorem dX8_key_87 : decode cX8_key 87 = .ok (.goto 4, 3) := by decide +kernel
theorem dX8_key_90 : decode cX8_key 90 = .ok (.iconst 0, 1) := by decide +kernel
theorem dX8_key_91 : decode cX8_key 91 = .ok (.ireturn, 1) := by decide +kernel
theorem dX8_key_92 : decode cX8_key 92 = .ok (.aload_n 0, 1) := by decide +kernel
theorem dX8_key_93 : decode cX8_key 93 = .ok (.getfield 53, 3) := by decide +kernel
theorem dX8_key_96 : decode cX8_key 96 = .ok (.iload_n 1, 1) := by decide +kernel
theorem dX8_key_97 : decode cX8_key 97 = .ok (.iaload, 1) := by decide +kernel
theorem dX8_key_98 : decode cX8_key 98 = .ok (.ireturn, 1) := by decide +kernel
theorem dX8_key_99 : decode cX8_key 99 = .ok (.aload_n 0, 1) := by decide +kernel
theorem dX8_key_100 : decode cX8_key 100 = .ok (.getfield 56, 3) := by decide +kernel
theorem dX8_key_103 : decode cX8_key 103 = .ok (.iload_n 1, 1) := by decide +kernel
theorem dX8_key_104 : decode cX8_key 104 = .ok (.iaload, 1) := by decide +kernel
theorem dX8_key_105 : decode cX8_key 105 = .ok (.ireturn, 1) := by decide +kernel
theorem dX8_key_106 : decode cX8_key 106 = .ok (.aload_n 0, 1) := by decide +kernel
theorem dX8_key_107 : decode cX8_key 107 = .ok (.getfield 62, 3) := by decide +kernel
theorem dX8_key_110 : decode cX8_key 110 = .ok (.iload_n 1, 1) := by decide +kernel
theorem dX8_key_111 : decode cX8_key 111 = .ok (.iaload, 1) := by decide +kernel
theorem dX8_key_112 : decode cX8_key 112 = .ok (.ireturn, 1) := by decide +kernel
theorem dX8_key_113 : decode cX8_key 113 = .ok (.aload_n 0, 1) := by decide +kernel
theorem dX8_key_114 : decode cX8_key 114 = .ok (.getfield 65, 3) := by decide +kernel
theorem dX8_key_117 : decode cX8_key 117 = .ok (.iload_n 1, 1) := by decide +kernel
theorem dX8_key_118 : decode cX8_key 118 = .ok (.iaload, 1) := by decide +kernel
theorem dX8_key_119 : decode cX8_key 119 = .ok (.ireturn, 1) := by decide +kernel
theorem dX8_key_120 : decode cX8_key 120 = .ok (.iconst 0, 1) := by decide +kernel
theorem dX8_key_121 : decode cX8_key 121 = .ok (.ireturn, 1) := by decide +kernel
set_option maxRecDepth 20000 in
theorem ggX8_log_X8_in : GoodIn wsX8_log wsX8_in := goodIn_r _ [11] (by decide +kernel) (by decide +kernel)
set_option maxRecDepth 20000 in
theorem gX8_log_X8_in : GoodIn wsX8_log (va_wsS RX8 87 yX8_in wsX8_in) := goodIn_app (goodIn_of _ (by decide +kernel)) ggX8_log_X8_in
theorem dX8_log_0 : decode cX8_log 0 = .ok (.iload_n 2, 1) := by decide +kernel
theorem dX8_log_1 : decode cX8_log 1 = .ok (.iconst 0, 1) := by decide +kernel
theorem dX8_log_2 : decode cX8_log 2 = .ok (.iconst 4, 1) := by decide +kernel
theorem dX8_log_3 : decode cX8_log 3 = .ok (.invokestatic 87, 3) := by decide +kernel
theorem dX8_log_6 : decode cX8_log 6 = .ok (.ifCond .ne 5, 3) := by decide +kernel
theorem dX8_log_9 : decode cX8_log 9 = .ok (.iconst (-1), 1) := by decide +kernel
theorem dX8_log_10 : decode cX8_log 10 = .ok (.ireturn, 1) := by decide +kernel
theorem dX8_log_11 : decode cX8_log 11 = .ok (.iload_n 1, 1) := by decide +kernel
theorem dX8_log_12 : decode cX8_log 12 = .ok (.aload_n 0, 1) := by decide +kernel
theorem dX8_log_13 : decode cX8_log 13 = .ok (.getfield 134, 3) := by decide +kernel
theorem dX8_log_16 : decode cX8_log 16 = .ok (.aload_n 0, 1) := by decide +kernel
theorem dX8_log_17 : decode cX8_log 17 = .ok (.getfield 83, 3) := by decide +kernel
theorem dX8_log_20 : decode cX8_log 20 = .ok (.iconst 1, 1) := by decide +kernel
theorem dX8_log_21 : decode cX8_log 21 = .ok (.isub, 1) := by decide +kernel
theorem dX8_log_22 : decode cX8_log 22 = .ok (.invokestatic 87, 3) := by decide +kernel
theorem dX8_log_25 : decode cX8_log 25 = .ok (.ifCond .ne 6, 3) := by decide +kernel
theorem dX8_log_28 : decode cX8_log 28 = .ok (.bipush (-9), 2) := by decide +kernel
theorem dX8_log_30 : decode cX8_log 30 = .ok (.ireturn, 1) := by decide +kernel
theorem dX8_log_31 : decode cX8_log 31 = .ok (.iload_n 2, 1) := by decide +kernel
theorem dX8_log_32 : decode cX8_log 32 = .ok (.tableswitch 67 0 3 #[32, 39, 46, 53], 32) := by decide +kernel
theorem dX8_log_64 : decode cX8_log 64 = .ok (.aload_n 0, 1) := by decide +kernel
theorem dX8_log_65 : decode cX8_log 65 = .ok (.getfield 26, 3) := by decide +kernel
theorem dX8_log_68 : decode cX8_log 68 = .ok (.iload_n 1, 1) := by decide +kernel
