theorem dX8_log_69 : decode cX8_log 69 = .ok (.iaload, 1) := by decide +kernel
theorem dX8_log_70 : decode cX8_log 70 = .ok (.ireturn, 1) := by decide +kernel
theorem dX8_log_71 : decode cX8_log 71 = .ok (.aload_n 0, 1) := by decide +kernel
theorem dX8_log_72 : decode cX8_log 72 = .ok (.getfield 29, 3) := by decide +kernel
theorem dX8_log_75 : decode cX8_log 75 = .ok (.iload_n 1, 1) := by decide +kernel
theorem dX8_log_76 : decode cX8_log 76 = .ok (.iaload, 1) := by decide +kernel
theorem dX8_log_77 : decode cX8_log 77 = .ok (.ireturn, 1) := by decide +kernel
theorem dX8_log_78 : decode cX8_log 78 = .ok (.aload_n 0, 1) := by decide +kernel
theorem dX8_log_79 : decode cX8_log 79 = .ok (.getfield 32, 3) := by decide +kernel
theorem dX8_log_82 : decode cX8_log 82 = .ok (.iload_n 1, 1) := by decide +kernel
theorem dX8_log_83 : decode cX8_log 83 = .ok (.iaload, 1) := by decide +kernel
theorem dX8_log_84 : decode cX8_log 84 = .ok (.ireturn, 1) := by decide +kernel
theorem dX8_log_85 : decode cX8_log 85 = .ok (.iload_n 1, 1) := by decide +kernel
theorem dX8_log_86 : decode cX8_log 86 = .ok (.aload_n 0, 1) := by decide +kernel
theorem dX8_log_87 : decode cX8_log 87 = .ok (.getfield 95, 3) := by decide +kernel
theorem dX8_log_90 : decode cX8_log 90 = .ok (.if_icmp .ge 7, 3) := by decide +kernel
theorem dX8_log_93 : decode cX8_log 93 = .ok (.iconst 1, 1) := by decide +kernel
theorem dX8_log_94 : decode cX8_log 94 = .ok (.goto 4, 3) := by decide +kernel
theorem dX8_log_97 : decode cX8_log 97 = .ok (.iconst 0, 1) := by decide +kernel
theorem dX8_log_98 : decode cX8_log 98 = .ok (.ireturn, 1) := by decide +kernel
theorem dX8_log_99 : decode cX8_log 99 = .ok (.aload_n 0, 1) := by decide +kernel
theorem dX8_log_100 : decode cX8_log 100 = .ok (.getfield 35, 3) := by decide +kernel
theorem dX8_log_103 : decode cX8_log 103 = .ok (.iload_n 1, 1) := by decide +kernel
theorem dX8_log_104 : decode cX8_log 104 = .ok (.baload, 1) := by decide +kernel
theorem dX8_log_105 : decode cX8_log 105 = .ok (.ifCond .eq 7, 3) := by decide +kernel
theorem dX8_log_108 : decode cX8_log 108 = .ok (.iconst 1, 1) := by decide +kernel
theorem dX8_log_109 : decode cX8_log 109 = .ok (.goto 4, 3) := by decide +kernel
theorem dX8_log_112 : decode cX8_log 112 = .ok (.iconst 0, 1) := by decide +kernel
theorem dX8_log_113 : decode cX8_log 113 = .ok (.ireturn, 1) := by decide +kernel
theorem dX8_relays_0 : decode cX8_relays 0 = .ok (.iconst 0, 1) := by decide +kernel
theorem dX8_relays_1 : decode cX8_relays 1 = .ok (.istore_n 2, 1) := by decide +kernel
theorem dX8_relays_2 : decode cX8_relays 2 = .ok (.iload_n 2, 1) := by decide +kernel
theorem dX8_relays_3 : decode cX8_relays 3 = .ok (.iload_n 1, 1) := by decide +kernel
theorem dX8_relays_4 : decode cX8_relays 4 = .ok (.if_icmp .ge 155, 3) := by decide +kernel
theorem dX8_relays_7 : decode cX8_relays 7 = .ok (.aload_n 0, 1) := by decide +kernel
theorem dX8_relays_8 : decode cX8_relays 8 = .ok (.getfield 125, 3) := by decide +kernel
theorem dX8_relays_11 : decode cX8_relays 11 = .ok (.aload_n 0, 1) := by decide +kernel
theorem dX8_relays_12 : decode cX8_relays 12 = .ok (.getfield 95, 3) := by decide +kernel
theorem dX8_relays_15 : decode cX8_relays 15 = .ok (.if_icmp .ge 144, 3) := by decide +kernel
theorem dX8_relays_18 : decode cX8_relays 18 = .ok (.aload_n 0, 1) := by decide +kernel
theorem dX8_relays_19 : decode cX8_relays 19 = .ok (.getfield 38, 3) := by decide +kernel
theorem dX8_relays_22 : decode cX8_relays 22 = .ok (.aload_n 0, 1) := by decide +kernel
theorem dX8_relays_23 : decode cX8_relays 23 = .ok (.getfield 26, 3) := by decide +kernel
theorem dX8_relays_26 : decode cX8_relays 26 = .ok (.aload_n 0, 1) := by decide +kernel
theorem dX8_relays_27 : decode cX8_relays 27 = .ok (.getfield 125, 3) := by decide +kernel
theorem dX8_relays_30 : decode cX8_relays 30 = .ok (.iaload, 1) := by decide +kernel
theorem dX8_relays_31 : decode cX8_relays 31 = .ok (.iconst 3, 1) := by decide +kernel
theorem dX8_relays_32 : decode cX8_relays 32 = .ok (.irem, 1) := by decide +kernel
theorem dX8_relays_33 : decode cX8_relays 33 = .ok (.iaload, 1) := by decide +kernel
theorem dX8_relays_34 : decode cX8_relays 34 = .ok (.bipush 40, 2) := by decide +kernel
theorem dX8_relays_36 : decode cX8_relays 36 = .ok (.if_icmp .ge 123, 3) := by decide +kernel
theorem dX8_relays_39 : decode cX8_relays 39 = .ok (.aload_n 0, 1) := by decide +kernel
theorem dX8_relays_40 : decode cX8_relays 40 = .ok (.getfield 26, 3) := by decide +kernel
theorem dX8_relays_43 : decode cX8_relays 43 = .ok (.aload_n 0, 1) := by decide +kernel
theorem dX8_relays_44 : decode cX8_relays 44 = .ok (.getfield 125, 3) := by decide +kernel
theorem dX8_relays_47 : decode cX8_relays 47 = .ok (.iaload, 1) := by decide +kernel
theorem dX8_relays_48 : decode cX8_relays 48 = .ok (.iconst 3, 1) := by decide +kernel
theorem dX8_relays_49 : decode cX8_relays 49 = .ok (.irem, 1) := by decide +kernel
theorem dX8_relays_50 : decode cX8_relays 50 = .ok (.istore_n 3, 1) := by decide +kernel
theorem dX8_relays_51 : decode cX8_relays 51 = .ok (.bipush 40, 2) := by decide +kernel
theorem dX8_relays_53 : decode cX8_relays 53 = .ok (.iload_n 3, 1) := by decide +kernel
theorem dX8_relays_54 : decode cX8_relays 54 = .ok (.imul, 1) := by decide +kernel
theorem dX8_relays_55 : decode cX8_relays 55 = .ok (.aload_n 0, 1) := by decide +kernel
theorem dX8_relays_56 : decode cX8_relays 56 = .ok (.getfield 38, 3) := by decide +kernel
theorem dX8_relays_59 : decode cX8_relays 59 = .ok (.iload_n 3, 1) := by decide +kernel
theorem dX8_relays_60 : decode cX8_relays 60 = .ok (.iaload, 1) := by decide +kernel
theorem dX8_relays_61 : decode cX8_relays 61 = .ok (.iadd, 1) := by decide +kernel
theorem dX8_relays_62 : decode cX8_relays 62 = .ok (.istore 4, 2) := by decide +kernel
theorem dX8_relays_64 : decode cX8_relays 64 = .ok (.aload_n 0, 1) := by decide +kernel
theorem dX8_relays_65 : decode cX8_relays 65 = .ok (.getfield 41, 3) := by decide +kernel
theorem dX8_relays_68 : decode cX8_relays 68 = .ok (.iload 4, 2) := by decide +kernel
theorem dX8_relays_70 : decode cX8_relays 70 = .ok (.aload_n 0, 1) := by decide +kernel
theorem dX8_relays_71 : decode cX8_relays 71 = .ok (.getfield 125, 3) := by decide +kernel
theorem dX8_relays_74 : decode cX8_relays 74 = .ok (.iastore, 1) := by decide +kernel
theorem dX8_relays_75 : decode cX8_relays 75 = .ok (.aload_n 0, 1) := by decide +kernel
theorem dX8_relays_76 : decode cX8_relays 76 = .ok (.getfield 44, 3) := by decide +kernel
theorem dX8_relays_79 : decode cX8_relays 79 = .ok (.iload 4, 2) := by decide +kernel
theorem dX8_relays_81 : decode cX8_relays 81 = .ok (.aload_n 0, 1) := by decide +kernel
theorem dX8_relays_82 : decode cX8_relays 82 = .ok (.getfield 26, 3) := by decide +kernel
theorem dX8_relays_85 : decode cX8_relays 85 = .ok (.aload_n 0, 1) := by decide +kernel
theorem dX8_relays_86 : decode cX8_relays 86 = .ok (.getfield 125, 3) := by decide +kernel
theorem dX8_relays_89 : decode cX8_relays 89 = .ok (.iaload, 1) := by decide +kernel
theorem dX8_relays_90 : decode cX8_relays 90 = .ok (.iastore, 1) := by decide +kernel
theorem dX8_relays_91 : decode cX8_relays 91 = .ok (.aload_n 0, 1) := by decide +kernel
theorem dX8_relays_92 : decode cX8_relays 92 = .ok (.getfield 47, 3) := by decide +kernel
theorem dX8_relays_95 : decode cX8_relays 95 = .ok (.iload 4, 2) := by decide +kernel
theorem dX8_relays_97 : decode cX8_relays 97 = .ok (.aload_n 0, 1) := by decide +kernel
theorem dX8_relays_98 : decode cX8_relays 98 = .ok (.getfield 32, 3) := by decide +kernel
theorem dX8_relays_101 : decode cX8_relays 101 = .ok (.aload_n 0, 1) := by decide +kernel
theorem dX8_relays_102 : decode cX8_relays 102 = .ok (.getfield 125, 3) := by decide +kernel
theorem dX8_relays_105 : decode cX8_relays 105 = .ok (.iaload, 1) := by decide +kernel
theorem dX8_relays_106 : decode cX8_relays 106 = .ok (.iastore, 1) := by decide +kernel
theorem dX8_relays_107 : decode cX8_relays 107 = .ok (.aload_n 0, 1) := by decide +kernel
theorem dX8_relays_108 : decode cX8_relays 108 = .ok (.getfield 50, 3) := by decide +kernel
theorem dX8_relays_111 : decode cX8_relays 111 = .ok (.iload 4, 2) := by decide +kernel
theorem dX8_relays_113 : decode cX8_relays 113 = .ok (.aload_n 0, 1) := by decide +kernel
theorem dX8_relays_114 : decode cX8_relays 114 = .ok (.getfield 29, 3) := by decide +kernel
theorem dX8_relays_117 : decode cX8_relays 117 = .ok (.aload_n 0, 1) := by decide +kernel
theorem dX8_relays_118 : decode cX8_relays 118 = .ok (.getfield 125, 3) := by decide +kernel
theorem dX8_relays_121 : decode cX8_relays 121 = .ok (.iaload, 1) := by decide +kernel
theorem dX8_relays_122 : decode cX8_relays 122 = .ok (.iastore, 1) := by decide +kernel
theorem dX8_relays_123 : decode cX8_relays 123 = .ok (.aload_n 0, 1) := by decide +kernel
theorem dX8_relays_124 : decode cX8_relays 124 = .ok (.getfield 38, 3) := by decide +kernel
theorem dX8_relays_127 : decode cX8_relays 127 = .ok (.iload_n 3, 1) := by decide +kernel
theorem dX8_relays_128 : decode cX8_relays 128 = .ok (.dup2, 1) := by decide +kernel
theorem dX8_relays_129 : decode cX8_relays 129 = .ok (.iaload, 1) := by decide +kernel
theorem dX8_relays_130 : decode cX8_relays 130 = .ok (.iconst 1, 1) := by decide +kernel
theorem dX8_relays_131 : decode cX8_relays 131 = .ok (.iadd, 1) := by decide +kernel
theorem dX8_relays_132 : decode cX8_relays 132 = .ok (.iastore, 1) := by decide +kernel
theorem dX8_relays_133 : decode cX8_relays 133 = .ok (.aload_n 0, 1) := by decide +kernel
theorem dX8_relays_134 : decode cX8_relays 134 = .ok (.dup, 1) := by decide +kernel
theorem dX8_relays_135 : decode cX8_relays 135 = .ok (.getfield 137, 3) := by decide +kernel
theorem dX8_relays_138 : decode cX8_relays 138 = .ok (.iconst 1, 1) := by decide +kernel
theorem dX8_relays_139 : decode cX8_relays 139 = .ok (.iadd, 1) := by decide +kernel
theorem dX8_relays_140 : decode cX8_relays 140 = .ok (.putfield 137, 3) := by decide +kernel
theorem dX8_relays_143 : decode cX8_relays 143 = .ok (.aload_n 0, 1) := by decide +kernel
theorem dX8_relays_144 : decode cX8_relays 144 = .ok (.dup, 1) := by decide +kernel
theorem dX8_relays_145 : decode cX8_relays 145 = .ok (.getfield 125, 3) := by decide +kernel
theorem dX8_relays_148 : decode cX8_relays 148 = .ok (.iconst 1, 1) := by decide +kernel
theorem dX8_relays_149 : decode cX8_relays 149 = .ok (.iadd, 1) := by decide +kernel
theorem dX8_relays_150 : decode cX8_relays 150 = .ok (.putfield 125, 3) := by decide +kernel
theorem dX8_relays_153 : decode cX8_relays 153 = .ok (.iinc 2 1, 3) := by decide +kernel
theorem dX8_relays_156 : decode cX8_relays 156 = .ok (.goto (-154), 3) := by decide +kernel
theorem dX8_relays_159 : decode cX8_relays 159 = .ok (.iload_n 2, 1) := by decide +kernel
theorem dX8_relays_160 : decode cX8_relays 160 = .ok (.ireturn, 1) := by decide +kernel
set_option maxRecDepth 20000 in
theorem ggX8_relay_X8_in : GoodIn wsX8_relay wsX8_in := goodIn_r _ [4] (by decide +kernel) (by decide +kernel)
set_option maxRecDepth 20000 in
theorem gX8_relay_X8_in : GoodIn wsX8_relay (va_wsS RX8 87 yX8_in wsX8_in) := goodIn_app (goodIn_of _ (by decide +kernel)) ggX8_relay_X8_in
set_option maxRecDepth 20000 in
theorem ggX8_relay_X8_relays : GoodIn wsX8_relay wsX8_relays := goodIn_r _ [8, 9, 10, 11, 12, 13, 14, 15, 16, 17, 18, 19, 20, 21, 22, 23, 24, 25, 26, 27, 28, 29, 30, 31, 32, 33, 34, 35, 36, 37, 38, 39, 40, 41, 42, 43, 44, 45, 46, 47, 48, 49, 50, 51, 52, 53, 54] (by decide +kernel) (by decide +kernel)
set_option maxRecDepth 20000 in
theorem gX8_relay_X8_relays : GoodIn wsX8_relay (wsV RX8 140 RX8 yX8_relays wsX8_relays) := goodIn_app (goodIn_of _ (by decide +kernel)) ggX8_relay_X8_relays
theorem dX8_relay_0 : decode cX8_relay 0 = .ok (.iload_n 1, 1) := by decide +kernel
theorem dX8_relay_1 : decode cX8_relay 1 = .ok (.iconst 1, 1) := by decide +kernel
theorem dX8_relay_2 : decode cX8_relay 2 = .ok (.bipush 20, 2) := by decide +kernel
theorem dX8_relay_4 : decode cX8_relay 4 = .ok (.invokestatic 87, 3) := by decide +kernel
theorem dX8_relay_7 : decode cX8_relay 7 = .ok (.ifCond .eq 11, 3) := by decide +kernel
theorem dX8_relay_10 : decode cX8_relay 10 = .ok (.aload_n 0, 1) := by decide +kernel
theorem dX8_relay_11 : decode cX8_relay 11 = .ok (.iload_n 1, 1) := by decide +kernel
theorem dX8_relay_12 : decode cX8_relay 12 = .ok (.invokevirtual 140, 3) := by decide +kernel
theorem dX8_relay_15 : decode cX8_relay 15 = .ok (.goto 4, 3) := by decide +kernel
theorem dX8_relay_18 : decode cX8_relay 18 = .ok (.iconst (-1), 1) := by decide +kernel
theorem dX8_relay_19 : decode cX8_relay 19 = .ok (.ireturn, 1) := by decide +kernel
theorem dX8_cut_0 : decode cX8_cut 0 = .ok (.aload_n 0, 1) := by decide +kernel
theorem dX8_cut_1 : decode cX8_cut 1 = .ok (.getfield 128, 3) := by decide +kernel
theorem dX8_cut_4 : decode cX8_cut 4 = .ok (.aload_n 0, 1) := by decide +kernel
theorem dX8_cut_5 : decode cX8_cut 5 = .ok (.getfield 134, 3) := by decide +kernel
theorem dX8_cut_8 : decode cX8_cut 8 = .ok (.isub, 1) := by decide +kernel
theorem dX8_cut_9 : decode cX8_cut 9 = .ok (.istore_n 1, 1) := by decide +kernel
theorem dX8_cut_10 : decode cX8_cut 10 = .ok (.aload_n 0, 1) := by decide +kernel
theorem dX8_cut_11 : decode cX8_cut 11 = .ok (.aload_n 0, 1) := by decide +kernel
theorem dX8_cut_12 : decode cX8_cut 12 = .ok (.getfield 128, 3) := by decide +kernel
theorem dX8_cut_15 : decode cX8_cut 15 = .ok (.putfield 134, 3) := by decide +kernel
theorem dX8_cut_18 : decode cX8_cut 18 = .ok (.iload_n 1, 1) := by decide +kernel
theorem dX8_cut_19 : decode cX8_cut 19 = .ok (.ireturn, 1) := by decide +kernel
set_option maxRecDepth 20000 in
theorem ggX8_isLane_X8_in : GoodIn wsX8_isLane wsX8_in := goodIn_r _ [4] (by decide +kernel) (by decide +kernel)
set_option maxRecDepth 20000 in
theorem gX8_isLane_X8_in : GoodIn wsX8_isLane (va_wsS RX8 87 yX8_in wsX8_in) := goodIn_app (goodIn_of _ (by decide +kernel)) ggX8_isLane_X8_in
theorem dX8_isLane_0 : decode cX8_isLane 0 = .ok (.iload_n 0, 1) := by decide +kernel
theorem dX8_isLane_1 : decode cX8_isLane 1 = .ok (.iconst 0, 1) := by decide +kernel
theorem dX8_isLane_2 : decode cX8_isLane 2 = .ok (.iconst 2, 1) := by decide +kernel
theorem dX8_isLane_3 : decode cX8_isLane 3 = .ok (.invokestatic 87, 3) := by decide +kernel
theorem dX8_isLane_6 : decode cX8_isLane 6 = .ok (.ireturn, 1) := by decide +kernel
theorem dX8_takesOut_0 : decode cX8_takesOut 0 = .ok (.aload_n 0, 1) := by decide +kernel
theorem dX8_takesOut_1 : decode cX8_takesOut 1 = .ok (.getfield 38, 3) := by decide +kernel
theorem dX8_takesOut_4 : decode cX8_takesOut 4 = .ok (.iload_n 1, 1) := by decide +kernel
theorem dX8_takesOut_5 : decode cX8_takesOut 5 = .ok (.dup2, 1) := by decide +kernel
theorem dX8_takesOut_6 : decode cX8_takesOut 6 = .ok (.iaload, 1) := by decide +kernel
theorem dX8_takesOut_7 : decode cX8_takesOut 7 = .ok (.iconst 1, 1) := by decide +kernel
theorem dX8_takesOut_8 : decode cX8_takesOut 8 = .ok (.isub, 1) := by decide +kernel
theorem dX8_takesOut_9 : decode cX8_takesOut 9 = .ok (.iastore, 1) := by decide +kernel
theorem dX8_takesOut_10 : decode cX8_takesOut 10 = .ok (.bipush 40, 2) := by decide +kernel
theorem dX8_takesOut_12 : decode cX8_takesOut 12 = .ok (.iload_n 1, 1) := by decide +kernel
theorem dX8_takesOut_13 : decode cX8_takesOut 13 = .ok (.imul, 1) := by decide +kernel
theorem dX8_takesOut_14 : decode cX8_takesOut 14 = .ok (.iload_n 2, 1) := by decide +kernel
theorem dX8_takesOut_15 : decode cX8_takesOut 15 = .ok (.iadd, 1) := by decide +kernel
theorem dX8_takesOut_16 : decode cX8_takesOut 16 = .ok (.istore_n 3, 1) := by decide +kernel
theorem dX8_takesOut_17 : decode cX8_takesOut 17 = .ok (.iload_n 3, 1) := by decide +kernel
theorem dX8_takesOut_18 : decode cX8_takesOut 18 = .ok (.bipush 40, 2) := by decide +kernel
theorem dX8_takesOut_20 : decode cX8_takesOut 20 = .ok (.iload_n 1, 1) := by decide +kernel
theorem dX8_takesOut_21 : decode cX8_takesOut 21 = .ok (.imul, 1) := by decide +kernel
theorem dX8_takesOut_22 : decode cX8_takesOut 22 = .ok (.aload_n 0, 1) := by decide +kernel
theorem dX8_takesOut_23 : decode cX8_takesOut 23 = .ok (.getfield 38, 3) := by decide +kernel
theorem dX8_takesOut_26 : decode cX8_takesOut 26 = .ok (.iload_n 1, 1) := by decide +kernel
theorem dX8_takesOut_27 : decode cX8_takesOut 27 = .ok (.iaload, 1) := by decide +kernel
theorem dX8_takesOut_28 : decode cX8_takesOut 28 = .ok (.iadd, 1) := by decide +kernel
theorem dX8_takesOut_29 : decode cX8_takesOut 29 = .ok (.if_icmp .ge 65, 3) := by decide +kernel
theorem dX8_takesOut_32 : decode cX8_takesOut 32 = .ok (.aload_n 0, 1) := by decide +kernel
theorem dX8_takesOut_33 : decode cX8_takesOut 33 = .ok (.getfield 41, 3) := by decide +kernel
theorem dX8_takesOut_36 : decode cX8_takesOut 36 = .ok (.iload_n 3, 1) := by decide +kernel
theorem dX8_takesOut_37 : decode cX8_takesOut 37 = .ok (.aload_n 0, 1) := by decide +kernel
theorem dX8_takesOut_38 : decode cX8_takesOut 38 = .ok (.getfield 41, 3) := by decide +kernel
theorem dX8_takesOut_41 : decode cX8_takesOut 41 = .ok (.iload_n 3, 1) := by decide +kernel
theorem dX8_takesOut_42 : decode cX8_takesOut 42 = .ok (.iconst 1, 1) := by decide +kernel
theorem dX8_takesOut_43 : decode cX8_takesOut 43 = .ok (.iadd, 1) := by decide +kernel
theorem dX8_takesOut_44 : decode cX8_takesOut 44 = .ok (.iaload, 1) := by decide +kernel
theorem dX8_takesOut_45 : decode cX8_takesOut 45 = .ok (.iastore, 1) := by decide +kernel
theorem dX8_takesOut_46 : decode cX8_takesOut 46 = .ok (.aload_n 0, 1) := by decide +kernel
theorem dX8_takesOut_47 : decode cX8_takesOut 47 = .ok (.getfield 44, 3) := by decide +kernel
theorem dX8_takesOut_50 : decode cX8_takesOut 50 = .ok (.iload_n 3, 1) := by decide +kernel
theorem dX8_takesOut_51 : decode cX8_takesOut 51 = .ok (.aload_n 0, 1) := by decide +kernel
theorem dX8_takesOut_52 : decode cX8_takesOut 52 = .ok (.getfield 44, 3) := by decide +kernel
theorem dX8_takesOut_55 : decode cX8_takesOut 55 = .ok (.iload_n 3, 1) := by decide +kernel
theorem dX8_takesOut_56 : decode cX8_takesOut 56 = .ok (.iconst 1, 1) := by decide +kernel
theorem dX8_takesOut_57 : decode cX8_takesOut 57 = .ok (.iadd, 1) := by decide +kernel
theorem dX8_takesOut_58 : decode cX8_takesOut 58 = .ok (.iaload, 1) := by decide +kernel
theorem dX8_takesOut_59 : decode cX8_takesOut 59 = .ok (.iastore, 1) := by decide +kernel
theorem dX8_takesOut_60 : decode cX8_takesOut 60 = .ok (.aload_n 0, 1) := by decide +kernel
theorem dX8_takesOut_61 : decode cX8_takesOut 61 = .ok (.getfield 47, 3) := by decide +kernel
theorem dX8_takesOut_64 : decode cX8_takesOut 64 = .ok (.iload_n 3, 1) := by decide +kernel
theorem dX8_takesOut_65 : decode cX8_takesOut 65 = .ok (.aload_n 0, 1) := by decide +kernel
theorem dX8_takesOut_66 : decode cX8_takesOut 66 = .ok (.getfield 47, 3) := by decide +kernel
theorem dX8_takesOut_69 : decode cX8_takesOut 69 = .ok (.iload_n 3, 1) := by decide +kernel
theorem dX8_takesOut_70 : decode cX8_takesOut 70 = .ok (.iconst 1, 1) := by decide +kernel
theorem dX8_takesOut_71 : decode cX8_takesOut 71 = .ok (.iadd, 1) := by decide +kernel
theorem dX8_takesOut_72 : decode cX8_takesOut 72 = .ok (.iaload, 1) := by decide +kernel
theorem dX8_takesOut_73 : decode cX8_takesOut 73 = .ok (.iastore, 1) := by decide +kernel
theorem dX8_takesOut_74 : decode cX8_takesOut 74 = .ok (.aload_n 0, 1) := by decide +kernel
theorem dX8_takesOut_75 : decode cX8_takesOut 75 = .ok (.getfield 50, 3) := by decide +kernel
theorem dX8_takesOut_78 : decode cX8_takesOut 78 = .ok (.iload_n 3, 1) := by decide +kernel
theorem dX8_takesOut_79 : decode cX8_takesOut 79 = .ok (.aload_n 0, 1) := by decide +kernel
theorem dX8_takesOut_80 : decode cX8_takesOut 80 = .ok (.getfield 50, 3) := by decide +kernel
theorem dX8_takesOut_83 : decode cX8_takesOut 83 = .ok (.iload_n 3, 1) := by decide +kernel
theorem dX8_takesOut_84 : decode cX8_takesOut 84 = .ok (.iconst 1, 1) := by decide +kernel
theorem dX8_takesOut_85 : decode cX8_takesOut 85 = .ok (.iadd, 1) := by decide +kernel
theorem dX8_takesOut_86 : decode cX8_takesOut 86 = .ok (.iaload, 1) := by decide +kernel
theorem dX8_takesOut_87 : decode cX8_takesOut 87 = .ok (.iastore, 1) := by decide +kernel
theorem dX8_takesOut_88 : decode cX8_takesOut 88 = .ok (.iinc 3 1, 3) := by decide +kernel
theorem dX8_takesOut_91 : decode cX8_takesOut 91 = .ok (.goto (-74), 3) := by decide +kernel
theorem dX8_takesOut_94 : decode cX8_takesOut 94 = .ok (.return_, 1) := by decide +kernel
theorem dX8_does_0 : decode cX8_does 0 = .ok (.aload_n 0, 1) := by decide +kernel
theorem dX8_does_1 : decode cX8_does 1 = .ok (.getfield 53, 3) := by decide +kernel
theorem dX8_does_4 : decode cX8_does 4 = .ok (.iload_n 1, 1) := by decide +kernel
theorem dX8_does_5 : decode cX8_does 5 = .ok (.iload_n 2, 1) := by decide +kernel
theorem dX8_does_6 : decode cX8_does 6 = .ok (.iastore, 1) := by decide +kernel
theorem dX8_does_7 : decode cX8_does 7 = .ok (.aload_n 0, 1) := by decide +kernel
theorem dX8_does_8 : decode cX8_does 8 = .ok (.getfield 56, 3) := by decide +kernel
theorem dX8_does_11 : decode cX8_does 11 = .ok (.iload_n 1, 1) := by decide +kernel
theorem dX8_does_12 : decode cX8_does 12 = .ok (.dup2, 1) := by decide +kernel
theorem dX8_does_13 : decode cX8_does 13 = .ok (.iaload, 1) := by decide +kernel
theorem dX8_does_14 : decode cX8_does 14 = .ok (.iconst 1, 1) := by decide +kernel
theorem dX8_does_15 : decode cX8_does 15 = .ok (.iadd, 1) := by decide +kernel
theorem dX8_does_16 : decode cX8_does 16 = .ok (.iastore, 1) := by decide +kernel
theorem dX8_does_17 : decode cX8_does 17 = .ok (.aload_n 0, 1) := by decide +kernel
theorem dX8_does_18 : decode cX8_does 18 = .ok (.getfield 59, 3) := by decide +kernel
theorem dX8_does_21 : decode cX8_does 21 = .ok (.iload_n 3, 1) := by decide +kernel
theorem dX8_does_22 : decode cX8_does 22 = .ok (.iconst 1, 1) := by decide +kernel
theorem dX8_does_23 : decode cX8_does 23 = .ok (.bastore, 1) := by decide +kernel
theorem dX8_does_24 : decode cX8_does 24 = .ok (.aload_n 0, 1) := by decide +kernel
theorem dX8_does_25 : decode cX8_does 25 = .ok (.dup, 1) := by decide +kernel
theorem dX8_does_26 : decode cX8_does 26 = .ok (.getfield 143, 3) := by decide +kernel
theorem dX8_does_29 : decode cX8_does 29 = .ok (.iconst 1, 1) := by decide +kernel
theorem dX8_does_30 : decode cX8_does 30 = .ok (.iadd, 1) := by decide +kernel
theorem dX8_does_31 : decode cX8_does 31 = .ok (.putfield 143, 3) := by decide +kernel
theorem dX8_does_34 : decode cX8_does 34 = .ok (.return_, 1) := by decide +kernel
theorem dX8_findHeld_0 : decode cX8_findHeld 0 = .ok (.iconst 0, 1) := by decide +kernel
theorem dX8_findHeld_1 : decode cX8_findHeld 1 = .ok (.istore_n 3, 1) := by decide +kernel
theorem dX8_findHeld_2 : decode cX8_findHeld 2 = .ok (.iload_n 3, 1) := by decide +kernel
theorem dX8_findHeld_3 : decode cX8_findHeld 3 = .ok (.aload_n 0, 1) := by decide +kernel
theorem dX8_findHeld_4 : decode cX8_findHeld 4 = .ok (.getfield 115, 3) := by decide +kernel
theorem dX8_findHeld_7 : decode cX8_findHeld 7 = .ok (.if_icmp .ge 31, 3) := by decide +kernel
theorem dX8_findHeld_10 : decode cX8_findHeld 10 = .ok (.aload_n 0, 1) := by decide +kernel
theorem dX8_findHeld_11 : decode cX8_findHeld 11 = .ok (.getfield 71, 3) := by decide +kernel
theorem dX8_findHeld_14 : decode cX8_findHeld 14 = .ok (.iload_n 3, 1) := by decide +kernel
theorem dX8_findHeld_15 : decode cX8_findHeld 15 = .ok (.iaload, 1) := by decide +kernel
theorem dX8_findHeld_16 : decode cX8_findHeld 16 = .ok (.iload_n 1, 1) := by decide +kernel
theorem dX8_findHeld_17 : decode cX8_findHeld 17 = .ok (.if_icmp .ne 15, 3) := by decide +kernel
theorem dX8_findHeld_20 : decode cX8_findHeld 20 = .ok (.aload_n 0, 1) := by decide +kernel
theorem dX8_findHeld_21 : decode cX8_findHeld 21 = .ok (.getfield 74, 3) := by decide +kernel
theorem dX8_findHeld_24 : decode cX8_findHeld 24 = .ok (.iload_n 3, 1) := by decide +kernel
theorem dX8_findHeld_25 : decode cX8_findHeld 25 = .ok (.iaload, 1) := by decide +kernel
theorem dX8_findHeld_26 : decode cX8_findHeld 26 = .ok (.iload_n 2, 1) := by decide +kernel
theorem dX8_findHeld_27 : decode cX8_findHeld 27 = .ok (.if_icmp .ne 5, 3) := by decide +kernel
theorem dX8_findHeld_30 : decode cX8_findHeld 30 = .ok (.iload_n 3, 1) := by decide +kernel
theorem dX8_findHeld_31 : decode cX8_findHeld 31 = .ok (.ireturn, 1) := by decide +kernel
theorem dX8_findHeld_32 : decode cX8_findHeld 32 = .ok (.iinc 3 1, 3) := by decide +kernel
theorem dX8_findHeld_35 : decode cX8_findHeld 35 = .ok (.goto (-33), 3) := by decide +kernel
theorem dX8_findHeld_38 : decode cX8_findHeld 38 = .ok (.iconst (-1), 1) := by decide +kernel
theorem dX8_findHeld_39 : decode cX8_findHeld 39 = .ok (.ireturn, 1) := by decide +kernel
theorem dX8_letsGo_0 : decode cX8_letsGo 0 = .ok (.aload_n 0, 1) := by decide +kernel
theorem dX8_letsGo_1 : decode cX8_letsGo 1 = .ok (.dup, 1) := by decide +kernel
theorem dX8_letsGo_2 : decode cX8_letsGo 2 = .ok (.getfield 115, 3) := by decide +kernel
theorem dX8_letsGo_5 : decode cX8_letsGo 5 = .ok (.iconst 1, 1) := by decide +kernel
theorem dX8_letsGo_6 : decode cX8_letsGo 6 = .ok (.isub, 1) := by decide +kernel
theorem dX8_letsGo_7 : decode cX8_letsGo 7 = .ok (.putfield 115, 3) := by decide +kernel
theorem dX8_letsGo_10 : decode cX8_letsGo 10 = .ok (.iload_n 1, 1) := by decide +kernel
theorem dX8_letsGo_11 : decode cX8_letsGo 11 = .ok (.istore_n 2, 1) := by decide +kernel
theorem dX8_letsGo_12 : decode cX8_letsGo 12 = .ok (.iload_n 2, 1) := by decide +kernel
theorem dX8_letsGo_13 : decode cX8_letsGo 13 = .ok (.aload_n 0, 1) := by decide +kernel
theorem dX8_letsGo_14 : decode cX8_letsGo 14 = .ok (.getfield 115, 3) := by decide +kernel
theorem dX8_letsGo_17 : decode cX8_letsGo 17 = .ok (.if_icmp .ge 65, 3) := by decide +kernel
theorem dX8_letsGo_20 : decode cX8_letsGo 20 = .ok (.aload_n 0, 1) := by decide +kernel
theorem dX8_letsGo_21 : decode cX8_letsGo 21 = .ok (.getfield 71, 3) := by decide +kernel
theorem dX8_letsGo_24 : decode cX8_letsGo 24 = .ok (.iload_n 2, 1) := by decide +kernel
theorem dX8_letsGo_25 : decode cX8_letsGo 25 = .ok (.aload_n 0, 1) := by decide +kernel
theorem dX8_letsGo_26 : decode cX8_letsGo 26 = .ok (.getfield 71, 3) := by decide +kernel
theorem dX8_letsGo_29 : decode cX8_letsGo 29 = .ok (.iload_n 2, 1) := by decide +kernel
theorem dX8_letsGo_30 : decode cX8_letsGo 30 = .ok (.iconst 1, 1) := by decide +kernel
theorem dX8_letsGo_31 : decode cX8_letsGo 31 = .ok (.iadd, 1) := by decide +kernel
theorem dX8_letsGo_32 : decode cX8_letsGo 32 = .ok (.iaload, 1) := by decide +kernel
theorem dX8_letsGo_33 : decode cX8_letsGo 33 = .ok (.iastore, 1) := by decide +kernel
theorem dX8_letsGo_34 : decode cX8_letsGo 34 = .ok (.aload_n 0, 1) := by decide +kernel
theorem dX8_letsGo_35 : decode cX8_letsGo 35 = .ok (.getfield 74, 3) := by decide +kernel
theorem dX8_letsGo_38 : decode cX8_letsGo 38 = .ok (.iload_n 2, 1) := by decide +kernel
theorem dX8_letsGo_39 : decode cX8_letsGo 39 = .ok (.aload_n 0, 1) := by decide +kernel
theorem dX8_letsGo_40 : decode cX8_letsGo 40 = .ok (.getfield 74, 3) := by decide +kernel
theorem dX8_letsGo_43 : decode cX8_letsGo 43 = .ok (.iload_n 2, 1) := by decide +kernel
theorem dX8_letsGo_44 : decode cX8_letsGo 44 = .ok (.iconst 1, 1) := by decide +kernel
theorem dX8_letsGo_45 : decode cX8_letsGo 45 = .ok (.iadd, 1) := by decide +kernel
theorem dX8_letsGo_46 : decode cX8_letsGo 46 = .ok (.iaload, 1) := by decide +kernel
theorem dX8_letsGo_47 : decode cX8_letsGo 47 = .ok (.iastore, 1) := by decide +kernel
theorem dX8_letsGo_48 : decode cX8_letsGo 48 = .ok (.aload_n 0, 1) := by decide +kernel
theorem dX8_letsGo_49 : decode cX8_letsGo 49 = .ok (.getfield 77, 3) := by decide +kernel
theorem dX8_letsGo_52 : decode cX8_letsGo 52 = .ok (.iload_n 2, 1) := by decide +kernel
theorem dX8_letsGo_53 : decode cX8_letsGo 53 = .ok (.aload_n 0, 1) := by decide +kernel
theorem dX8_letsGo_54 : decode cX8_letsGo 54 = .ok (.getfield 77, 3) := by decide +kernel
theorem dX8_letsGo_57 : decode cX8_letsGo 57 = .ok (.iload_n 2, 1) := by decide +kernel
theorem dX8_letsGo_58 : decode cX8_letsGo 58 = .ok (.iconst 1, 1) := by decide +kernel
theorem dX8_letsGo_59 : decode cX8_letsGo 59 = .ok (.iadd, 1) := by decide +kernel
theorem dX8_letsGo_60 : decode cX8_letsGo 60 = .ok (.iaload, 1) := by decide +kernel
theorem dX8_letsGo_61 : decode cX8_letsGo 61 = .ok (.iastore, 1) := by decide +kernel
theorem dX8_letsGo_62 : decode cX8_letsGo 62 = .ok (.aload_n 0, 1) := by decide +kernel
theorem dX8_letsGo_63 : decode cX8_letsGo 63 = .ok (.getfield 80, 3) := by decide +kernel
theorem dX8_letsGo_66 : decode cX8_letsGo 66 = .ok (.iload_n 2, 1) := by decide +kernel
theorem dX8_letsGo_67 : decode cX8_letsGo 67 = .ok (.aload_n 0, 1) := by decide +kernel
theorem dX8_letsGo_68 : decode cX8_letsGo 68 = .ok (.getfield 80, 3) := by decide +kernel
theorem dX8_letsGo_71 : decode cX8_letsGo 71 = .ok (.iload_n 2, 1) := by decide +kernel
theorem dX8_letsGo_72 : decode cX8_letsGo 72 = .ok (.iconst 1, 1) := by decide +kernel
theorem dX8_letsGo_73 : decode cX8_letsGo 73 = .ok (.iadd, 1) := by decide +kernel
theorem dX8_letsGo_74 : decode cX8_letsGo 74 = .ok (.iaload, 1) := by decide +kernel
theorem dX8_letsGo_75 : decode cX8_letsGo 75 = .ok (.iastore, 1) := by decide +kernel
theorem dX8_letsGo_76 : decode cX8_letsGo 76 = .ok (.iinc 2 1, 3) := by decide +kernel
theorem dX8_letsGo_79 : decode cX8_letsGo 79 = .ok (.goto (-67), 3) := by decide +kernel
theorem dX8_letsGo_82 : decode cX8_letsGo 82 = .ok (.return_, 1) := by decide +kernel
set_option maxRecDepth 20000 in
theorem ggX8_hears_X8_findHeld : GoodIn wsX8_hears wsX8_findHeld := goodIn_r _ [13, 3, 5, 6, 25, 26, 27, 28, 29, 30, 31, 32, 33, 34, 35, 36, 37, 38, 39, 40, 41, 42, 43, 44, 45, 46, 47, 48, 49, 50, 51, 52, 53, 54, 55, 56, 57, 58, 59] (by decide +kernel) (by decide +kernel)
set_option maxRecDepth 20000 in
theorem gX8_hears_X8_findHeld : GoodIn wsX8_hears (wsV RX8 149 RX8 yX8_findHeld wsX8_findHeld) := goodIn_app (goodIn_of _ (by decide +kernel)) ggX8_hears_X8_findHeld
set_option maxRecDepth 20000 in
theorem ggX8_hears_X8_does : GoodIn wsX8_hears wsX8_does := goodIn_r _ [17, 18, 1, 19, 20, 25, 26, 27, 28, 29, 30, 31, 32, 33, 34, 35, 36, 37, 38, 39, 40, 41, 42, 43, 44, 45, 46, 47, 48, 49, 50, 51, 52, 53, 54, 55, 56, 57, 58, 59] (by decide +kernel) (by decide +kernel)
set_option maxRecDepth 20000 in
theorem gX8_hears_X8_does : GoodIn wsX8_hears (wsV RX8 156 RX8 yX8_does wsX8_does) := goodIn_app (goodIn_of _ (by decide +kernel)) ggX8_hears_X8_does
set_option maxRecDepth 20000 in
theorem ggX8_hears_X8_letsGo : GoodIn wsX8_hears wsX8_letsGo := goodIn_r _ [24, 3, 5, 6, 7, 8, 25, 26, 27, 28, 29, 30, 31, 32, 33, 34, 35, 36, 37, 38, 39, 40, 41, 42, 43, 44, 45, 46, 47, 48, 49, 50, 51, 52, 53, 54, 55, 56, 57, 58, 59] (by decide +kernel) (by decide +kernel)
set_option maxRecDepth 20000 in
theorem gX8_hears_X8_letsGo : GoodIn wsX8_hears (wsV RX8 160 RX8 yX8_letsGo wsX8_letsGo) := goodIn_app (goodIn_of _ (by decide +kernel)) ggX8_hears_X8_letsGo
theorem dX8_hears_0 : decode cX8_hears 0 = .ok (.iload_n 2, 1) := by decide +kernel
theorem dX8_hears_1 : decode cX8_hears 1 = .ok (.aload_n 0, 1) := by decide +kernel
theorem dX8_hears_2 : decode cX8_hears 2 = .ok (.getfield 56, 3) := by decide +kernel
theorem dX8_hears_5 : decode cX8_hears 5 = .ok (.iload_n 1, 1) := by decide +kernel
theorem dX8_hears_6 : decode cX8_hears 6 = .ok (.iaload, 1) := by decide +kernel
theorem dX8_hears_7 : decode cX8_hears 7 = .ok (.if_icmp .gt 15, 3) := by decide +kernel
theorem dX8_hears_10 : decode cX8_hears 10 = .ok (.aload_n 0, 1) := by decide +kernel
theorem dX8_hears_11 : decode cX8_hears 11 = .ok (.dup, 1) := by decide +kernel
theorem dX8_hears_12 : decode cX8_hears 12 = .ok (.getfield 146, 3) := by decide +kernel
theorem dX8_hears_15 : decode cX8_hears 15 = .ok (.iconst 1, 1) := by decide +kernel
theorem dX8_hears_16 : decode cX8_hears 16 = .ok (.iadd, 1) := by decide +kernel
theorem dX8_hears_17 : decode cX8_hears 17 = .ok (.putfield 146, 3) := by decide +kernel
theorem dX8_hears_20 : decode cX8_hears 20 = .ok (.iconst 2, 1) := by decide +kernel
theorem dX8_hears_21 : decode cX8_hears 21 = .ok (.ireturn, 1) := by decide +kernel
theorem dX8_hears_22 : decode cX8_hears 22 = .ok (.iload_n 2, 1) := by decide +kernel
theorem dX8_hears_23 : decode cX8_hears 23 = .ok (.aload_n 0, 1) := by decide +kernel
theorem dX8_hears_24 : decode cX8_hears 24 = .ok (.getfield 56, 3) := by decide +kernel
theorem dX8_hears_27 : decode cX8_hears 27 = .ok (.iload_n 1, 1) := by decide +kernel
theorem dX8_hears_28 : decode cX8_hears 28 = .ok (.iaload, 1) := by decide +kernel
theorem dX8_hears_29 : decode cX8_hears 29 = .ok (.iconst 1, 1) := by decide +kernel
theorem dX8_hears_30 : decode cX8_hears 30 = .ok (.iadd, 1) := by decide +kernel
theorem dX8_hears_31 : decode cX8_hears 31 = .ok (.if_icmp .le 98, 3) := by decide +kernel
theorem dX8_hears_34 : decode cX8_hears 34 = .ok (.aload_n 0, 1) := by decide +kernel
theorem dX8_hears_35 : decode cX8_hears 35 = .ok (.iload_n 1, 1) := by decide +kernel
theorem dX8_hears_36 : decode cX8_hears 36 = .ok (.iload_n 2, 1) := by decide +kernel
theorem dX8_hears_37 : decode cX8_hears 37 = .ok (.invokevirtual 149, 3) := by decide +kernel
theorem dX8_hears_40 : decode cX8_hears 40 = .ok (.ifCond .lt 15, 3) := by decide +kernel
theorem dX8_hears_43 : decode cX8_hears 43 = .ok (.aload_n 0, 1) := by decide +kernel
theorem dX8_hears_44 : decode cX8_hears 44 = .ok (.dup, 1) := by decide +kernel
theorem dX8_hears_45 : decode cX8_hears 45 = .ok (.getfield 146, 3) := by decide +kernel
theorem dX8_hears_48 : decode cX8_hears 48 = .ok (.iconst 1, 1) := by decide +kernel
theorem dX8_hears_49 : decode cX8_hears 49 = .ok (.iadd, 1) := by decide +kernel
theorem dX8_hears_50 : decode cX8_hears 50 = .ok (.putfield 146, 3) := by decide +kernel
theorem dX8_hears_53 : decode cX8_hears 53 = .ok (.iconst 2, 1) := by decide +kernel
theorem dX8_hears_54 : decode cX8_hears 54 = .ok (.ireturn, 1) := by decide +kernel
theorem dX8_hears_55 : decode cX8_hears 55 = .ok (.aload_n 0, 1) := by decide +kernel
theorem dX8_hears_56 : decode cX8_hears 56 = .ok (.getfield 115, 3) := by decide +kernel
theorem dX8_hears_59 : decode cX8_hears 59 = .ok (.bipush 8, 2) := by decide +kernel
theorem dX8_hears_61 : decode cX8_hears 61 = .ok (.if_icmp .ne 15, 3) := by decide +kernel
theorem dX8_hears_64 : decode cX8_hears 64 = .ok (.aload_n 0, 1) := by decide +kernel
theorem dX8_hears_65 : decode cX8_hears 65 = .ok (.dup, 1) := by decide +kernel
theorem dX8_hears_66 : decode cX8_hears 66 = .ok (.getfield 153, 3) := by decide +kernel
theorem dX8_hears_69 : decode cX8_hears 69 = .ok (.iconst 1, 1) := by decide +kernel
theorem dX8_hears_70 : decode cX8_hears 70 = .ok (.iadd, 1) := by decide +kernel
theorem dX8_hears_71 : decode cX8_hears 71 = .ok (.putfield 153, 3) := by decide +kernel
theorem dX8_hears_74 : decode cX8_hears 74 = .ok (.iconst 4, 1) := by decide +kernel
theorem dX8_hears_75 : decode cX8_hears 75 = .ok (.ireturn, 1) := by decide +kernel
theorem dX8_hears_76 : decode cX8_hears 76 = .ok (.aload_n 0, 1) := by decide +kernel
theorem dX8_hears_77 : decode cX8_hears 77 = .ok (.getfield 71, 3) := by decide +kernel
theorem dX8_hears_80 : decode cX8_hears 80 = .ok (.aload_n 0, 1) := by decide +kernel
theorem dX8_hears_81 : decode cX8_hears 81 = .ok (.getfield 115, 3) := by decide +kernel
theorem dX8_hears_84 : decode cX8_hears 84 = .ok (.iload_n 1, 1) := by decide +kernel
theorem dX8_hears_85 : decode cX8_hears 85 = .ok (.iastore, 1) := by decide +kernel
theorem dX8_hears_86 : decode cX8_hears 86 = .ok (.aload_n 0, 1) := by decide +kernel
theorem dX8_hears_87 : decode cX8_hears 87 = .ok (.getfield 74, 3) := by decide +kernel
theorem dX8_hears_90 : decode cX8_hears 90 = .ok (.aload_n 0, 1) := by decide +kernel
theorem dX8_hears_91 : decode cX8_hears 91 = .ok (.getfield 115, 3) := by decide +kernel
theorem dX8_hears_94 : decode cX8_hears 94 = .ok (.iload_n 2, 1) := by decide +kernel
theorem dX8_hears_95 : decode cX8_hears 95 = .ok (.iastore, 1) := by decide +kernel
theorem dX8_hears_96 : decode cX8_hears 96 = .ok (.aload_n 0, 1) := by decide +kernel
theorem dX8_hears_97 : decode cX8_hears 97 = .ok (.getfield 77, 3) := by decide +kernel
theorem dX8_hears_100 : decode cX8_hears 100 = .ok (.aload_n 0, 1) := by decide +kernel
theorem dX8_hears_101 : decode cX8_hears 101 = .ok (.getfield 115, 3) := by decide +kernel
theorem dX8_hears_104 : decode cX8_hears 104 = .ok (.iload_n 3, 1) := by decide +kernel
theorem dX8_hears_105 : decode cX8_hears 105 = .ok (.iastore, 1) := by decide +kernel
theorem dX8_hears_106 : decode cX8_hears 106 = .ok (.aload_n 0, 1) := by decide +kernel
theorem dX8_hears_107 : decode cX8_hears 107 = .ok (.getfield 80, 3) := by decide +kernel
theorem dX8_hears_110 : decode cX8_hears 110 = .ok (.aload_n 0, 1) := by decide +kernel
theorem dX8_hears_111 : decode cX8_hears 111 = .ok (.getfield 115, 3) := by decide +kernel
theorem dX8_hears_114 : decode cX8_hears 114 = .ok (.iload 4, 2) := by decide +kernel
theorem dX8_hears_116 : decode cX8_hears 116 = .ok (.iastore, 1) := by decide +kernel
theorem dX8_hears_117 : decode cX8_hears 117 = .ok (.aload_n 0, 1) := by decide +kernel
theorem dX8_hears_118 : decode cX8_hears 118 = .ok (.dup, 1) := by decide +kernel
theorem dX8_hears_119 : decode cX8_hears 119 = .ok (.getfield 115, 3) := by decide +kernel
theorem dX8_hears_122 : decode cX8_hears 122 = .ok (.iconst 1, 1) := by decide +kernel
theorem dX8_hears_123 : decode cX8_hears 123 = .ok (.iadd, 1) := by decide +kernel
theorem dX8_hears_124 : decode cX8_hears 124 = .ok (.putfield 115, 3) := by decide +kernel
theorem dX8_hears_127 : decode cX8_hears 127 = .ok (.iconst 3, 1) := by decide +kernel
theorem dX8_hears_128 : decode cX8_hears 128 = .ok (.ireturn, 1) := by decide +kernel
theorem dX8_hears_129 : decode cX8_hears 129 = .ok (.aload_n 0, 1) := by decide +kernel
theorem dX8_hears_130 : decode cX8_hears 130 = .ok (.iload_n 1, 1) := by decide +kernel
theorem dX8_hears_131 : decode cX8_hears 131 = .ok (.iload_n 3, 1) := by decide +kernel
theorem dX8_hears_132 : decode cX8_hears 132 = .ok (.iload 4, 2) := by decide +kernel
theorem dX8_hears_134 : decode cX8_hears 134 = .ok (.invokevirtual 156, 3) := by decide +kernel
theorem dX8_hears_137 : decode cX8_hears 137 = .ok (.aload_n 0, 1) := by decide +kernel
theorem dX8_hears_138 : decode cX8_hears 138 = .ok (.iload_n 1, 1) := by decide +kernel
theorem dX8_hears_139 : decode cX8_hears 139 = .ok (.aload_n 0, 1) := by decide +kernel
theorem dX8_hears_140 : decode cX8_hears 140 = .ok (.getfield 56, 3) := by decide +kernel
theorem dX8_hears_143 : decode cX8_hears 143 = .ok (.iload_n 1, 1) := by decide +kernel
theorem dX8_hears_144 : decode cX8_hears 144 = .ok (.iaload, 1) := by decide +kernel
theorem dX8_hears_145 : decode cX8_hears 145 = .ok (.iconst 1, 1) := by decide +kernel
theorem dX8_hears_146 : decode cX8_hears 146 = .ok (.iadd, 1) := by decide +kernel
theorem dX8_hears_147 : decode cX8_hears 147 = .ok (.invokevirtual 149, 3) := by decide +kernel
theorem dX8_hears_150 : decode cX8_hears 150 = .ok (.istore 5, 2) := by decide +kernel
theorem dX8_hears_152 : decode cX8_hears 152 = .ok (.iload 5, 2) := by decide +kernel
theorem dX8_hears_154 : decode cX8_hears 154 = .ok (.ifCond .lt 46, 3) := by decide +kernel
theorem dX8_hears_157 : decode cX8_hears 157 = .ok (.aload_n 0, 1) := by decide +kernel
theorem dX8_hears_158 : decode cX8_hears 158 = .ok (.iload_n 1, 1) := by decide +kernel
theorem dX8_hears_159 : decode cX8_hears 159 = .ok (.aload_n 0, 1) := by decide +kernel
theorem dX8_hears_160 : decode cX8_hears 160 = .ok (.getfield 77, 3) := by decide +kernel
theorem dX8_hears_163 : decode cX8_hears 163 = .ok (.iload 5, 2) := by decide +kernel
theorem dX8_hears_165 : decode cX8_hears 165 = .ok (.iaload, 1) := by decide +kernel
theorem dX8_hears_166 : decode cX8_hears 166 = .ok (.aload_n 0, 1) := by decide +kernel
theorem dX8_hears_167 : decode cX8_hears 167 = .ok (.getfield 80, 3) := by decide +kernel
theorem dX8_hears_170 : decode cX8_hears 170 = .ok (.iload 5, 2) := by decide +kernel
theorem dX8_hears_172 : decode cX8_hears 172 = .ok (.iaload, 1) := by decide +kernel
theorem dX8_hears_173 : decode cX8_hears 173 = .ok (.invokevirtual 156, 3) := by decide +kernel
theorem dX8_hears_176 : decode cX8_hears 176 = .ok (.aload_n 0, 1) := by decide +kernel
theorem dX8_hears_177 : decode cX8_hears 177 = .ok (.iload 5, 2) := by decide +kernel
theorem dX8_hears_179 : decode cX8_hears 179 = .ok (.invokevirtual 160, 3) := by decide +kernel
theorem dX8_hears_182 : decode cX8_hears 182 = .ok (.aload_n 0, 1) := by decide +kernel
theorem dX8_hears_183 : decode cX8_hears 183 = .ok (.iload_n 1, 1) := by decide +kernel
theorem dX8_hears_184 : decode cX8_hears 184 = .ok (.aload_n 0, 1) := by decide +kernel
theorem dX8_hears_185 : decode cX8_hears 185 = .ok (.getfield 56, 3) := by decide +kernel
theorem dX8_hears_188 : decode cX8_hears 188 = .ok (.iload_n 1, 1) := by decide +kernel
theorem dX8_hears_189 : decode cX8_hears 189 = .ok (.iaload, 1) := by decide +kernel
theorem dX8_hears_190 : decode cX8_hears 190 = .ok (.iconst 1, 1) := by decide +kernel
theorem dX8_hears_191 : decode cX8_hears 191 = .ok (.iadd, 1) := by decide +kernel
theorem dX8_hears_192 : decode cX8_hears 192 = .ok (.invokevirtual 149, 3) := by decide +kernel
theorem dX8_hears_195 : decode cX8_hears 195 = .ok (.istore 5, 2) := by decide +kernel
theorem dX8_hears_197 : decode cX8_hears 197 = .ok (.goto (-45), 3) := by decide +kernel
theorem dX8_hears_200 : decode cX8_hears 200 = .ok (.iconst 1, 1) := by decide +kernel
theorem dX8_hears_201 : decode cX8_hears 201 = .ok (.ireturn, 1) := by decide +kernel
set_option maxRecDepth 20000 in
theorem ggX8_delivers_X8_takesOut : GoodIn wsX8_delivers wsX8_takesOut := goodIn_r _ [9, 10, 4, 1, 2, 3, 38, 39, 40, 41, 42, 43, 44, 45, 46, 47, 48, 49, 50, 51, 52, 53, 54, 55, 56, 57, 58, 59, 60, 61, 62, 63, 64, 65, 66, 67, 68, 69, 70, 71, 72] (by decide +kernel) (by decide +kernel)
set_option maxRecDepth 20000 in
theorem gX8_delivers_X8_takesOut : GoodIn wsX8_delivers (wsV RX8 163 RX8 yX8_takesOut wsX8_takesOut) := goodIn_app (goodIn_of _ (by decide +kernel)) ggX8_delivers_X8_takesOut
set_option maxRecDepth 20000 in
theorem ggX8_delivers_X8_hears : GoodIn wsX8_delivers wsX8_hears := goodIn_r _ [14, 15, 16, 17, 18, 19, 20, 21, 22, 23, 24, 25, 8, 26, 27, 28, 29, 30, 31, 32, 33, 34, 35, 36, 37, 38, 39, 40, 41, 42, 43, 44, 45, 46, 47, 48, 49, 50, 51, 52, 53, 54, 55, 56, 57, 58, 59, 60, 61, 62, 63, 64, 65, 66, 67, 68, 69, 70, 71, 72] (by decide +kernel) (by decide +kernel)
set_option maxRecDepth 20000 in
theorem gX8_delivers_X8_hears : GoodIn wsX8_delivers (wsV RX8 167 RX8 yX8_hears wsX8_hears) := goodIn_app (goodIn_of _ (by decide +kernel)) ggX8_delivers_X8_hears
theorem dX8_delivers_0 : decode cX8_delivers 0 = .ok (.bipush 40, 2) := by decide +kernel
theorem dX8_delivers_2 : decode cX8_delivers 2 = .ok (.iload_n 1, 1) := by decide +kernel
theorem dX8_delivers_3 : decode cX8_delivers 3 = .ok (.imul, 1) := by decide +kernel
theorem dX8_delivers_4 : decode cX8_delivers 4 = .ok (.iload_n 2, 1) := by decide +kernel
theorem dX8_delivers_5 : decode cX8_delivers 5 = .ok (.iadd, 1) := by decide +kernel
theorem dX8_delivers_6 : decode cX8_delivers 6 = .ok (.istore 4, 2) := by decide +kernel
theorem dX8_delivers_8 : decode cX8_delivers 8 = .ok (.aload_n 0, 1) := by decide +kernel
theorem dX8_delivers_9 : decode cX8_delivers 9 = .ok (.getfield 44, 3) := by decide +kernel
theorem dX8_delivers_12 : decode cX8_delivers 12 = .ok (.iload 4, 2) := by decide +kernel
theorem dX8_delivers_14 : decode cX8_delivers 14 = .ok (.iaload, 1) := by decide +kernel
theorem dX8_delivers_15 : decode cX8_delivers 15 = .ok (.istore 5, 2) := by decide +kernel
theorem dX8_delivers_17 : decode cX8_delivers 17 = .ok (.aload_n 0, 1) := by decide +kernel
theorem dX8_delivers_18 : decode cX8_delivers 18 = .ok (.getfield 47, 3) := by decide +kernel
theorem dX8_delivers_21 : decode cX8_delivers 21 = .ok (.iload 4, 2) := by decide +kernel
theorem dX8_delivers_23 : decode cX8_delivers 23 = .ok (.iaload, 1) := by decide +kernel
theorem dX8_delivers_24 : decode cX8_delivers 24 = .ok (.istore 6, 2) := by decide +kernel
theorem dX8_delivers_26 : decode cX8_delivers 26 = .ok (.aload_n 0, 1) := by decide +kernel
theorem dX8_delivers_27 : decode cX8_delivers 27 = .ok (.getfield 50, 3) := by decide +kernel
theorem dX8_delivers_30 : decode cX8_delivers 30 = .ok (.iload 4, 2) := by decide +kernel
theorem dX8_delivers_32 : decode cX8_delivers 32 = .ok (.iaload, 1) := by decide +kernel
theorem dX8_delivers_33 : decode cX8_delivers 33 = .ok (.istore 7, 2) := by decide +kernel
theorem dX8_delivers_35 : decode cX8_delivers 35 = .ok (.aload_n 0, 1) := by decide +kernel
theorem dX8_delivers_36 : decode cX8_delivers 36 = .ok (.getfield 41, 3) := by decide +kernel
theorem dX8_delivers_39 : decode cX8_delivers 39 = .ok (.iload 4, 2) := by decide +kernel
theorem dX8_delivers_41 : decode cX8_delivers 41 = .ok (.iaload, 1) := by decide +kernel
theorem dX8_delivers_42 : decode cX8_delivers 42 = .ok (.istore 8, 2) := by decide +kernel
theorem dX8_delivers_44 : decode cX8_delivers 44 = .ok (.iload_n 3, 1) := by decide +kernel
theorem dX8_delivers_45 : decode cX8_delivers 45 = .ok (.ifCond .ne 9, 3) := by decide +kernel
theorem dX8_delivers_48 : decode cX8_delivers 48 = .ok (.aload_n 0, 1) := by decide +kernel
theorem dX8_delivers_49 : decode cX8_delivers 49 = .ok (.iload_n 1, 1) := by decide +kernel
theorem dX8_delivers_50 : decode cX8_delivers 50 = .ok (.iload_n 2, 1) := by decide +kernel
theorem dX8_delivers_51 : decode cX8_delivers 51 = .ok (.invokevirtual 163, 3) := by decide +kernel
theorem dX8_delivers_54 : decode cX8_delivers 54 = .ok (.aload_n 0, 1) := by decide +kernel
theorem dX8_delivers_55 : decode cX8_delivers 55 = .ok (.iload 5, 2) := by decide +kernel
theorem dX8_delivers_57 : decode cX8_delivers 57 = .ok (.iload 6, 2) := by decide +kernel
theorem dX8_delivers_59 : decode cX8_delivers 59 = .ok (.iload 7, 2) := by decide +kernel
theorem dX8_delivers_61 : decode cX8_delivers 61 = .ok (.iload 8, 2) := by decide +kernel
theorem dX8_delivers_63 : decode cX8_delivers 63 = .ok (.invokevirtual 167, 3) := by decide +kernel
theorem dX8_delivers_66 : decode cX8_delivers 66 = .ok (.ireturn, 1) := by decide +kernel
set_option maxRecDepth 20000 in
theorem ggX8_isLetter_X8_isLane : GoodIn wsX8_isLetter wsX8_isLane := goodIn_r _ [5, 6, 7, 4, 8] (by decide +kernel) (by decide +kernel)
set_option maxRecDepth 20000 in
theorem gX8_isLetter_X8_isLane : GoodIn wsX8_isLetter (va_wsS RX8 171 yX8_isLane wsX8_isLane) := goodIn_app (goodIn_of _ (by decide +kernel)) ggX8_isLetter_X8_isLane
set_option maxRecDepth 20000 in
theorem ggX8_isLetter_X8_in : GoodIn wsX8_isLetter wsX8_in := goodIn_r _ [8] (by decide +kernel) (by decide +kernel)
set_option maxRecDepth 20000 in
theorem gX8_isLetter_X8_in : GoodIn wsX8_isLetter (va_wsS RX8 87 yX8_in wsX8_in) := goodIn_app (goodIn_of _ (by decide +kernel)) ggX8_isLetter_X8_in
theorem dX8_isLetter_0 : decode cX8_isLetter 0 = .ok (.iload_n 1, 1) := by decide +kernel
theorem dX8_isLetter_1 : decode cX8_isLetter 1 = .ok (.invokestatic 171, 3) := by decide +kernel
theorem dX8_isLetter_4 : decode cX8_isLetter 4 = .ok (.ifCond .eq 23, 3) := by decide +kernel
theorem dX8_isLetter_7 : decode cX8_isLetter 7 = .ok (.iload_n 2, 1) := by decide +kernel
theorem dX8_isLetter_8 : decode cX8_isLetter 8 = .ok (.iconst 0, 1) := by decide +kernel
theorem dX8_isLetter_9 : decode cX8_isLetter 9 = .ok (.aload_n 0, 1) := by decide +kernel
theorem dX8_isLetter_10 : decode cX8_isLetter 10 = .ok (.getfield 38, 3) := by decide +kernel
theorem dX8_isLetter_13 : decode cX8_isLetter 13 = .ok (.iload_n 1, 1) := by decide +kernel
theorem dX8_isLetter_14 : decode cX8_isLetter 14 = .ok (.iaload, 1) := by decide +kernel
theorem dX8_isLetter_15 : decode cX8_isLetter 15 = .ok (.iconst 1, 1) := by decide +kernel
theorem dX8_isLetter_16 : decode cX8_isLetter 16 = .ok (.isub, 1) := by decide +kernel
theorem dX8_isLetter_17 : decode cX8_isLetter 17 = .ok (.invokestatic 87, 3) := by decide +kernel
theorem dX8_isLetter_20 : decode cX8_isLetter 20 = .ok (.ifCond .eq 7, 3) := by decide +kernel
theorem dX8_isLetter_23 : decode cX8_isLetter 23 = .ok (.iconst 1, 1) := by decide +kernel
theorem dX8_isLetter_24 : decode cX8_isLetter 24 = .ok (.goto 4, 3) := by decide +kernel
theorem dX8_isLetter_27 : decode cX8_isLetter 27 = .ok (.iconst 0, 1) := by decide +kernel
theorem dX8_isLetter_28 : decode cX8_isLetter 28 = .ok (.ireturn, 1) := by decide +kernel
set_option maxRecDepth 20000 in
theorem ggX8_deliver_X8_isLetter : GoodIn wsX8_deliver wsX8_isLetter := goodIn_r _ [5, 6, 7, 8, 4, 9, 10, 11, 12, 52, 53, 54, 55, 56, 57, 58, 59, 60, 61, 62, 63, 64, 65, 66, 67, 68, 69, 70, 71, 72, 73, 74, 75, 76, 77, 78, 79, 80, 81, 82, 83, 84, 85, 86] (by decide +kernel) (by decide +kernel)
set_option maxRecDepth 20000 in
theorem gX8_deliver_X8_isLetter : GoodIn wsX8_deliver (wsV RX8 174 RX8 yX8_isLetter wsX8_isLetter) := goodIn_app (goodIn_of _ (by decide +kernel)) ggX8_deliver_X8_isLetter
set_option maxRecDepth 20000 in
theorem ggX8_deliver_X8_delivers : GoodIn wsX8_deliver wsX8_delivers := goodIn_r _ [16, 17, 18, 19, 20, 21, 22, 23, 4, 24, 6, 25, 26, 27, 28, 29, 30, 31, 32, 33, 34, 35, 36, 37, 38, 39, 40, 41, 42, 43, 44, 45, 46, 47, 48, 49, 50, 51, 52, 53, 54, 55, 56, 57, 58, 59, 60, 61, 62, 63, 64, 65, 66, 67, 68, 69, 70, 71, 72, 73, 74, 75, 76, 77, 78, 79, 80, 81, 82, 83, 84, 85, 86] (by decide +kernel) (by decide +kernel)
set_option maxRecDepth 20000 in
theorem gX8_deliver_X8_delivers : GoodIn wsX8_deliver (wsV RX8 178 RX8 yX8_delivers wsX8_delivers) := goodIn_app (goodIn_of _ (by decide +kernel)) ggX8_deliver_X8_delivers
theorem dX8_deliver_0 : decode cX8_deliver 0 = .ok (.aload_n 0, 1) := by decide +kernel
theorem dX8_deliver_1 : decode cX8_deliver 1 = .ok (.iload_n 1, 1) := by decide +kernel
theorem dX8_deliver_2 : decode cX8_deliver 2 = .ok (.iload_n 2, 1) := by decide +kernel
theorem dX8_deliver_3 : decode cX8_deliver 3 = .ok (.invokevirtual 174, 3) := by decide +kernel
theorem dX8_deliver_6 : decode cX8_deliver 6 = .ok (.ifCond .eq 13, 3) := by decide +kernel
theorem dX8_deliver_9 : decode cX8_deliver 9 = .ok (.aload_n 0, 1) := by decide +kernel
theorem dX8_deliver_10 : decode cX8_deliver 10 = .ok (.iload_n 1, 1) := by decide +kernel
theorem dX8_deliver_11 : decode cX8_deliver 11 = .ok (.iload_n 2, 1) := by decide +kernel
theorem dX8_deliver_12 : decode cX8_deliver 12 = .ok (.iload_n 3, 1) := by decide +kernel
theorem dX8_deliver_13 : decode cX8_deliver 13 = .ok (.invokevirtual 178, 3) := by decide +kernel
theorem dX8_deliver_16 : decode cX8_deliver 16 = .ok (.goto 4, 3) := by decide +kernel
theorem dX8_deliver_19 : decode cX8_deliver 19 = .ok (.iconst (-1), 1) := by decide +kernel
theorem dX8_deliver_20 : decode cX8_deliver 20 = .ok (.ireturn, 1) := by decide +kernel
set_option maxRecDepth 20000 in
theorem ggX8_lose_X8_isLetter : GoodIn wsX8_lose wsX8_isLetter := goodIn_r _ [7, 8, 9, 10, 6, 11, 12, 13, 14, 22, 23, 24, 25, 26, 27, 28, 29, 30, 31, 32, 33, 34, 35, 36, 37, 38, 39, 40, 41, 42, 43, 44, 45, 46, 47, 48, 49, 50, 51, 52, 53, 54, 55, 56] (by decide +kernel) (by decide +kernel)
set_option maxRecDepth 20000 in
theorem gX8_lose_X8_isLetter : GoodIn wsX8_lose (wsV RX8 174 RX8 yX8_isLetter wsX8_isLetter) := goodIn_app (goodIn_of _ (by decide +kernel)) ggX8_lose_X8_isLetter
set_option maxRecDepth 20000 in
theorem ggX8_lose_X8_takesOut : GoodIn wsX8_lose wsX8_takesOut := goodIn_r _ [18, 8, 1, 19, 20, 21, 22, 23, 24, 25, 26, 27, 28, 29, 30, 31, 32, 33, 34, 35, 36, 37, 38, 39, 40, 41, 42, 43, 44, 45, 46, 47, 48, 49, 50, 51, 52, 53, 54, 55, 56] (by decide +kernel) (by decide +kernel)
set_option maxRecDepth 20000 in
theorem gX8_lose_X8_takesOut : GoodIn wsX8_lose (wsV RX8 163 RX8 yX8_takesOut wsX8_takesOut) := goodIn_app (goodIn_of _ (by decide +kernel)) ggX8_lose_X8_takesOut
theorem dX8_lose_0 : decode cX8_lose 0 = .ok (.aload_n 0, 1) := by decide +kernel
theorem dX8_lose_1 : decode cX8_lose 1 = .ok (.iload_n 1, 1) := by decide +kernel
theorem dX8_lose_2 : decode cX8_lose 2 = .ok (.iload_n 2, 1) := by decide +kernel
theorem dX8_lose_3 : decode cX8_lose 3 = .ok (.invokevirtual 174, 3) := by decide +kernel
theorem dX8_lose_6 : decode cX8_lose 6 = .ok (.ifCond .ne 5, 3) := by decide +kernel
theorem dX8_lose_9 : decode cX8_lose 9 = .ok (.iconst (-1), 1) := by decide +kernel
theorem dX8_lose_10 : decode cX8_lose 10 = .ok (.ireturn, 1) := by decide +kernel
theorem dX8_lose_11 : decode cX8_lose 11 = .ok (.aload_n 0, 1) := by decide +kernel
theorem dX8_lose_12 : decode cX8_lose 12 = .ok (.getfield 41, 3) := by decide +kernel
theorem dX8_lose_15 : decode cX8_lose 15 = .ok (.bipush 40, 2) := by decide +kernel
theorem dX8_lose_17 : decode cX8_lose 17 = .ok (.iload_n 1, 1) := by decide +kernel
theorem dX8_lose_18 : decode cX8_lose 18 = .ok (.imul, 1) := by decide +kernel
theorem dX8_lose_19 : decode cX8_lose 19 = .ok (.iload_n 2, 1) := by decide +kernel
theorem dX8_lose_20 : decode cX8_lose 20 = .ok (.iadd, 1) := by decide +kernel
theorem dX8_lose_21 : decode cX8_lose 21 = .ok (.iaload, 1) := by decide +kernel
theorem dX8_lose_22 : decode cX8_lose 22 = .ok (.istore_n 3, 1) := by decide +kernel
theorem dX8_lose_23 : decode cX8_lose 23 = .ok (.aload_n 0, 1) := by decide +kernel
theorem dX8_lose_24 : decode cX8_lose 24 = .ok (.iload_n 1, 1) := by decide +kernel
theorem dX8_lose_25 : decode cX8_lose 25 = .ok (.iload_n 2, 1) := by decide +kernel
theorem dX8_lose_26 : decode cX8_lose 26 = .ok (.invokevirtual 163, 3) := by decide +kernel
theorem dX8_lose_29 : decode cX8_lose 29 = .ok (.aload_n 0, 1) := by decide +kernel
theorem dX8_lose_30 : decode cX8_lose 30 = .ok (.dup, 1) := by decide +kernel
theorem dX8_lose_31 : decode cX8_lose 31 = .ok (.getfield 153, 3) := by decide +kernel
theorem dX8_lose_34 : decode cX8_lose 34 = .ok (.iconst 1, 1) := by decide +kernel
theorem dX8_lose_35 : decode cX8_lose 35 = .ok (.iadd, 1) := by decide +kernel
theorem dX8_lose_36 : decode cX8_lose 36 = .ok (.putfield 153, 3) := by decide +kernel
theorem dX8_lose_39 : decode cX8_lose 39 = .ok (.iload_n 3, 1) := by decide +kernel
theorem dX8_lose_40 : decode cX8_lose 40 = .ok (.ireturn, 1) := by decide +kernel
set_option maxRecDepth 20000 in
theorem ggX8_letter_X8_isLane : GoodIn wsX8_letter wsX8_isLane := goodIn_r _ [8, 9, 10, 7, 11] (by decide +kernel) (by decide +kernel)
set_option maxRecDepth 20000 in
theorem gX8_letter_X8_isLane : GoodIn wsX8_letter (va_wsS RX8 171 yX8_isLane wsX8_isLane) := goodIn_app (goodIn_of _ (by decide +kernel)) ggX8_letter_X8_isLane
set_option maxRecDepth 20000 in
theorem ggX8_letter_X8_in : GoodIn wsX8_letter wsX8_in := goodIn_r _ [11] (by decide +kernel) (by decide +kernel)
set_option maxRecDepth 20000 in
theorem gX8_letter_X8_in : GoodIn wsX8_letter (va_wsS RX8 87 yX8_in wsX8_in) := goodIn_app (goodIn_of _ (by decide +kernel)) ggX8_letter_X8_in
set_option maxRecDepth 20000 in
theorem ggX8_letter_X8_isLetter : GoodIn wsX8_letter wsX8_isLetter := goodIn_r _ [15, 16, 5, 6, 7, 8, 9, 10, 11, 17, 18, 19, 20, 21, 22, 23, 24, 25, 26, 27, 28, 29, 30, 31, 32, 33, 34, 35, 36, 37, 38, 39, 40, 41, 42, 43, 44, 45, 46, 47, 48, 49, 50, 51] (by decide +kernel) (by decide +kernel)
set_option maxRecDepth 20000 in
theorem gX8_letter_X8_isLetter : GoodIn wsX8_letter (wsV RX8 174 RX8 yX8_isLetter wsX8_isLetter) := goodIn_app (goodIn_of _ (by decide +kernel)) ggX8_letter_X8_isLetter
theorem dX8_letter_0 : decode cX8_letter 0 = .ok (.iload_n 1, 1) := by decide +kernel
theorem dX8_letter_1 : decode cX8_letter 1 = .ok (.invokestatic 171, 3) := by decide +kernel
theorem dX8_letter_4 : decode cX8_letter 4 = .ok (.ifCond .eq 12, 3) := by decide +kernel
theorem dX8_letter_7 : decode cX8_letter 7 = .ok (.iload_n 3, 1) := by decide +kernel
theorem dX8_letter_8 : decode cX8_letter 8 = .ok (.iconst 0, 1) := by decide +kernel
theorem dX8_letter_9 : decode cX8_letter 9 = .ok (.iconst 3, 1) := by decide +kernel
theorem dX8_letter_10 : decode cX8_letter 10 = .ok (.invokestatic 87, 3) := by decide +kernel
theorem dX8_letter_13 : decode cX8_letter 13 = .ok (.ifCond .ne 5, 3) := by decide +kernel
theorem dX8_letter_16 : decode cX8_letter 16 = .ok (.iconst (-1), 1) := by decide +kernel
theorem dX8_letter_17 : decode cX8_letter 17 = .ok (.ireturn, 1) := by decide +kernel
theorem dX8_letter_18 : decode cX8_letter 18 = .ok (.aload_n 0, 1) := by decide +kernel
theorem dX8_letter_19 : decode cX8_letter 19 = .ok (.iload_n 1, 1) := by decide +kernel
theorem dX8_letter_20 : decode cX8_letter 20 = .ok (.iload_n 2, 1) := by decide +kernel
theorem dX8_letter_21 : decode cX8_letter 21 = .ok (.invokevirtual 174, 3) := by decide +kernel
theorem dX8_letter_24 : decode cX8_letter 24 = .ok (.ifCond .ne 6, 3) := by decide +kernel
theorem dX8_letter_27 : decode cX8_letter 27 = .ok (.bipush (-9), 2) := by decide +kernel
theorem dX8_letter_29 : decode cX8_letter 29 = .ok (.ireturn, 1) := by decide +kernel
theorem dX8_letter_30 : decode cX8_letter 30 = .ok (.bipush 40, 2) := by decide +kernel
theorem dX8_letter_32 : decode cX8_letter 32 = .ok (.iload_n 1, 1) := by decide +kernel
theorem dX8_letter_33 : decode cX8_letter 33 = .ok (.imul, 1) := by decide +kernel
theorem dX8_letter_34 : decode cX8_letter 34 = .ok (.iload_n 2, 1) := by decide +kernel
theorem dX8_letter_35 : decode cX8_letter 35 = .ok (.iadd, 1) := by decide +kernel
theorem dX8_letter_36 : decode cX8_letter 36 = .ok (.istore 4, 2) := by decide +kernel
theorem dX8_letter_38 : decode cX8_letter 38 = .ok (.iload_n 3, 1) := by decide +kernel
theorem dX8_letter_39 : decode cX8_letter 39 = .ok (.ifCond .ne 13, 3) := by decide +kernel
theorem dX8_letter_42 : decode cX8_letter 42 = .ok (.aload_n 0, 1) := by decide +kernel
theorem dX8_letter_43 : decode cX8_letter 43 = .ok (.getfield 41, 3) := by decide +kernel
theorem dX8_letter_46 : decode cX8_letter 46 = .ok (.iload 4, 2) := by decide +kernel
theorem dX8_letter_48 : decode cX8_letter 48 = .ok (.iaload, 1) := by decide +kernel
theorem dX8_letter_49 : decode cX8_letter 49 = .ok (.goto 40, 3) := by decide +kernel
theorem dX8_letter_52 : decode cX8_letter 52 = .ok (.iload_n 3, 1) := by decide +kernel
theorem dX8_letter_53 : decode cX8_letter 53 = .ok (.iconst 1, 1) := by decide +kernel
theorem dX8_letter_54 : decode cX8_letter 54 = .ok (.if_icmp .ne 13, 3) := by decide +kernel
theorem dX8_letter_57 : decode cX8_letter 57 = .ok (.aload_n 0, 1) := by decide +kernel
theorem dX8_letter_58 : decode cX8_letter 58 = .ok (.getfield 44, 3) := by decide +kernel
theorem dX8_letter_61 : decode cX8_letter 61 = .ok (.iload 4, 2) := by decide +kernel
theorem dX8_letter_63 : decode cX8_letter 63 = .ok (.iaload, 1) := by decide +kernel
theorem dX8_letter_64 : decode cX8_letter 64 = .ok (.goto 25, 3) := by decide +kernel
theorem dX8_letter_67 : decode cX8_letter 67 = .ok (.iload_n 3, 1) := by decide +kernel
theorem dX8_letter_68 : decode cX8_letter 68 = .ok (.iconst 2, 1) := by decide +kernel
theorem dX8_letter_69 : decode cX8_letter 69 = .ok (.if_icmp .ne 13, 3) := by decide +kernel
theorem dX8_letter_72 : decode cX8_letter 72 = .ok (.aload_n 0, 1) := by decide +kernel
theorem dX8_letter_73 : decode cX8_letter 73 = .ok (.getfield 47, 3) := by decide +kernel
theorem dX8_letter_76 : decode cX8_letter 76 = .ok (.iload 4, 2) := by decide +kernel
theorem dX8_letter_78 : decode cX8_letter 78 = .ok (.iaload, 1) := by decide +kernel
theorem dX8_letter_79 : decode cX8_letter 79 = .ok (.goto 10, 3) := by decide +kernel
theorem dX8_letter_82 : decode cX8_letter 82 = .ok (.aload_n 0, 1) := by decide +kernel
theorem dX8_letter_83 : decode cX8_letter 83 = .ok (.getfield 50, 3) := by decide +kernel
theorem dX8_letter_86 : decode cX8_letter 86 = .ok (.iload 4, 2) := by decide +kernel
theorem dX8_letter_88 : decode cX8_letter 88 = .ok (.iaload, 1) := by decide +kernel
theorem dX8_letter_89 : decode cX8_letter 89 = .ok (.ireturn, 1) := by decide +kernel
theorem dX8_saves_0 : decode cX8_saves 0 = .ok (.iconst 0, 1) := by decide +kernel
theorem dX8_saves_1 : decode cX8_saves 1 = .ok (.istore_n 1, 1) := by decide +kernel
theorem dX8_saves_2 : decode cX8_saves 2 = .ok (.iconst 0, 1) := by decide +kernel
theorem dX8_saves_3 : decode cX8_saves 3 = .ok (.istore_n 2, 1) := by decide +kernel
theorem dX8_saves_4 : decode cX8_saves 4 = .ok (.iload_n 2, 1) := by decide +kernel
theorem dX8_saves_5 : decode cX8_saves 5 = .ok (.bipush 6, 2) := by decide +kernel
theorem dX8_saves_7 : decode cX8_saves 7 = .ok (.if_icmp .ge 49, 3) := by decide +kernel
theorem dX8_saves_10 : decode cX8_saves 10 = .ok (.iload_n 1, 1) := by decide +kernel
theorem dX8_saves_11 : decode cX8_saves 11 = .ok (.aload_n 0, 1) := by decide +kernel
theorem dX8_saves_12 : decode cX8_saves 12 = .ok (.getfield 56, 3) := by decide +kernel
theorem dX8_saves_15 : decode cX8_saves 15 = .ok (.iload_n 2, 1) := by decide +kernel
theorem dX8_saves_16 : decode cX8_saves 16 = .ok (.iaload, 1) := by decide +kernel
theorem dX8_saves_17 : decode cX8_saves 17 = .ok (.aload_n 0, 1) := by decide +kernel
theorem dX8_saves_18 : decode cX8_saves 18 = .ok (.getfield 65, 3) := by decide +kernel
theorem dX8_saves_21 : decode cX8_saves 21 = .ok (.iload_n 2, 1) := by decide +kernel
theorem dX8_saves_22 : decode cX8_saves 22 = .ok (.iaload, 1) := by decide +kernel
theorem dX8_saves_23 : decode cX8_saves 23 = .ok (.isub, 1) := by decide +kernel
theorem dX8_saves_24 : decode cX8_saves 24 = .ok (.iadd, 1) := by decide +kernel
theorem dX8_saves_25 : decode cX8_saves 25 = .ok (.istore_n 1, 1) := by decide +kernel
theorem dX8_saves_26 : decode cX8_saves 26 = .ok (.aload_n 0, 1) := by decide +kernel
theorem dX8_saves_27 : decode cX8_saves 27 = .ok (.getfield 62, 3) := by decide +kernel
theorem dX8_saves_30 : decode cX8_saves 30 = .ok (.iload_n 2, 1) := by decide +kernel
theorem dX8_saves_31 : decode cX8_saves 31 = .ok (.aload_n 0, 1) := by decide +kernel
theorem dX8_saves_32 : decode cX8_saves 32 = .ok (.getfield 53, 3) := by decide +kernel
theorem dX8_saves_35 : decode cX8_saves 35 = .ok (.iload_n 2, 1) := by decide +kernel
theorem dX8_saves_36 : decode cX8_saves 36 = .ok (.iaload, 1) := by decide +kernel
theorem dX8_saves_37 : decode cX8_saves 37 = .ok (.iastore, 1) := by decide +kernel
theorem dX8_saves_38 : decode cX8_saves 38 = .ok (.aload_n 0, 1) := by decide +kernel
theorem dX8_saves_39 : decode cX8_saves 39 = .ok (.getfield 65, 3) := by decide +kernel
theorem dX8_saves_42 : decode cX8_saves 42 = .ok (.iload_n 2, 1) := by decide +kernel
theorem dX8_saves_43 : decode cX8_saves 43 = .ok (.aload_n 0, 1) := by decide +kernel
theorem dX8_saves_44 : decode cX8_saves 44 = .ok (.getfield 56, 3) := by decide +kernel
theorem dX8_saves_47 : decode cX8_saves 47 = .ok (.iload_n 2, 1) := by decide +kernel
theorem dX8_saves_48 : decode cX8_saves 48 = .ok (.iaload, 1) := by decide +kernel
theorem dX8_saves_49 : decode cX8_saves 49 = .ok (.iastore, 1) := by decide +kernel
theorem dX8_saves_50 : decode cX8_saves 50 = .ok (.iinc 2 1, 3) := by decide +kernel
theorem dX8_saves_53 : decode cX8_saves 53 = .ok (.goto (-49), 3) := by decide +kernel
theorem dX8_saves_56 : decode cX8_saves 56 = .ok (.iconst 0, 1) := by decide +kernel
theorem dX8_saves_57 : decode cX8_saves 57 = .ok (.istore_n 2, 1) := by decide +kernel
theorem dX8_saves_58 : decode cX8_saves 58 = .ok (.iload_n 2, 1) := by decide +kernel
theorem dX8_saves_59 : decode cX8_saves 59 = .ok (.sipush 400, 3) := by decide +kernel
theorem dX8_saves_62 : decode cX8_saves 62 = .ok (.if_icmp .ge 21, 3) := by decide +kernel
theorem dX8_saves_65 : decode cX8_saves 65 = .ok (.aload_n 0, 1) := by decide +kernel
theorem dX8_saves_66 : decode cX8_saves 66 = .ok (.getfield 68, 3) := by decide +kernel
theorem dX8_saves_69 : decode cX8_saves 69 = .ok (.iload_n 2, 1) := by decide +kernel
theorem dX8_saves_70 : decode cX8_saves 70 = .ok (.aload_n 0, 1) := by decide +kernel
theorem dX8_saves_71 : decode cX8_saves 71 = .ok (.getfield 59, 3) := by decide +kernel
theorem dX8_saves_74 : decode cX8_saves 74 = .ok (.iload_n 2, 1) := by decide +kernel
theorem dX8_saves_75 : decode cX8_saves 75 = .ok (.baload, 1) := by decide +kernel
theorem dX8_saves_76 : decode cX8_saves 76 = .ok (.bastore, 1) := by decide +kernel
theorem dX8_saves_77 : decode cX8_saves 77 = .ok (.iinc 2 1, 3) := by decide +kernel
theorem dX8_saves_80 : decode cX8_saves 80 = .ok (.goto (-22), 3) := by decide +kernel
theorem dX8_saves_83 : decode cX8_saves 83 = .ok (.iload_n 1, 1) := by decide +kernel
theorem dX8_saves_84 : decode cX8_saves 84 = .ok (.ireturn, 1) := by decide +kernel
set_option maxRecDepth 20000 in
theorem ggX8_save_X8_saves : GoodIn wsX8_save wsX8_saves := goodIn_r _ [5, 6, 7, 8, 9, 10, 11, 12, 13, 14, 15, 16, 17, 18, 19, 20, 21, 22, 23, 24, 25, 26, 27, 28, 29, 30, 31, 32, 33, 34, 35, 36, 37, 38, 39, 40, 41, 42, 43, 44, 45, 46] (by decide +kernel) (by decide +kernel)
set_option maxRecDepth 20000 in
theorem gX8_save_X8_saves : GoodIn wsX8_save (wsV RX8 182 RX8 yX8_saves wsX8_saves) := goodIn_app (goodIn_of _ (by decide +kernel)) ggX8_save_X8_saves
theorem dX8_save_0 : decode cX8_save 0 = .ok (.aload_n 0, 1) := by decide +kernel
theorem dX8_save_1 : decode cX8_save 1 = .ok (.invokevirtual 182, 3) := by decide +kernel
theorem dX8_save_4 : decode cX8_save 4 = .ok (.ireturn, 1) := by decide +kernel
theorem dX8_toAck_0 : decode cX8_toAck 0 = .ok (.iconst 0, 1) := by decide +kernel
theorem dX8_toAck_1 : decode cX8_toAck 1 = .ok (.istore_n 1, 1) := by decide +kernel
theorem dX8_toAck_2 : decode cX8_toAck 2 = .ok (.iload_n 1, 1) := by decide +kernel
theorem dX8_toAck_3 : decode cX8_toAck 3 = .ok (.sipush 400, 3) := by decide +kernel
theorem dX8_toAck_6 : decode cX8_toAck 6 = .ok (.if_icmp .ge 18, 3) := by decide +kernel
theorem dX8_toAck_9 : decode cX8_toAck 9 = .ok (.aload_n 0, 1) := by decide +kernel
theorem dX8_toAck_10 : decode cX8_toAck 10 = .ok (.getfield 68, 3) := by decide +kernel
theorem dX8_toAck_13 : decode cX8_toAck 13 = .ok (.iload_n 1, 1) := by decide +kernel
theorem dX8_toAck_14 : decode cX8_toAck 14 = .ok (.baload, 1) := by decide +kernel
theorem dX8_toAck_15 : decode cX8_toAck 15 = .ok (.ifCond .eq 9, 3) := by decide +kernel
theorem dX8_toAck_18 : decode cX8_toAck 18 = .ok (.iinc 1 1, 3) := by decide +kernel
theorem dX8_toAck_21 : decode cX8_toAck 21 = .ok (.goto (-19), 3) := by decide +kernel
theorem dX8_toAck_24 : decode cX8_toAck 24 = .ok (.iload_n 1, 1) := by decide +kernel
theorem dX8_toAck_25 : decode cX8_toAck 25 = .ok (.ireturn, 1) := by decide +kernel
set_option maxRecDepth 20000 in
theorem ggX8_acks_X8_toAck : GoodIn wsX8_acks wsX8_toAck := goodIn_r _ [7, 8, 9, 10, 11, 12, 13, 14, 15, 16, 17, 18, 19, 20, 21, 22, 23, 24, 25, 26, 27, 28, 29, 30, 31, 32, 33, 34, 35, 36, 37, 38, 39, 40, 41, 42, 43] (by decide +kernel) (by decide +kernel)
set_option maxRecDepth 20000 in
theorem gX8_acks_X8_toAck : GoodIn wsX8_acks (wsV RX8 185 RX8 yX8_toAck wsX8_toAck) := goodIn_app (goodIn_of _ (by decide +kernel)) ggX8_acks_X8_toAck
theorem dX8_acks_0 : decode cX8_acks 0 = .ok (.aload_n 0, 1) := by decide +kernel
theorem dX8_acks_1 : decode cX8_acks 1 = .ok (.invokevirtual 185, 3) := by decide +kernel
theorem dX8_acks_4 : decode cX8_acks 4 = .ok (.istore_n 2, 1) := by decide +kernel
theorem dX8_acks_5 : decode cX8_acks 5 = .ok (.iload_n 1, 1) := by decide +kernel
theorem dX8_acks_6 : decode cX8_acks 6 = .ok (.ifCond .eq 42, 3) := by decide +kernel
theorem dX8_acks_9 : decode cX8_acks 9 = .ok (.iload_n 2, 1) := by decide +kernel
theorem dX8_acks_10 : decode cX8_acks 10 = .ok (.aload_n 0, 1) := by decide +kernel
theorem dX8_acks_11 : decode cX8_acks 11 = .ok (.getfield 128, 3) := by decide +kernel
theorem dX8_acks_14 : decode cX8_acks 14 = .ok (.if_icmp .le 34, 3) := by decide +kernel
theorem dX8_acks_17 : decode cX8_acks 17 = .ok (.aload_n 0, 1) := by decide +kernel
theorem dX8_acks_18 : decode cX8_acks 18 = .ok (.iload_n 2, 1) := by decide +kernel
theorem dX8_acks_19 : decode cX8_acks 19 = .ok (.putfield 128, 3) := by decide +kernel
theorem dX8_acks_22 : decode cX8_acks 22 = .ok (.aload_n 0, 1) := by decide +kernel
theorem dX8_acks_23 : decode cX8_acks 23 = .ok (.aload_n 0, 1) := by decide +kernel
theorem dX8_acks_24 : decode cX8_acks 24 = .ok (.getfield 125, 3) := by decide +kernel
theorem dX8_acks_27 : decode cX8_acks 27 = .ok (.aload_n 0, 1) := by decide +kernel
theorem dX8_acks_28 : decode cX8_acks 28 = .ok (.getfield 128, 3) := by decide +kernel
theorem dX8_acks_31 : decode cX8_acks 31 = .ok (.if_icmp .ge 10, 3) := by decide +kernel
theorem dX8_acks_34 : decode cX8_acks 34 = .ok (.aload_n 0, 1) := by decide +kernel
theorem dX8_acks_35 : decode cX8_acks 35 = .ok (.getfield 128, 3) := by decide +kernel
theorem dX8_acks_38 : decode cX8_acks 38 = .ok (.goto 7, 3) := by decide +kernel
theorem dX8_acks_41 : decode cX8_acks 41 = .ok (.aload_n 0, 1) := by decide +kernel
theorem dX8_acks_42 : decode cX8_acks 42 = .ok (.getfield 125, 3) := by decide +kernel
theorem dX8_acks_45 : decode cX8_acks 45 = .ok (.putfield 125, 3) := by decide +kernel
theorem dX8_acks_48 : decode cX8_acks 48 = .ok (.iload_n 2, 1) := by decide +kernel
theorem dX8_acks_49 : decode cX8_acks 49 = .ok (.ireturn, 1) := by decide +kernel
set_option maxRecDepth 20000 in
theorem ggX8_ack_X8_acks : GoodIn wsX8_ack wsX8_acks := goodIn_r _ [5, 6, 7, 8, 9, 10, 4, 11, 12, 13, 14, 15, 16, 17, 18, 19, 20, 21, 22, 23, 24, 25, 26, 27, 28, 29, 30, 31, 32, 33, 34, 35, 36, 37, 38, 39, 40, 41, 42, 43, 44, 45, 46, 47] (by decide +kernel) (by decide +kernel)
set_option maxRecDepth 20000 in
theorem gX8_ack_X8_acks : GoodIn wsX8_ack (wsV RX8 188 RX8 yX8_acks wsX8_acks) := goodIn_app (goodIn_of _ (by decide +kernel)) ggX8_ack_X8_acks
theorem dX8_ack_0 : decode cX8_ack 0 = .ok (.aload_n 0, 1) := by decide +kernel
theorem dX8_ack_1 : decode cX8_ack 1 = .ok (.iload_n 1, 1) := by decide +kernel
theorem dX8_ack_2 : decode cX8_ack 2 = .ok (.invokevirtual 188, 3) := by decide +kernel
theorem dX8_ack_5 : decode cX8_ack 5 = .ok (.ireturn, 1) := by decide +kernel
set_option maxRecDepth 20000 in
theorem ggX8_flow_X8_in : GoodIn wsX8_flow wsX8_in := goodIn_r _ [6] (by decide +kernel) (by decide +kernel)
set_option maxRecDepth 20000 in
theorem gX8_flow_X8_in : GoodIn wsX8_flow (va_wsS RX8 87 yX8_in wsX8_in) := goodIn_app (goodIn_of _ (by decide +kernel)) ggX8_flow_X8_in
set_option maxRecDepth 20000 in
theorem ggX8_flow_X8_delivers : GoodIn wsX8_flow wsX8_delivers := goodIn_r _ [10, 11, 12, 13, 14, 15, 16, 17, 5, 18, 2, 19, 20, 21, 22, 23, 24, 25, 26, 27, 28, 29, 30, 31, 32, 33, 34, 35, 36, 37, 38, 39, 40, 1, 41, 42, 43, 44, 71, 72, 73, 74, 75, 76, 77, 78, 79, 80, 81, 82, 83, 84, 85, 86, 87, 88, 89, 90, 91, 92, 93, 94, 95, 96, 97, 98, 99, 100, 101, 102, 103, 104, 105] (by decide +kernel) (by decide +kernel)
set_option maxRecDepth 20000 in
theorem gX8_flow_X8_delivers : GoodIn wsX8_flow (wsV RX8 178 RX8 yX8_delivers wsX8_delivers) := goodIn_app (goodIn_of _ (by decide +kernel)) ggX8_flow_X8_delivers
set_option maxRecDepth 20000 in
theorem ggX8_flow_X8_saves : GoodIn wsX8_flow wsX8_saves := goodIn_r _ [48, 23, 49, 50, 39, 51, 40, 71, 72, 73, 74, 75, 76, 77, 78, 79, 80, 81, 82, 83, 84, 85, 86, 87, 88, 89, 90, 91, 92, 93, 94, 95, 96, 97, 98, 99, 100, 101, 102, 103, 104, 105] (by decide +kernel) (by decide +kernel)
set_option maxRecDepth 20000 in
theorem gX8_flow_X8_saves : GoodIn wsX8_flow (wsV RX8 182 RX8 yX8_saves wsX8_saves) := goodIn_app (goodIn_of _ (by decide +kernel)) ggX8_flow_X8_saves
set_option maxRecDepth 20000 in
theorem ggX8_flow_X8_acks : GoodIn wsX8_flow wsX8_acks := goodIn_r _ [55, 56, 57, 58, 59, 60, 5, 61, 51, 71, 72, 73, 74, 75, 76, 77, 78, 79, 80, 81, 82, 83, 84, 85, 86, 87, 88, 89, 90, 91, 92, 93, 94, 95, 96, 97, 98, 99, 100, 101, 102, 103, 104, 105] (by decide +kernel) (by decide +kernel)
set_option maxRecDepth 20000 in
theorem gX8_flow_X8_acks : GoodIn wsX8_flow (wsV RX8 188 RX8 yX8_acks wsX8_acks) := goodIn_app (goodIn_of _ (by decide +kernel)) ggX8_flow_X8_acks
set_option maxRecDepth 20000 in
theorem ggX8_flow_X8_relays : GoodIn wsX8_flow wsX8_relays := goodIn_r _ [65, 57, 66, 2, 67, 14, 11, 12, 68, 13, 69, 70, 71, 72, 73, 74, 75, 76, 77, 78, 79, 80, 81, 82, 83, 84, 85, 86, 87, 88, 89, 90, 91, 92, 93, 94, 95, 96, 97, 98, 99, 100, 101, 102, 103, 104, 105] (by decide +kernel) (by decide +kernel)
set_option maxRecDepth 20000 in
theorem gX8_flow_X8_relays : GoodIn wsX8_flow (wsV RX8 140 RX8 yX8_relays wsX8_relays) := goodIn_app (goodIn_of _ (by decide +kernel)) ggX8_flow_X8_relays
theorem dX8_flow_0 : decode cX8_flow 0 = .ok (.iload_n 1, 1) := by decide +kernel
theorem dX8_flow_1 : decode cX8_flow 1 = .ok (.iconst 1, 1) := by decide +kernel
theorem dX8_flow_2 : decode cX8_flow 2 = .ok (.bipush 10, 2) := by decide +kernel
theorem dX8_flow_4 : decode cX8_flow 4 = .ok (.invokestatic 87, 3) := by decide +kernel
theorem dX8_flow_7 : decode cX8_flow 7 = .ok (.ifCond .ne 5, 3) := by decide +kernel
theorem dX8_flow_10 : decode cX8_flow 10 = .ok (.iconst (-1), 1) := by decide +kernel
theorem dX8_flow_11 : decode cX8_flow 11 = .ok (.ireturn, 1) := by decide +kernel
theorem dX8_flow_12 : decode cX8_flow 12 = .ok (.aload_n 0, 1) := by decide +kernel
theorem dX8_flow_13 : decode cX8_flow 13 = .ok (.getfield 143, 3) := by decide +kernel
theorem dX8_flow_16 : decode cX8_flow 16 = .ok (.istore_n 2, 1) := by decide +kernel
theorem dX8_flow_17 : decode cX8_flow 17 = .ok (.iconst 0, 1) := by decide +kernel
theorem dX8_flow_18 : decode cX8_flow 18 = .ok (.istore_n 3, 1) := by decide +kernel
theorem dX8_flow_19 : decode cX8_flow 19 = .ok (.iload_n 3, 1) := by decide +kernel
theorem dX8_flow_20 : decode cX8_flow 20 = .ok (.iload_n 1, 1) := by decide +kernel
theorem dX8_flow_21 : decode cX8_flow 21 = .ok (.if_icmp .ge 69, 3) := by decide +kernel
theorem dX8_flow_24 : decode cX8_flow 24 = .ok (.iconst 0, 1) := by decide +kernel
theorem dX8_flow_25 : decode cX8_flow 25 = .ok (.istore 4, 2) := by decide +kernel
theorem dX8_flow_27 : decode cX8_flow 27 = .ok (.iload 4, 2) := by decide +kernel
theorem dX8_flow_29 : decode cX8_flow 29 = .ok (.iconst 3, 1) := by decide +kernel
theorem dX8_flow_30 : decode cX8_flow 30 = .ok (.if_icmp .ge 32, 3) := by decide +kernel
theorem dX8_flow_33 : decode cX8_flow 33 = .ok (.aload_n 0, 1) := by decide +kernel
theorem dX8_flow_34 : decode cX8_flow 34 = .ok (.getfield 38, 3) := by decide +kernel
theorem dX8_flow_37 : decode cX8_flow 37 = .ok (.iload 4, 2) := by decide +kernel
theorem dX8_flow_39 : decode cX8_flow 39 = .ok (.iaload, 1) := by decide +kernel
theorem dX8_flow_40 : decode cX8_flow 40 = .ok (.ifCond .le 16, 3) := by decide +kernel
theorem dX8_flow_43 : decode cX8_flow 43 = .ok (.aload_n 0, 1) := by decide +kernel
theorem dX8_flow_44 : decode cX8_flow 44 = .ok (.iload 4, 2) := by decide +kernel
theorem dX8_flow_46 : decode cX8_flow 46 = .ok (.iconst 0, 1) := by decide +kernel
theorem dX8_flow_47 : decode cX8_flow 47 = .ok (.iconst 0, 1) := by decide +kernel
theorem dX8_flow_48 : decode cX8_flow 48 = .ok (.invokevirtual 178, 3) := by decide +kernel
theorem dX8_flow_51 : decode cX8_flow 51 = .ok (.istore 5, 2) := by decide +kernel
theorem dX8_flow_53 : decode cX8_flow 53 = .ok (.goto (-20), 3) := by decide +kernel
theorem dX8_flow_56 : decode cX8_flow 56 = .ok (.iinc 4 1, 3) := by decide +kernel
theorem dX8_flow_59 : decode cX8_flow 59 = .ok (.goto (-32), 3) := by decide +kernel
theorem dX8_flow_62 : decode cX8_flow 62 = .ok (.aload_n 0, 1) := by decide +kernel
theorem dX8_flow_63 : decode cX8_flow 63 = .ok (.invokevirtual 182, 3) := by decide +kernel
theorem dX8_flow_66 : decode cX8_flow 66 = .ok (.istore 4, 2) := by decide +kernel
theorem dX8_flow_68 : decode cX8_flow 68 = .ok (.aload_n 0, 1) := by decide +kernel
theorem dX8_flow_69 : decode cX8_flow 69 = .ok (.iconst 1, 1) := by decide +kernel
theorem dX8_flow_70 : decode cX8_flow 70 = .ok (.invokevirtual 188, 3) := by decide +kernel
theorem dX8_flow_73 : decode cX8_flow 73 = .ok (.istore 5, 2) := by decide +kernel
theorem dX8_flow_75 : decode cX8_flow 75 = .ok (.aload_n 0, 1) := by decide +kernel
theorem dX8_flow_76 : decode cX8_flow 76 = .ok (.sipush 400, 3) := by decide +kernel
theorem dX8_flow_79 : decode cX8_flow 79 = .ok (.invokevirtual 140, 3) := by decide +kernel
theorem dX8_flow_82 : decode cX8_flow 82 = .ok (.istore 6, 2) := by decide +kernel
theorem dX8_flow_84 : decode cX8_flow 84 = .ok (.iinc 3 1, 3) := by decide +kernel
theorem dX8_flow_87 : decode cX8_flow 87 = .ok (.goto (-68), 3) := by decide +kernel
theorem dX8_flow_90 : decode cX8_flow 90 = .ok (.aload_n 0, 1) := by decide +kernel
theorem dX8_flow_91 : decode cX8_flow 91 = .ok (.getfield 143, 3) := by decide +kernel
theorem dX8_flow_94 : decode cX8_flow 94 = .ok (.iload_n 2, 1) := by decide +kernel
theorem dX8_flow_95 : decode cX8_flow 95 = .ok (.isub, 1) := by decide +kernel
theorem dX8_flow_96 : decode cX8_flow 96 = .ok (.ireturn, 1) := by decide +kernel
theorem dX8_whole_0 : decode cX8_whole 0 = .ok (.iconst 1, 1) := by decide +kernel
theorem dX8_whole_1 : decode cX8_whole 1 = .ok (.istore_n 1, 1) := by decide +kernel
theorem dX8_whole_2 : decode cX8_whole 2 = .ok (.iconst 0, 1) := by decide +kernel
theorem dX8_whole_3 : decode cX8_whole 3 = .ok (.istore_n 2, 1) := by decide +kernel
theorem dX8_whole_4 : decode cX8_whole 4 = .ok (.iconst 0, 1) := by decide +kernel
theorem dX8_whole_5 : decode cX8_whole 5 = .ok (.istore_n 3, 1) := by decide +kernel
theorem dX8_whole_6 : decode cX8_whole 6 = .ok (.iload_n 3, 1) := by decide +kernel
theorem dX8_whole_7 : decode cX8_whole 7 = .ok (.aload_n 0, 1) := by decide +kernel
theorem dX8_whole_8 : decode cX8_whole 8 = .ok (.getfield 95, 3) := by decide +kernel
theorem dX8_whole_11 : decode cX8_whole 11 = .ok (.if_icmp .ge 63, 3) := by decide +kernel
theorem dX8_whole_14 : decode cX8_whole 14 = .ok (.aload_n 0, 1) := by decide +kernel
theorem dX8_whole_15 : decode cX8_whole 15 = .ok (.getfield 35, 3) := by decide +kernel
theorem dX8_whole_18 : decode cX8_whole 18 = .ok (.iload_n 3, 1) := by decide +kernel
theorem dX8_whole_19 : decode cX8_whole 19 = .ok (.baload, 1) := by decide +kernel
theorem dX8_whole_20 : decode cX8_whole 20 = .ok (.ifCond .eq 48, 3) := by decide +kernel
theorem dX8_whole_23 : decode cX8_whole 23 = .ok (.iload_n 2, 1) := by decide +kernel
theorem dX8_whole_24 : decode cX8_whole 24 = .ok (.istore 4, 2) := by decide +kernel
theorem dX8_whole_26 : decode cX8_whole 26 = .ok (.iload 4, 2) := by decide +kernel
theorem dX8_whole_28 : decode cX8_whole 28 = .ok (.iload_n 3, 1) := by decide +kernel
theorem dX8_whole_29 : decode cX8_whole 29 = .ok (.if_icmp .gt 35, 3) := by decide +kernel
theorem dX8_whole_32 : decode cX8_whole 32 = .ok (.iload_n 1, 1) := by decide +kernel
theorem dX8_whole_33 : decode cX8_whole 33 = .ok (.ifCond .eq 23, 3) := by decide +kernel
theorem dX8_whole_36 : decode cX8_whole 36 = .ok (.aload_n 0, 1) := by decide +kernel
theorem dX8_whole_37 : decode cX8_whole 37 = .ok (.getfield 68, 3) := by decide +kernel
theorem dX8_whole_40 : decode cX8_whole 40 = .ok (.iload 4, 2) := by decide +kernel
theorem dX8_whole_42 : decode cX8_whole 42 = .ok (.baload, 1) := by decide +kernel
theorem dX8_whole_43 : decode cX8_whole 43 = .ok (.aload_n 0, 1) := by decide +kernel
theorem dX8_whole_44 : decode cX8_whole 44 = .ok (.getfield 68, 3) := by decide +kernel
theorem dX8_whole_47 : decode cX8_whole 47 = .ok (.iload_n 3, 1) := by decide +kernel
theorem dX8_whole_48 : decode cX8_whole 48 = .ok (.baload, 1) := by decide +kernel
theorem dX8_whole_49 : decode cX8_whole 49 = .ok (.if_icmp .ne 7, 3) := by decide +kernel
theorem dX8_whole_52 : decode cX8_whole 52 = .ok (.iconst 1, 1) := by decide +kernel
theorem dX8_whole_53 : decode cX8_whole 53 = .ok (.goto 4, 3) := by decide +kernel
theorem dX8_whole_56 : decode cX8_whole 56 = .ok (.iconst 0, 1) := by decide +kernel
theorem dX8_whole_57 : decode cX8_whole 57 = .ok (.istore_n 1, 1) := by decide +kernel
theorem dX8_whole_58 : decode cX8_whole 58 = .ok (.iinc 4 1, 3) := by decide +kernel
theorem dX8_whole_61 : decode cX8_whole 61 = .ok (.goto (-35), 3) := by decide +kernel
theorem dX8_whole_64 : decode cX8_whole 64 = .ok (.iload_n 3, 1) := by decide +kernel
theorem dX8_whole_65 : decode cX8_whole 65 = .ok (.iconst 1, 1) := by decide +kernel
theorem dX8_whole_66 : decode cX8_whole 66 = .ok (.iadd, 1) := by decide +kernel
theorem dX8_whole_67 : decode cX8_whole 67 = .ok (.istore_n 2, 1) := by decide +kernel
theorem dX8_whole_68 : decode cX8_whole 68 = .ok (.iinc 3 1, 3) := by decide +kernel
theorem dX8_whole_71 : decode cX8_whole 71 = .ok (.goto (-65), 3) := by decide +kernel
theorem dX8_whole_74 : decode cX8_whole 74 = .ok (.iload_n 1, 1) := by decide +kernel
theorem dX8_whole_75 : decode cX8_whole 75 = .ok (.ifCond .eq 7, 3) := by decide +kernel
theorem dX8_whole_78 : decode cX8_whole 78 = .ok (.iconst 1, 1) := by decide +kernel
theorem dX8_whole_79 : decode cX8_whole 79 = .ok (.goto 4, 3) := by decide +kernel
theorem dX8_whole_82 : decode cX8_whole 82 = .ok (.iconst 0, 1) := by decide +kernel
theorem dX8_whole_83 : decode cX8_whole 83 = .ok (.ireturn, 1) := by decide +kernel
theorem dX8_hasPrefix_0 : decode cX8_hasPrefix 0 = .ok (.iconst 0, 1) := by decide +kernel
theorem dX8_hasPrefix_1 : decode cX8_hasPrefix 1 = .ok (.istore 4, 2) := by decide +kernel
theorem dX8_hasPrefix_3 : decode cX8_hasPrefix 3 = .ok (.iconst 0, 1) := by decide +kernel
