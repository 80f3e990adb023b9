theorem dX5_doHeldThatFollow_3 : decode cX5_doHeldThatFollow 3 = .ok (.bipush 8, 2) := by decide +kernel
theorem dX5_doHeldThatFollow_5 : decode cX5_doHeldThatFollow 5 = .ok (.if_icmp .ge 59, 3) := by decide +kernel
theorem dX5_doHeldThatFollow_8 : decode cX5_doHeldThatFollow 8 = .ok (.aload_n 0, 1) := by decide +kernel
theorem dX5_doHeldThatFollow_9 : decode cX5_doHeldThatFollow 9 = .ok (.getfield 26, 3) := by decide +kernel
theorem dX5_doHeldThatFollow_12 : decode cX5_doHeldThatFollow 12 = .ok (.iload_n 1, 1) := by decide +kernel
theorem dX5_doHeldThatFollow_13 : decode cX5_doHeldThatFollow 13 = .ok (.aload_n 0, 1) := by decide +kernel
theorem dX5_doHeldThatFollow_14 : decode cX5_doHeldThatFollow 14 = .ok (.getfield 12, 3) := by decide +kernel
theorem dX5_doHeldThatFollow_17 : decode cX5_doHeldThatFollow 17 = .ok (.getfield 54, 3) := by decide +kernel
theorem dX5_doHeldThatFollow_20 : decode cX5_doHeldThatFollow 20 = .ok (.iload_n 1, 1) := by decide +kernel
theorem dX5_doHeldThatFollow_21 : decode cX5_doHeldThatFollow 21 = .ok (.iaload, 1) := by decide +kernel
theorem dX5_doHeldThatFollow_22 : decode cX5_doHeldThatFollow 22 = .ok (.iconst 1, 1) := by decide +kernel
theorem dX5_doHeldThatFollow_23 : decode cX5_doHeldThatFollow 23 = .ok (.iadd, 1) := by decide +kernel
theorem dX5_doHeldThatFollow_24 : decode cX5_doHeldThatFollow 24 = .ok (.invokevirtual 47, 3) := by decide +kernel
theorem dX5_doHeldThatFollow_27 : decode cX5_doHeldThatFollow 27 = .ok (.istore_n 3, 1) := by decide +kernel
theorem dX5_doHeldThatFollow_28 : decode cX5_doHeldThatFollow 28 = .ok (.aload_n 0, 1) := by decide +kernel
theorem dX5_doHeldThatFollow_29 : decode cX5_doHeldThatFollow 29 = .ok (.getfield 26, 3) := by decide +kernel
theorem dX5_doHeldThatFollow_32 : decode cX5_doHeldThatFollow 32 = .ok (.iload_n 3, 1) := by decide +kernel
theorem dX5_doHeldThatFollow_33 : decode cX5_doHeldThatFollow 33 = .ok (.invokevirtual 82, 3) := by decide +kernel
theorem dX5_doHeldThatFollow_36 : decode cX5_doHeldThatFollow 36 = .ok (.astore 4, 2) := by decide +kernel
theorem dX5_doHeldThatFollow_38 : decode cX5_doHeldThatFollow 38 = .ok (.aload 4, 2) := by decide +kernel
theorem dX5_doHeldThatFollow_40 : decode cX5_doHeldThatFollow 40 = .ok (.ifnonnull 4, 3) := by decide +kernel
theorem dX5_doHeldThatFollow_43 : decode cX5_doHeldThatFollow 43 = .ok (.return_, 1) := by decide +kernel
theorem dX5_doHeldThatFollow_44 : decode cX5_doHeldThatFollow 44 = .ok (.aload_n 0, 1) := by decide +kernel
theorem dX5_doHeldThatFollow_45 : decode cX5_doHeldThatFollow 45 = .ok (.getfield 26, 3) := by decide +kernel
theorem dX5_doHeldThatFollow_48 : decode cX5_doHeldThatFollow 48 = .ok (.iload_n 3, 1) := by decide +kernel
theorem dX5_doHeldThatFollow_49 : decode cX5_doHeldThatFollow 49 = .ok (.invokevirtual 86, 3) := by decide +kernel
theorem dX5_doHeldThatFollow_52 : decode cX5_doHeldThatFollow 52 = .ok (.aload_n 0, 1) := by decide +kernel
theorem dX5_doHeldThatFollow_53 : decode cX5_doHeldThatFollow 53 = .ok (.aload 4, 2) := by decide +kernel
theorem dX5_doHeldThatFollow_55 : decode cX5_doHeldThatFollow 55 = .ok (.invokevirtual 58, 3) := by decide +kernel
theorem dX5_doHeldThatFollow_58 : decode cX5_doHeldThatFollow 58 = .ok (.iinc 2 1, 3) := by decide +kernel
theorem dX5_doHeldThatFollow_61 : decode cX5_doHeldThatFollow 61 = .ok (.goto (-59), 3) := by decide +kernel
theorem dX5_doHeldThatFollow_64 : decode cX5_doHeldThatFollow 64 = .ok (.return_, 1) := by decide +kernel
set_option maxRecDepth 20000 in
theorem ggX5_saveMemory_X6_become : GoodIn wsX5_saveMemory wsX6_become := goodIn_r _ [7, 8, 9, 10, 18, 19, 20] (by decide +kernel) (by decide +kernel)
set_option maxRecDepth 20000 in
theorem gX5_saveMemory_X6_become : GoodIn wsX5_saveMemory (wsV RX5 89 RX6 yX6_become wsX6_become) := goodIn_app (goodIn_of _ (by decide +kernel)) ggX5_saveMemory_X6_become
theorem dX5_saveMemory_0 : decode cX5_saveMemory 0 = .ok (.aload_n 0, 1) := by decide +kernel
theorem dX5_saveMemory_1 : decode cX5_saveMemory 1 = .ok (.getfield 18, 3) := by decide +kernel
theorem dX5_saveMemory_4 : decode cX5_saveMemory 4 = .ok (.aload_n 0, 1) := by decide +kernel
theorem dX5_saveMemory_5 : decode cX5_saveMemory 5 = .ok (.getfield 12, 3) := by decide +kernel
theorem dX5_saveMemory_8 : decode cX5_saveMemory 8 = .ok (.invokevirtual 89, 3) := by decide +kernel
theorem dX5_saveMemory_11 : decode cX5_saveMemory 11 = .ok (.ireturn, 1) := by decide +kernel
set_option maxRecDepth 20000 in
theorem ggX5_restart_X3_clear : GoodIn wsX5_restart wsX3_clear := goodIn_r _ [8, 9, 25, 26] (by decide +kernel) (by decide +kernel)
set_option maxRecDepth 20000 in
theorem gX5_restart_X3_clear : GoodIn wsX5_restart (wsV RX5 93 RX3 yX3_clear wsX3_clear) := goodIn_app (goodIn_of _ (by decide +kernel)) ggX5_restart_X3_clear
set_option maxRecDepth 20000 in
theorem ggX5_restart_X6_become : GoodIn wsX5_restart wsX6_become := goodIn_r _ [14, 15, 16, 17, 27, 28, 29] (by decide +kernel) (by decide +kernel)
set_option maxRecDepth 20000 in
theorem gX5_restart_X6_become : GoodIn wsX5_restart (wsV RX5 89 RX6 yX6_become wsX6_become) := goodIn_app (goodIn_of _ (by decide +kernel)) ggX5_restart_X6_become
theorem dX5_restart_0 : decode cX5_restart 0 = .ok (.aload_n 0, 1) := by decide +kernel
theorem dX5_restart_1 : decode cX5_restart 1 = .ok (.getfield 26, 3) := by decide +kernel
theorem dX5_restart_4 : decode cX5_restart 4 = .ok (.invokevirtual 93, 3) := by decide +kernel
theorem dX5_restart_7 : decode cX5_restart 7 = .ok (.aload_n 0, 1) := by decide +kernel
theorem dX5_restart_8 : decode cX5_restart 8 = .ok (.getfield 12, 3) := by decide +kernel
theorem dX5_restart_11 : decode cX5_restart 11 = .ok (.aload_n 0, 1) := by decide +kernel
theorem dX5_restart_12 : decode cX5_restart 12 = .ok (.getfield 18, 3) := by decide +kernel
theorem dX5_restart_15 : decode cX5_restart 15 = .ok (.invokevirtual 89, 3) := by decide +kernel
theorem dX5_restart_18 : decode cX5_restart 18 = .ok (.ineg, 1) := by decide +kernel
theorem dX5_restart_19 : decode cX5_restart 19 = .ok (.ireturn, 1) := by decide +kernel
set_option maxRecDepth 20000 in
theorem ggX5_diskIsWhole_X1_flushedAt : GoodIn wsX5_diskIsWhole wsX1_flushedAt := goodIn_r _ [8, 9, 10, 31, 32, 33, 34] (by decide +kernel) (by decide +kernel)
set_option maxRecDepth 20000 in
theorem gX5_diskIsWhole_X1_flushedAt : GoodIn wsX5_diskIsWhole (wsV RX5 96 RX1 yX1_flushedAt wsX1_flushedAt) := goodIn_app (goodIn_of _ (by decide +kernel)) ggX5_diskIsWhole_X1_flushedAt
set_option maxRecDepth 20000 in
theorem ggX5_diskIsWhole_X6_has : GoodIn wsX5_diskIsWhole wsX6_has := goodIn_r _ [15, 16, 17, 18, 26, 27, 28, 29, 30, 35, 36, 37] (by decide +kernel) (by decide +kernel)
set_option maxRecDepth 20000 in
theorem gX5_diskIsWhole_X6_has : GoodIn wsX5_diskIsWhole (wsV RX5 34 RX6 yX6_has wsX6_has) := goodIn_app (goodIn_of _ (by decide +kernel)) ggX5_diskIsWhole_X6_has
theorem dX5_diskIsWhole_0 : decode cX5_diskIsWhole 0 = .ok (.iconst 0, 1) := by decide +kernel
theorem dX5_diskIsWhole_1 : decode cX5_diskIsWhole 1 = .ok (.istore_n 1, 1) := by decide +kernel
theorem dX5_diskIsWhole_2 : decode cX5_diskIsWhole 2 = .ok (.iconst 0, 1) := by decide +kernel
theorem dX5_diskIsWhole_3 : decode cX5_diskIsWhole 3 = .ok (.istore_n 2, 1) := by decide +kernel
theorem dX5_diskIsWhole_4 : decode cX5_diskIsWhole 4 = .ok (.iconst 0, 1) := by decide +kernel
theorem dX5_diskIsWhole_5 : decode cX5_diskIsWhole 5 = .ok (.istore_n 3, 1) := by decide +kernel
theorem dX5_diskIsWhole_6 : decode cX5_diskIsWhole 6 = .ok (.iload_n 3, 1) := by decide +kernel
theorem dX5_diskIsWhole_7 : decode cX5_diskIsWhole 7 = .ok (.sipush 400, 3) := by decide +kernel
theorem dX5_diskIsWhole_10 : decode cX5_diskIsWhole 10 = .ok (.if_icmp .ge 68, 3) := by decide +kernel
theorem dX5_diskIsWhole_13 : decode cX5_diskIsWhole 13 = .ok (.aload_n 0, 1) := by decide +kernel
theorem dX5_diskIsWhole_14 : decode cX5_diskIsWhole 14 = .ok (.getfield 30, 3) := by decide +kernel
theorem dX5_diskIsWhole_17 : decode cX5_diskIsWhole 17 = .ok (.iload_n 3, 1) := by decide +kernel
theorem dX5_diskIsWhole_18 : decode cX5_diskIsWhole 18 = .ok (.invokevirtual 96, 3) := by decide +kernel
theorem dX5_diskIsWhole_21 : decode cX5_diskIsWhole 21 = .ok (.astore 4, 2) := by decide +kernel
theorem dX5_diskIsWhole_23 : decode cX5_diskIsWhole 23 = .ok (.aload 4, 2) := by decide +kernel
theorem dX5_diskIsWhole_25 : decode cX5_diskIsWhole 25 = .ok (.ifnonnull 6, 3) := by decide +kernel
theorem dX5_diskIsWhole_28 : decode cX5_diskIsWhole 28 = .ok (.goto 50, 3) := by decide +kernel
theorem dX5_diskIsWhole_31 : decode cX5_diskIsWhole 31 = .ok (.aload_n 0, 1) := by decide +kernel
theorem dX5_diskIsWhole_32 : decode cX5_diskIsWhole 32 = .ok (.getfield 18, 3) := by decide +kernel
theorem dX5_diskIsWhole_35 : decode cX5_diskIsWhole 35 = .ok (.aload 4, 2) := by decide +kernel
theorem dX5_diskIsWhole_37 : decode cX5_diskIsWhole 37 = .ok (.invokevirtual 34, 3) := by decide +kernel
theorem dX5_diskIsWhole_40 : decode cX5_diskIsWhole 40 = .ok (.ifCond .eq 8, 3) := by decide +kernel
theorem dX5_diskIsWhole_43 : decode cX5_diskIsWhole 43 = .ok (.iconst 1, 1) := by decide +kernel
theorem dX5_diskIsWhole_44 : decode cX5_diskIsWhole 44 = .ok (.istore_n 1, 1) := by decide +kernel
theorem dX5_diskIsWhole_45 : decode cX5_diskIsWhole 45 = .ok (.goto 5, 3) := by decide +kernel
theorem dX5_diskIsWhole_48 : decode cX5_diskIsWhole 48 = .ok (.iconst 1, 1) := by decide +kernel
theorem dX5_diskIsWhole_49 : decode cX5_diskIsWhole 49 = .ok (.istore_n 2, 1) := by decide +kernel
theorem dX5_diskIsWhole_50 : decode cX5_diskIsWhole 50 = .ok (.iload_n 1, 1) := by decide +kernel
theorem dX5_diskIsWhole_51 : decode cX5_diskIsWhole 51 = .ok (.ifCond .eq 9, 3) := by decide +kernel
theorem dX5_diskIsWhole_54 : decode cX5_diskIsWhole 54 = .ok (.iload_n 2, 1) := by decide +kernel
theorem dX5_diskIsWhole_55 : decode cX5_diskIsWhole 55 = .ok (.ifCond .eq 5, 3) := by decide +kernel
theorem dX5_diskIsWhole_58 : decode cX5_diskIsWhole 58 = .ok (.iconst 0, 1) := by decide +kernel
theorem dX5_diskIsWhole_59 : decode cX5_diskIsWhole 59 = .ok (.ireturn, 1) := by decide +kernel
theorem dX5_diskIsWhole_60 : decode cX5_diskIsWhole 60 = .ok (.aload 4, 2) := by decide +kernel
theorem dX5_diskIsWhole_62 : decode cX5_diskIsWhole 62 = .ok (.getfield 101, 3) := by decide +kernel
theorem dX5_diskIsWhole_65 : decode cX5_diskIsWhole 65 = .ok (.ifCond .eq 7, 3) := by decide +kernel
theorem dX5_diskIsWhole_68 : decode cX5_diskIsWhole 68 = .ok (.iconst 0, 1) := by decide +kernel
theorem dX5_diskIsWhole_69 : decode cX5_diskIsWhole 69 = .ok (.istore_n 1, 1) := by decide +kernel
theorem dX5_diskIsWhole_70 : decode cX5_diskIsWhole 70 = .ok (.iconst 0, 1) := by decide +kernel
theorem dX5_diskIsWhole_71 : decode cX5_diskIsWhole 71 = .ok (.istore_n 2, 1) := by decide +kernel
theorem dX5_diskIsWhole_72 : decode cX5_diskIsWhole 72 = .ok (.iinc 3 1, 3) := by decide +kernel
theorem dX5_diskIsWhole_75 : decode cX5_diskIsWhole 75 = .ok (.goto (-69), 3) := by decide +kernel
theorem dX5_diskIsWhole_78 : decode cX5_diskIsWhole 78 = .ok (.iconst 1, 1) := by decide +kernel
theorem dX5_diskIsWhole_79 : decode cX5_diskIsWhole 79 = .ok (.ireturn, 1) := by decide +kernel
theorem dX6_init_0 : decode cX6_init 0 = .ok (.aload_n 0, 1) := by decide +kernel
theorem dX6_init_1 : decode cX6_init 1 = .ok (.invokespecial 3, 3) := by decide +kernel
theorem dX6_init_4 : decode cX6_init 4 = .ok (.aload_n 0, 1) := by decide +kernel
theorem dX6_init_5 : decode cX6_init 5 = .ok (.bipush 6, 2) := by decide +kernel
theorem dX6_init_7 : decode cX6_init 7 = .ok (.newarray .int, 2) := by decide +kernel
theorem dX6_init_9 : decode cX6_init 9 = .ok (.putfield 9, 3) := by decide +kernel
theorem dX6_init_12 : decode cX6_init 12 = .ok (.aload_n 0, 1) := by decide +kernel
theorem dX6_init_13 : decode cX6_init 13 = .ok (.bipush 6, 2) := by decide +kernel
theorem dX6_init_15 : decode cX6_init 15 = .ok (.newarray .int, 2) := by decide +kernel
theorem dX6_init_17 : decode cX6_init 17 = .ok (.putfield 15, 3) := by decide +kernel
theorem dX6_init_20 : decode cX6_init 20 = .ok (.return_, 1) := by decide +kernel
theorem dX6_has_0 : decode cX6_has 0 = .ok (.aload_n 1, 1) := by decide +kernel
theorem dX6_has_1 : decode cX6_has 1 = .ok (.ifnull 23, 3) := by decide +kernel
theorem dX6_has_4 : decode cX6_has 4 = .ok (.aload_n 1, 1) := by decide +kernel
theorem dX6_has_5 : decode cX6_has 5 = .ok (.getfield 18, 3) := by decide +kernel
theorem dX6_has_8 : decode cX6_has 8 = .ok (.aload_n 0, 1) := by decide +kernel
theorem dX6_has_9 : decode cX6_has 9 = .ok (.getfield 15, 3) := by decide +kernel
theorem dX6_has_12 : decode cX6_has 12 = .ok (.aload_n 1, 1) := by decide +kernel
theorem dX6_has_13 : decode cX6_has 13 = .ok (.getfield 24, 3) := by decide +kernel
theorem dX6_has_16 : decode cX6_has 16 = .ok (.iaload, 1) := by decide +kernel
theorem dX6_has_17 : decode cX6_has 17 = .ok (.if_icmp .gt 7, 3) := by decide +kernel
theorem dX6_has_20 : decode cX6_has 20 = .ok (.iconst 1, 1) := by decide +kernel
theorem dX6_has_21 : decode cX6_has 21 = .ok (.goto 4, 3) := by decide +kernel
theorem dX6_has_24 : decode cX6_has 24 = .ok (.iconst 0, 1) := by decide +kernel
theorem dX6_has_25 : decode cX6_has 25 = .ok (.ireturn, 1) := by decide +kernel
set_option maxRecDepth 20000 in
theorem ggX6_apply_X1_flushedAt : GoodIn wsX6_apply wsX1_flushedAt := goodIn_r _ [11, 12, 13, 27, 28, 29, 30] (by decide +kernel) (by decide +kernel)
set_option maxRecDepth 20000 in
theorem gX6_apply_X1_flushedAt : GoodIn wsX6_apply (wsV RX6 33 RX1 yX1_flushedAt wsX1_flushedAt) := goodIn_app (goodIn_of _ (by decide +kernel)) ggX6_apply_X1_flushedAt
set_option maxRecDepth 20000 in
theorem ggX6_apply_X6_has : GoodIn wsX6_apply wsX6_has := goodIn_r _ [18, 5, 4, 2, 22, 23, 24, 25, 26, 19, 20, 21] (by decide +kernel) (by decide +kernel)
set_option maxRecDepth 20000 in
theorem gX6_apply_X6_has : GoodIn wsX6_apply (wsV RX6 39 RX6 yX6_has wsX6_has) := goodIn_app (goodIn_of _ (by decide +kernel)) ggX6_apply_X6_has
theorem dX6_apply_0 : decode cX6_apply 0 = .ok (.aload_n 0, 1) := by decide +kernel
theorem dX6_apply_1 : decode cX6_apply 1 = .ok (.getfield 9, 3) := by decide +kernel
theorem dX6_apply_4 : decode cX6_apply 4 = .ok (.aload_n 1, 1) := by decide +kernel
theorem dX6_apply_5 : decode cX6_apply 5 = .ok (.getfield 24, 3) := by decide +kernel
theorem dX6_apply_8 : decode cX6_apply 8 = .ok (.aload_n 1, 1) := by decide +kernel
theorem dX6_apply_9 : decode cX6_apply 9 = .ok (.getfield 27, 3) := by decide +kernel
theorem dX6_apply_12 : decode cX6_apply 12 = .ok (.iastore, 1) := by decide +kernel
theorem dX6_apply_13 : decode cX6_apply 13 = .ok (.aload_n 0, 1) := by decide +kernel
theorem dX6_apply_14 : decode cX6_apply 14 = .ok (.getfield 15, 3) := by decide +kernel
theorem dX6_apply_17 : decode cX6_apply 17 = .ok (.aload_n 1, 1) := by decide +kernel
theorem dX6_apply_18 : decode cX6_apply 18 = .ok (.getfield 24, 3) := by decide +kernel
theorem dX6_apply_21 : decode cX6_apply 21 = .ok (.aload_n 1, 1) := by decide +kernel
theorem dX6_apply_22 : decode cX6_apply 22 = .ok (.getfield 18, 3) := by decide +kernel
theorem dX6_apply_25 : decode cX6_apply 25 = .ok (.iastore, 1) := by decide +kernel
theorem dX6_apply_26 : decode cX6_apply 26 = .ok (.iconst 0, 1) := by decide +kernel
theorem dX6_apply_27 : decode cX6_apply 27 = .ok (.istore_n 3, 1) := by decide +kernel
theorem dX6_apply_28 : decode cX6_apply 28 = .ok (.iload_n 3, 1) := by decide +kernel
theorem dX6_apply_29 : decode cX6_apply 29 = .ok (.sipush 400, 3) := by decide +kernel
theorem dX6_apply_32 : decode cX6_apply 32 = .ok (.if_icmp .ge 34, 3) := by decide +kernel
theorem dX6_apply_35 : decode cX6_apply 35 = .ok (.aload_n 0, 1) := by decide +kernel
theorem dX6_apply_36 : decode cX6_apply 36 = .ok (.aload_n 2, 1) := by decide +kernel
theorem dX6_apply_37 : decode cX6_apply 37 = .ok (.aload_n 0, 1) := by decide +kernel
theorem dX6_apply_38 : decode cX6_apply 38 = .ok (.getfield 30, 3) := by decide +kernel
theorem dX6_apply_41 : decode cX6_apply 41 = .ok (.invokevirtual 33, 3) := by decide +kernel
theorem dX6_apply_44 : decode cX6_apply 44 = .ok (.invokevirtual 39, 3) := by decide +kernel
theorem dX6_apply_47 : decode cX6_apply 47 = .ok (.ifCond .eq 19, 3) := by decide +kernel
theorem dX6_apply_50 : decode cX6_apply 50 = .ok (.aload_n 0, 1) := by decide +kernel
theorem dX6_apply_51 : decode cX6_apply 51 = .ok (.dup, 1) := by decide +kernel
theorem dX6_apply_52 : decode cX6_apply 52 = .ok (.getfield 30, 3) := by decide +kernel
theorem dX6_apply_55 : decode cX6_apply 55 = .ok (.iconst 1, 1) := by decide +kernel
theorem dX6_apply_56 : decode cX6_apply 56 = .ok (.iadd, 1) := by decide +kernel
theorem dX6_apply_57 : decode cX6_apply 57 = .ok (.putfield 30, 3) := by decide +kernel
theorem dX6_apply_60 : decode cX6_apply 60 = .ok (.iinc 3 1, 3) := by decide +kernel
theorem dX6_apply_63 : decode cX6_apply 63 = .ok (.goto (-35), 3) := by decide +kernel
theorem dX6_apply_66 : decode cX6_apply 66 = .ok (.return_, 1) := by decide +kernel
theorem dX6_become_0 : decode cX6_become 0 = .ok (.iconst 0, 1) := by decide +kernel
theorem dX6_become_1 : decode cX6_become 1 = .ok (.istore_n 2, 1) := by decide +kernel
theorem dX6_become_2 : decode cX6_become 2 = .ok (.iconst 0, 1) := by decide +kernel
theorem dX6_become_3 : decode cX6_become 3 = .ok (.istore_n 3, 1) := by decide +kernel
theorem dX6_become_4 : decode cX6_become 4 = .ok (.iload_n 3, 1) := by decide +kernel
theorem dX6_become_5 : decode cX6_become 5 = .ok (.bipush 6, 2) := by decide +kernel
theorem dX6_become_7 : decode cX6_become 7 = .ok (.if_icmp .ge 49, 3) := by decide +kernel
theorem dX6_become_10 : decode cX6_become 10 = .ok (.iload_n 2, 1) := by decide +kernel
theorem dX6_become_11 : decode cX6_become 11 = .ok (.aload_n 1, 1) := by decide +kernel
theorem dX6_become_12 : decode cX6_become 12 = .ok (.getfield 15, 3) := by decide +kernel
theorem dX6_become_15 : decode cX6_become 15 = .ok (.iload_n 3, 1) := by decide +kernel
theorem dX6_become_16 : decode cX6_become 16 = .ok (.iaload, 1) := by decide +kernel
theorem dX6_become_17 : decode cX6_become 17 = .ok (.aload_n 0, 1) := by decide +kernel
theorem dX6_become_18 : decode cX6_become 18 = .ok (.getfield 15, 3) := by decide +kernel
theorem dX6_become_21 : decode cX6_become 21 = .ok (.iload_n 3, 1) := by decide +kernel
theorem dX6_become_22 : decode cX6_become 22 = .ok (.iaload, 1) := by decide +kernel
theorem dX6_become_23 : decode cX6_become 23 = .ok (.isub, 1) := by decide +kernel
theorem dX6_become_24 : decode cX6_become 24 = .ok (.iadd, 1) := by decide +kernel
theorem dX6_become_25 : decode cX6_become 25 = .ok (.istore_n 2, 1) := by decide +kernel
theorem dX6_become_26 : decode cX6_become 26 = .ok (.aload_n 0, 1) := by decide +kernel
theorem dX6_become_27 : decode cX6_become 27 = .ok (.getfield 9, 3) := by decide +kernel
theorem dX6_become_30 : decode cX6_become 30 = .ok (.iload_n 3, 1) := by decide +kernel
theorem dX6_become_31 : decode cX6_become 31 = .ok (.aload_n 1, 1) := by decide +kernel
theorem dX6_become_32 : decode cX6_become 32 = .ok (.getfield 9, 3) := by decide +kernel
theorem dX6_become_35 : decode cX6_become 35 = .ok (.iload_n 3, 1) := by decide +kernel
theorem dX6_become_36 : decode cX6_become 36 = .ok (.iaload, 1) := by decide +kernel
theorem dX6_become_37 : decode cX6_become 37 = .ok (.iastore, 1) := by decide +kernel
theorem dX6_become_38 : decode cX6_become 38 = .ok (.aload_n 0, 1) := by decide +kernel
theorem dX6_become_39 : decode cX6_become 39 = .ok (.getfield 15, 3) := by decide +kernel
theorem dX6_become_42 : decode cX6_become 42 = .ok (.iload_n 3, 1) := by decide +kernel
theorem dX6_become_43 : decode cX6_become 43 = .ok (.aload_n 1, 1) := by decide +kernel
theorem dX6_become_44 : decode cX6_become 44 = .ok (.getfield 15, 3) := by decide +kernel
theorem dX6_become_47 : decode cX6_become 47 = .ok (.iload_n 3, 1) := by decide +kernel
theorem dX6_become_48 : decode cX6_become 48 = .ok (.iaload, 1) := by decide +kernel
theorem dX6_become_49 : decode cX6_become 49 = .ok (.iastore, 1) := by decide +kernel
theorem dX6_become_50 : decode cX6_become 50 = .ok (.iinc 3 1, 3) := by decide +kernel
theorem dX6_become_53 : decode cX6_become 53 = .ok (.goto (-49), 3) := by decide +kernel
theorem dX6_become_56 : decode cX6_become 56 = .ok (.aload_n 0, 1) := by decide +kernel
theorem dX6_become_57 : decode cX6_become 57 = .ok (.aload_n 1, 1) := by decide +kernel
theorem dX6_become_58 : decode cX6_become 58 = .ok (.getfield 30, 3) := by decide +kernel
theorem dX6_become_61 : decode cX6_become 61 = .ok (.putfield 30, 3) := by decide +kernel
theorem dX6_become_64 : decode cX6_become 64 = .ok (.iload_n 2, 1) := by decide +kernel
theorem dX6_become_65 : decode cX6_become 65 = .ok (.ireturn, 1) := by decide +kernel
set_option maxRecDepth 20000 in
theorem ggX6_isAsFlushed_X1_flushedAt : GoodIn wsX6_isAsFlushed wsX1_flushedAt := goodIn_r _ [10, 11, 12, 21, 22, 23, 24] (by decide +kernel) (by decide +kernel)
set_option maxRecDepth 20000 in
theorem gX6_isAsFlushed_X1_flushedAt : GoodIn wsX6_isAsFlushed (wsV RX6 33 RX1 yX1_flushedAt wsX1_flushedAt) := goodIn_app (goodIn_of _ (by decide +kernel)) ggX6_isAsFlushed_X1_flushedAt
theorem dX6_isAsFlushed_0 : decode cX6_isAsFlushed 0 = .ok (.iconst 0, 1) := by decide +kernel
theorem dX6_isAsFlushed_1 : decode cX6_isAsFlushed 1 = .ok (.istore_n 2, 1) := by decide +kernel
theorem dX6_isAsFlushed_2 : decode cX6_isAsFlushed 2 = .ok (.iload_n 2, 1) := by decide +kernel
theorem dX6_isAsFlushed_3 : decode cX6_isAsFlushed 3 = .ok (.sipush 400, 3) := by decide +kernel
theorem dX6_isAsFlushed_6 : decode cX6_isAsFlushed 6 = .ok (.if_icmp .ge 56, 3) := by decide +kernel
theorem dX6_isAsFlushed_9 : decode cX6_isAsFlushed 9 = .ok (.aload_n 1, 1) := by decide +kernel
theorem dX6_isAsFlushed_10 : decode cX6_isAsFlushed 10 = .ok (.iload_n 2, 1) := by decide +kernel
theorem dX6_isAsFlushed_11 : decode cX6_isAsFlushed 11 = .ok (.invokevirtual 33, 3) := by decide +kernel
theorem dX6_isAsFlushed_14 : decode cX6_isAsFlushed 14 = .ok (.astore_n 3, 1) := by decide +kernel
theorem dX6_isAsFlushed_15 : decode cX6_isAsFlushed 15 = .ok (.aload_n 3, 1) := by decide +kernel
theorem dX6_isAsFlushed_16 : decode cX6_isAsFlushed 16 = .ok (.ifnonnull 6, 3) := by decide +kernel
theorem dX6_isAsFlushed_19 : decode cX6_isAsFlushed 19 = .ok (.goto 43, 3) := by decide +kernel
theorem dX6_isAsFlushed_22 : decode cX6_isAsFlushed 22 = .ok (.aload_n 3, 1) := by decide +kernel
theorem dX6_isAsFlushed_23 : decode cX6_isAsFlushed 23 = .ok (.getfield 18, 3) := by decide +kernel
theorem dX6_isAsFlushed_26 : decode cX6_isAsFlushed 26 = .ok (.aload_n 0, 1) := by decide +kernel
theorem dX6_isAsFlushed_27 : decode cX6_isAsFlushed 27 = .ok (.getfield 15, 3) := by decide +kernel
theorem dX6_isAsFlushed_30 : decode cX6_isAsFlushed 30 = .ok (.aload_n 3, 1) := by decide +kernel
theorem dX6_isAsFlushed_31 : decode cX6_isAsFlushed 31 = .ok (.getfield 24, 3) := by decide +kernel
theorem dX6_isAsFlushed_34 : decode cX6_isAsFlushed 34 = .ok (.iaload, 1) := by decide +kernel
theorem dX6_isAsFlushed_35 : decode cX6_isAsFlushed 35 = .ok (.if_icmp .ne 21, 3) := by decide +kernel
theorem dX6_isAsFlushed_38 : decode cX6_isAsFlushed 38 = .ok (.aload_n 3, 1) := by decide +kernel
theorem dX6_isAsFlushed_39 : decode cX6_isAsFlushed 39 = .ok (.getfield 27, 3) := by decide +kernel
theorem dX6_isAsFlushed_42 : decode cX6_isAsFlushed 42 = .ok (.aload_n 0, 1) := by decide +kernel
theorem dX6_isAsFlushed_43 : decode cX6_isAsFlushed 43 = .ok (.getfield 9, 3) := by decide +kernel
theorem dX6_isAsFlushed_46 : decode cX6_isAsFlushed 46 = .ok (.aload_n 3, 1) := by decide +kernel
theorem dX6_isAsFlushed_47 : decode cX6_isAsFlushed 47 = .ok (.getfield 24, 3) := by decide +kernel
theorem dX6_isAsFlushed_50 : decode cX6_isAsFlushed 50 = .ok (.iaload, 1) := by decide +kernel
theorem dX6_isAsFlushed_51 : decode cX6_isAsFlushed 51 = .ok (.if_icmp .eq 5, 3) := by decide +kernel
theorem dX6_isAsFlushed_54 : decode cX6_isAsFlushed 54 = .ok (.iconst 0, 1) := by decide +kernel
theorem dX6_isAsFlushed_55 : decode cX6_isAsFlushed 55 = .ok (.ireturn, 1) := by decide +kernel
theorem dX6_isAsFlushed_56 : decode cX6_isAsFlushed 56 = .ok (.iinc 2 1, 3) := by decide +kernel
theorem dX6_isAsFlushed_59 : decode cX6_isAsFlushed 59 = .ok (.goto (-57), 3) := by decide +kernel
theorem dX6_isAsFlushed_62 : decode cX6_isAsFlushed 62 = .ok (.iconst 1, 1) := by decide +kernel
theorem dX6_isAsFlushed_63 : decode cX6_isAsFlushed 63 = .ok (.ireturn, 1) := by decide +kernel
set_option maxRecDepth 20000 in
theorem ggX7_init_X1_init : GoodIn wsX7_init wsX1_init := goodIn_r _ [21, 22, 2, 3, 23, 24, 78, 79, 80, 81] (by decide +kernel) (by decide +kernel)
set_option maxRecDepth 20000 in
theorem gX7_init_X1_init_n9 : GoodIn wsX7_init (wsX1_init) := ggX7_init_X1_init
set_option maxRecDepth 20000 in
theorem ggX7_init_X4_init : GoodIn wsX7_init wsX4_init := goodIn_r _ [27, 28, 2, 3, 29, 30, 31, 32, 33, 34, 35, 36, 37, 38, 39, 40, 87, 88, 89, 90, 91, 92] (by decide +kernel) (by decide +kernel)
set_option maxRecDepth 20000 in
theorem gX7_init_X4_init : GoodIn wsX7_init (wsX4_init) := ggX7_init_X4_init
set_option maxRecDepth 20000 in
theorem ggX7_init_X2_init : GoodIn wsX7_init wsX2_init := goodIn_r _ [43, 44, 2, 3, 45, 46, 47, 48, 49, 50, 51, 52, 53, 54, 55, 56, 57, 58, 59, 93, 94, 95, 96, 97, 98, 106, 107] (by decide +kernel) (by decide +kernel)
set_option maxRecDepth 20000 in
theorem gX7_init_X2_init : GoodIn wsX7_init (wsX2_init) := ggX7_init_X2_init
set_option maxRecDepth 20000 in
theorem ggX7_init_X5_init : GoodIn wsX7_init wsX5_init := goodIn_r _ [62, 63, 2, 3, 64, 65, 66, 67, 68, 69, 48, 49, 70, 71, 72, 73, 74, 29, 75, 76, 77, 51, 52, 53, 54, 55, 56, 57, 58, 59, 108, 109, 110, 99, 100, 101, 102, 103, 104, 105, 106, 107] (by decide +kernel) (by decide +kernel)
set_option maxRecDepth 20000 in
theorem gX7_init_X5_init : GoodIn wsX7_init (wsX5_init) := ggX7_init_X5_init
theorem dX7_init_0 : decode cX7_init 0 = .ok (.aload_n 0, 1) := by decide +kernel
theorem dX7_init_1 : decode cX7_init 1 = .ok (.invokespecial 1, 3) := by decide +kernel
theorem dX7_init_4 : decode cX7_init 4 = .ok (.aload_n 0, 1) := by decide +kernel
theorem dX7_init_5 : decode cX7_init 5 = .ok (.new 7, 3) := by decide +kernel
theorem dX7_init_8 : decode cX7_init 8 = .ok (.dup, 1) := by decide +kernel
theorem dX7_init_9 : decode cX7_init 9 = .ok (.invokespecial 9, 3) := by decide +kernel
theorem dX7_init_12 : decode cX7_init 12 = .ok (.putfield 10, 3) := by decide +kernel
theorem dX7_init_15 : decode cX7_init 15 = .ok (.aload_n 0, 1) := by decide +kernel
theorem dX7_init_16 : decode cX7_init 16 = .ok (.new 16, 3) := by decide +kernel
theorem dX7_init_19 : decode cX7_init 19 = .ok (.dup, 1) := by decide +kernel
theorem dX7_init_20 : decode cX7_init 20 = .ok (.aload_n 0, 1) := by decide +kernel
theorem dX7_init_21 : decode cX7_init 21 = .ok (.getfield 10, 3) := by decide +kernel
theorem dX7_init_24 : decode cX7_init 24 = .ok (.invokespecial 18, 3) := by decide +kernel
theorem dX7_init_27 : decode cX7_init 27 = .ok (.putfield 21, 3) := by decide +kernel
theorem dX7_init_30 : decode cX7_init 30 = .ok (.aload_n 0, 1) := by decide +kernel
theorem dX7_init_31 : decode cX7_init 31 = .ok (.new 25, 3) := by decide +kernel
theorem dX7_init_34 : decode cX7_init 34 = .ok (.dup, 1) := by decide +kernel
theorem dX7_init_35 : decode cX7_init 35 = .ok (.aload_n 0, 1) := by decide +kernel
theorem dX7_init_36 : decode cX7_init 36 = .ok (.getfield 10, 3) := by decide +kernel
theorem dX7_init_39 : decode cX7_init 39 = .ok (.invokespecial 27, 3) := by decide +kernel
theorem dX7_init_42 : decode cX7_init 42 = .ok (.putfield 28, 3) := by decide +kernel
theorem dX7_init_45 : decode cX7_init 45 = .ok (.aload_n 0, 1) := by decide +kernel
theorem dX7_init_46 : decode cX7_init 46 = .ok (.new 32, 3) := by decide +kernel
theorem dX7_init_49 : decode cX7_init 49 = .ok (.dup, 1) := by decide +kernel
theorem dX7_init_50 : decode cX7_init 50 = .ok (.aload_n 0, 1) := by decide +kernel
theorem dX7_init_51 : decode cX7_init 51 = .ok (.getfield 10, 3) := by decide +kernel
theorem dX7_init_54 : decode cX7_init 54 = .ok (.invokespecial 34, 3) := by decide +kernel
theorem dX7_init_57 : decode cX7_init 57 = .ok (.putfield 35, 3) := by decide +kernel
theorem dX7_init_60 : decode cX7_init 60 = .ok (.return_, 1) := by decide +kernel
set_option maxRecDepth 20000 in
theorem ggX7_begin_X4_openFirstFree : GoodIn wsX7_begin wsX4_openFirstFree := goodIn_r _ [6, 7, 13, 14, 15, 16, 17, 18] (by decide +kernel) (by decide +kernel)
set_option maxRecDepth 20000 in
theorem gX7_begin_X4_openFirstFree : GoodIn wsX7_begin (wsV RX7 39 RX4 yX4_openFirstFree wsX4_openFirstFree) := goodIn_app (goodIn_of _ (by decide +kernel)) ggX7_begin_X4_openFirstFree
theorem dX7_begin_0 : decode cX7_begin 0 = .ok (.aload_n 0, 1) := by decide +kernel
theorem dX7_begin_1 : decode cX7_begin 1 = .ok (.getfield 21, 3) := by decide +kernel
theorem dX7_begin_4 : decode cX7_begin 4 = .ok (.invokevirtual 39, 3) := by decide +kernel
theorem dX7_begin_7 : decode cX7_begin 7 = .ok (.ireturn, 1) := by decide +kernel
set_option maxRecDepth 20000 in
theorem ggX7_write_X4_isOpen : GoodIn wsX7_write wsX4_isOpen := goodIn_r _ [6, 7, 23, 24, 25, 26, 27, 28] (by decide +kernel) (by decide +kernel)
set_option maxRecDepth 20000 in
theorem gX7_write_X4_isOpen : GoodIn wsX7_write (wsV RX7 43 RX4 yX4_isOpen wsX4_isOpen) := goodIn_app (goodIn_of _ (by decide +kernel)) ggX7_write_X4_isOpen
set_option maxRecDepth 20000 in
theorem ggX7_write_X7_isKey : GoodIn wsX7_write wsX7_isKey := goodIn_r _ [11] (by decide +kernel) (by decide +kernel)
set_option maxRecDepth 20000 in
theorem gX7_write_X7_isKey : GoodIn wsX7_write (va_wsS RX7 47 yX7_isKey wsX7_isKey) := goodIn_app (goodIn_of _ (by decide +kernel)) ggX7_write_X7_isKey
set_option maxRecDepth 20000 in
theorem ggX7_write_X4_draft : GoodIn wsX7_write wsX4_draft := goodIn_r _ [15, 16, 17, 23, 24, 25, 26, 27, 28] (by decide +kernel) (by decide +kernel)
set_option maxRecDepth 20000 in
theorem gX7_write_X4_draft : GoodIn wsX7_write (wsV RX7 50 RX4 yX4_draft wsX4_draft) := goodIn_app (goodIn_of _ (by decide +kernel)) ggX7_write_X4_draft
theorem dX7_write_0 : decode cX7_write 0 = .ok (.aload_n 0, 1) := by decide +kernel
theorem dX7_write_1 : decode cX7_write 1 = .ok (.getfield 21, 3) := by decide +kernel
theorem dX7_write_4 : decode cX7_write 4 = .ok (.iload_n 1, 1) := by decide +kernel
theorem dX7_write_5 : decode cX7_write 5 = .ok (.invokevirtual 43, 3) := by decide +kernel
theorem dX7_write_8 : decode cX7_write 8 = .ok (.ifCond .eq 10, 3) := by decide +kernel
theorem dX7_write_11 : decode cX7_write 11 = .ok (.iload_n 2, 1) := by decide +kernel
theorem dX7_write_12 : decode cX7_write 12 = .ok (.invokestatic 47, 3) := by decide +kernel
theorem dX7_write_15 : decode cX7_write 15 = .ok (.ifCond .ne 5, 3) := by decide +kernel
theorem dX7_write_18 : decode cX7_write 18 = .ok (.iconst (-1), 1) := by decide +kernel
theorem dX7_write_19 : decode cX7_write 19 = .ok (.ireturn, 1) := by decide +kernel
theorem dX7_write_20 : decode cX7_write 20 = .ok (.aload_n 0, 1) := by decide +kernel
theorem dX7_write_21 : decode cX7_write 21 = .ok (.getfield 21, 3) := by decide +kernel
theorem dX7_write_24 : decode cX7_write 24 = .ok (.iload_n 1, 1) := by decide +kernel
theorem dX7_write_25 : decode cX7_write 25 = .ok (.iload_n 2, 1) := by decide +kernel
theorem dX7_write_26 : decode cX7_write 26 = .ok (.iload_n 3, 1) := by decide +kernel
theorem dX7_write_27 : decode cX7_write 27 = .ok (.invokevirtual 50, 3) := by decide +kernel
theorem dX7_write_30 : decode cX7_write 30 = .ok (.ifCond .eq 7, 3) := by decide +kernel
theorem dX7_write_33 : decode cX7_write 33 = .ok (.iconst 1, 1) := by decide +kernel
theorem dX7_write_34 : decode cX7_write 34 = .ok (.goto 5, 3) := by decide +kernel
theorem dX7_write_37 : decode cX7_write 37 = .ok (.bipush (-2), 2) := by decide +kernel
theorem dX7_write_39 : decode cX7_write 39 = .ok (.ireturn, 1) := by decide +kernel
set_option maxRecDepth 20000 in
theorem ggX7_read_X4_isOpen : GoodIn wsX7_read wsX4_isOpen := goodIn_r _ [6, 7, 24, 25, 26, 27, 28, 29] (by decide +kernel) (by decide +kernel)
set_option maxRecDepth 20000 in
theorem gX7_read_X4_isOpen : GoodIn wsX7_read (wsV RX7 43 RX4 yX4_isOpen wsX4_isOpen) := goodIn_app (goodIn_of _ (by decide +kernel)) ggX7_read_X4_isOpen
set_option maxRecDepth 20000 in
theorem ggX7_read_X7_isKey : GoodIn wsX7_read wsX7_isKey := goodIn_r _ [11] (by decide +kernel) (by decide +kernel)
set_option maxRecDepth 20000 in
theorem gX7_read_X7_isKey : GoodIn wsX7_read (va_wsS RX7 47 yX7_isKey wsX7_isKey) := goodIn_app (goodIn_of _ (by decide +kernel)) ggX7_read_X7_isKey
set_option maxRecDepth 20000 in
theorem ggX7_read_X4_seenBy : GoodIn wsX7_read wsX4_seenBy := goodIn_r _ [15, 16, 17, 18, 24, 25, 26, 27, 28, 29] (by decide +kernel) (by decide +kernel)
set_option maxRecDepth 20000 in
theorem gX7_read_X4_seenBy : GoodIn wsX7_read (wsV RX7 54 RX4 yX4_seenBy wsX4_seenBy) := goodIn_app (goodIn_of _ (by decide +kernel)) ggX7_read_X4_seenBy
theorem dX7_read_0 : decode cX7_read 0 = .ok (.aload_n 0, 1) := by decide +kernel
theorem dX7_read_1 : decode cX7_read 1 = .ok (.getfield 21, 3) := by decide +kernel
theorem dX7_read_4 : decode cX7_read 4 = .ok (.iload_n 1, 1) := by decide +kernel
theorem dX7_read_5 : decode cX7_read 5 = .ok (.invokevirtual 43, 3) := by decide +kernel
theorem dX7_read_8 : decode cX7_read 8 = .ok (.ifCond .eq 10, 3) := by decide +kernel
theorem dX7_read_11 : decode cX7_read 11 = .ok (.iload_n 2, 1) := by decide +kernel
theorem dX7_read_12 : decode cX7_read 12 = .ok (.invokestatic 47, 3) := by decide +kernel
theorem dX7_read_15 : decode cX7_read 15 = .ok (.ifCond .ne 5, 3) := by decide +kernel
theorem dX7_read_18 : decode cX7_read 18 = .ok (.iconst 0, 1) := by decide +kernel
theorem dX7_read_19 : decode cX7_read 19 = .ok (.ireturn, 1) := by decide +kernel
theorem dX7_read_20 : decode cX7_read 20 = .ok (.aload_n 0, 1) := by decide +kernel
theorem dX7_read_21 : decode cX7_read 21 = .ok (.getfield 21, 3) := by decide +kernel
theorem dX7_read_24 : decode cX7_read 24 = .ok (.iload_n 1, 1) := by decide +kernel
theorem dX7_read_25 : decode cX7_read 25 = .ok (.iload_n 2, 1) := by decide +kernel
theorem dX7_read_26 : decode cX7_read 26 = .ok (.invokevirtual 54, 3) := by decide +kernel
theorem dX7_read_29 : decode cX7_read 29 = .ok (.ireturn, 1) := by decide +kernel
set_option maxRecDepth 20000 in
theorem ggX7_commit_X4_isOpen : GoodIn wsX7_commit wsX4_isOpen := goodIn_r _ [7, 8, 55, 56, 57, 58, 59, 60] (by decide +kernel) (by decide +kernel)
set_option maxRecDepth 20000 in
theorem gX7_commit_X4_isOpen : GoodIn wsX7_commit (wsV RX7 43 RX4 yX4_isOpen wsX4_isOpen) := goodIn_app (goodIn_of _ (by decide +kernel)) ggX7_commit_X4_isOpen
set_option maxRecDepth 20000 in
theorem ggX7_commit_X4_lockedKeys : GoodIn wsX7_commit wsX4_lockedKeys := goodIn_r _ [12, 13, 55, 56, 57, 58, 59, 60] (by decide +kernel) (by decide +kernel)
set_option maxRecDepth 20000 in
theorem gX7_commit_X4_lockedKeys : GoodIn wsX7_commit (wsV RX7 58 RX4 yX4_lockedKeys wsX4_lockedKeys) := goodIn_app (goodIn_of _ (by decide +kernel)) ggX7_commit_X4_lockedKeys
set_option maxRecDepth 20000 in
theorem ggX7_commit_X1_hasRoomFor : GoodIn wsX7_commit wsX1_hasRoomFor := goodIn_r _ [18, 19, 61, 62, 63, 64] (by decide +kernel) (by decide +kernel)
set_option maxRecDepth 20000 in
theorem gX7_commit_X1_hasRoomFor : GoodIn wsX7_commit (wsV RX7 62 RX1 yX1_hasRoomFor wsX1_hasRoomFor) := goodIn_app (goodIn_of _ (by decide +kernel)) ggX7_commit_X1_hasRoomFor
set_option maxRecDepth 20000 in
theorem ggX7_commit_X4_putIntoLog : GoodIn wsX7_commit wsX4_putIntoLog := goodIn_r _ [23, 13, 24, 25, 26, 27, 28, 29, 17, 30, 19, 31, 32, 33, 34, 35, 36, 37, 38, 39, 40, 41, 42, 43, 44, 45, 46, 47, 48, 6, 49, 8, 55, 56, 57, 58, 59, 60, 61, 62, 63, 64, 65, 66, 67, 68, 69] (by decide +kernel) (by decide +kernel)
set_option maxRecDepth 20000 in
theorem gX7_commit_X4_putIntoLog : GoodIn wsX7_commit (wsV RX7 65 RX4 yX4_putIntoLog wsX4_putIntoLog) := goodIn_app (goodIn_of _ (by decide +kernel)) ggX7_commit_X4_putIntoLog
theorem dX7_commit_0 : decode cX7_commit 0 = .ok (.aload_n 0, 1) := by decide +kernel
theorem dX7_commit_1 : decode cX7_commit 1 = .ok (.getfield 21, 3) := by decide +kernel
theorem dX7_commit_4 : decode cX7_commit 4 = .ok (.iload_n 1, 1) := by decide +kernel
theorem dX7_commit_5 : decode cX7_commit 5 = .ok (.invokevirtual 43, 3) := by decide +kernel
theorem dX7_commit_8 : decode cX7_commit 8 = .ok (.ifCond .ne 5, 3) := by decide +kernel
theorem dX7_commit_11 : decode cX7_commit 11 = .ok (.iconst (-1), 1) := by decide +kernel
theorem dX7_commit_12 : decode cX7_commit 12 = .ok (.ireturn, 1) := by decide +kernel
theorem dX7_commit_13 : decode cX7_commit 13 = .ok (.aload_n 0, 1) := by decide +kernel
theorem dX7_commit_14 : decode cX7_commit 14 = .ok (.getfield 21, 3) := by decide +kernel
theorem dX7_commit_17 : decode cX7_commit 17 = .ok (.iload_n 1, 1) := by decide +kernel
theorem dX7_commit_18 : decode cX7_commit 18 = .ok (.invokevirtual 58, 3) := by decide +kernel
theorem dX7_commit_21 : decode cX7_commit 21 = .ok (.istore_n 2, 1) := by decide +kernel
theorem dX7_commit_22 : decode cX7_commit 22 = .ok (.aload_n 0, 1) := by decide +kernel
theorem dX7_commit_23 : decode cX7_commit 23 = .ok (.getfield 10, 3) := by decide +kernel
theorem dX7_commit_26 : decode cX7_commit 26 = .ok (.iload_n 2, 1) := by decide +kernel
theorem dX7_commit_27 : decode cX7_commit 27 = .ok (.invokevirtual 62, 3) := by decide +kernel
theorem dX7_commit_30 : decode cX7_commit 30 = .ok (.ifCond .ne 6, 3) := by decide +kernel
theorem dX7_commit_33 : decode cX7_commit 33 = .ok (.bipush (-3), 2) := by decide +kernel
theorem dX7_commit_35 : decode cX7_commit 35 = .ok (.ireturn, 1) := by decide +kernel
theorem dX7_commit_36 : decode cX7_commit 36 = .ok (.aload_n 0, 1) := by decide +kernel
theorem dX7_commit_37 : decode cX7_commit 37 = .ok (.getfield 21, 3) := by decide +kernel
theorem dX7_commit_40 : decode cX7_commit 40 = .ok (.iload_n 1, 1) := by decide +kernel
theorem dX7_commit_41 : decode cX7_commit 41 = .ok (.iload_n 2, 1) := by decide +kernel
theorem dX7_commit_42 : decode cX7_commit 42 = .ok (.invokevirtual 65, 3) := by decide +kernel
theorem dX7_commit_45 : decode cX7_commit 45 = .ok (.iload_n 2, 1) := by decide +kernel
theorem dX7_commit_46 : decode cX7_commit 46 = .ok (.ireturn, 1) := by decide +kernel
set_option maxRecDepth 20000 in
theorem ggX7_abort_X4_isOpen : GoodIn wsX7_abort wsX4_isOpen := goodIn_r _ [6, 7, 26, 27, 28, 29, 30, 31] (by decide +kernel) (by decide +kernel)
set_option maxRecDepth 20000 in
theorem gX7_abort_X4_isOpen : GoodIn wsX7_abort (wsV RX7 43 RX4 yX4_isOpen wsX4_isOpen) := goodIn_app (goodIn_of _ (by decide +kernel)) ggX7_abort_X4_isOpen
set_option maxRecDepth 20000 in
theorem ggX7_abort_X4_lockedKeys : GoodIn wsX7_abort wsX4_lockedKeys := goodIn_r _ [11, 12, 26, 27, 28, 29, 30, 31] (by decide +kernel) (by decide +kernel)
set_option maxRecDepth 20000 in
theorem gX7_abort_X4_lockedKeys : GoodIn wsX7_abort (wsV RX7 58 RX4 yX4_lockedKeys wsX4_lockedKeys) := goodIn_app (goodIn_of _ (by decide +kernel)) ggX7_abort_X4_lockedKeys
set_option maxRecDepth 20000 in
theorem ggX7_abort_X4_giveUp : GoodIn wsX7_abort wsX4_giveUp := goodIn_r _ [16, 17, 18, 19, 5, 20, 12, 7, 26, 27, 28, 29, 30, 31] (by decide +kernel) (by decide +kernel)
set_option maxRecDepth 20000 in
theorem gX7_abort_X4_giveUp : GoodIn wsX7_abort (wsV RX7 69 RX4 yX4_giveUp wsX4_giveUp) := goodIn_app (goodIn_of _ (by decide +kernel)) ggX7_abort_X4_giveUp
theorem dX7_abort_0 : decode cX7_abort 0 = .ok (.aload_n 0, 1) := by decide +kernel
theorem dX7_abort_1 : decode cX7_abort 1 = .ok (.getfield 21, 3) := by decide +kernel
theorem dX7_abort_4 : decode cX7_abort 4 = .ok (.iload_n 1, 1) := by decide +kernel
theorem dX7_abort_5 : decode cX7_abort 5 = .ok (.invokevirtual 43, 3) := by decide +kernel
theorem dX7_abort_8 : decode cX7_abort 8 = .ok (.ifCond .ne 5, 3) := by decide +kernel
theorem dX7_abort_11 : decode cX7_abort 11 = .ok (.iconst (-1), 1) := by decide +kernel
theorem dX7_abort_12 : decode cX7_abort 12 = .ok (.ireturn, 1) := by decide +kernel
theorem dX7_abort_13 : decode cX7_abort 13 = .ok (.aload_n 0, 1) := by decide +kernel
theorem dX7_abort_14 : decode cX7_abort 14 = .ok (.getfield 21, 3) := by decide +kernel
theorem dX7_abort_17 : decode cX7_abort 17 = .ok (.iload_n 1, 1) := by decide +kernel
theorem dX7_abort_18 : decode cX7_abort 18 = .ok (.invokevirtual 58, 3) := by decide +kernel
theorem dX7_abort_21 : decode cX7_abort 21 = .ok (.istore_n 2, 1) := by decide +kernel
theorem dX7_abort_22 : decode cX7_abort 22 = .ok (.aload_n 0, 1) := by decide +kernel
theorem dX7_abort_23 : decode cX7_abort 23 = .ok (.getfield 21, 3) := by decide +kernel
theorem dX7_abort_26 : decode cX7_abort 26 = .ok (.iload_n 1, 1) := by decide +kernel
theorem dX7_abort_27 : decode cX7_abort 27 = .ok (.invokevirtual 69, 3) := by decide +kernel
theorem dX7_abort_30 : decode cX7_abort 30 = .ok (.iload_n 2, 1) := by decide +kernel
theorem dX7_abort_31 : decode cX7_abort 31 = .ok (.ireturn, 1) := by decide +kernel
set_option maxRecDepth 20000 in
theorem ggX7_flush_X4_flushChanges : GoodIn wsX7_flush wsX4_flushChanges := goodIn_r _ [6, 7, 8, 9, 10, 11, 12, 13, 14, 15, 16, 17, 18, 19, 20, 26, 27, 28, 29, 30, 31, 32, 33, 34, 35, 36, 37, 38, 39, 40] (by decide +kernel) (by decide +kernel)
set_option maxRecDepth 20000 in
theorem gX7_flush_X4_flushChanges : GoodIn wsX7_flush (wsV RX7 73 RX4 yX4_flushChanges wsX4_flushChanges) := goodIn_app (goodIn_of _ (by decide +kernel)) ggX7_flush_X4_flushChanges
theorem dX7_flush_0 : decode cX7_flush 0 = .ok (.aload_n 0, 1) := by decide +kernel
theorem dX7_flush_1 : decode cX7_flush 1 = .ok (.getfield 21, 3) := by decide +kernel
theorem dX7_flush_4 : decode cX7_flush 4 = .ok (.invokevirtual 73, 3) := by decide +kernel
theorem dX7_flush_7 : decode cX7_flush 7 = .ok (.ireturn, 1) := by decide +kernel
set_option maxRecDepth 20000 in
theorem ggX7_crash_X4_restart : GoodIn wsX7_crash wsX4_restart := goodIn_r _ [9, 10, 11, 12, 13, 14, 15, 16, 17, 18, 19, 20, 21, 22, 23, 58, 59, 60, 61, 62, 63, 64, 65, 66, 67] (by decide +kernel) (by decide +kernel)
set_option maxRecDepth 20000 in
theorem gX7_crash_X4_restart : GoodIn wsX7_crash (wsV RX7 80 RX4 yX4_restart wsX4_restart) := goodIn_app (goodIn_of _ (by decide +kernel)) ggX7_crash_X4_restart
set_option maxRecDepth 20000 in
theorem ggX7_crash_X2_restart : GoodIn wsX7_crash wsX2_restart := goodIn_r _ [28, 29, 30, 68, 69, 70, 71, 72, 73] (by decide +kernel) (by decide +kernel)
set_option maxRecDepth 20000 in
theorem gX7_crash_X2_restart : GoodIn wsX7_crash (wsV RX7 83 RX2 yX2_restart wsX2_restart) := goodIn_app (goodIn_of _ (by decide +kernel)) ggX7_crash_X2_restart
set_option maxRecDepth 20000 in
theorem ggX7_crash_X5_restart : GoodIn wsX7_crash wsX5_restart := goodIn_r _ [35, 36, 37, 38, 39, 40, 41, 42, 43, 44, 45, 46, 47, 48, 49, 50, 51, 52, 74, 75, 76, 77, 78, 79, 80, 81, 82, 83, 84, 85] (by decide +kernel) (by decide +kernel)
set_option maxRecDepth 20000 in
theorem gX7_crash_X5_restart : GoodIn wsX7_crash (wsV RX7 84 RX5 yX5_restart wsX5_restart) := goodIn_app (goodIn_of _ (by decide +kernel)) ggX7_crash_X5_restart
theorem dX7_crash_0 : decode cX7_crash 0 = .ok (.iload_n 1, 1) := by decide +kernel
theorem dX7_crash_1 : decode cX7_crash 1 = .ok (.ifCond .lt 8, 3) := by decide +kernel
theorem dX7_crash_4 : decode cX7_crash 4 = .ok (.iload_n 1, 1) := by decide +kernel
theorem dX7_crash_5 : decode cX7_crash 5 = .ok (.iconst 2, 1) := by decide +kernel
theorem dX7_crash_6 : decode cX7_crash 6 = .ok (.if_icmp .le 5, 3) := by decide +kernel
theorem dX7_crash_9 : decode cX7_crash 9 = .ok (.iconst (-1), 1) := by decide +kernel
theorem dX7_crash_10 : decode cX7_crash 10 = .ok (.ireturn, 1) := by decide +kernel
theorem dX7_crash_11 : decode cX7_crash 11 = .ok (.aload_n 0, 1) := by decide +kernel
theorem dX7_crash_12 : decode cX7_crash 12 = .ok (.dup, 1) := by decide +kernel
theorem dX7_crash_13 : decode cX7_crash 13 = .ok (.getfield 76, 3) := by decide +kernel
theorem dX7_crash_16 : decode cX7_crash 16 = .ok (.iconst 1, 1) := by decide +kernel
theorem dX7_crash_17 : decode cX7_crash 17 = .ok (.iadd, 1) := by decide +kernel
theorem dX7_crash_18 : decode cX7_crash 18 = .ok (.putfield 76, 3) := by decide +kernel
theorem dX7_crash_21 : decode cX7_crash 21 = .ok (.iload_n 1, 1) := by decide +kernel
theorem dX7_crash_22 : decode cX7_crash 22 = .ok (.lookupswitch 42 #[(0, 26), (1, 34)], 26) := by decide +kernel
theorem dX7_crash_48 : decode cX7_crash 48 = .ok (.aload_n 0, 1) := by decide +kernel
theorem dX7_crash_49 : decode cX7_crash 49 = .ok (.getfield 21, 3) := by decide +kernel
theorem dX7_crash_52 : decode cX7_crash 52 = .ok (.invokevirtual 80, 3) := by decide +kernel
theorem dX7_crash_55 : decode cX7_crash 55 = .ok (.ireturn, 1) := by decide +kernel
theorem dX7_crash_56 : decode cX7_crash 56 = .ok (.aload_n 0, 1) := by decide +kernel
theorem dX7_crash_57 : decode cX7_crash 57 = .ok (.getfield 28, 3) := by decide +kernel
theorem dX7_crash_60 : decode cX7_crash 60 = .ok (.invokevirtual 83, 3) := by decide +kernel
theorem dX7_crash_63 : decode cX7_crash 63 = .ok (.ireturn, 1) := by decide +kernel
theorem dX7_crash_64 : decode cX7_crash 64 = .ok (.aload_n 0, 1) := by decide +kernel
theorem dX7_crash_65 : decode cX7_crash 65 = .ok (.getfield 35, 3) := by decide +kernel
theorem dX7_crash_68 : decode cX7_crash 68 = .ok (.invokevirtual 84, 3) := by decide +kernel
theorem dX7_crash_71 : decode cX7_crash 71 = .ok (.ireturn, 1) := by decide +kernel
set_option maxRecDepth 20000 in
theorem ggX7_key_X7_isKey : GoodIn wsX7_key wsX7_isKey := goodIn_r _ [6] (by decide +kernel) (by decide +kernel)
set_option maxRecDepth 20000 in
theorem gX7_key_X7_isKey : GoodIn wsX7_key (va_wsS RX7 47 yX7_isKey wsX7_isKey) := goodIn_app (goodIn_of _ (by decide +kernel)) ggX7_key_X7_isKey
set_option maxRecDepth 20000 in
theorem ggX7_key_X4_lockOf : GoodIn wsX7_key wsX4_lockOf := goodIn_r _ [11, 12, 18, 19, 20, 21, 22, 23] (by decide +kernel) (by decide +kernel)
set_option maxRecDepth 20000 in
theorem gX7_key_X4_lockOf : GoodIn wsX7_key (wsV RX7 92 RX4 yX4_lockOf wsX4_lockOf) := goodIn_app (goodIn_of _ (by decide +kernel)) ggX7_key_X4_lockOf
theorem dX7_key_0 : decode cX7_key 0 = .ok (.iload_n 1, 1) := by decide +kernel
theorem dX7_key_1 : decode cX7_key 1 = .ok (.invokestatic 47, 3) := by decide +kernel
theorem dX7_key_4 : decode cX7_key 4 = .ok (.ifCond .ne 5, 3) := by decide +kernel
theorem dX7_key_7 : decode cX7_key 7 = .ok (.iconst 0, 1) := by decide +kernel
theorem dX7_key_8 : decode cX7_key 8 = .ok (.ireturn, 1) := by decide +kernel
theorem dX7_key_9 : decode cX7_key 9 = .ok (.iload_n 2, 1) := by decide +kernel
theorem dX7_key_10 : decode cX7_key 10 = .ok (.tableswitch 123 0 6 #[42, 52, 62, 71, 84, 97, 110], 42) := by decide +kernel
theorem dX7_key_52 : decode cX7_key 52 = .ok (.aload_n 0, 1) := by decide +kernel
theorem dX7_key_53 : decode cX7_key 53 = .ok (.getfield 21, 3) := by decide +kernel
theorem dX7_key_56 : decode cX7_key 56 = .ok (.getfield 85, 3) := by decide +kernel
theorem dX7_key_59 : decode cX7_key 59 = .ok (.iload_n 1, 1) := by decide +kernel
theorem dX7_key_60 : decode cX7_key 60 = .ok (.iaload, 1) := by decide +kernel
theorem dX7_key_61 : decode cX7_key 61 = .ok (.ireturn, 1) := by decide +kernel
theorem dX7_key_62 : decode cX7_key 62 = .ok (.aload_n 0, 1) := by decide +kernel
theorem dX7_key_63 : decode cX7_key 63 = .ok (.getfield 21, 3) := by decide +kernel
theorem dX7_key_66 : decode cX7_key 66 = .ok (.getfield 89, 3) := by decide +kernel
theorem dX7_key_69 : decode cX7_key 69 = .ok (.iload_n 1, 1) := by decide +kernel
theorem dX7_key_70 : decode cX7_key 70 = .ok (.iaload, 1) := by decide +kernel
theorem dX7_key_71 : decode cX7_key 71 = .ok (.ireturn, 1) := by decide +kernel
theorem dX7_key_72 : decode cX7_key 72 = .ok (.aload_n 0, 1) := by decide +kernel
theorem dX7_key_73 : decode cX7_key 73 = .ok (.getfield 21, 3) := by decide +kernel
theorem dX7_key_76 : decode cX7_key 76 = .ok (.iload_n 1, 1) := by decide +kernel
theorem dX7_key_77 : decode cX7_key 77 = .ok (.invokevirtual 92, 3) := by decide +kernel
theorem dX7_key_80 : decode cX7_key 80 = .ok (.ireturn, 1) := by decide +kernel
theorem dX7_key_81 : decode cX7_key 81 = .ok (.aload_n 0, 1) := by decide +kernel
theorem dX7_key_82 : decode cX7_key 82 = .ok (.getfield 35, 3) := by decide +kernel
theorem dX7_key_85 : decode cX7_key 85 = .ok (.getfield 95, 3) := by decide +kernel
theorem dX7_key_88 : decode cX7_key 88 = .ok (.getfield 99, 3) := by decide +kernel
theorem dX7_key_91 : decode cX7_key 91 = .ok (.iload_n 1, 1) := by decide +kernel
theorem dX7_key_92 : decode cX7_key 92 = .ok (.iaload, 1) := by decide +kernel
theorem dX7_key_93 : decode cX7_key 93 = .ok (.ireturn, 1) := by decide +kernel
theorem dX7_key_94 : decode cX7_key 94 = .ok (.aload_n 0, 1) := by decide +kernel
theorem dX7_key_95 : decode cX7_key 95 = .ok (.getfield 35, 3) := by decide +kernel
theorem dX7_key_98 : decode cX7_key 98 = .ok (.getfield 95, 3) := by decide +kernel
theorem dX7_key_101 : decode cX7_key 101 = .ok (.getfield 102, 3) := by decide +kernel
theorem dX7_key_104 : decode cX7_key 104 = .ok (.iload_n 1, 1) := by decide +kernel
theorem dX7_key_105 : decode cX7_key 105 = .ok (.iaload, 1) := by decide +kernel
theorem dX7_key_106 : decode cX7_key 106 = .ok (.ireturn, 1) := by decide +kernel
theorem dX7_key_107 : decode cX7_key 107 = .ok (.aload_n 0, 1) := by decide +kernel
theorem dX7_key_108 : decode cX7_key 108 = .ok (.getfield 35, 3) := by decide +kernel
theorem dX7_key_111 : decode cX7_key 111 = .ok (.getfield 105, 3) := by decide +kernel
theorem dX7_key_114 : decode cX7_key 114 = .ok (.getfield 99, 3) := by decide +kernel
theorem dX7_key_117 : decode cX7_key 117 = .ok (.iload_n 1, 1) := by decide +kernel
theorem dX7_key_118 : decode cX7_key 118 = .ok (.iaload, 1) := by decide +kernel
theorem dX7_key_119 : decode cX7_key 119 = .ok (.ireturn, 1) := by decide +kernel
theorem dX7_key_120 : decode cX7_key 120 = .ok (.aload_n 0, 1) := by decide +kernel
theorem dX7_key_121 : decode cX7_key 121 = .ok (.getfield 35, 3) := by decide +kernel
theorem dX7_key_124 : decode cX7_key 124 = .ok (.getfield 105, 3) := by decide +kernel
theorem dX7_key_127 : decode cX7_key 127 = .ok (.getfield 102, 3) := by decide +kernel
theorem dX7_key_130 : decode cX7_key 130 = .ok (.iload_n 1, 1) := by decide +kernel
theorem dX7_key_131 : decode cX7_key 131 = .ok (.iaload, 1) := by decide +kernel
theorem dX7_key_132 : decode cX7_key 132 = .ok (.ireturn, 1) := by decide +kernel
theorem dX7_key_133 : decode cX7_key 133 = .ok (.iconst 0, 1) := by decide +kernel
theorem dX7_key_134 : decode cX7_key 134 = .ok (.ireturn, 1) := by decide +kernel
set_option maxRecDepth 20000 in
theorem ggX7_log_X1_at : GoodIn wsX7_log wsX1_at := goodIn_r _ [10, 11, 12, 33, 34, 35, 36] (by decide +kernel) (by decide +kernel)
set_option maxRecDepth 20000 in
theorem gX7_log_X1_at : GoodIn wsX7_log (wsV RX7 108 RX1 yX1_at wsX1_at) := goodIn_app (goodIn_of _ (by decide +kernel)) ggX7_log_X1_at
set_option maxRecDepth 20000 in
theorem ggX7_log_X1_isCut : GoodIn wsX7_log wsX1_isCut := goodIn_r _ [16, 17, 33, 34, 35, 36] (by decide +kernel) (by decide +kernel)
set_option maxRecDepth 20000 in
theorem gX7_log_X1_isCut : GoodIn wsX7_log (wsV RX7 112 RX1 yX1_isCut wsX1_isCut) := goodIn_app (goodIn_of _ (by decide +kernel)) ggX7_log_X1_isCut
set_option maxRecDepth 20000 in
theorem ggX7_log_X1_isFlushed : GoodIn wsX7_log wsX1_isFlushed := goodIn_r _ [21, 22, 33, 34, 35, 36] (by decide +kernel) (by decide +kernel)
set_option maxRecDepth 20000 in
theorem gX7_log_X1_isFlushed : GoodIn wsX7_log (wsV RX7 126 RX1 yX1_isFlushed wsX1_isFlushed) := goodIn_app (goodIn_of _ (by decide +kernel)) ggX7_log_X1_isFlushed
theorem dX7_log_0 : decode cX7_log 0 = .ok (.iload_n 2, 1) := by decide +kernel
theorem dX7_log_1 : decode cX7_log 1 = .ok (.ifCond .lt 8, 3) := by decide +kernel
theorem dX7_log_4 : decode cX7_log 4 = .ok (.iload_n 2, 1) := by decide +kernel
theorem dX7_log_5 : decode cX7_log 5 = .ok (.iconst 4, 1) := by decide +kernel
theorem dX7_log_6 : decode cX7_log 6 = .ok (.if_icmp .le 5, 3) := by decide +kernel
theorem dX7_log_9 : decode cX7_log 9 = .ok (.iconst (-1), 1) := by decide +kernel
theorem dX7_log_10 : decode cX7_log 10 = .ok (.ireturn, 1) := by decide +kernel
theorem dX7_log_11 : decode cX7_log 11 = .ok (.aload_n 0, 1) := by decide +kernel
theorem dX7_log_12 : decode cX7_log 12 = .ok (.getfield 10, 3) := by decide +kernel
theorem dX7_log_15 : decode cX7_log 15 = .ok (.iload_n 1, 1) := by decide +kernel
theorem dX7_log_16 : decode cX7_log 16 = .ok (.invokevirtual 108, 3) := by decide +kernel
theorem dX7_log_19 : decode cX7_log 19 = .ok (.astore_n 3, 1) := by decide +kernel
theorem dX7_log_20 : decode cX7_log 20 = .ok (.aload_n 3, 1) := by decide +kernel
theorem dX7_log_21 : decode cX7_log 21 = .ok (.ifnull 14, 3) := by decide +kernel
theorem dX7_log_24 : decode cX7_log 24 = .ok (.aload_n 0, 1) := by decide +kernel
theorem dX7_log_25 : decode cX7_log 25 = .ok (.getfield 10, 3) := by decide +kernel
theorem dX7_log_28 : decode cX7_log 28 = .ok (.iload_n 1, 1) := by decide +kernel
theorem dX7_log_29 : decode cX7_log 29 = .ok (.invokevirtual 112, 3) := by decide +kernel
theorem dX7_log_32 : decode cX7_log 32 = .ok (.ifCond .eq 6, 3) := by decide +kernel
theorem dX7_log_35 : decode cX7_log 35 = .ok (.bipush (-9), 2) := by decide +kernel
theorem dX7_log_37 : decode cX7_log 37 = .ok (.ireturn, 1) := by decide +kernel
theorem dX7_log_38 : decode cX7_log 38 = .ok (.iload_n 2, 1) := by decide +kernel
theorem dX7_log_39 : decode cX7_log 39 = .ok (.tableswitch 61 0 3 #[29, 34, 39, 44], 29) := by decide +kernel
theorem dX7_log_68 : decode cX7_log 68 = .ok (.aload_n 3, 1) := by decide +kernel
theorem dX7_log_69 : decode cX7_log 69 = .ok (.getfield 115, 3) := by decide +kernel
theorem dX7_log_72 : decode cX7_log 72 = .ok (.ireturn, 1) := by decide +kernel
theorem dX7_log_73 : decode cX7_log 73 = .ok (.aload_n 3, 1) := by decide +kernel
theorem dX7_log_74 : decode cX7_log 74 = .ok (.getfield 120, 3) := by decide +kernel
theorem dX7_log_77 : decode cX7_log 77 = .ok (.ireturn, 1) := by decide +kernel
theorem dX7_log_78 : decode cX7_log 78 = .ok (.aload_n 3, 1) := by decide +kernel
theorem dX7_log_79 : decode cX7_log 79 = .ok (.getfield 123, 3) := by decide +kernel
theorem dX7_log_82 : decode cX7_log 82 = .ok (.ireturn, 1) := by decide +kernel
theorem dX7_log_83 : decode cX7_log 83 = .ok (.aload_n 0, 1) := by decide +kernel
theorem dX7_log_84 : decode cX7_log 84 = .ok (.getfield 10, 3) := by decide +kernel
theorem dX7_log_87 : decode cX7_log 87 = .ok (.iload_n 1, 1) := by decide +kernel
theorem dX7_log_88 : decode cX7_log 88 = .ok (.invokevirtual 126, 3) := by decide +kernel
theorem dX7_log_91 : decode cX7_log 91 = .ok (.ifCond .eq 7, 3) := by decide +kernel
theorem dX7_log_94 : decode cX7_log 94 = .ok (.iconst 1, 1) := by decide +kernel
theorem dX7_log_95 : decode cX7_log 95 = .ok (.goto 4, 3) := by decide +kernel
theorem dX7_log_98 : decode cX7_log 98 = .ok (.iconst 0, 1) := by decide +kernel
theorem dX7_log_99 : decode cX7_log 99 = .ok (.ireturn, 1) := by decide +kernel
theorem dX7_log_100 : decode cX7_log 100 = .ok (.aload_n 3, 1) := by decide +kernel
theorem dX7_log_101 : decode cX7_log 101 = .ok (.getfield 129, 3) := by decide +kernel
theorem dX7_log_104 : decode cX7_log 104 = .ok (.ifCond .eq 7, 3) := by decide +kernel
theorem dX7_log_107 : decode cX7_log 107 = .ok (.iconst 1, 1) := by decide +kernel
theorem dX7_log_108 : decode cX7_log 108 = .ok (.goto 4, 3) := by decide +kernel
theorem dX7_log_111 : decode cX7_log 111 = .ok (.iconst 0, 1) := by decide +kernel
theorem dX7_log_112 : decode cX7_log 112 = .ok (.ireturn, 1) := by decide +kernel
set_option maxRecDepth 20000 in
theorem ggX7_relay_X2_readOn : GoodIn wsX7_relay wsX2_readOn := goodIn_r _ [6, 7, 8, 9, 5, 10, 11, 12, 13, 14, 15, 16, 17, 18, 19, 20, 21, 22, 23, 24, 25, 26, 27, 28, 29, 30, 31, 32, 33, 39, 40, 41, 42, 43, 44, 45, 46, 47, 48, 49, 50, 51, 52, 53, 54, 55] (by decide +kernel) (by decide +kernel)
set_option maxRecDepth 20000 in
theorem gX7_relay_X2_readOn : GoodIn wsX7_relay (wsV RX7 133 RX2 yX2_readOn wsX2_readOn) := goodIn_app (goodIn_of _ (by decide +kernel)) ggX7_relay_X2_readOn
theorem dX7_relay_0 : decode cX7_relay 0 = .ok (.iload_n 1, 1) := by decide +kernel
theorem dX7_relay_1 : decode cX7_relay 1 = .ok (.iconst 1, 1) := by decide +kernel
theorem dX7_relay_2 : decode cX7_relay 2 = .ok (.if_icmp .lt 9, 3) := by decide +kernel
theorem dX7_relay_5 : decode cX7_relay 5 = .ok (.iload_n 1, 1) := by decide +kernel
theorem dX7_relay_6 : decode cX7_relay 6 = .ok (.bipush 20, 2) := by decide +kernel
theorem dX7_relay_8 : decode cX7_relay 8 = .ok (.if_icmp .le 5, 3) := by decide +kernel
theorem dX7_relay_11 : decode cX7_relay 11 = .ok (.iconst (-1), 1) := by decide +kernel
theorem dX7_relay_12 : decode cX7_relay 12 = .ok (.ireturn, 1) := by decide +kernel
theorem dX7_relay_13 : decode cX7_relay 13 = .ok (.aload_n 0, 1) := by decide +kernel
theorem dX7_relay_14 : decode cX7_relay 14 = .ok (.getfield 28, 3) := by decide +kernel
theorem dX7_relay_17 : decode cX7_relay 17 = .ok (.iload_n 1, 1) := by decide +kernel
theorem dX7_relay_18 : decode cX7_relay 18 = .ok (.invokevirtual 133, 3) := by decide +kernel
theorem dX7_relay_21 : decode cX7_relay 21 = .ok (.ireturn, 1) := by decide +kernel
set_option maxRecDepth 20000 in
theorem ggX7_cut_X1_cutUpTo : GoodIn wsX7_cut wsX1_cutUpTo := goodIn_r _ [7, 8, 20, 21, 22, 23] (by decide +kernel) (by decide +kernel)
set_option maxRecDepth 20000 in
theorem gX7_cut_X1_cutUpTo : GoodIn wsX7_cut (wsV RX7 139 RX1 yX1_cutUpTo wsX1_cutUpTo) := goodIn_app (goodIn_of _ (by decide +kernel)) ggX7_cut_X1_cutUpTo
theorem dX7_cut_0 : decode cX7_cut 0 = .ok (.aload_n 0, 1) := by decide +kernel
theorem dX7_cut_1 : decode cX7_cut 1 = .ok (.getfield 10, 3) := by decide +kernel
theorem dX7_cut_4 : decode cX7_cut 4 = .ok (.aload_n 0, 1) := by decide +kernel
theorem dX7_cut_5 : decode cX7_cut 5 = .ok (.getfield 28, 3) := by decide +kernel
theorem dX7_cut_8 : decode cX7_cut 8 = .ok (.getfield 136, 3) := by decide +kernel
theorem dX7_cut_11 : decode cX7_cut 11 = .ok (.invokevirtual 139, 3) := by decide +kernel
theorem dX7_cut_14 : decode cX7_cut 14 = .ok (.ireturn, 1) := by decide +kernel
set_option maxRecDepth 20000 in
theorem ggX7_deliver_X2_letterAt : GoodIn wsX7_deliver wsX2_letterAt := goodIn_r _ [7, 8, 9, 10, 11, 12, 13, 14, 15, 16, 17, 18, 92, 93, 94, 95, 96, 97, 98, 99] (by decide +kernel) (by decide +kernel)
set_option maxRecDepth 20000 in
theorem gX7_deliver_X2_letterAt : GoodIn wsX7_deliver (wsV RX7 142 RX2 yX2_letterAt wsX2_letterAt) := goodIn_app (goodIn_of _ (by decide +kernel)) ggX7_deliver_X2_letterAt
set_option maxRecDepth 20000 in
theorem ggX7_deliver_X2_dropLetter : GoodIn wsX7_deliver wsX2_dropLetter := goodIn_r _ [22, 8, 9, 10, 11, 23, 24, 25, 15, 26, 17, 18, 92, 93, 94, 95, 96, 97, 98, 99] (by decide +kernel) (by decide +kernel)
set_option maxRecDepth 20000 in
theorem gX7_deliver_X2_dropLetter : GoodIn wsX7_deliver (wsV RX7 146 RX2 yX2_dropLetter wsX2_dropLetter) := goodIn_app (goodIn_of _ (by decide +kernel)) ggX7_deliver_X2_dropLetter
set_option maxRecDepth 20000 in
theorem ggX7_deliver_X5_take : GoodIn wsX7_deliver wsX5_take := goodIn_r _ [31, 32, 33, 34, 35, 36, 37, 38, 39, 40, 41, 42, 43, 44, 45, 46, 47, 48, 15, 49, 17, 18, 50, 51, 52, 53, 54, 30, 55, 56, 57, 58, 59, 60, 61, 62, 63, 64, 65, 66, 67, 68, 69, 70, 71, 72, 73, 74, 75, 76, 77, 13, 14, 16, 78, 24, 25, 26, 79, 80, 81, 82, 83, 84, 85, 86, 100, 101, 102, 103, 104, 105, 106, 107, 108, 109, 110, 111, 112, 113, 114, 98, 99, 115, 116, 117, 118] (by decide +kernel) (by decide +kernel)
set_option maxRecDepth 20000 in
theorem gX7_deliver_X5_take : GoodIn wsX7_deliver (wsV RX7 149 RX5 yX5_take wsX5_take) := goodIn_app (goodIn_of _ (by decide +kernel)) ggX7_deliver_X5_take
theorem dX7_deliver_0 : decode cX7_deliver 0 = .ok (.aload_n 0, 1) := by decide +kernel
theorem dX7_deliver_1 : decode cX7_deliver 1 = .ok (.getfield 28, 3) := by decide +kernel
theorem dX7_deliver_4 : decode cX7_deliver 4 = .ok (.iload_n 1, 1) := by decide +kernel
theorem dX7_deliver_5 : decode cX7_deliver 5 = .ok (.iload_n 2, 1) := by decide +kernel
theorem dX7_deliver_6 : decode cX7_deliver 6 = .ok (.invokevirtual 142, 3) := by decide +kernel
theorem dX7_deliver_9 : decode cX7_deliver 9 = .ok (.astore 4, 2) := by decide +kernel
theorem dX7_deliver_11 : decode cX7_deliver 11 = .ok (.aload 4, 2) := by decide +kernel
theorem dX7_deliver_13 : decode cX7_deliver 13 = .ok (.ifnonnull 5, 3) := by decide +kernel
theorem dX7_deliver_16 : decode cX7_deliver 16 = .ok (.iconst (-1), 1) := by decide +kernel
theorem dX7_deliver_17 : decode cX7_deliver 17 = .ok (.ireturn, 1) := by decide +kernel
theorem dX7_deliver_18 : decode cX7_deliver 18 = .ok (.iload_n 3, 1) := by decide +kernel
theorem dX7_deliver_19 : decode cX7_deliver 19 = .ok (.ifCond .ne 12, 3) := by decide +kernel
theorem dX7_deliver_22 : decode cX7_deliver 22 = .ok (.aload_n 0, 1) := by decide +kernel
theorem dX7_deliver_23 : decode cX7_deliver 23 = .ok (.getfield 28, 3) := by decide +kernel
theorem dX7_deliver_26 : decode cX7_deliver 26 = .ok (.iload_n 1, 1) := by decide +kernel
theorem dX7_deliver_27 : decode cX7_deliver 27 = .ok (.iload_n 2, 1) := by decide +kernel
theorem dX7_deliver_28 : decode cX7_deliver 28 = .ok (.invokevirtual 146, 3) := by decide +kernel
theorem dX7_deliver_31 : decode cX7_deliver 31 = .ok (.aload_n 0, 1) := by decide +kernel
theorem dX7_deliver_32 : decode cX7_deliver 32 = .ok (.getfield 35, 3) := by decide +kernel
theorem dX7_deliver_35 : decode cX7_deliver 35 = .ok (.aload 4, 2) := by decide +kernel
theorem dX7_deliver_37 : decode cX7_deliver 37 = .ok (.invokevirtual 149, 3) := by decide +kernel
theorem dX7_deliver_40 : decode cX7_deliver 40 = .ok (.ireturn, 1) := by decide +kernel
set_option maxRecDepth 20000 in
theorem ggX7_lose_X2_letterAt : GoodIn wsX7_lose wsX2_letterAt := goodIn_r _ [7, 8, 9, 10, 11, 12, 13, 14, 15, 16, 17, 18, 32, 33, 34, 35, 36, 37, 43, 44] (by decide +kernel) (by decide +kernel)
set_option maxRecDepth 20000 in
theorem gX7_lose_X2_letterAt : GoodIn wsX7_lose (wsV RX7 142 RX2 yX2_letterAt wsX2_letterAt) := goodIn_app (goodIn_of _ (by decide +kernel)) ggX7_lose_X2_letterAt
set_option maxRecDepth 20000 in
theorem ggX7_lose_X2_dropLetter : GoodIn wsX7_lose wsX2_dropLetter := goodIn_r _ [22, 8, 9, 10, 11, 23, 24, 25, 15, 26, 17, 18, 32, 33, 34, 35, 36, 37, 43, 44] (by decide +kernel) (by decide +kernel)
set_option maxRecDepth 20000 in
theorem gX7_lose_X2_dropLetter : GoodIn wsX7_lose (wsV RX7 146 RX2 yX2_dropLetter wsX2_dropLetter) := goodIn_app (goodIn_of _ (by decide +kernel)) ggX7_lose_X2_dropLetter
theorem dX7_lose_0 : decode cX7_lose 0 = .ok (.aload_n 0, 1) := by decide +kernel
theorem dX7_lose_1 : decode cX7_lose 1 = .ok (.getfield 28, 3) := by decide +kernel
theorem dX7_lose_4 : decode cX7_lose 4 = .ok (.iload_n 1, 1) := by decide +kernel
theorem dX7_lose_5 : decode cX7_lose 5 = .ok (.iload_n 2, 1) := by decide +kernel
theorem dX7_lose_6 : decode cX7_lose 6 = .ok (.invokevirtual 142, 3) := by decide +kernel
theorem dX7_lose_9 : decode cX7_lose 9 = .ok (.astore_n 3, 1) := by decide +kernel
theorem dX7_lose_10 : decode cX7_lose 10 = .ok (.aload_n 3, 1) := by decide +kernel
theorem dX7_lose_11 : decode cX7_lose 11 = .ok (.ifnonnull 5, 3) := by decide +kernel
theorem dX7_lose_14 : decode cX7_lose 14 = .ok (.iconst (-1), 1) := by decide +kernel
theorem dX7_lose_15 : decode cX7_lose 15 = .ok (.ireturn, 1) := by decide +kernel
theorem dX7_lose_16 : decode cX7_lose 16 = .ok (.aload_n 0, 1) := by decide +kernel
theorem dX7_lose_17 : decode cX7_lose 17 = .ok (.getfield 28, 3) := by decide +kernel
theorem dX7_lose_20 : decode cX7_lose 20 = .ok (.iload_n 1, 1) := by decide +kernel
theorem dX7_lose_21 : decode cX7_lose 21 = .ok (.iload_n 2, 1) := by decide +kernel
theorem dX7_lose_22 : decode cX7_lose 22 = .ok (.invokevirtual 146, 3) := by decide +kernel
theorem dX7_lose_25 : decode cX7_lose 25 = .ok (.aload_n 0, 1) := by decide +kernel
theorem dX7_lose_26 : decode cX7_lose 26 = .ok (.getfield 28, 3) := by decide +kernel
theorem dX7_lose_29 : decode cX7_lose 29 = .ok (.dup, 1) := by decide +kernel
theorem dX7_lose_30 : decode cX7_lose 30 = .ok (.getfield 153, 3) := by decide +kernel
theorem dX7_lose_33 : decode cX7_lose 33 = .ok (.iconst 1, 1) := by decide +kernel
theorem dX7_lose_34 : decode cX7_lose 34 = .ok (.iadd, 1) := by decide +kernel
theorem dX7_lose_35 : decode cX7_lose 35 = .ok (.putfield 153, 3) := by decide +kernel
theorem dX7_lose_38 : decode cX7_lose 38 = .ok (.aload_n 3, 1) := by decide +kernel
theorem dX7_lose_39 : decode cX7_lose 39 = .ok (.getfield 156, 3) := by decide +kernel
theorem dX7_lose_42 : decode cX7_lose 42 = .ok (.ireturn, 1) := by decide +kernel
set_option maxRecDepth 20000 in
theorem ggX7_letter_X7_isLane : GoodIn wsX7_letter wsX7_isLane := goodIn_r _ [9] (by decide +kernel) (by decide +kernel)
set_option maxRecDepth 20000 in
theorem gX7_letter_X7_isLane : GoodIn wsX7_letter (va_wsS RX7 159 yX7_isLane wsX7_isLane) := goodIn_app (goodIn_of _ (by decide +kernel)) ggX7_letter_X7_isLane
set_option maxRecDepth 20000 in
theorem ggX7_letter_X2_letterAt : GoodIn wsX7_letter wsX2_letterAt := goodIn_r _ [14, 15, 7, 8, 9, 16, 17, 18, 19, 20, 21, 22, 33, 34, 35, 36, 37, 38, 39, 40] (by decide +kernel) (by decide +kernel)
set_option maxRecDepth 20000 in
theorem gX7_letter_X2_letterAt : GoodIn wsX7_letter (wsV RX7 142 RX2 yX2_letterAt wsX2_letterAt) := goodIn_app (goodIn_of _ (by decide +kernel)) ggX7_letter_X2_letterAt
theorem dX7_letter_0 : decode cX7_letter 0 = .ok (.iload_n 1, 1) := by decide +kernel
theorem dX7_letter_1 : decode cX7_letter 1 = .ok (.invokestatic 159, 3) := by decide +kernel
theorem dX7_letter_4 : decode cX7_letter 4 = .ok (.ifCond .eq 12, 3) := by decide +kernel
theorem dX7_letter_7 : decode cX7_letter 7 = .ok (.iload_n 3, 1) := by decide +kernel
theorem dX7_letter_8 : decode cX7_letter 8 = .ok (.ifCond .lt 8, 3) := by decide +kernel
theorem dX7_letter_11 : decode cX7_letter 11 = .ok (.iload_n 3, 1) := by decide +kernel
theorem dX7_letter_12 : decode cX7_letter 12 = .ok (.iconst 3, 1) := by decide +kernel
theorem dX7_letter_13 : decode cX7_letter 13 = .ok (.if_icmp .le 5, 3) := by decide +kernel
theorem dX7_letter_16 : decode cX7_letter 16 = .ok (.iconst (-1), 1) := by decide +kernel
theorem dX7_letter_17 : decode cX7_letter 17 = .ok (.ireturn, 1) := by decide +kernel
theorem dX7_letter_18 : decode cX7_letter 18 = .ok (.aload_n 0, 1) := by decide +kernel
theorem dX7_letter_19 : decode cX7_letter 19 = .ok (.getfield 28, 3) := by decide +kernel
theorem dX7_letter_22 : decode cX7_letter 22 = .ok (.iload_n 1, 1) := by decide +kernel
theorem dX7_letter_23 : decode cX7_letter 23 = .ok (.iload_n 2, 1) := by decide +kernel
theorem dX7_letter_24 : decode cX7_letter 24 = .ok (.invokevirtual 142, 3) := by decide +kernel
theorem dX7_letter_27 : decode cX7_letter 27 = .ok (.astore 4, 2) := by decide +kernel
theorem dX7_letter_29 : decode cX7_letter 29 = .ok (.aload 4, 2) := by decide +kernel
theorem dX7_letter_31 : decode cX7_letter 31 = .ok (.ifnonnull 6, 3) := by decide +kernel
theorem dX7_letter_34 : decode cX7_letter 34 = .ok (.bipush (-9), 2) := by decide +kernel
theorem dX7_letter_36 : decode cX7_letter 36 = .ok (.ireturn, 1) := by decide +kernel
theorem dX7_letter_37 : decode cX7_letter 37 = .ok (.iload_n 3, 1) := by decide +kernel
theorem dX7_letter_38 : decode cX7_letter 38 = .ok (.tableswitch 44 0 2 #[26, 32, 38], 26) := by decide +kernel
theorem dX7_letter_64 : decode cX7_letter 64 = .ok (.aload 4, 2) := by decide +kernel
theorem dX7_letter_66 : decode cX7_letter 66 = .ok (.getfield 156, 3) := by decide +kernel
theorem dX7_letter_69 : decode cX7_letter 69 = .ok (.ireturn, 1) := by decide +kernel
theorem dX7_letter_70 : decode cX7_letter 70 = .ok (.aload 4, 2) := by decide +kernel
theorem dX7_letter_72 : decode cX7_letter 72 = .ok (.getfield 115, 3) := by decide +kernel
theorem dX7_letter_75 : decode cX7_letter 75 = .ok (.ireturn, 1) := by decide +kernel
theorem dX7_letter_76 : decode cX7_letter 76 = .ok (.aload 4, 2) := by decide +kernel
theorem dX7_letter_78 : decode cX7_letter 78 = .ok (.getfield 123, 3) := by decide +kernel
theorem dX7_letter_81 : decode cX7_letter 81 = .ok (.ireturn, 1) := by decide +kernel
theorem dX7_letter_82 : decode cX7_letter 82 = .ok (.aload 4, 2) := by decide +kernel
theorem dX7_letter_84 : decode cX7_letter 84 = .ok (.getfield 120, 3) := by decide +kernel
theorem dX7_letter_87 : decode cX7_letter 87 = .ok (.ireturn, 1) := by decide +kernel
set_option maxRecDepth 20000 in
theorem ggX7_save_X5_saveMemory : GoodIn wsX7_save wsX5_saveMemory := goodIn_r _ [6, 7, 8, 9, 10, 11, 12, 13, 14, 15, 16, 22, 23, 24, 25, 26, 27, 28, 29, 30, 31] (by decide +kernel) (by decide +kernel)
set_option maxRecDepth 20000 in
theorem gX7_save_X5_saveMemory : GoodIn wsX7_save (wsV RX7 162 RX5 yX5_saveMemory wsX5_saveMemory) := goodIn_app (goodIn_of _ (by decide +kernel)) ggX7_save_X5_saveMemory
theorem dX7_save_0 : decode cX7_save 0 = .ok (.aload_n 0, 1) := by decide +kernel
theorem dX7_save_1 : decode cX7_save 1 = .ok (.getfield 35, 3) := by decide +kernel
theorem dX7_save_4 : decode cX7_save 4 = .ok (.invokevirtual 162, 3) := by decide +kernel
theorem dX7_save_7 : decode cX7_save 7 = .ok (.ireturn, 1) := by decide +kernel
set_option maxRecDepth 20000 in
theorem ggX7_ack_X2_hear : GoodIn wsX7_ack wsX2_hear := goodIn_r _ [7, 8, 9, 10, 11, 12, 13, 29, 30, 31, 32, 33, 34] (by decide +kernel) (by decide +kernel)
set_option maxRecDepth 20000 in
theorem gX7_ack_X2_hear : GoodIn wsX7_ack (wsV RX7 168 RX2 yX2_hear wsX2_hear) := goodIn_app (goodIn_of _ (by decide +kernel)) ggX7_ack_X2_hear
theorem dX7_ack_0 : decode cX7_ack 0 = .ok (.iload_n 1, 1) := by decide +kernel
theorem dX7_ack_1 : decode cX7_ack 1 = .ok (.ifCond .eq 20, 3) := by decide +kernel
theorem dX7_ack_4 : decode cX7_ack 4 = .ok (.aload_n 0, 1) := by decide +kernel
theorem dX7_ack_5 : decode cX7_ack 5 = .ok (.getfield 28, 3) := by decide +kernel
theorem dX7_ack_8 : decode cX7_ack 8 = .ok (.aload_n 0, 1) := by decide +kernel
theorem dX7_ack_9 : decode cX7_ack 9 = .ok (.getfield 35, 3) := by decide +kernel
theorem dX7_ack_12 : decode cX7_ack 12 = .ok (.getfield 105, 3) := by decide +kernel
theorem dX7_ack_15 : decode cX7_ack 15 = .ok (.getfield 165, 3) := by decide +kernel
theorem dX7_ack_18 : decode cX7_ack 18 = .ok (.invokevirtual 168, 3) := by decide +kernel
theorem dX7_ack_21 : decode cX7_ack 21 = .ok (.aload_n 0, 1) := by decide +kernel
theorem dX7_ack_22 : decode cX7_ack 22 = .ok (.getfield 35, 3) := by decide +kernel
theorem dX7_ack_25 : decode cX7_ack 25 = .ok (.getfield 105, 3) := by decide +kernel
theorem dX7_ack_28 : decode cX7_ack 28 = .ok (.getfield 165, 3) := by decide +kernel
theorem dX7_ack_31 : decode cX7_ack 31 = .ok (.ireturn, 1) := by decide +kernel
set_option maxRecDepth 20000 in
theorem ggX7_flow_X7_deliverAll : GoodIn wsX7_flow wsX7_deliverAll := goodIn_r _ [7, 2, 1, 8, 9, 10, 11, 12, 13, 14, 15, 16, 17, 18, 19, 20, 21, 22, 23, 24, 25, 26, 27, 28, 29, 30, 31, 32, 33, 34, 35, 36, 37, 38, 39, 40, 41, 42, 43, 44, 45, 46, 47, 48, 49, 50, 51, 52, 53, 54, 55, 56, 57, 58, 59, 60, 61, 62, 63, 64, 65, 66, 67, 68, 69, 70, 71, 72, 73, 74, 75, 76, 77, 78, 79, 80, 81, 117, 118, 119, 120, 121, 132, 133, 134, 135, 136, 137, 138, 139, 122, 123, 124, 125, 126, 127, 128, 140, 141, 142, 143, 144, 129, 130, 131, 145, 146, 147, 148] (by decide +kernel) (by decide +kernel)
set_option maxRecDepth 20000 in
theorem gX7_flow_X7_deliverAll : GoodIn wsX7_flow (wsV RX7 174 RX7 yX7_deliverAll wsX7_deliverAll) := goodIn_app (goodIn_of _ (by decide +kernel)) ggX7_flow_X7_deliverAll
set_option maxRecDepth 20000 in
theorem ggX7_flow_X5_saveMemory : GoodIn wsX7_flow wsX5_saveMemory := goodIn_r _ [85, 86, 20, 87, 88, 89, 29, 90, 32, 50, 52, 122, 123, 124, 125, 126, 127, 128, 129, 130, 131] (by decide +kernel) (by decide +kernel)
set_option maxRecDepth 20000 in
theorem gX7_flow_X5_saveMemory : GoodIn wsX7_flow (wsV RX7 162 RX5 yX5_saveMemory wsX5_saveMemory) := goodIn_app (goodIn_of _ (by decide +kernel)) ggX7_flow_X5_saveMemory
set_option maxRecDepth 20000 in
theorem ggX7_flow_X2_hear : GoodIn wsX7_flow wsX2_hear := goodIn_r _ [95, 96, 97, 98, 99, 100, 101, 132, 133, 134, 135, 136, 137] (by decide +kernel) (by decide +kernel)
set_option maxRecDepth 20000 in
theorem gX7_flow_X2_hear : GoodIn wsX7_flow (wsV RX7 168 RX2 yX2_hear wsX2_hear) := goodIn_app (goodIn_of _ (by decide +kernel)) ggX7_flow_X2_hear
set_option maxRecDepth 20000 in
theorem ggX7_flow_X2_readOn : GoodIn wsX7_flow wsX2_readOn := goodIn_r _ [105, 106, 107, 108, 94, 109, 110, 101, 111, 112, 113, 114, 54, 55, 56, 57, 58, 59, 115, 71, 72, 11, 73, 13, 14, 116, 75, 76, 77, 132, 133, 134, 135, 136, 137, 140, 141, 142, 143, 144, 145, 146, 147, 148, 138, 139] (by decide +kernel) (by decide +kernel)
set_option maxRecDepth 20000 in
theorem gX7_flow_X2_readOn : GoodIn wsX7_flow (wsV RX7 133 RX2 yX2_readOn wsX2_readOn) := goodIn_app (goodIn_of _ (by decide +kernel)) ggX7_flow_X2_readOn
theorem dX7_flow_0 : decode cX7_flow 0 = .ok (.iload_n 1, 1) := by decide +kernel
theorem dX7_flow_1 : decode cX7_flow 1 = .ok (.iconst 1, 1) := by decide +kernel
theorem dX7_flow_2 : decode cX7_flow 2 = .ok (.if_icmp .lt 9, 3) := by decide +kernel
theorem dX7_flow_5 : decode cX7_flow 5 = .ok (.iload_n 1, 1) := by decide +kernel
theorem dX7_flow_6 : decode cX7_flow 6 = .ok (.bipush 10, 2) := by decide +kernel
theorem dX7_flow_8 : decode cX7_flow 8 = .ok (.if_icmp .le 5, 3) := by decide +kernel
theorem dX7_flow_11 : decode cX7_flow 11 = .ok (.iconst (-1), 1) := by decide +kernel
theorem dX7_flow_12 : decode cX7_flow 12 = .ok (.ireturn, 1) := by decide +kernel
theorem dX7_flow_13 : decode cX7_flow 13 = .ok (.aload_n 0, 1) := by decide +kernel
theorem dX7_flow_14 : decode cX7_flow 14 = .ok (.getfield 35, 3) := by decide +kernel
theorem dX7_flow_17 : decode cX7_flow 17 = .ok (.getfield 171, 3) := by decide +kernel
theorem dX7_flow_20 : decode cX7_flow 20 = .ok (.istore_n 2, 1) := by decide +kernel
theorem dX7_flow_21 : decode cX7_flow 21 = .ok (.iconst 0, 1) := by decide +kernel
theorem dX7_flow_22 : decode cX7_flow 22 = .ok (.istore_n 3, 1) := by decide +kernel
theorem dX7_flow_23 : decode cX7_flow 23 = .ok (.iload_n 3, 1) := by decide +kernel
theorem dX7_flow_24 : decode cX7_flow 24 = .ok (.iload_n 1, 1) := by decide +kernel
theorem dX7_flow_25 : decode cX7_flow 25 = .ok (.if_icmp .ge 49, 3) := by decide +kernel
theorem dX7_flow_28 : decode cX7_flow 28 = .ok (.aload_n 0, 1) := by decide +kernel
theorem dX7_flow_29 : decode cX7_flow 29 = .ok (.invokevirtual 174, 3) := by decide +kernel
theorem dX7_flow_32 : decode cX7_flow 32 = .ok (.aload_n 0, 1) := by decide +kernel
theorem dX7_flow_33 : decode cX7_flow 33 = .ok (.getfield 35, 3) := by decide +kernel
theorem dX7_flow_36 : decode cX7_flow 36 = .ok (.invokevirtual 162, 3) := by decide +kernel
theorem dX7_flow_39 : decode cX7_flow 39 = .ok (.pop, 1) := by decide +kernel
theorem dX7_flow_40 : decode cX7_flow 40 = .ok (.aload_n 0, 1) := by decide +kernel
theorem dX7_flow_41 : decode cX7_flow 41 = .ok (.getfield 28, 3) := by decide +kernel
theorem dX7_flow_44 : decode cX7_flow 44 = .ok (.aload_n 0, 1) := by decide +kernel
theorem dX7_flow_45 : decode cX7_flow 45 = .ok (.getfield 35, 3) := by decide +kernel
theorem dX7_flow_48 : decode cX7_flow 48 = .ok (.getfield 105, 3) := by decide +kernel
theorem dX7_flow_51 : decode cX7_flow 51 = .ok (.getfield 165, 3) := by decide +kernel
theorem dX7_flow_54 : decode cX7_flow 54 = .ok (.invokevirtual 168, 3) := by decide +kernel
theorem dX7_flow_57 : decode cX7_flow 57 = .ok (.aload_n 0, 1) := by decide +kernel
theorem dX7_flow_58 : decode cX7_flow 58 = .ok (.getfield 28, 3) := by decide +kernel
theorem dX7_flow_61 : decode cX7_flow 61 = .ok (.sipush 400, 3) := by decide +kernel
theorem dX7_flow_64 : decode cX7_flow 64 = .ok (.invokevirtual 133, 3) := by decide +kernel
theorem dX7_flow_67 : decode cX7_flow 67 = .ok (.pop, 1) := by decide +kernel
theorem dX7_flow_68 : decode cX7_flow 68 = .ok (.iinc 3 1, 3) := by decide +kernel
theorem dX7_flow_71 : decode cX7_flow 71 = .ok (.goto (-48), 3) := by decide +kernel
theorem dX7_flow_74 : decode cX7_flow 74 = .ok (.aload_n 0, 1) := by decide +kernel
theorem dX7_flow_75 : decode cX7_flow 75 = .ok (.getfield 35, 3) := by decide +kernel
theorem dX7_flow_78 : decode cX7_flow 78 = .ok (.getfield 171, 3) := by decide +kernel
theorem dX7_flow_81 : decode cX7_flow 81 = .ok (.iload_n 2, 1) := by decide +kernel
theorem dX7_flow_82 : decode cX7_flow 82 = .ok (.isub, 1) := by decide +kernel
theorem dX7_flow_83 : decode cX7_flow 83 = .ok (.ireturn, 1) := by decide +kernel
set_option maxRecDepth 20000 in
theorem ggX7_whole_X5_diskIsWhole : GoodIn wsX7_whole wsX5_diskIsWhole := goodIn_r _ [6, 7, 8, 9, 10, 11, 12, 13, 14, 15, 16, 17, 18, 19, 20, 21, 22, 23, 24, 30, 31, 32, 33, 34, 35, 36, 37, 38, 39, 40, 41, 42, 43, 44, 45, 46, 47, 48] (by decide +kernel) (by decide +kernel)
set_option maxRecDepth 20000 in
theorem gX7_whole_X5_diskIsWhole : GoodIn wsX7_whole (wsV RX7 177 RX5 yX5_diskIsWhole wsX5_diskIsWhole) := goodIn_app (goodIn_of _ (by decide +kernel)) ggX7_whole_X5_diskIsWhole
theorem dX7_whole_0 : decode cX7_whole 0 = .ok (.aload_n 0, 1) := by decide +kernel
theorem dX7_whole_1 : decode cX7_whole 1 = .ok (.getfield 35, 3) := by decide +kernel
theorem dX7_whole_4 : decode cX7_whole 4 = .ok (.invokevirtual 177, 3) := by decide +kernel
theorem dX7_whole_7 : decode cX7_whole 7 = .ok (.ifCond .eq 7, 3) := by decide +kernel
theorem dX7_whole_10 : decode cX7_whole 10 = .ok (.iconst 1, 1) := by decide +kernel
theorem dX7_whole_11 : decode cX7_whole 11 = .ok (.goto 4, 3) := by decide +kernel
theorem dX7_whole_14 : decode cX7_whole 14 = .ok (.iconst 0, 1) := by decide +kernel
theorem dX7_whole_15 : decode cX7_whole 15 = .ok (.ireturn, 1) := by decide +kernel
set_option maxRecDepth 20000 in
theorem ggX7_prefix_X6_isAsFlushed : GoodIn wsX7_prefix wsX6_isAsFlushed := goodIn_r _ [7, 8, 9, 10, 11, 12, 13, 14, 15, 16, 17, 18, 19, 32, 33, 34, 35, 36, 37, 38, 39, 40, 41, 42, 43] (by decide +kernel) (by decide +kernel)
set_option maxRecDepth 20000 in
theorem gX7_prefix_X6_isAsFlushed : GoodIn wsX7_prefix (wsV RX7 181 RX6 yX6_isAsFlushed wsX6_isAsFlushed) := goodIn_app (goodIn_of _ (by decide +kernel)) ggX7_prefix_X6_isAsFlushed
theorem dX7_prefix_0 : decode cX7_prefix 0 = .ok (.iload_n 1, 1) := by decide +kernel
theorem dX7_prefix_1 : decode cX7_prefix 1 = .ok (.ifCond .lt 8, 3) := by decide +kernel
theorem dX7_prefix_4 : decode cX7_prefix 4 = .ok (.iload_n 1, 1) := by decide +kernel
theorem dX7_prefix_5 : decode cX7_prefix 5 = .ok (.iconst 1, 1) := by decide +kernel
theorem dX7_prefix_6 : decode cX7_prefix 6 = .ok (.if_icmp .le 5, 3) := by decide +kernel
theorem dX7_prefix_9 : decode cX7_prefix 9 = .ok (.iconst (-1), 1) := by decide +kernel
theorem dX7_prefix_10 : decode cX7_prefix 10 = .ok (.ireturn, 1) := by decide +kernel
theorem dX7_prefix_11 : decode cX7_prefix 11 = .ok (.iload_n 1, 1) := by decide +kernel
theorem dX7_prefix_12 : decode cX7_prefix 12 = .ok (.ifCond .ne 13, 3) := by decide +kernel
theorem dX7_prefix_15 : decode cX7_prefix 15 = .ok (.aload_n 0, 1) := by decide +kernel
theorem dX7_prefix_16 : decode cX7_prefix 16 = .ok (.getfield 35, 3) := by decide +kernel
theorem dX7_prefix_19 : decode cX7_prefix 19 = .ok (.getfield 95, 3) := by decide +kernel
theorem dX7_prefix_22 : decode cX7_prefix 22 = .ok (.goto 10, 3) := by decide +kernel
theorem dX7_prefix_25 : decode cX7_prefix 25 = .ok (.aload_n 0, 1) := by decide +kernel
theorem dX7_prefix_26 : decode cX7_prefix 26 = .ok (.getfield 35, 3) := by decide +kernel
theorem dX7_prefix_29 : decode cX7_prefix 29 = .ok (.getfield 105, 3) := by decide +kernel
theorem dX7_prefix_32 : decode cX7_prefix 32 = .ok (.astore_n 2, 1) := by decide +kernel
theorem dX7_prefix_33 : decode cX7_prefix 33 = .ok (.aload_n 2, 1) := by decide +kernel
theorem dX7_prefix_34 : decode cX7_prefix 34 = .ok (.aload_n 0, 1) := by decide +kernel
theorem dX7_prefix_35 : decode cX7_prefix 35 = .ok (.getfield 10, 3) := by decide +kernel
theorem dX7_prefix_38 : decode cX7_prefix 38 = .ok (.invokevirtual 181, 3) := by decide +kernel
theorem dX7_prefix_41 : decode cX7_prefix 41 = .ok (.ifCond .eq 7, 3) := by decide +kernel
theorem dX7_prefix_44 : decode cX7_prefix 44 = .ok (.iconst 1, 1) := by decide +kernel
theorem dX7_prefix_45 : decode cX7_prefix 45 = .ok (.goto 4, 3) := by decide +kernel
theorem dX7_prefix_48 : decode cX7_prefix 48 = .ok (.iconst 0, 1) := by decide +kernel
theorem dX7_prefix_49 : decode cX7_prefix 49 = .ok (.ireturn, 1) := by decide +kernel
set_option maxRecDepth 20000 in
theorem ggX7_count_X4_openTransactions : GoodIn wsX7_count wsX4_openTransactions := goodIn_r _ [10, 11, 45, 46, 47, 48, 49, 50] (by decide +kernel) (by decide +kernel)
set_option maxRecDepth 20000 in
theorem gX7_count_X4_openTransactions : GoodIn wsX7_count (wsV RX7 185 RX4 yX4_openTransactions wsX4_openTransactions) := goodIn_app (goodIn_of _ (by decide +kernel)) ggX7_count_X4_openTransactions
set_option maxRecDepth 20000 in
theorem ggX7_count_X2_lettersUnderWay : GoodIn wsX7_count wsX2_lettersUnderWay := goodIn_r _ [16, 17, 27, 28, 29, 30, 31, 32, 40, 41] (by decide +kernel) (by decide +kernel)
set_option maxRecDepth 20000 in
theorem gX7_count_X2_lettersUnderWay : GoodIn wsX7_count (wsV RX7 200 RX2 yX2_lettersUnderWay wsX2_lettersUnderWay) := goodIn_app (goodIn_of _ (by decide +kernel)) ggX7_count_X2_lettersUnderWay
theorem dX7_count_0 : decode cX7_count 0 = .ok (.iload_n 1, 1) := by decide +kernel
theorem dX7_count_1 : decode cX7_count 1 = .ok (.tableswitch 194 0 13 #[71, 79, 87, 95, 103, 111, 119, 127, 135, 143, 151, 162, 178, 183], 71) := by decide +kernel
theorem dX7_count_72 : decode cX7_count 72 = .ok (.aload_n 0, 1) := by decide +kernel
theorem dX7_count_73 : decode cX7_count 73 = .ok (.getfield 21, 3) := by decide +kernel
theorem dX7_count_76 : decode cX7_count 76 = .ok (.invokevirtual 185, 3) := by decide +kernel
theorem dX7_count_79 : decode cX7_count 79 = .ok (.ireturn, 1) := by decide +kernel
theorem dX7_count_80 : decode cX7_count 80 = .ok (.aload_n 0, 1) := by decide +kernel
theorem dX7_count_81 : decode cX7_count 81 = .ok (.getfield 10, 3) := by decide +kernel
theorem dX7_count_84 : decode cX7_count 84 = .ok (.getfield 188, 3) := by decide +kernel
theorem dX7_count_87 : decode cX7_count 87 = .ok (.ireturn, 1) := by decide +kernel
theorem dX7_count_88 : decode cX7_count 88 = .ok (.aload_n 0, 1) := by decide +kernel
theorem dX7_count_89 : decode cX7_count 89 = .ok (.getfield 10, 3) := by decide +kernel
