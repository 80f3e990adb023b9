theorem dX0_init_5 : decode cX0_init 5 = .ok (.iload_n 1, 1) := by decide +kernel
theorem dX0_init_6 : decode cX0_init 6 = .ok (.putfield 7, 3) := by decide +kernel
theorem dX0_init_9 : decode cX0_init 9 = .ok (.aload_n 0, 1) := by decide +kernel
theorem dX0_init_10 : decode cX0_init 10 = .ok (.iload_n 2, 1) := by decide +kernel
theorem dX0_init_11 : decode cX0_init 11 = .ok (.putfield 13, 3) := by decide +kernel
theorem dX0_init_14 : decode cX0_init 14 = .ok (.aload_n 0, 1) := by decide +kernel
theorem dX0_init_15 : decode cX0_init 15 = .ok (.iload_n 3, 1) := by decide +kernel
theorem dX0_init_16 : decode cX0_init 16 = .ok (.putfield 16, 3) := by decide +kernel
theorem dX0_init_19 : decode cX0_init 19 = .ok (.aload_n 0, 1) := by decide +kernel
theorem dX0_init_20 : decode cX0_init 20 = .ok (.iload 4, 2) := by decide +kernel
theorem dX0_init_22 : decode cX0_init 22 = .ok (.putfield 19, 3) := by decide +kernel
theorem dX0_init_25 : decode cX0_init 25 = .ok (.aload_n 0, 1) := by decide +kernel
theorem dX0_init_26 : decode cX0_init 26 = .ok (.iload 5, 2) := by decide +kernel
theorem dX0_init_28 : decode cX0_init 28 = .ok (.putfield 22, 3) := by decide +kernel
theorem dX0_init_31 : decode cX0_init 31 = .ok (.return_, 1) := by decide +kernel
theorem dX1_init_0 : decode cX1_init 0 = .ok (.aload_n 0, 1) := by decide +kernel
theorem dX1_init_1 : decode cX1_init 1 = .ok (.invokespecial 3, 3) := by decide +kernel
theorem dX1_init_4 : decode cX1_init 4 = .ok (.aload_n 0, 1) := by decide +kernel
theorem dX1_init_5 : decode cX1_init 5 = .ok (.sipush 400, 3) := by decide +kernel
theorem dX1_init_8 : decode cX1_init 8 = .ok (.anewarray 9, 3) := by decide +kernel
theorem dX1_init_11 : decode cX1_init 11 = .ok (.putfield 11, 3) := by decide +kernel
theorem dX1_init_14 : decode cX1_init 14 = .ok (.return_, 1) := by decide +kernel
theorem dX1_hasRoomFor_0 : decode cX1_hasRoomFor 0 = .ok (.iload_n 1, 1) := by decide +kernel
theorem dX1_hasRoomFor_1 : decode cX1_hasRoomFor 1 = .ok (.sipush 400, 3) := by decide +kernel
theorem dX1_hasRoomFor_4 : decode cX1_hasRoomFor 4 = .ok (.aload_n 0, 1) := by decide +kernel
theorem dX1_hasRoomFor_5 : decode cX1_hasRoomFor 5 = .ok (.getfield 17, 3) := by decide +kernel
theorem dX1_hasRoomFor_8 : decode cX1_hasRoomFor 8 = .ok (.isub, 1) := by decide +kernel
theorem dX1_hasRoomFor_9 : decode cX1_hasRoomFor 9 = .ok (.if_icmp .gt 7, 3) := by decide +kernel
theorem dX1_hasRoomFor_12 : decode cX1_hasRoomFor 12 = .ok (.iconst 1, 1) := by decide +kernel
theorem dX1_hasRoomFor_13 : decode cX1_hasRoomFor 13 = .ok (.goto 4, 3) := by decide +kernel
theorem dX1_hasRoomFor_16 : decode cX1_hasRoomFor 16 = .ok (.iconst 0, 1) := by decide +kernel
theorem dX1_hasRoomFor_17 : decode cX1_hasRoomFor 17 = .ok (.ireturn, 1) := by decide +kernel
set_option maxRecDepth 20000 in
theorem ggX1_append_X0_init : GoodIn wsX1_append wsX0_init := goodIn_r _ [8, 9, 10, 11, 12, 13, 14, 15, 16, 21, 22, 23, 24, 25] (by decide +kernel) (by decide +kernel)
set_option maxRecDepth 20000 in
theorem gX1_append_X0_init : GoodIn wsX1_append (wsX0_init) := ggX1_append_X0_init
theorem dX1_append_0 : decode cX1_append 0 = .ok (.aload_n 0, 1) := by decide +kernel
theorem dX1_append_1 : decode cX1_append 1 = .ok (.getfield 17, 3) := by decide +kernel
theorem dX1_append_4 : decode cX1_append 4 = .ok (.sipush 400, 3) := by decide +kernel
theorem dX1_append_7 : decode cX1_append 7 = .ok (.if_icmp .ge 38, 3) := by decide +kernel
theorem dX1_append_10 : decode cX1_append 10 = .ok (.aload_n 0, 1) := by decide +kernel
theorem dX1_append_11 : decode cX1_append 11 = .ok (.getfield 11, 3) := by decide +kernel
theorem dX1_append_14 : decode cX1_append 14 = .ok (.aload_n 0, 1) := by decide +kernel
theorem dX1_append_15 : decode cX1_append 15 = .ok (.getfield 17, 3) := by decide +kernel
theorem dX1_append_18 : decode cX1_append 18 = .ok (.new 9, 3) := by decide +kernel
theorem dX1_append_21 : decode cX1_append 21 = .ok (.dup, 1) := by decide +kernel
theorem dX1_append_22 : decode cX1_append 22 = .ok (.aload_n 0, 1) := by decide +kernel
theorem dX1_append_23 : decode cX1_append 23 = .ok (.getfield 17, 3) := by decide +kernel
theorem dX1_append_26 : decode cX1_append 26 = .ok (.iload_n 1, 1) := by decide +kernel
theorem dX1_append_27 : decode cX1_append 27 = .ok (.iload_n 2, 1) := by decide +kernel
theorem dX1_append_28 : decode cX1_append 28 = .ok (.iload_n 3, 1) := by decide +kernel
theorem dX1_append_29 : decode cX1_append 29 = .ok (.iload 4, 2) := by decide +kernel
theorem dX1_append_31 : decode cX1_append 31 = .ok (.invokespecial 21, 3) := by decide +kernel
theorem dX1_append_34 : decode cX1_append 34 = .ok (.aastore, 1) := by decide +kernel
theorem dX1_append_35 : decode cX1_append 35 = .ok (.aload_n 0, 1) := by decide +kernel
theorem dX1_append_36 : decode cX1_append 36 = .ok (.dup, 1) := by decide +kernel
theorem dX1_append_37 : decode cX1_append 37 = .ok (.getfield 17, 3) := by decide +kernel
theorem dX1_append_40 : decode cX1_append 40 = .ok (.iconst 1, 1) := by decide +kernel
theorem dX1_append_41 : decode cX1_append 41 = .ok (.iadd, 1) := by decide +kernel
theorem dX1_append_42 : decode cX1_append 42 = .ok (.putfield 17, 3) := by decide +kernel
theorem dX1_append_45 : decode cX1_append 45 = .ok (.return_, 1) := by decide +kernel
theorem dX1_at_0 : decode cX1_at 0 = .ok (.iload_n 1, 1) := by decide +kernel
theorem dX1_at_1 : decode cX1_at 1 = .ok (.ifCond .lt 20, 3) := by decide +kernel
theorem dX1_at_4 : decode cX1_at 4 = .ok (.iload_n 1, 1) := by decide +kernel
theorem dX1_at_5 : decode cX1_at 5 = .ok (.aload_n 0, 1) := by decide +kernel
theorem dX1_at_6 : decode cX1_at 6 = .ok (.getfield 17, 3) := by decide +kernel
theorem dX1_at_9 : decode cX1_at 9 = .ok (.if_icmp .ge 12, 3) := by decide +kernel
theorem dX1_at_12 : decode cX1_at 12 = .ok (.aload_n 0, 1) := by decide +kernel
theorem dX1_at_13 : decode cX1_at 13 = .ok (.getfield 11, 3) := by decide +kernel
theorem dX1_at_16 : decode cX1_at 16 = .ok (.iload_n 1, 1) := by decide +kernel
theorem dX1_at_17 : decode cX1_at 17 = .ok (.aaload, 1) := by decide +kernel
theorem dX1_at_18 : decode cX1_at 18 = .ok (.goto 4, 3) := by decide +kernel
theorem dX1_at_21 : decode cX1_at 21 = .ok (.aconst_null, 1) := by decide +kernel
theorem dX1_at_22 : decode cX1_at 22 = .ok (.areturn, 1) := by decide +kernel
theorem dX1_flushedAt_0 : decode cX1_flushedAt 0 = .ok (.iload_n 1, 1) := by decide +kernel
theorem dX1_flushedAt_1 : decode cX1_flushedAt 1 = .ok (.ifCond .lt 20, 3) := by decide +kernel
theorem dX1_flushedAt_4 : decode cX1_flushedAt 4 = .ok (.iload_n 1, 1) := by decide +kernel
theorem dX1_flushedAt_5 : decode cX1_flushedAt 5 = .ok (.aload_n 0, 1) := by decide +kernel
theorem dX1_flushedAt_6 : decode cX1_flushedAt 6 = .ok (.getfield 24, 3) := by decide +kernel
theorem dX1_flushedAt_9 : decode cX1_flushedAt 9 = .ok (.if_icmp .ge 12, 3) := by decide +kernel
theorem dX1_flushedAt_12 : decode cX1_flushedAt 12 = .ok (.aload_n 0, 1) := by decide +kernel
theorem dX1_flushedAt_13 : decode cX1_flushedAt 13 = .ok (.getfield 11, 3) := by decide +kernel
theorem dX1_flushedAt_16 : decode cX1_flushedAt 16 = .ok (.iload_n 1, 1) := by decide +kernel
theorem dX1_flushedAt_17 : decode cX1_flushedAt 17 = .ok (.aaload, 1) := by decide +kernel
theorem dX1_flushedAt_18 : decode cX1_flushedAt 18 = .ok (.goto 4, 3) := by decide +kernel
theorem dX1_flushedAt_21 : decode cX1_flushedAt 21 = .ok (.aconst_null, 1) := by decide +kernel
theorem dX1_flushedAt_22 : decode cX1_flushedAt 22 = .ok (.areturn, 1) := by decide +kernel
theorem dX1_isFlushed_0 : decode cX1_isFlushed 0 = .ok (.iload_n 1, 1) := by decide +kernel
theorem dX1_isFlushed_1 : decode cX1_isFlushed 1 = .ok (.aload_n 0, 1) := by decide +kernel
theorem dX1_isFlushed_2 : decode cX1_isFlushed 2 = .ok (.getfield 24, 3) := by decide +kernel
theorem dX1_isFlushed_5 : decode cX1_isFlushed 5 = .ok (.if_icmp .ge 7, 3) := by decide +kernel
theorem dX1_isFlushed_8 : decode cX1_isFlushed 8 = .ok (.iconst 1, 1) := by decide +kernel
theorem dX1_isFlushed_9 : decode cX1_isFlushed 9 = .ok (.goto 4, 3) := by decide +kernel
theorem dX1_isFlushed_12 : decode cX1_isFlushed 12 = .ok (.iconst 0, 1) := by decide +kernel
theorem dX1_isFlushed_13 : decode cX1_isFlushed 13 = .ok (.ireturn, 1) := by decide +kernel
theorem dX1_isCut_0 : decode cX1_isCut 0 = .ok (.iload_n 1, 1) := by decide +kernel
theorem dX1_isCut_1 : decode cX1_isCut 1 = .ok (.aload_n 0, 1) := by decide +kernel
theorem dX1_isCut_2 : decode cX1_isCut 2 = .ok (.getfield 27, 3) := by decide +kernel
theorem dX1_isCut_5 : decode cX1_isCut 5 = .ok (.if_icmp .ge 7, 3) := by decide +kernel
theorem dX1_isCut_8 : decode cX1_isCut 8 = .ok (.iconst 1, 1) := by decide +kernel
theorem dX1_isCut_9 : decode cX1_isCut 9 = .ok (.goto 4, 3) := by decide +kernel
theorem dX1_isCut_12 : decode cX1_isCut 12 = .ok (.iconst 0, 1) := by decide +kernel
theorem dX1_isCut_13 : decode cX1_isCut 13 = .ok (.ireturn, 1) := by decide +kernel
theorem dX1_dropUnflushed_0 : decode cX1_dropUnflushed 0 = .ok (.aload_n 0, 1) := by decide +kernel
theorem dX1_dropUnflushed_1 : decode cX1_dropUnflushed 1 = .ok (.getfield 17, 3) := by decide +kernel
theorem dX1_dropUnflushed_4 : decode cX1_dropUnflushed 4 = .ok (.aload_n 0, 1) := by decide +kernel
theorem dX1_dropUnflushed_5 : decode cX1_dropUnflushed 5 = .ok (.getfield 24, 3) := by decide +kernel
theorem dX1_dropUnflushed_8 : decode cX1_dropUnflushed 8 = .ok (.isub, 1) := by decide +kernel
theorem dX1_dropUnflushed_9 : decode cX1_dropUnflushed 9 = .ok (.istore_n 1, 1) := by decide +kernel
theorem dX1_dropUnflushed_10 : decode cX1_dropUnflushed 10 = .ok (.aload_n 0, 1) := by decide +kernel
theorem dX1_dropUnflushed_11 : decode cX1_dropUnflushed 11 = .ok (.aload_n 0, 1) := by decide +kernel
theorem dX1_dropUnflushed_12 : decode cX1_dropUnflushed 12 = .ok (.getfield 24, 3) := by decide +kernel
theorem dX1_dropUnflushed_15 : decode cX1_dropUnflushed 15 = .ok (.putfield 17, 3) := by decide +kernel
theorem dX1_dropUnflushed_18 : decode cX1_dropUnflushed 18 = .ok (.iload_n 1, 1) := by decide +kernel
theorem dX1_dropUnflushed_19 : decode cX1_dropUnflushed 19 = .ok (.ireturn, 1) := by decide +kernel
theorem dX1_cutUpTo_0 : decode cX1_cutUpTo 0 = .ok (.iload_n 1, 1) := by decide +kernel
theorem dX1_cutUpTo_1 : decode cX1_cutUpTo 1 = .ok (.aload_n 0, 1) := by decide +kernel
theorem dX1_cutUpTo_2 : decode cX1_cutUpTo 2 = .ok (.getfield 27, 3) := by decide +kernel
theorem dX1_cutUpTo_5 : decode cX1_cutUpTo 5 = .ok (.isub, 1) := by decide +kernel
theorem dX1_cutUpTo_6 : decode cX1_cutUpTo 6 = .ok (.istore_n 2, 1) := by decide +kernel
theorem dX1_cutUpTo_7 : decode cX1_cutUpTo 7 = .ok (.aload_n 0, 1) := by decide +kernel
theorem dX1_cutUpTo_8 : decode cX1_cutUpTo 8 = .ok (.iload_n 1, 1) := by decide +kernel
theorem dX1_cutUpTo_9 : decode cX1_cutUpTo 9 = .ok (.putfield 27, 3) := by decide +kernel
theorem dX1_cutUpTo_12 : decode cX1_cutUpTo 12 = .ok (.iload_n 2, 1) := by decide +kernel
theorem dX1_cutUpTo_13 : decode cX1_cutUpTo 13 = .ok (.ireturn, 1) := by decide +kernel
set_option maxRecDepth 20000 in
theorem ggX2_init_X3_init : GoodIn wsX2_init wsX3_init := goodIn_r _ [11, 12, 2, 3, 13, 14, 15, 16, 17, 18, 25, 26] (by decide +kernel) (by decide +kernel)
set_option maxRecDepth 20000 in
theorem gX2_init_X3_init : GoodIn wsX2_init (wsX3_init) := ggX2_init_X3_init
theorem dX2_init_0 : decode cX2_init 0 = .ok (.aload_n 0, 1) := by decide +kernel
theorem dX2_init_1 : decode cX2_init 1 = .ok (.invokespecial 3, 3) := by decide +kernel
theorem dX2_init_4 : decode cX2_init 4 = .ok (.aload_n 0, 1) := by decide +kernel
theorem dX2_init_5 : decode cX2_init 5 = .ok (.iconst 3, 1) := by decide +kernel
theorem dX2_init_6 : decode cX2_init 6 = .ok (.anewarray 9, 3) := by decide +kernel
theorem dX2_init_9 : decode cX2_init 9 = .ok (.putfield 11, 3) := by decide +kernel
theorem dX2_init_12 : decode cX2_init 12 = .ok (.aload_n 0, 1) := by decide +kernel
theorem dX2_init_13 : decode cX2_init 13 = .ok (.aload_n 1, 1) := by decide +kernel
theorem dX2_init_14 : decode cX2_init 14 = .ok (.putfield 17, 3) := by decide +kernel
theorem dX2_init_17 : decode cX2_init 17 = .ok (.iconst 0, 1) := by decide +kernel
theorem dX2_init_18 : decode cX2_init 18 = .ok (.istore_n 2, 1) := by decide +kernel
theorem dX2_init_19 : decode cX2_init 19 = .ok (.iload_n 2, 1) := by decide +kernel
theorem dX2_init_20 : decode cX2_init 20 = .ok (.iconst 3, 1) := by decide +kernel
theorem dX2_init_21 : decode cX2_init 21 = .ok (.if_icmp .ge 24, 3) := by decide +kernel
theorem dX2_init_24 : decode cX2_init 24 = .ok (.aload_n 0, 1) := by decide +kernel
theorem dX2_init_25 : decode cX2_init 25 = .ok (.getfield 11, 3) := by decide +kernel
theorem dX2_init_28 : decode cX2_init 28 = .ok (.iload_n 2, 1) := by decide +kernel
theorem dX2_init_29 : decode cX2_init 29 = .ok (.new 9, 3) := by decide +kernel
theorem dX2_init_32 : decode cX2_init 32 = .ok (.dup, 1) := by decide +kernel
theorem dX2_init_33 : decode cX2_init 33 = .ok (.bipush 40, 2) := by decide +kernel
theorem dX2_init_35 : decode cX2_init 35 = .ok (.invokespecial 21, 3) := by decide +kernel
theorem dX2_init_38 : decode cX2_init 38 = .ok (.aastore, 1) := by decide +kernel
theorem dX2_init_39 : decode cX2_init 39 = .ok (.iinc 2 1, 3) := by decide +kernel
theorem dX2_init_42 : decode cX2_init 42 = .ok (.goto (-23), 3) := by decide +kernel
theorem dX2_init_45 : decode cX2_init 45 = .ok (.return_, 1) := by decide +kernel
set_option maxRecDepth 20000 in
theorem ggX2_readOn_X2_readOne : GoodIn wsX2_readOn wsX2_readOne := goodIn_r _ [5, 6, 7, 8, 9, 10, 11, 12, 13, 14, 15, 16, 17, 18, 19, 20, 21, 22, 23, 24, 25, 26, 27, 28, 29, 30, 31, 32, 33, 34, 35, 36, 37, 38, 39, 40, 41, 42, 43, 44, 45] (by decide +kernel) (by decide +kernel)
set_option maxRecDepth 20000 in
theorem gX2_readOn_X2_readOne : GoodIn wsX2_readOn (wsV RX2 24 RX2 yX2_readOne wsX2_readOne) := goodIn_app (goodIn_of _ (by decide +kernel)) ggX2_readOn_X2_readOne
theorem dX2_readOn_0 : decode cX2_readOn 0 = .ok (.iconst 0, 1) := by decide +kernel
theorem dX2_readOn_1 : decode cX2_readOn 1 = .ok (.istore_n 2, 1) := by decide +kernel
theorem dX2_readOn_2 : decode cX2_readOn 2 = .ok (.iload_n 2, 1) := by decide +kernel
theorem dX2_readOn_3 : decode cX2_readOn 3 = .ok (.iload_n 1, 1) := by decide +kernel
theorem dX2_readOn_4 : decode cX2_readOn 4 = .ok (.if_icmp .ge 16, 3) := by decide +kernel
theorem dX2_readOn_7 : decode cX2_readOn 7 = .ok (.aload_n 0, 1) := by decide +kernel
theorem dX2_readOn_8 : decode cX2_readOn 8 = .ok (.invokevirtual 24, 3) := by decide +kernel
theorem dX2_readOn_11 : decode cX2_readOn 11 = .ok (.ifCond .eq 9, 3) := by decide +kernel
theorem dX2_readOn_14 : decode cX2_readOn 14 = .ok (.iinc 2 1, 3) := by decide +kernel
theorem dX2_readOn_17 : decode cX2_readOn 17 = .ok (.goto (-15), 3) := by decide +kernel
theorem dX2_readOn_20 : decode cX2_readOn 20 = .ok (.iload_n 2, 1) := by decide +kernel
theorem dX2_readOn_21 : decode cX2_readOn 21 = .ok (.ireturn, 1) := by decide +kernel
set_option maxRecDepth 20000 in
theorem ggX2_readOne_X1_flushedAt : GoodIn wsX2_readOne wsX1_flushedAt := goodIn_r _ [10, 11, 12, 35, 36, 37, 38] (by decide +kernel) (by decide +kernel)
set_option maxRecDepth 20000 in
theorem gX2_readOne_X1_flushedAt : GoodIn wsX2_readOne (wsV RX2 32 RX1 yX1_flushedAt wsX1_flushedAt) := goodIn_app (goodIn_of _ (by decide +kernel)) ggX2_readOne_X1_flushedAt
set_option maxRecDepth 20000 in
theorem ggX2_readOne_X3_isFull : GoodIn wsX2_readOne wsX3_isFull := goodIn_r _ [17, 18, 19, 39, 40] (by decide +kernel) (by decide +kernel)
set_option maxRecDepth 20000 in
theorem gX2_readOne_X3_isFull : GoodIn wsX2_readOne (wsV RX2 43 RX3 yX3_isFull wsX3_isFull) := goodIn_app (goodIn_of _ (by decide +kernel)) ggX2_readOne_X3_isFull
set_option maxRecDepth 20000 in
theorem ggX2_readOne_X3_add : GoodIn wsX2_readOne wsX3_add := goodIn_r _ [23, 18, 19, 39, 40] (by decide +kernel) (by decide +kernel)
set_option maxRecDepth 20000 in
theorem gX2_readOne_X3_add : GoodIn wsX2_readOne (wsV RX2 46 RX3 yX3_add wsX3_add) := goodIn_app (goodIn_of _ (by decide +kernel)) ggX2_readOne_X3_add
theorem dX2_readOne_0 : decode cX2_readOne 0 = .ok (.aload_n 0, 1) := by decide +kernel
theorem dX2_readOne_1 : decode cX2_readOne 1 = .ok (.getfield 17, 3) := by decide +kernel
theorem dX2_readOne_4 : decode cX2_readOne 4 = .ok (.aload_n 0, 1) := by decide +kernel
theorem dX2_readOne_5 : decode cX2_readOne 5 = .ok (.getfield 28, 3) := by decide +kernel
theorem dX2_readOne_8 : decode cX2_readOne 8 = .ok (.invokevirtual 32, 3) := by decide +kernel
theorem dX2_readOne_11 : decode cX2_readOne 11 = .ok (.astore_n 1, 1) := by decide +kernel
theorem dX2_readOne_12 : decode cX2_readOne 12 = .ok (.aload_n 1, 1) := by decide +kernel
theorem dX2_readOne_13 : decode cX2_readOne 13 = .ok (.ifnonnull 5, 3) := by decide +kernel
theorem dX2_readOne_16 : decode cX2_readOne 16 = .ok (.iconst 0, 1) := by decide +kernel
theorem dX2_readOne_17 : decode cX2_readOne 17 = .ok (.ireturn, 1) := by decide +kernel
theorem dX2_readOne_18 : decode cX2_readOne 18 = .ok (.aload_n 0, 1) := by decide +kernel
theorem dX2_readOne_19 : decode cX2_readOne 19 = .ok (.getfield 11, 3) := by decide +kernel
theorem dX2_readOne_22 : decode cX2_readOne 22 = .ok (.aload_n 1, 1) := by decide +kernel
theorem dX2_readOne_23 : decode cX2_readOne 23 = .ok (.getfield 38, 3) := by decide +kernel
theorem dX2_readOne_26 : decode cX2_readOne 26 = .ok (.iconst 3, 1) := by decide +kernel
theorem dX2_readOne_27 : decode cX2_readOne 27 = .ok (.irem, 1) := by decide +kernel
theorem dX2_readOne_28 : decode cX2_readOne 28 = .ok (.aaload, 1) := by decide +kernel
theorem dX2_readOne_29 : decode cX2_readOne 29 = .ok (.astore_n 2, 1) := by decide +kernel
theorem dX2_readOne_30 : decode cX2_readOne 30 = .ok (.aload_n 2, 1) := by decide +kernel
theorem dX2_readOne_31 : decode cX2_readOne 31 = .ok (.invokevirtual 43, 3) := by decide +kernel
theorem dX2_readOne_34 : decode cX2_readOne 34 = .ok (.ifCond .eq 5, 3) := by decide +kernel
theorem dX2_readOne_37 : decode cX2_readOne 37 = .ok (.iconst 0, 1) := by decide +kernel
theorem dX2_readOne_38 : decode cX2_readOne 38 = .ok (.ireturn, 1) := by decide +kernel
theorem dX2_readOne_39 : decode cX2_readOne 39 = .ok (.aload_n 2, 1) := by decide +kernel
theorem dX2_readOne_40 : decode cX2_readOne 40 = .ok (.aload_n 1, 1) := by decide +kernel
theorem dX2_readOne_41 : decode cX2_readOne 41 = .ok (.invokevirtual 46, 3) := by decide +kernel
theorem dX2_readOne_44 : decode cX2_readOne 44 = .ok (.aload_n 0, 1) := by decide +kernel
theorem dX2_readOne_45 : decode cX2_readOne 45 = .ok (.dup, 1) := by decide +kernel
theorem dX2_readOne_46 : decode cX2_readOne 46 = .ok (.getfield 28, 3) := by decide +kernel
theorem dX2_readOne_49 : decode cX2_readOne 49 = .ok (.iconst 1, 1) := by decide +kernel
theorem dX2_readOne_50 : decode cX2_readOne 50 = .ok (.iadd, 1) := by decide +kernel
theorem dX2_readOne_51 : decode cX2_readOne 51 = .ok (.putfield 28, 3) := by decide +kernel
theorem dX2_readOne_54 : decode cX2_readOne 54 = .ok (.aload_n 0, 1) := by decide +kernel
theorem dX2_readOne_55 : decode cX2_readOne 55 = .ok (.dup, 1) := by decide +kernel
theorem dX2_readOne_56 : decode cX2_readOne 56 = .ok (.getfield 50, 3) := by decide +kernel
theorem dX2_readOne_59 : decode cX2_readOne 59 = .ok (.iconst 1, 1) := by decide +kernel
theorem dX2_readOne_60 : decode cX2_readOne 60 = .ok (.iadd, 1) := by decide +kernel
theorem dX2_readOne_61 : decode cX2_readOne 61 = .ok (.putfield 50, 3) := by decide +kernel
theorem dX2_readOne_64 : decode cX2_readOne 64 = .ok (.iconst 1, 1) := by decide +kernel
theorem dX2_readOne_65 : decode cX2_readOne 65 = .ok (.ireturn, 1) := by decide +kernel
set_option maxRecDepth 20000 in
theorem ggX2_letterAt_X7_isLane : GoodIn wsX2_letterAt wsX7_isLane := goodIn_r _ [4] (by decide +kernel) (by decide +kernel)
set_option maxRecDepth 20000 in
theorem gX2_letterAt_X7_isLane_n53 : GoodIn wsX2_letterAt (wsX7_isLane) := ggX2_letterAt_X7_isLane
set_option maxRecDepth 20000 in
theorem ggX2_letterAt_X3_at : GoodIn wsX2_letterAt wsX3_at := goodIn_r _ [9, 10, 11, 18, 19] (by decide +kernel) (by decide +kernel)
set_option maxRecDepth 20000 in
theorem gX2_letterAt_X3_at : GoodIn wsX2_letterAt (wsV RX2 57 RX3 yX3_at wsX3_at) := goodIn_app (goodIn_of _ (by decide +kernel)) ggX2_letterAt_X3_at
theorem dX2_letterAt_0 : decode cX2_letterAt 0 = .ok (.iload_n 1, 1) := by decide +kernel
theorem dX2_letterAt_1 : decode cX2_letterAt 1 = .ok (.invokestatic 53, 3) := by decide +kernel
theorem dX2_letterAt_4 : decode cX2_letterAt 4 = .ok (.ifCond .eq 16, 3) := by decide +kernel
theorem dX2_letterAt_7 : decode cX2_letterAt 7 = .ok (.aload_n 0, 1) := by decide +kernel
theorem dX2_letterAt_8 : decode cX2_letterAt 8 = .ok (.getfield 11, 3) := by decide +kernel
theorem dX2_letterAt_11 : decode cX2_letterAt 11 = .ok (.iload_n 1, 1) := by decide +kernel
theorem dX2_letterAt_12 : decode cX2_letterAt 12 = .ok (.aaload, 1) := by decide +kernel
theorem dX2_letterAt_13 : decode cX2_letterAt 13 = .ok (.iload_n 2, 1) := by decide +kernel
theorem dX2_letterAt_14 : decode cX2_letterAt 14 = .ok (.invokevirtual 57, 3) := by decide +kernel
theorem dX2_letterAt_17 : decode cX2_letterAt 17 = .ok (.goto 4, 3) := by decide +kernel
theorem dX2_letterAt_20 : decode cX2_letterAt 20 = .ok (.aconst_null, 1) := by decide +kernel
theorem dX2_letterAt_21 : decode cX2_letterAt 21 = .ok (.areturn, 1) := by decide +kernel
set_option maxRecDepth 20000 in
theorem ggX2_dropLetter_X7_isLane : GoodIn wsX2_dropLetter wsX7_isLane := goodIn_r _ [4] (by decide +kernel) (by decide +kernel)
set_option maxRecDepth 20000 in
theorem gX2_dropLetter_X7_isLane_n53 : GoodIn wsX2_dropLetter (wsX7_isLane) := ggX2_dropLetter_X7_isLane
set_option maxRecDepth 20000 in
theorem ggX2_dropLetter_X3_remove : GoodIn wsX2_dropLetter wsX3_remove := goodIn_r _ [9, 10, 11, 18, 19] (by decide +kernel) (by decide +kernel)
set_option maxRecDepth 20000 in
theorem gX2_dropLetter_X3_remove : GoodIn wsX2_dropLetter (wsV RX2 60 RX3 yX3_remove wsX3_remove) := goodIn_app (goodIn_of _ (by decide +kernel)) ggX2_dropLetter_X3_remove
theorem dX2_dropLetter_0 : decode cX2_dropLetter 0 = .ok (.iload_n 1, 1) := by decide +kernel
theorem dX2_dropLetter_1 : decode cX2_dropLetter 1 = .ok (.invokestatic 53, 3) := by decide +kernel
theorem dX2_dropLetter_4 : decode cX2_dropLetter 4 = .ok (.ifCond .eq 13, 3) := by decide +kernel
theorem dX2_dropLetter_7 : decode cX2_dropLetter 7 = .ok (.aload_n 0, 1) := by decide +kernel
theorem dX2_dropLetter_8 : decode cX2_dropLetter 8 = .ok (.getfield 11, 3) := by decide +kernel
theorem dX2_dropLetter_11 : decode cX2_dropLetter 11 = .ok (.iload_n 1, 1) := by decide +kernel
theorem dX2_dropLetter_12 : decode cX2_dropLetter 12 = .ok (.aaload, 1) := by decide +kernel
theorem dX2_dropLetter_13 : decode cX2_dropLetter 13 = .ok (.iload_n 2, 1) := by decide +kernel
theorem dX2_dropLetter_14 : decode cX2_dropLetter 14 = .ok (.invokevirtual 60, 3) := by decide +kernel
theorem dX2_dropLetter_17 : decode cX2_dropLetter 17 = .ok (.return_, 1) := by decide +kernel
theorem dX2_hear_0 : decode cX2_hear 0 = .ok (.aload_n 0, 1) := by decide +kernel
theorem dX2_hear_1 : decode cX2_hear 1 = .ok (.aload_n 0, 1) := by decide +kernel
theorem dX2_hear_2 : decode cX2_hear 2 = .ok (.getfield 63, 3) := by decide +kernel
theorem dX2_hear_5 : decode cX2_hear 5 = .ok (.iload_n 1, 1) := by decide +kernel
theorem dX2_hear_6 : decode cX2_hear 6 = .ok (.invokestatic 66, 3) := by decide +kernel
theorem dX2_hear_9 : decode cX2_hear 9 = .ok (.putfield 63, 3) := by decide +kernel
theorem dX2_hear_12 : decode cX2_hear 12 = .ok (.aload_n 0, 1) := by decide +kernel
theorem dX2_hear_13 : decode cX2_hear 13 = .ok (.aload_n 0, 1) := by decide +kernel
theorem dX2_hear_14 : decode cX2_hear 14 = .ok (.getfield 28, 3) := by decide +kernel
theorem dX2_hear_17 : decode cX2_hear 17 = .ok (.aload_n 0, 1) := by decide +kernel
theorem dX2_hear_18 : decode cX2_hear 18 = .ok (.getfield 63, 3) := by decide +kernel
theorem dX2_hear_21 : decode cX2_hear 21 = .ok (.invokestatic 66, 3) := by decide +kernel
theorem dX2_hear_24 : decode cX2_hear 24 = .ok (.putfield 28, 3) := by decide +kernel
theorem dX2_hear_27 : decode cX2_hear 27 = .ok (.return_, 1) := by decide +kernel
theorem dX2_restart_0 : decode cX2_restart 0 = .ok (.aload_n 0, 1) := by decide +kernel
theorem dX2_restart_1 : decode cX2_restart 1 = .ok (.getfield 28, 3) := by decide +kernel
theorem dX2_restart_4 : decode cX2_restart 4 = .ok (.aload_n 0, 1) := by decide +kernel
theorem dX2_restart_5 : decode cX2_restart 5 = .ok (.getfield 63, 3) := by decide +kernel
theorem dX2_restart_8 : decode cX2_restart 8 = .ok (.isub, 1) := by decide +kernel
theorem dX2_restart_9 : decode cX2_restart 9 = .ok (.istore_n 1, 1) := by decide +kernel
theorem dX2_restart_10 : decode cX2_restart 10 = .ok (.aload_n 0, 1) := by decide +kernel
theorem dX2_restart_11 : decode cX2_restart 11 = .ok (.aload_n 0, 1) := by decide +kernel
theorem dX2_restart_12 : decode cX2_restart 12 = .ok (.getfield 63, 3) := by decide +kernel
theorem dX2_restart_15 : decode cX2_restart 15 = .ok (.putfield 28, 3) := by decide +kernel
theorem dX2_restart_18 : decode cX2_restart 18 = .ok (.iload_n 1, 1) := by decide +kernel
theorem dX2_restart_19 : decode cX2_restart 19 = .ok (.ireturn, 1) := by decide +kernel
theorem dX2_lettersUnderWay_0 : decode cX2_lettersUnderWay 0 = .ok (.iconst 0, 1) := by decide +kernel
theorem dX2_lettersUnderWay_1 : decode cX2_lettersUnderWay 1 = .ok (.istore_n 1, 1) := by decide +kernel
theorem dX2_lettersUnderWay_2 : decode cX2_lettersUnderWay 2 = .ok (.iconst 0, 1) := by decide +kernel
theorem dX2_lettersUnderWay_3 : decode cX2_lettersUnderWay 3 = .ok (.istore_n 2, 1) := by decide +kernel
theorem dX2_lettersUnderWay_4 : decode cX2_lettersUnderWay 4 = .ok (.iload_n 2, 1) := by decide +kernel
theorem dX2_lettersUnderWay_5 : decode cX2_lettersUnderWay 5 = .ok (.iconst 3, 1) := by decide +kernel
theorem dX2_lettersUnderWay_6 : decode cX2_lettersUnderWay 6 = .ok (.if_icmp .ge 21, 3) := by decide +kernel
theorem dX2_lettersUnderWay_9 : decode cX2_lettersUnderWay 9 = .ok (.iload_n 1, 1) := by decide +kernel
theorem dX2_lettersUnderWay_10 : decode cX2_lettersUnderWay 10 = .ok (.aload_n 0, 1) := by decide +kernel
theorem dX2_lettersUnderWay_11 : decode cX2_lettersUnderWay 11 = .ok (.getfield 11, 3) := by decide +kernel
theorem dX2_lettersUnderWay_14 : decode cX2_lettersUnderWay 14 = .ok (.iload_n 2, 1) := by decide +kernel
theorem dX2_lettersUnderWay_15 : decode cX2_lettersUnderWay 15 = .ok (.aaload, 1) := by decide +kernel
theorem dX2_lettersUnderWay_16 : decode cX2_lettersUnderWay 16 = .ok (.getfield 72, 3) := by decide +kernel
theorem dX2_lettersUnderWay_19 : decode cX2_lettersUnderWay 19 = .ok (.iadd, 1) := by decide +kernel
theorem dX2_lettersUnderWay_20 : decode cX2_lettersUnderWay 20 = .ok (.istore_n 1, 1) := by decide +kernel
theorem dX2_lettersUnderWay_21 : decode cX2_lettersUnderWay 21 = .ok (.iinc 2 1, 3) := by decide +kernel
theorem dX2_lettersUnderWay_24 : decode cX2_lettersUnderWay 24 = .ok (.goto (-20), 3) := by decide +kernel
theorem dX2_lettersUnderWay_27 : decode cX2_lettersUnderWay 27 = .ok (.iload_n 1, 1) := by decide +kernel
theorem dX2_lettersUnderWay_28 : decode cX2_lettersUnderWay 28 = .ok (.ireturn, 1) := by decide +kernel
theorem dX3_init_0 : decode cX3_init 0 = .ok (.aload_n 0, 1) := by decide +kernel
theorem dX3_init_1 : decode cX3_init 1 = .ok (.invokespecial 3, 3) := by decide +kernel
theorem dX3_init_4 : decode cX3_init 4 = .ok (.aload_n 0, 1) := by decide +kernel
theorem dX3_init_5 : decode cX3_init 5 = .ok (.iload_n 1, 1) := by decide +kernel
theorem dX3_init_6 : decode cX3_init 6 = .ok (.iconst 0, 1) := by decide +kernel
theorem dX3_init_7 : decode cX3_init 7 = .ok (.invokestatic 9, 3) := by decide +kernel
theorem dX3_init_10 : decode cX3_init 10 = .ok (.anewarray 15, 3) := by decide +kernel
theorem dX3_init_13 : decode cX3_init 13 = .ok (.putfield 17, 3) := by decide +kernel
theorem dX3_init_16 : decode cX3_init 16 = .ok (.return_, 1) := by decide +kernel
theorem dX3_isFull_0 : decode cX3_isFull 0 = .ok (.aload_n 0, 1) := by decide +kernel
theorem dX3_isFull_1 : decode cX3_isFull 1 = .ok (.getfield 23, 3) := by decide +kernel
theorem dX3_isFull_4 : decode cX3_isFull 4 = .ok (.aload_n 0, 1) := by decide +kernel
theorem dX3_isFull_5 : decode cX3_isFull 5 = .ok (.getfield 17, 3) := by decide +kernel
theorem dX3_isFull_8 : decode cX3_isFull 8 = .ok (.arraylength, 1) := by decide +kernel
theorem dX3_isFull_9 : decode cX3_isFull 9 = .ok (.if_icmp .lt 7, 3) := by decide +kernel
theorem dX3_isFull_12 : decode cX3_isFull 12 = .ok (.iconst 1, 1) := by decide +kernel
theorem dX3_isFull_13 : decode cX3_isFull 13 = .ok (.goto 4, 3) := by decide +kernel
theorem dX3_isFull_16 : decode cX3_isFull 16 = .ok (.iconst 0, 1) := by decide +kernel
theorem dX3_isFull_17 : decode cX3_isFull 17 = .ok (.ireturn, 1) := by decide +kernel
theorem dX3_add_0 : decode cX3_add 0 = .ok (.aload_n 0, 1) := by decide +kernel
theorem dX3_add_1 : decode cX3_add 1 = .ok (.getfield 23, 3) := by decide +kernel
theorem dX3_add_4 : decode cX3_add 4 = .ok (.aload_n 0, 1) := by decide +kernel
theorem dX3_add_5 : decode cX3_add 5 = .ok (.getfield 17, 3) := by decide +kernel
theorem dX3_add_8 : decode cX3_add 8 = .ok (.arraylength, 1) := by decide +kernel
theorem dX3_add_9 : decode cX3_add 9 = .ok (.if_icmp .ge 23, 3) := by decide +kernel
theorem dX3_add_12 : decode cX3_add 12 = .ok (.aload_n 0, 1) := by decide +kernel
theorem dX3_add_13 : decode cX3_add 13 = .ok (.getfield 17, 3) := by decide +kernel
theorem dX3_add_16 : decode cX3_add 16 = .ok (.aload_n 0, 1) := by decide +kernel
theorem dX3_add_17 : decode cX3_add 17 = .ok (.getfield 23, 3) := by decide +kernel
theorem dX3_add_20 : decode cX3_add 20 = .ok (.aload_n 1, 1) := by decide +kernel
theorem dX3_add_21 : decode cX3_add 21 = .ok (.aastore, 1) := by decide +kernel
theorem dX3_add_22 : decode cX3_add 22 = .ok (.aload_n 0, 1) := by decide +kernel
theorem dX3_add_23 : decode cX3_add 23 = .ok (.dup, 1) := by decide +kernel
theorem dX3_add_24 : decode cX3_add 24 = .ok (.getfield 23, 3) := by decide +kernel
theorem dX3_add_27 : decode cX3_add 27 = .ok (.iconst 1, 1) := by decide +kernel
theorem dX3_add_28 : decode cX3_add 28 = .ok (.iadd, 1) := by decide +kernel
theorem dX3_add_29 : decode cX3_add 29 = .ok (.putfield 23, 3) := by decide +kernel
theorem dX3_add_32 : decode cX3_add 32 = .ok (.return_, 1) := by decide +kernel
theorem dX3_at_0 : decode cX3_at 0 = .ok (.iload_n 1, 1) := by decide +kernel
theorem dX3_at_1 : decode cX3_at 1 = .ok (.ifCond .lt 20, 3) := by decide +kernel
theorem dX3_at_4 : decode cX3_at 4 = .ok (.iload_n 1, 1) := by decide +kernel
theorem dX3_at_5 : decode cX3_at 5 = .ok (.aload_n 0, 1) := by decide +kernel
theorem dX3_at_6 : decode cX3_at 6 = .ok (.getfield 23, 3) := by decide +kernel
theorem dX3_at_9 : decode cX3_at 9 = .ok (.if_icmp .ge 12, 3) := by decide +kernel
theorem dX3_at_12 : decode cX3_at 12 = .ok (.aload_n 0, 1) := by decide +kernel
theorem dX3_at_13 : decode cX3_at 13 = .ok (.getfield 17, 3) := by decide +kernel
theorem dX3_at_16 : decode cX3_at 16 = .ok (.iload_n 1, 1) := by decide +kernel
theorem dX3_at_17 : decode cX3_at 17 = .ok (.aaload, 1) := by decide +kernel
theorem dX3_at_18 : decode cX3_at 18 = .ok (.goto 4, 3) := by decide +kernel
theorem dX3_at_21 : decode cX3_at 21 = .ok (.aconst_null, 1) := by decide +kernel
theorem dX3_at_22 : decode cX3_at 22 = .ok (.areturn, 1) := by decide +kernel
theorem dX3_remove_0 : decode cX3_remove 0 = .ok (.iload_n 1, 1) := by decide +kernel
theorem dX3_remove_1 : decode cX3_remove 1 = .ok (.ifCond .lt 11, 3) := by decide +kernel
theorem dX3_remove_4 : decode cX3_remove 4 = .ok (.iload_n 1, 1) := by decide +kernel
theorem dX3_remove_5 : decode cX3_remove 5 = .ok (.aload_n 0, 1) := by decide +kernel
theorem dX3_remove_6 : decode cX3_remove 6 = .ok (.getfield 23, 3) := by decide +kernel
theorem dX3_remove_9 : decode cX3_remove 9 = .ok (.if_icmp .lt 4, 3) := by decide +kernel
theorem dX3_remove_12 : decode cX3_remove 12 = .ok (.return_, 1) := by decide +kernel
theorem dX3_remove_13 : decode cX3_remove 13 = .ok (.iload_n 1, 1) := by decide +kernel
theorem dX3_remove_14 : decode cX3_remove 14 = .ok (.iconst 1, 1) := by decide +kernel
theorem dX3_remove_15 : decode cX3_remove 15 = .ok (.iadd, 1) := by decide +kernel
theorem dX3_remove_16 : decode cX3_remove 16 = .ok (.istore_n 2, 1) := by decide +kernel
theorem dX3_remove_17 : decode cX3_remove 17 = .ok (.iload_n 2, 1) := by decide +kernel
theorem dX3_remove_18 : decode cX3_remove 18 = .ok (.aload_n 0, 1) := by decide +kernel
theorem dX3_remove_19 : decode cX3_remove 19 = .ok (.getfield 23, 3) := by decide +kernel
theorem dX3_remove_22 : decode cX3_remove 22 = .ok (.if_icmp .ge 23, 3) := by decide +kernel
theorem dX3_remove_25 : decode cX3_remove 25 = .ok (.aload_n 0, 1) := by decide +kernel
theorem dX3_remove_26 : decode cX3_remove 26 = .ok (.getfield 17, 3) := by decide +kernel
theorem dX3_remove_29 : decode cX3_remove 29 = .ok (.iload_n 2, 1) := by decide +kernel
theorem dX3_remove_30 : decode cX3_remove 30 = .ok (.iconst 1, 1) := by decide +kernel
theorem dX3_remove_31 : decode cX3_remove 31 = .ok (.isub, 1) := by decide +kernel
theorem dX3_remove_32 : decode cX3_remove 32 = .ok (.aload_n 0, 1) := by decide +kernel
theorem dX3_remove_33 : decode cX3_remove 33 = .ok (.getfield 17, 3) := by decide +kernel
theorem dX3_remove_36 : decode cX3_remove 36 = .ok (.iload_n 2, 1) := by decide +kernel
theorem dX3_remove_37 : decode cX3_remove 37 = .ok (.aaload, 1) := by decide +kernel
theorem dX3_remove_38 : decode cX3_remove 38 = .ok (.aastore, 1) := by decide +kernel
theorem dX3_remove_39 : decode cX3_remove 39 = .ok (.iinc 2 1, 3) := by decide +kernel
theorem dX3_remove_42 : decode cX3_remove 42 = .ok (.goto (-25), 3) := by decide +kernel
theorem dX3_remove_45 : decode cX3_remove 45 = .ok (.aload_n 0, 1) := by decide +kernel
theorem dX3_remove_46 : decode cX3_remove 46 = .ok (.dup, 1) := by decide +kernel
theorem dX3_remove_47 : decode cX3_remove 47 = .ok (.getfield 23, 3) := by decide +kernel
theorem dX3_remove_50 : decode cX3_remove 50 = .ok (.iconst 1, 1) := by decide +kernel
theorem dX3_remove_51 : decode cX3_remove 51 = .ok (.isub, 1) := by decide +kernel
theorem dX3_remove_52 : decode cX3_remove 52 = .ok (.putfield 23, 3) := by decide +kernel
theorem dX3_remove_55 : decode cX3_remove 55 = .ok (.return_, 1) := by decide +kernel
theorem dX3_find_0 : decode cX3_find 0 = .ok (.iconst 0, 1) := by decide +kernel
theorem dX3_find_1 : decode cX3_find 1 = .ok (.istore_n 3, 1) := by decide +kernel
theorem dX3_find_2 : decode cX3_find 2 = .ok (.iload_n 3, 1) := by decide +kernel
theorem dX3_find_3 : decode cX3_find 3 = .ok (.aload_n 0, 1) := by decide +kernel
theorem dX3_find_4 : decode cX3_find 4 = .ok (.getfield 23, 3) := by decide +kernel
theorem dX3_find_7 : decode cX3_find 7 = .ok (.if_icmp .ge 42, 3) := by decide +kernel
theorem dX3_find_10 : decode cX3_find 10 = .ok (.aload_n 0, 1) := by decide +kernel
theorem dX3_find_11 : decode cX3_find 11 = .ok (.getfield 17, 3) := by decide +kernel
theorem dX3_find_14 : decode cX3_find 14 = .ok (.iload_n 3, 1) := by decide +kernel
theorem dX3_find_15 : decode cX3_find 15 = .ok (.aaload, 1) := by decide +kernel
theorem dX3_find_16 : decode cX3_find 16 = .ok (.astore 4, 2) := by decide +kernel
theorem dX3_find_18 : decode cX3_find 18 = .ok (.aload 4, 2) := by decide +kernel
theorem dX3_find_20 : decode cX3_find 20 = .ok (.ifnull 23, 3) := by decide +kernel
theorem dX3_find_23 : decode cX3_find 23 = .ok (.aload 4, 2) := by decide +kernel
theorem dX3_find_25 : decode cX3_find 25 = .ok (.getfield 27, 3) := by decide +kernel
theorem dX3_find_28 : decode cX3_find 28 = .ok (.iload_n 1, 1) := by decide +kernel
theorem dX3_find_29 : decode cX3_find 29 = .ok (.if_icmp .ne 14, 3) := by decide +kernel
theorem dX3_find_32 : decode cX3_find 32 = .ok (.aload 4, 2) := by decide +kernel
theorem dX3_find_34 : decode cX3_find 34 = .ok (.getfield 30, 3) := by decide +kernel
theorem dX3_find_37 : decode cX3_find 37 = .ok (.iload_n 2, 1) := by decide +kernel
theorem dX3_find_38 : decode cX3_find 38 = .ok (.if_icmp .ne 5, 3) := by decide +kernel
theorem dX3_find_41 : decode cX3_find 41 = .ok (.iload_n 3, 1) := by decide +kernel
theorem dX3_find_42 : decode cX3_find 42 = .ok (.ireturn, 1) := by decide +kernel
theorem dX3_find_43 : decode cX3_find 43 = .ok (.iinc 3 1, 3) := by decide +kernel
theorem dX3_find_46 : decode cX3_find 46 = .ok (.goto (-44), 3) := by decide +kernel
theorem dX3_find_49 : decode cX3_find 49 = .ok (.bipush (-9), 2) := by decide +kernel
theorem dX3_find_51 : decode cX3_find 51 = .ok (.ireturn, 1) := by decide +kernel
theorem dX3_clear_0 : decode cX3_clear 0 = .ok (.aload_n 0, 1) := by decide +kernel
theorem dX3_clear_1 : decode cX3_clear 1 = .ok (.iconst 0, 1) := by decide +kernel
theorem dX3_clear_2 : decode cX3_clear 2 = .ok (.putfield 23, 3) := by decide +kernel
theorem dX3_clear_5 : decode cX3_clear 5 = .ok (.return_, 1) := by decide +kernel
set_option maxRecDepth 20000 in
theorem ggX4_init_J7_fill_53178 : GoodIn wsX4_init wsJ7_fill_53178 := goodIn_r _ [15] (by decide +kernel) (by decide +kernel)
set_option maxRecDepth 20000 in
theorem gX4_init_J7_fill_53178 : GoodIn wsX4_init (va_wsS RX4 32 yJ7_fill_53178 wsJ7_fill_53178) := goodIn_app (goodIn_of _ (by decide +kernel)) ggX4_init_J7_fill_53178
theorem dX4_init_0 : decode cX4_init 0 = .ok (.aload_n 0, 1) := by decide +kernel
theorem dX4_init_1 : decode cX4_init 1 = .ok (.invokespecial 3, 3) := by decide +kernel
theorem dX4_init_4 : decode cX4_init 4 = .ok (.aload_n 0, 1) := by decide +kernel
theorem dX4_init_5 : decode cX4_init 5 = .ok (.bipush 6, 2) := by decide +kernel
theorem dX4_init_7 : decode cX4_init 7 = .ok (.newarray .int, 2) := by decide +kernel
theorem dX4_init_9 : decode cX4_init 9 = .ok (.putfield 9, 3) := by decide +kernel
theorem dX4_init_12 : decode cX4_init 12 = .ok (.aload_n 0, 1) := by decide +kernel
theorem dX4_init_13 : decode cX4_init 13 = .ok (.bipush 6, 2) := by decide +kernel
theorem dX4_init_15 : decode cX4_init 15 = .ok (.newarray .int, 2) := by decide +kernel
theorem dX4_init_17 : decode cX4_init 17 = .ok (.putfield 15, 3) := by decide +kernel
theorem dX4_init_20 : decode cX4_init 20 = .ok (.aload_n 0, 1) := by decide +kernel
theorem dX4_init_21 : decode cX4_init 21 = .ok (.bipush 6, 2) := by decide +kernel
theorem dX4_init_23 : decode cX4_init 23 = .ok (.newarray .int, 2) := by decide +kernel
theorem dX4_init_25 : decode cX4_init 25 = .ok (.putfield 18, 3) := by decide +kernel
theorem dX4_init_28 : decode cX4_init 28 = .ok (.aload_n 0, 1) := by decide +kernel
theorem dX4_init_29 : decode cX4_init 29 = .ok (.bipush 6, 2) := by decide +kernel
theorem dX4_init_31 : decode cX4_init 31 = .ok (.newarray .int, 2) := by decide +kernel
theorem dX4_init_33 : decode cX4_init 33 = .ok (.putfield 21, 3) := by decide +kernel
theorem dX4_init_36 : decode cX4_init 36 = .ok (.aload_n 0, 1) := by decide +kernel
theorem dX4_init_37 : decode cX4_init 37 = .ok (.iconst 4, 1) := by decide +kernel
theorem dX4_init_38 : decode cX4_init 38 = .ok (.newarray .boolean, 2) := by decide +kernel
theorem dX4_init_40 : decode cX4_init 40 = .ok (.putfield 24, 3) := by decide +kernel
theorem dX4_init_43 : decode cX4_init 43 = .ok (.aload_n 0, 1) := by decide +kernel
theorem dX4_init_44 : decode cX4_init 44 = .ok (.aload_n 1, 1) := by decide +kernel
theorem dX4_init_45 : decode cX4_init 45 = .ok (.putfield 28, 3) := by decide +kernel
theorem dX4_init_48 : decode cX4_init 48 = .ok (.aload_n 0, 1) := by decide +kernel
theorem dX4_init_49 : decode cX4_init 49 = .ok (.getfield 18, 3) := by decide +kernel
theorem dX4_init_52 : decode cX4_init 52 = .ok (.iconst (-1), 1) := by decide +kernel
theorem dX4_init_53 : decode cX4_init 53 = .ok (.invokestatic 32, 3) := by decide +kernel
theorem dX4_init_56 : decode cX4_init 56 = .ok (.return_, 1) := by decide +kernel
theorem dX4_isOpen_0 : decode cX4_isOpen 0 = .ok (.iload_n 1, 1) := by decide +kernel
theorem dX4_isOpen_1 : decode cX4_isOpen 1 = .ok (.ifCond .lt 21, 3) := by decide +kernel
theorem dX4_isOpen_4 : decode cX4_isOpen 4 = .ok (.iload_n 1, 1) := by decide +kernel
theorem dX4_isOpen_5 : decode cX4_isOpen 5 = .ok (.iconst 4, 1) := by decide +kernel
theorem dX4_isOpen_6 : decode cX4_isOpen 6 = .ok (.if_icmp .ge 16, 3) := by decide +kernel
theorem dX4_isOpen_9 : decode cX4_isOpen 9 = .ok (.aload_n 0, 1) := by decide +kernel
theorem dX4_isOpen_10 : decode cX4_isOpen 10 = .ok (.getfield 24, 3) := by decide +kernel
theorem dX4_isOpen_13 : decode cX4_isOpen 13 = .ok (.iload_n 1, 1) := by decide +kernel
theorem dX4_isOpen_14 : decode cX4_isOpen 14 = .ok (.baload, 1) := by decide +kernel
theorem dX4_isOpen_15 : decode cX4_isOpen 15 = .ok (.ifCond .eq 7, 3) := by decide +kernel
theorem dX4_isOpen_18 : decode cX4_isOpen 18 = .ok (.iconst 1, 1) := by decide +kernel
theorem dX4_isOpen_19 : decode cX4_isOpen 19 = .ok (.goto 4, 3) := by decide +kernel
theorem dX4_isOpen_22 : decode cX4_isOpen 22 = .ok (.iconst 0, 1) := by decide +kernel
theorem dX4_isOpen_23 : decode cX4_isOpen 23 = .ok (.ireturn, 1) := by decide +kernel
theorem dX4_openFirstFree_0 : decode cX4_openFirstFree 0 = .ok (.iconst 0, 1) := by decide +kernel
theorem dX4_openFirstFree_1 : decode cX4_openFirstFree 1 = .ok (.istore_n 1, 1) := by decide +kernel
theorem dX4_openFirstFree_2 : decode cX4_openFirstFree 2 = .ok (.iload_n 1, 1) := by decide +kernel
theorem dX4_openFirstFree_3 : decode cX4_openFirstFree 3 = .ok (.iconst 4, 1) := by decide +kernel
theorem dX4_openFirstFree_4 : decode cX4_openFirstFree 4 = .ok (.if_icmp .ge 27, 3) := by decide +kernel
theorem dX4_openFirstFree_7 : decode cX4_openFirstFree 7 = .ok (.aload_n 0, 1) := by decide +kernel
theorem dX4_openFirstFree_8 : decode cX4_openFirstFree 8 = .ok (.getfield 24, 3) := by decide +kernel
theorem dX4_openFirstFree_11 : decode cX4_openFirstFree 11 = .ok (.iload_n 1, 1) := by decide +kernel
theorem dX4_openFirstFree_12 : decode cX4_openFirstFree 12 = .ok (.baload, 1) := by decide +kernel
theorem dX4_openFirstFree_13 : decode cX4_openFirstFree 13 = .ok (.ifCond .ne 12, 3) := by decide +kernel
theorem dX4_openFirstFree_16 : decode cX4_openFirstFree 16 = .ok (.aload_n 0, 1) := by decide +kernel
theorem dX4_openFirstFree_17 : decode cX4_openFirstFree 17 = .ok (.getfield 24, 3) := by decide +kernel
theorem dX4_openFirstFree_20 : decode cX4_openFirstFree 20 = .ok (.iload_n 1, 1) := by decide +kernel
theorem dX4_openFirstFree_21 : decode cX4_openFirstFree 21 = .ok (.iconst 1, 1) := by decide +kernel
theorem dX4_openFirstFree_22 : decode cX4_openFirstFree 22 = .ok (.bastore, 1) := by decide +kernel
theorem dX4_openFirstFree_23 : decode cX4_openFirstFree 23 = .ok (.iload_n 1, 1) := by decide +kernel
theorem dX4_openFirstFree_24 : decode cX4_openFirstFree 24 = .ok (.ireturn, 1) := by decide +kernel
theorem dX4_openFirstFree_25 : decode cX4_openFirstFree 25 = .ok (.iinc 1 1, 3) := by decide +kernel
theorem dX4_openFirstFree_28 : decode cX4_openFirstFree 28 = .ok (.goto (-26), 3) := by decide +kernel
theorem dX4_openFirstFree_31 : decode cX4_openFirstFree 31 = .ok (.bipush (-3), 2) := by decide +kernel
theorem dX4_openFirstFree_33 : decode cX4_openFirstFree 33 = .ok (.ireturn, 1) := by decide +kernel
theorem dX4_openTransactions_0 : decode cX4_openTransactions 0 = .ok (.iconst 0, 1) := by decide +kernel
theorem dX4_openTransactions_1 : decode cX4_openTransactions 1 = .ok (.istore_n 1, 1) := by decide +kernel
theorem dX4_openTransactions_2 : decode cX4_openTransactions 2 = .ok (.iconst 0, 1) := by decide +kernel
theorem dX4_openTransactions_3 : decode cX4_openTransactions 3 = .ok (.istore_n 2, 1) := by decide +kernel
theorem dX4_openTransactions_4 : decode cX4_openTransactions 4 = .ok (.iload_n 2, 1) := by decide +kernel
theorem dX4_openTransactions_5 : decode cX4_openTransactions 5 = .ok (.iconst 4, 1) := by decide +kernel
theorem dX4_openTransactions_6 : decode cX4_openTransactions 6 = .ok (.if_icmp .ge 21, 3) := by decide +kernel
theorem dX4_openTransactions_9 : decode cX4_openTransactions 9 = .ok (.aload_n 0, 1) := by decide +kernel
theorem dX4_openTransactions_10 : decode cX4_openTransactions 10 = .ok (.getfield 24, 3) := by decide +kernel
theorem dX4_openTransactions_13 : decode cX4_openTransactions 13 = .ok (.iload_n 2, 1) := by decide +kernel
theorem dX4_openTransactions_14 : decode cX4_openTransactions 14 = .ok (.baload, 1) := by decide +kernel
theorem dX4_openTransactions_15 : decode cX4_openTransactions 15 = .ok (.ifCond .eq 6, 3) := by decide +kernel
theorem dX4_openTransactions_18 : decode cX4_openTransactions 18 = .ok (.iinc 1 1, 3) := by decide +kernel
theorem dX4_openTransactions_21 : decode cX4_openTransactions 21 = .ok (.iinc 2 1, 3) := by decide +kernel
theorem dX4_openTransactions_24 : decode cX4_openTransactions 24 = .ok (.goto (-20), 3) := by decide +kernel
theorem dX4_openTransactions_27 : decode cX4_openTransactions 27 = .ok (.iload_n 1, 1) := by decide +kernel
theorem dX4_openTransactions_28 : decode cX4_openTransactions 28 = .ok (.ireturn, 1) := by decide +kernel
theorem dX4_draft_0 : decode cX4_draft 0 = .ok (.aload_n 0, 1) := by decide +kernel
theorem dX4_draft_1 : decode cX4_draft 1 = .ok (.getfield 18, 3) := by decide +kernel
theorem dX4_draft_4 : decode cX4_draft 4 = .ok (.iload_n 2, 1) := by decide +kernel
theorem dX4_draft_5 : decode cX4_draft 5 = .ok (.iaload, 1) := by decide +kernel
theorem dX4_draft_6 : decode cX4_draft 6 = .ok (.iconst (-1), 1) := by decide +kernel
theorem dX4_draft_7 : decode cX4_draft 7 = .ok (.if_icmp .eq 15, 3) := by decide +kernel
theorem dX4_draft_10 : decode cX4_draft 10 = .ok (.aload_n 0, 1) := by decide +kernel
theorem dX4_draft_11 : decode cX4_draft 11 = .ok (.getfield 18, 3) := by decide +kernel
theorem dX4_draft_14 : decode cX4_draft 14 = .ok (.iload_n 2, 1) := by decide +kernel
theorem dX4_draft_15 : decode cX4_draft 15 = .ok (.iaload, 1) := by decide +kernel
theorem dX4_draft_16 : decode cX4_draft 16 = .ok (.iload_n 1, 1) := by decide +kernel
theorem dX4_draft_17 : decode cX4_draft 17 = .ok (.if_icmp .eq 5, 3) := by decide +kernel
theorem dX4_draft_20 : decode cX4_draft 20 = .ok (.iconst 0, 1) := by decide +kernel
theorem dX4_draft_21 : decode cX4_draft 21 = .ok (.ireturn, 1) := by decide +kernel
theorem dX4_draft_22 : decode cX4_draft 22 = .ok (.aload_n 0, 1) := by decide +kernel
theorem dX4_draft_23 : decode cX4_draft 23 = .ok (.getfield 18, 3) := by decide +kernel
theorem dX4_draft_26 : decode cX4_draft 26 = .ok (.iload_n 2, 1) := by decide +kernel
theorem dX4_draft_27 : decode cX4_draft 27 = .ok (.iload_n 1, 1) := by decide +kernel
theorem dX4_draft_28 : decode cX4_draft 28 = .ok (.iastore, 1) := by decide +kernel
theorem dX4_draft_29 : decode cX4_draft 29 = .ok (.aload_n 0, 1) := by decide +kernel
theorem dX4_draft_30 : decode cX4_draft 30 = .ok (.getfield 21, 3) := by decide +kernel
theorem dX4_draft_33 : decode cX4_draft 33 = .ok (.iload_n 2, 1) := by decide +kernel
theorem dX4_draft_34 : decode cX4_draft 34 = .ok (.iload_n 3, 1) := by decide +kernel
theorem dX4_draft_35 : decode cX4_draft 35 = .ok (.iastore, 1) := by decide +kernel
theorem dX4_draft_36 : decode cX4_draft 36 = .ok (.iconst 1, 1) := by decide +kernel
theorem dX4_draft_37 : decode cX4_draft 37 = .ok (.ireturn, 1) := by decide +kernel
theorem dX4_seenBy_0 : decode cX4_seenBy 0 = .ok (.aload_n 0, 1) := by decide +kernel
theorem dX4_seenBy_1 : decode cX4_seenBy 1 = .ok (.getfield 18, 3) := by decide +kernel
theorem dX4_seenBy_4 : decode cX4_seenBy 4 = .ok (.iload_n 2, 1) := by decide +kernel
theorem dX4_seenBy_5 : decode cX4_seenBy 5 = .ok (.iaload, 1) := by decide +kernel
theorem dX4_seenBy_6 : decode cX4_seenBy 6 = .ok (.iload_n 1, 1) := by decide +kernel
theorem dX4_seenBy_7 : decode cX4_seenBy 7 = .ok (.if_icmp .ne 12, 3) := by decide +kernel
theorem dX4_seenBy_10 : decode cX4_seenBy 10 = .ok (.aload_n 0, 1) := by decide +kernel
theorem dX4_seenBy_11 : decode cX4_seenBy 11 = .ok (.getfield 21, 3) := by decide +kernel
theorem dX4_seenBy_14 : decode cX4_seenBy 14 = .ok (.iload_n 2, 1) := by decide +kernel
theorem dX4_seenBy_15 : decode cX4_seenBy 15 = .ok (.iaload, 1) := by decide +kernel
theorem dX4_seenBy_16 : decode cX4_seenBy 16 = .ok (.goto 9, 3) := by decide +kernel
theorem dX4_seenBy_19 : decode cX4_seenBy 19 = .ok (.aload_n 0, 1) := by decide +kernel
theorem dX4_seenBy_20 : decode cX4_seenBy 20 = .ok (.getfield 9, 3) := by decide +kernel
theorem dX4_seenBy_23 : decode cX4_seenBy 23 = .ok (.iload_n 2, 1) := by decide +kernel
theorem dX4_seenBy_24 : decode cX4_seenBy 24 = .ok (.iaload, 1) := by decide +kernel
theorem dX4_seenBy_25 : decode cX4_seenBy 25 = .ok (.ireturn, 1) := by decide +kernel
theorem dX4_lockedKeys_0 : decode cX4_lockedKeys 0 = .ok (.iconst 0, 1) := by decide +kernel
theorem dX4_lockedKeys_1 : decode cX4_lockedKeys 1 = .ok (.istore_n 2, 1) := by decide +kernel
theorem dX4_lockedKeys_2 : decode cX4_lockedKeys 2 = .ok (.iconst 0, 1) := by decide +kernel
theorem dX4_lockedKeys_3 : decode cX4_lockedKeys 3 = .ok (.istore_n 3, 1) := by decide +kernel
theorem dX4_lockedKeys_4 : decode cX4_lockedKeys 4 = .ok (.iload_n 3, 1) := by decide +kernel
theorem dX4_lockedKeys_5 : decode cX4_lockedKeys 5 = .ok (.bipush 6, 2) := by decide +kernel
theorem dX4_lockedKeys_7 : decode cX4_lockedKeys 7 = .ok (.if_icmp .ge 22, 3) := by decide +kernel
theorem dX4_lockedKeys_10 : decode cX4_lockedKeys 10 = .ok (.aload_n 0, 1) := by decide +kernel
theorem dX4_lockedKeys_11 : decode cX4_lockedKeys 11 = .ok (.getfield 18, 3) := by decide +kernel
theorem dX4_lockedKeys_14 : decode cX4_lockedKeys 14 = .ok (.iload_n 3, 1) := by decide +kernel
theorem dX4_lockedKeys_15 : decode cX4_lockedKeys 15 = .ok (.iaload, 1) := by decide +kernel
theorem dX4_lockedKeys_16 : decode cX4_lockedKeys 16 = .ok (.iload_n 1, 1) := by decide +kernel
theorem dX4_lockedKeys_17 : decode cX4_lockedKeys 17 = .ok (.if_icmp .ne 6, 3) := by decide +kernel
theorem dX4_lockedKeys_20 : decode cX4_lockedKeys 20 = .ok (.iinc 2 1, 3) := by decide +kernel
theorem dX4_lockedKeys_23 : decode cX4_lockedKeys 23 = .ok (.iinc 3 1, 3) := by decide +kernel
theorem dX4_lockedKeys_26 : decode cX4_lockedKeys 26 = .ok (.goto (-22), 3) := by decide +kernel
theorem dX4_lockedKeys_29 : decode cX4_lockedKeys 29 = .ok (.iload_n 2, 1) := by decide +kernel
theorem dX4_lockedKeys_30 : decode cX4_lockedKeys 30 = .ok (.ireturn, 1) := by decide +kernel
theorem dX4_lockOf_0 : decode cX4_lockOf 0 = .ok (.aload_n 0, 1) := by decide +kernel
theorem dX4_lockOf_1 : decode cX4_lockOf 1 = .ok (.getfield 18, 3) := by decide +kernel
theorem dX4_lockOf_4 : decode cX4_lockOf 4 = .ok (.iload_n 1, 1) := by decide +kernel
theorem dX4_lockOf_5 : decode cX4_lockOf 5 = .ok (.iaload, 1) := by decide +kernel
theorem dX4_lockOf_6 : decode cX4_lockOf 6 = .ok (.iconst (-1), 1) := by decide +kernel
theorem dX4_lockOf_7 : decode cX4_lockOf 7 = .ok (.if_icmp .ne 5, 3) := by decide +kernel
theorem dX4_lockOf_10 : decode cX4_lockOf 10 = .ok (.iconst 0, 1) := by decide +kernel
theorem dX4_lockOf_11 : decode cX4_lockOf 11 = .ok (.ireturn, 1) := by decide +kernel
theorem dX4_lockOf_12 : decode cX4_lockOf 12 = .ok (.aload_n 0, 1) := by decide +kernel
theorem dX4_lockOf_13 : decode cX4_lockOf 13 = .ok (.getfield 18, 3) := by decide +kernel
theorem dX4_lockOf_16 : decode cX4_lockOf 16 = .ok (.iload_n 1, 1) := by decide +kernel
theorem dX4_lockOf_17 : decode cX4_lockOf 17 = .ok (.iaload, 1) := by decide +kernel
theorem dX4_lockOf_18 : decode cX4_lockOf 18 = .ok (.iconst 4, 1) := by decide +kernel
theorem dX4_lockOf_19 : decode cX4_lockOf 19 = .ok (.if_icmp .ne 7, 3) := by decide +kernel
theorem dX4_lockOf_22 : decode cX4_lockOf 22 = .ok (.iconst 2, 1) := by decide +kernel
theorem dX4_lockOf_23 : decode cX4_lockOf 23 = .ok (.goto 4, 3) := by decide +kernel
theorem dX4_lockOf_26 : decode cX4_lockOf 26 = .ok (.iconst 1, 1) := by decide +kernel
theorem dX4_lockOf_27 : decode cX4_lockOf 27 = .ok (.ireturn, 1) := by decide +kernel
set_option maxRecDepth 20000 in
theorem ggX4_putIntoLog_X1_append : GoodIn wsX4_putIntoLog wsX1_append := goodIn_r _ [9, 10, 11, 12, 13, 14, 15, 16, 17, 18, 19, 20, 21, 22, 23, 24, 25, 38, 39, 40, 41, 42, 43, 44, 45, 46] (by decide +kernel) (by decide +kernel)
set_option maxRecDepth 20000 in
theorem gX4_putIntoLog_X1_append : GoodIn wsX4_putIntoLog (wsV RX4 38 RX1 yX1_append wsX1_append) := goodIn_app (goodIn_of _ (by decide +kernel)) ggX4_putIntoLog_X1_append
set_option maxRecDepth 20000 in
theorem ggX4_putIntoLog_X4_finish : GoodIn wsX4_putIntoLog wsX4_finish := goodIn_r _ [30, 1, 31, 32, 33, 34, 35, 36, 37] (by decide +kernel) (by decide +kernel)
set_option maxRecDepth 20000 in
theorem gX4_putIntoLog_X4_finish : GoodIn wsX4_putIntoLog (wsV RX4 44 RX4 yX4_finish wsX4_finish) := goodIn_app (goodIn_of _ (by decide +kernel)) ggX4_putIntoLog_X4_finish
theorem dX4_putIntoLog_0 : decode cX4_putIntoLog 0 = .ok (.iconst 0, 1) := by decide +kernel
theorem dX4_putIntoLog_1 : decode cX4_putIntoLog 1 = .ok (.istore_n 3, 1) := by decide +kernel
theorem dX4_putIntoLog_2 : decode cX4_putIntoLog 2 = .ok (.iconst 0, 1) := by decide +kernel
theorem dX4_putIntoLog_3 : decode cX4_putIntoLog 3 = .ok (.istore 4, 2) := by decide +kernel
theorem dX4_putIntoLog_5 : decode cX4_putIntoLog 5 = .ok (.iload 4, 2) := by decide +kernel
theorem dX4_putIntoLog_7 : decode cX4_putIntoLog 7 = .ok (.bipush 6, 2) := by decide +kernel
theorem dX4_putIntoLog_9 : decode cX4_putIntoLog 9 = .ok (.if_icmp .ge 58, 3) := by decide +kernel
theorem dX4_putIntoLog_12 : decode cX4_putIntoLog 12 = .ok (.aload_n 0, 1) := by decide +kernel
theorem dX4_putIntoLog_13 : decode cX4_putIntoLog 13 = .ok (.getfield 18, 3) := by decide +kernel
theorem dX4_putIntoLog_16 : decode cX4_putIntoLog 16 = .ok (.iload 4, 2) := by decide +kernel
theorem dX4_putIntoLog_18 : decode cX4_putIntoLog 18 = .ok (.iaload, 1) := by decide +kernel
theorem dX4_putIntoLog_19 : decode cX4_putIntoLog 19 = .ok (.iload_n 1, 1) := by decide +kernel
theorem dX4_putIntoLog_20 : decode cX4_putIntoLog 20 = .ok (.if_icmp .ne 41, 3) := by decide +kernel
theorem dX4_putIntoLog_23 : decode cX4_putIntoLog 23 = .ok (.iinc 3 1, 3) := by decide +kernel
theorem dX4_putIntoLog_26 : decode cX4_putIntoLog 26 = .ok (.aload_n 0, 1) := by decide +kernel
theorem dX4_putIntoLog_27 : decode cX4_putIntoLog 27 = .ok (.getfield 28, 3) := by decide +kernel
theorem dX4_putIntoLog_30 : decode cX4_putIntoLog 30 = .ok (.iload 4, 2) := by decide +kernel
theorem dX4_putIntoLog_32 : decode cX4_putIntoLog 32 = .ok (.aload_n 0, 1) := by decide +kernel
theorem dX4_putIntoLog_33 : decode cX4_putIntoLog 33 = .ok (.getfield 21, 3) := by decide +kernel
theorem dX4_putIntoLog_36 : decode cX4_putIntoLog 36 = .ok (.iload 4, 2) := by decide +kernel
theorem dX4_putIntoLog_38 : decode cX4_putIntoLog 38 = .ok (.iaload, 1) := by decide +kernel
theorem dX4_putIntoLog_39 : decode cX4_putIntoLog 39 = .ok (.aload_n 0, 1) := by decide +kernel
theorem dX4_putIntoLog_40 : decode cX4_putIntoLog 40 = .ok (.getfield 15, 3) := by decide +kernel
theorem dX4_putIntoLog_43 : decode cX4_putIntoLog 43 = .ok (.iload 4, 2) := by decide +kernel
theorem dX4_putIntoLog_45 : decode cX4_putIntoLog 45 = .ok (.iaload, 1) := by decide +kernel
theorem dX4_putIntoLog_46 : decode cX4_putIntoLog 46 = .ok (.iconst 1, 1) := by decide +kernel
theorem dX4_putIntoLog_47 : decode cX4_putIntoLog 47 = .ok (.iadd, 1) := by decide +kernel
theorem dX4_putIntoLog_48 : decode cX4_putIntoLog 48 = .ok (.iload_n 3, 1) := by decide +kernel
theorem dX4_putIntoLog_49 : decode cX4_putIntoLog 49 = .ok (.iload_n 2, 1) := by decide +kernel
theorem dX4_putIntoLog_50 : decode cX4_putIntoLog 50 = .ok (.if_icmp .ne 7, 3) := by decide +kernel
theorem dX4_putIntoLog_53 : decode cX4_putIntoLog 53 = .ok (.iconst 1, 1) := by decide +kernel
theorem dX4_putIntoLog_54 : decode cX4_putIntoLog 54 = .ok (.goto 4, 3) := by decide +kernel
theorem dX4_putIntoLog_57 : decode cX4_putIntoLog 57 = .ok (.iconst 0, 1) := by decide +kernel
theorem dX4_putIntoLog_58 : decode cX4_putIntoLog 58 = .ok (.invokevirtual 38, 3) := by decide +kernel
theorem dX4_putIntoLog_61 : decode cX4_putIntoLog 61 = .ok (.iinc 4 1, 3) := by decide +kernel
theorem dX4_putIntoLog_64 : decode cX4_putIntoLog 64 = .ok (.goto (-59), 3) := by decide +kernel
theorem dX4_putIntoLog_67 : decode cX4_putIntoLog 67 = .ok (.aload_n 0, 1) := by decide +kernel
theorem dX4_putIntoLog_68 : decode cX4_putIntoLog 68 = .ok (.iload_n 1, 1) := by decide +kernel
theorem dX4_putIntoLog_69 : decode cX4_putIntoLog 69 = .ok (.iconst 4, 1) := by decide +kernel
theorem dX4_putIntoLog_70 : decode cX4_putIntoLog 70 = .ok (.invokevirtual 44, 3) := by decide +kernel
theorem dX4_putIntoLog_73 : decode cX4_putIntoLog 73 = .ok (.return_, 1) := by decide +kernel
set_option maxRecDepth 20000 in
theorem ggX4_giveUp_X4_finish : GoodIn wsX4_giveUp wsX4_finish := goodIn_r _ [5, 6, 7, 8, 9, 10, 11, 12, 13] (by decide +kernel) (by decide +kernel)
set_option maxRecDepth 20000 in
theorem gX4_giveUp_X4_finish : GoodIn wsX4_giveUp (wsV RX4 44 RX4 yX4_finish wsX4_finish) := goodIn_app (goodIn_of _ (by decide +kernel)) ggX4_giveUp_X4_finish
theorem dX4_giveUp_0 : decode cX4_giveUp 0 = .ok (.aload_n 0, 1) := by decide +kernel
theorem dX4_giveUp_1 : decode cX4_giveUp 1 = .ok (.iload_n 1, 1) := by decide +kernel
theorem dX4_giveUp_2 : decode cX4_giveUp 2 = .ok (.iconst (-1), 1) := by decide +kernel
theorem dX4_giveUp_3 : decode cX4_giveUp 3 = .ok (.invokevirtual 44, 3) := by decide +kernel
theorem dX4_giveUp_6 : decode cX4_giveUp 6 = .ok (.return_, 1) := by decide +kernel
theorem dX4_finish_0 : decode cX4_finish 0 = .ok (.iconst 0, 1) := by decide +kernel
theorem dX4_finish_1 : decode cX4_finish 1 = .ok (.istore_n 3, 1) := by decide +kernel
theorem dX4_finish_2 : decode cX4_finish 2 = .ok (.iload_n 3, 1) := by decide +kernel
theorem dX4_finish_3 : decode cX4_finish 3 = .ok (.bipush 6, 2) := by decide +kernel
theorem dX4_finish_5 : decode cX4_finish 5 = .ok (.if_icmp .ge 26, 3) := by decide +kernel
theorem dX4_finish_8 : decode cX4_finish 8 = .ok (.aload_n 0, 1) := by decide +kernel
theorem dX4_finish_9 : decode cX4_finish 9 = .ok (.getfield 18, 3) := by decide +kernel
theorem dX4_finish_12 : decode cX4_finish 12 = .ok (.iload_n 3, 1) := by decide +kernel
theorem dX4_finish_13 : decode cX4_finish 13 = .ok (.iaload, 1) := by decide +kernel
theorem dX4_finish_14 : decode cX4_finish 14 = .ok (.iload_n 1, 1) := by decide +kernel
theorem dX4_finish_15 : decode cX4_finish 15 = .ok (.if_icmp .ne 10, 3) := by decide +kernel
theorem dX4_finish_18 : decode cX4_finish 18 = .ok (.aload_n 0, 1) := by decide +kernel
theorem dX4_finish_19 : decode cX4_finish 19 = .ok (.getfield 18, 3) := by decide +kernel
theorem dX4_finish_22 : decode cX4_finish 22 = .ok (.iload_n 3, 1) := by decide +kernel
theorem dX4_finish_23 : decode cX4_finish 23 = .ok (.iload_n 2, 1) := by decide +kernel
theorem dX4_finish_24 : decode cX4_finish 24 = .ok (.iastore, 1) := by decide +kernel
theorem dX4_finish_25 : decode cX4_finish 25 = .ok (.iinc 3 1, 3) := by decide +kernel
theorem dX4_finish_28 : decode cX4_finish 28 = .ok (.goto (-26), 3) := by decide +kernel
theorem dX4_finish_31 : decode cX4_finish 31 = .ok (.aload_n 0, 1) := by decide +kernel
theorem dX4_finish_32 : decode cX4_finish 32 = .ok (.getfield 24, 3) := by decide +kernel
theorem dX4_finish_35 : decode cX4_finish 35 = .ok (.iload_n 1, 1) := by decide +kernel
theorem dX4_finish_36 : decode cX4_finish 36 = .ok (.iconst 0, 1) := by decide +kernel
theorem dX4_finish_37 : decode cX4_finish 37 = .ok (.bastore, 1) := by decide +kernel
theorem dX4_finish_38 : decode cX4_finish 38 = .ok (.return_, 1) := by decide +kernel
set_option maxRecDepth 20000 in
theorem ggX4_flushChanges_X1_at : GoodIn wsX4_flushChanges wsX1_at := goodIn_r _ [12, 13, 14, 21, 22, 23, 24] (by decide +kernel) (by decide +kernel)
set_option maxRecDepth 20000 in
theorem gX4_flushChanges_X1_at : GoodIn wsX4_flushChanges (wsV RX4 52 RX1 yX1_at wsX1_at) := goodIn_app (goodIn_of _ (by decide +kernel)) ggX4_flushChanges_X1_at
theorem dX4_flushChanges_0 : decode cX4_flushChanges 0 = .ok (.aload_n 0, 1) := by decide +kernel
theorem dX4_flushChanges_1 : decode cX4_flushChanges 1 = .ok (.getfield 28, 3) := by decide +kernel
theorem dX4_flushChanges_4 : decode cX4_flushChanges 4 = .ok (.getfield 48, 3) := by decide +kernel
theorem dX4_flushChanges_7 : decode cX4_flushChanges 7 = .ok (.istore_n 1, 1) := by decide +kernel
theorem dX4_flushChanges_8 : decode cX4_flushChanges 8 = .ok (.iload_n 1, 1) := by decide +kernel
theorem dX4_flushChanges_9 : decode cX4_flushChanges 9 = .ok (.istore_n 2, 1) := by decide +kernel
theorem dX4_flushChanges_10 : decode cX4_flushChanges 10 = .ok (.iload_n 2, 1) := by decide +kernel
theorem dX4_flushChanges_11 : decode cX4_flushChanges 11 = .ok (.sipush 400, 3) := by decide +kernel
theorem dX4_flushChanges_14 : decode cX4_flushChanges 14 = .ok (.if_icmp .ge 61, 3) := by decide +kernel
theorem dX4_flushChanges_17 : decode cX4_flushChanges 17 = .ok (.aload_n 0, 1) := by decide +kernel
theorem dX4_flushChanges_18 : decode cX4_flushChanges 18 = .ok (.getfield 28, 3) := by decide +kernel
theorem dX4_flushChanges_21 : decode cX4_flushChanges 21 = .ok (.iload_n 2, 1) := by decide +kernel
theorem dX4_flushChanges_22 : decode cX4_flushChanges 22 = .ok (.invokevirtual 52, 3) := by decide +kernel
theorem dX4_flushChanges_25 : decode cX4_flushChanges 25 = .ok (.astore_n 3, 1) := by decide +kernel
theorem dX4_flushChanges_26 : decode cX4_flushChanges 26 = .ok (.aload_n 3, 1) := by decide +kernel
theorem dX4_flushChanges_27 : decode cX4_flushChanges 27 = .ok (.ifnonnull 6, 3) := by decide +kernel
theorem dX4_flushChanges_30 : decode cX4_flushChanges 30 = .ok (.goto 45, 3) := by decide +kernel
theorem dX4_flushChanges_33 : decode cX4_flushChanges 33 = .ok (.aload_n 0, 1) := by decide +kernel
theorem dX4_flushChanges_34 : decode cX4_flushChanges 34 = .ok (.getfield 9, 3) := by decide +kernel
theorem dX4_flushChanges_37 : decode cX4_flushChanges 37 = .ok (.aload_n 3, 1) := by decide +kernel
theorem dX4_flushChanges_38 : decode cX4_flushChanges 38 = .ok (.getfield 56, 3) := by decide +kernel
theorem dX4_flushChanges_41 : decode cX4_flushChanges 41 = .ok (.aload_n 3, 1) := by decide +kernel
theorem dX4_flushChanges_42 : decode cX4_flushChanges 42 = .ok (.getfield 61, 3) := by decide +kernel
theorem dX4_flushChanges_45 : decode cX4_flushChanges 45 = .ok (.iastore, 1) := by decide +kernel
theorem dX4_flushChanges_46 : decode cX4_flushChanges 46 = .ok (.aload_n 0, 1) := by decide +kernel
theorem dX4_flushChanges_47 : decode cX4_flushChanges 47 = .ok (.getfield 15, 3) := by decide +kernel
theorem dX4_flushChanges_50 : decode cX4_flushChanges 50 = .ok (.aload_n 3, 1) := by decide +kernel
theorem dX4_flushChanges_51 : decode cX4_flushChanges 51 = .ok (.getfield 56, 3) := by decide +kernel
theorem dX4_flushChanges_54 : decode cX4_flushChanges 54 = .ok (.aload_n 3, 1) := by decide +kernel
theorem dX4_flushChanges_55 : decode cX4_flushChanges 55 = .ok (.getfield 64, 3) := by decide +kernel
theorem dX4_flushChanges_58 : decode cX4_flushChanges 58 = .ok (.iastore, 1) := by decide +kernel
theorem dX4_flushChanges_59 : decode cX4_flushChanges 59 = .ok (.aload_n 0, 1) := by decide +kernel
theorem dX4_flushChanges_60 : decode cX4_flushChanges 60 = .ok (.getfield 18, 3) := by decide +kernel
theorem dX4_flushChanges_63 : decode cX4_flushChanges 63 = .ok (.aload_n 3, 1) := by decide +kernel
theorem dX4_flushChanges_64 : decode cX4_flushChanges 64 = .ok (.getfield 56, 3) := by decide +kernel
theorem dX4_flushChanges_67 : decode cX4_flushChanges 67 = .ok (.iconst (-1), 1) := by decide +kernel
theorem dX4_flushChanges_68 : decode cX4_flushChanges 68 = .ok (.iastore, 1) := by decide +kernel
theorem dX4_flushChanges_69 : decode cX4_flushChanges 69 = .ok (.iinc 2 1, 3) := by decide +kernel
theorem dX4_flushChanges_72 : decode cX4_flushChanges 72 = .ok (.goto (-62), 3) := by decide +kernel
theorem dX4_flushChanges_75 : decode cX4_flushChanges 75 = .ok (.aload_n 0, 1) := by decide +kernel
theorem dX4_flushChanges_76 : decode cX4_flushChanges 76 = .ok (.getfield 28, 3) := by decide +kernel
theorem dX4_flushChanges_79 : decode cX4_flushChanges 79 = .ok (.aload_n 0, 1) := by decide +kernel
theorem dX4_flushChanges_80 : decode cX4_flushChanges 80 = .ok (.getfield 28, 3) := by decide +kernel
theorem dX4_flushChanges_83 : decode cX4_flushChanges 83 = .ok (.getfield 67, 3) := by decide +kernel
theorem dX4_flushChanges_86 : decode cX4_flushChanges 86 = .ok (.putfield 48, 3) := by decide +kernel
theorem dX4_flushChanges_89 : decode cX4_flushChanges 89 = .ok (.aload_n 0, 1) := by decide +kernel
theorem dX4_flushChanges_90 : decode cX4_flushChanges 90 = .ok (.getfield 28, 3) := by decide +kernel
theorem dX4_flushChanges_93 : decode cX4_flushChanges 93 = .ok (.getfield 48, 3) := by decide +kernel
theorem dX4_flushChanges_96 : decode cX4_flushChanges 96 = .ok (.iload_n 1, 1) := by decide +kernel
theorem dX4_flushChanges_97 : decode cX4_flushChanges 97 = .ok (.isub, 1) := by decide +kernel
theorem dX4_flushChanges_98 : decode cX4_flushChanges 98 = .ok (.ireturn, 1) := by decide +kernel
set_option maxRecDepth 20000 in
theorem ggX4_restart_J7_fill_53178 : GoodIn wsX4_restart wsJ7_fill_53178 := goodIn_r _ [7] (by decide +kernel) (by decide +kernel)
set_option maxRecDepth 20000 in
theorem gX4_restart_J7_fill_53178 : GoodIn wsX4_restart (va_wsS RX4 32 yJ7_fill_53178 wsJ7_fill_53178) := goodIn_app (goodIn_of _ (by decide +kernel)) ggX4_restart_J7_fill_53178
set_option maxRecDepth 20000 in
theorem ggX4_restart_X1_dropUnflushed : GoodIn wsX4_restart wsX1_dropUnflushed := goodIn_r _ [12, 13, 14, 21, 22, 23, 24] (by decide +kernel) (by decide +kernel)
set_option maxRecDepth 20000 in
theorem gX4_restart_X1_dropUnflushed : GoodIn wsX4_restart (wsV RX4 70 RX1 yX1_dropUnflushed wsX1_dropUnflushed) := goodIn_app (goodIn_of _ (by decide +kernel)) ggX4_restart_X1_dropUnflushed
theorem dX4_restart_0 : decode cX4_restart 0 = .ok (.iconst 0, 1) := by decide +kernel
theorem dX4_restart_1 : decode cX4_restart 1 = .ok (.istore_n 1, 1) := by decide +kernel
theorem dX4_restart_2 : decode cX4_restart 2 = .ok (.iload_n 1, 1) := by decide +kernel
theorem dX4_restart_3 : decode cX4_restart 3 = .ok (.iconst 4, 1) := by decide +kernel
theorem dX4_restart_4 : decode cX4_restart 4 = .ok (.if_icmp .ge 16, 3) := by decide +kernel
theorem dX4_restart_7 : decode cX4_restart 7 = .ok (.aload_n 0, 1) := by decide +kernel
theorem dX4_restart_8 : decode cX4_restart 8 = .ok (.getfield 24, 3) := by decide +kernel
theorem dX4_restart_11 : decode cX4_restart 11 = .ok (.iload_n 1, 1) := by decide +kernel
theorem dX4_restart_12 : decode cX4_restart 12 = .ok (.iconst 0, 1) := by decide +kernel
theorem dX4_restart_13 : decode cX4_restart 13 = .ok (.bastore, 1) := by decide +kernel
theorem dX4_restart_14 : decode cX4_restart 14 = .ok (.iinc 1 1, 3) := by decide +kernel
theorem dX4_restart_17 : decode cX4_restart 17 = .ok (.goto (-15), 3) := by decide +kernel
theorem dX4_restart_20 : decode cX4_restart 20 = .ok (.aload_n 0, 1) := by decide +kernel
theorem dX4_restart_21 : decode cX4_restart 21 = .ok (.getfield 18, 3) := by decide +kernel
theorem dX4_restart_24 : decode cX4_restart 24 = .ok (.iconst (-1), 1) := by decide +kernel
theorem dX4_restart_25 : decode cX4_restart 25 = .ok (.invokestatic 32, 3) := by decide +kernel
theorem dX4_restart_28 : decode cX4_restart 28 = .ok (.aload_n 0, 1) := by decide +kernel
theorem dX4_restart_29 : decode cX4_restart 29 = .ok (.getfield 28, 3) := by decide +kernel
theorem dX4_restart_32 : decode cX4_restart 32 = .ok (.invokevirtual 70, 3) := by decide +kernel
theorem dX4_restart_35 : decode cX4_restart 35 = .ok (.ireturn, 1) := by decide +kernel
set_option maxRecDepth 20000 in
theorem ggX5_init_X6_init : GoodIn wsX5_init wsX6_init := goodIn_r _ [15, 16, 2, 3, 17, 18, 19, 30, 31, 32] (by decide +kernel) (by decide +kernel)
set_option maxRecDepth 20000 in
theorem gX5_init_X6_init_n11 : GoodIn wsX5_init (wsX6_init) := ggX5_init_X6_init
set_option maxRecDepth 20000 in
theorem ggX5_init_X3_init : GoodIn wsX5_init wsX3_init := goodIn_r _ [22, 23, 2, 3, 24, 25, 26, 27, 28, 29, 40, 41] (by decide +kernel) (by decide +kernel)
set_option maxRecDepth 20000 in
theorem gX5_init_X3_init : GoodIn wsX5_init (wsX3_init) := ggX5_init_X3_init
theorem dX5_init_0 : decode cX5_init 0 = .ok (.aload_n 0, 1) := by decide +kernel
theorem dX5_init_1 : decode cX5_init 1 = .ok (.invokespecial 3, 3) := by decide +kernel
theorem dX5_init_4 : decode cX5_init 4 = .ok (.aload_n 0, 1) := by decide +kernel
theorem dX5_init_5 : decode cX5_init 5 = .ok (.new 9, 3) := by decide +kernel
theorem dX5_init_8 : decode cX5_init 8 = .ok (.dup, 1) := by decide +kernel
theorem dX5_init_9 : decode cX5_init 9 = .ok (.invokespecial 11, 3) := by decide +kernel
theorem dX5_init_12 : decode cX5_init 12 = .ok (.putfield 12, 3) := by decide +kernel
theorem dX5_init_15 : decode cX5_init 15 = .ok (.aload_n 0, 1) := by decide +kernel
theorem dX5_init_16 : decode cX5_init 16 = .ok (.new 9, 3) := by decide +kernel
theorem dX5_init_19 : decode cX5_init 19 = .ok (.dup, 1) := by decide +kernel
theorem dX5_init_20 : decode cX5_init 20 = .ok (.invokespecial 11, 3) := by decide +kernel
theorem dX5_init_23 : decode cX5_init 23 = .ok (.putfield 18, 3) := by decide +kernel
theorem dX5_init_26 : decode cX5_init 26 = .ok (.aload_n 0, 1) := by decide +kernel
theorem dX5_init_27 : decode cX5_init 27 = .ok (.new 21, 3) := by decide +kernel
theorem dX5_init_30 : decode cX5_init 30 = .ok (.dup, 1) := by decide +kernel
theorem dX5_init_31 : decode cX5_init 31 = .ok (.bipush 8, 2) := by decide +kernel
theorem dX5_init_33 : decode cX5_init 33 = .ok (.invokespecial 23, 3) := by decide +kernel
theorem dX5_init_36 : decode cX5_init 36 = .ok (.putfield 26, 3) := by decide +kernel
theorem dX5_init_39 : decode cX5_init 39 = .ok (.aload_n 0, 1) := by decide +kernel
theorem dX5_init_40 : decode cX5_init 40 = .ok (.aload_n 1, 1) := by decide +kernel
theorem dX5_init_41 : decode cX5_init 41 = .ok (.putfield 30, 3) := by decide +kernel
theorem dX5_init_44 : decode cX5_init 44 = .ok (.return_, 1) := by decide +kernel
set_option maxRecDepth 20000 in
theorem ggX5_take_X6_has : GoodIn wsX5_take wsX6_has := goodIn_r _ [11, 12, 13, 14, 73, 74, 75, 76, 77, 78, 79, 80] (by decide +kernel) (by decide +kernel)
set_option maxRecDepth 20000 in
theorem gX5_take_X6_has : GoodIn wsX5_take (wsV RX5 34 RX6 yX6_has wsX6_has) := goodIn_app (goodIn_of _ (by decide +kernel)) ggX5_take_X6_has
set_option maxRecDepth 20000 in
theorem ggX5_take_X3_find : GoodIn wsX5_take wsX3_find := goodIn_r _ [19, 20, 21, 22, 23, 81, 82, 73, 74, 75, 76, 77] (by decide +kernel) (by decide +kernel)
set_option maxRecDepth 20000 in
theorem gX5_take_X3_find : GoodIn wsX5_take (wsV RX5 47 RX3 yX3_find wsX3_find) := goodIn_app (goodIn_of _ (by decide +kernel)) ggX5_take_X3_find
set_option maxRecDepth 20000 in
theorem ggX5_take_X5_doNow : GoodIn wsX5_take wsX5_doNow := goodIn_r _ [28, 1, 29, 30, 31, 32, 33, 10, 34, 35, 14, 36, 13, 12, 37, 38, 39, 40, 41, 42, 43, 44, 45, 8, 9, 11, 66, 67, 68, 69, 70, 71, 72, 78, 79, 80, 73, 74, 75, 76, 77, 83, 84, 85, 86] (by decide +kernel) (by decide +kernel)
set_option maxRecDepth 20000 in
theorem gX5_take_X5_doNow : GoodIn wsX5_take (wsV RX5 58 RX5 yX5_doNow wsX5_doNow) := goodIn_app (goodIn_of _ (by decide +kernel)) ggX5_take_X5_doNow
set_option maxRecDepth 20000 in
theorem ggX5_take_X5_doHeldThatFollow : GoodIn wsX5_take wsX5_doHeldThatFollow := goodIn_r _ [49, 2, 1, 15, 16, 17, 18, 19, 20, 21, 22, 23, 50, 51, 52, 53, 54, 55, 56, 57, 24, 25, 26, 27, 28, 29, 30, 31, 32, 33, 10, 34, 35, 14, 36, 13, 12, 37, 38, 39, 40, 41, 42, 43, 44, 45, 8, 9, 11, 66, 67, 68, 69, 70, 71, 72, 78, 79, 80, 81, 82, 73, 74, 75, 76, 77, 83, 84, 85, 86] (by decide +kernel) (by decide +kernel)
set_option maxRecDepth 20000 in
theorem gX5_take_X5_doHeldThatFollow : GoodIn wsX5_take (wsV RX5 62 RX5 yX5_doHeldThatFollow wsX5_doHeldThatFollow) := goodIn_app (goodIn_of _ (by decide +kernel)) ggX5_take_X5_doHeldThatFollow
set_option maxRecDepth 20000 in
theorem ggX5_take_X3_isFull : GoodIn wsX5_take wsX3_isFull := goodIn_r _ [61, 20, 21, 81, 82] (by decide +kernel) (by decide +kernel)
set_option maxRecDepth 20000 in
theorem gX5_take_X3_isFull : GoodIn wsX5_take (wsV RX5 65 RX3 yX3_isFull wsX3_isFull) := goodIn_app (goodIn_of _ (by decide +kernel)) ggX5_take_X3_isFull
set_option maxRecDepth 20000 in
theorem ggX5_take_X3_add : GoodIn wsX5_take wsX3_add := goodIn_r _ [65, 20, 21, 81, 82] (by decide +kernel) (by decide +kernel)
set_option maxRecDepth 20000 in
theorem gX5_take_X3_add : GoodIn wsX5_take (wsV RX5 72 RX3 yX3_add wsX3_add) := goodIn_app (goodIn_of _ (by decide +kernel)) ggX5_take_X3_add
theorem dX5_take_0 : decode cX5_take 0 = .ok (.aload_n 0, 1) := by decide +kernel
theorem dX5_take_1 : decode cX5_take 1 = .ok (.getfield 12, 3) := by decide +kernel
theorem dX5_take_4 : decode cX5_take 4 = .ok (.aload_n 1, 1) := by decide +kernel
theorem dX5_take_5 : decode cX5_take 5 = .ok (.invokevirtual 34, 3) := by decide +kernel
theorem dX5_take_8 : decode cX5_take 8 = .ok (.ifCond .ne 23, 3) := by decide +kernel
theorem dX5_take_11 : decode cX5_take 11 = .ok (.aload_n 0, 1) := by decide +kernel
theorem dX5_take_12 : decode cX5_take 12 = .ok (.getfield 26, 3) := by decide +kernel
theorem dX5_take_15 : decode cX5_take 15 = .ok (.aload_n 1, 1) := by decide +kernel
theorem dX5_take_16 : decode cX5_take 16 = .ok (.getfield 38, 3) := by decide +kernel
theorem dX5_take_19 : decode cX5_take 19 = .ok (.aload_n 1, 1) := by decide +kernel
theorem dX5_take_20 : decode cX5_take 20 = .ok (.getfield 44, 3) := by decide +kernel
theorem dX5_take_23 : decode cX5_take 23 = .ok (.invokevirtual 47, 3) := by decide +kernel
theorem dX5_take_26 : decode cX5_take 26 = .ok (.bipush (-9), 2) := by decide +kernel
theorem dX5_take_28 : decode cX5_take 28 = .ok (.if_icmp .eq 15, 3) := by decide +kernel
theorem dX5_take_31 : decode cX5_take 31 = .ok (.aload_n 0, 1) := by decide +kernel
theorem dX5_take_32 : decode cX5_take 32 = .ok (.dup, 1) := by decide +kernel
theorem dX5_take_33 : decode cX5_take 33 = .ok (.getfield 51, 3) := by decide +kernel
theorem dX5_take_36 : decode cX5_take 36 = .ok (.iconst 1, 1) := by decide +kernel
theorem dX5_take_37 : decode cX5_take 37 = .ok (.iadd, 1) := by decide +kernel
theorem dX5_take_38 : decode cX5_take 38 = .ok (.putfield 51, 3) := by decide +kernel
theorem dX5_take_41 : decode cX5_take 41 = .ok (.iconst 2, 1) := by decide +kernel
theorem dX5_take_42 : decode cX5_take 42 = .ok (.ireturn, 1) := by decide +kernel
theorem dX5_take_43 : decode cX5_take 43 = .ok (.aload_n 1, 1) := by decide +kernel
theorem dX5_take_44 : decode cX5_take 44 = .ok (.getfield 44, 3) := by decide +kernel
theorem dX5_take_47 : decode cX5_take 47 = .ok (.aload_n 0, 1) := by decide +kernel
theorem dX5_take_48 : decode cX5_take 48 = .ok (.getfield 12, 3) := by decide +kernel
theorem dX5_take_51 : decode cX5_take 51 = .ok (.getfield 54, 3) := by decide +kernel
theorem dX5_take_54 : decode cX5_take 54 = .ok (.aload_n 1, 1) := by decide +kernel
theorem dX5_take_55 : decode cX5_take 55 = .ok (.getfield 38, 3) := by decide +kernel
theorem dX5_take_58 : decode cX5_take 58 = .ok (.iaload, 1) := by decide +kernel
theorem dX5_take_59 : decode cX5_take 59 = .ok (.iconst 1, 1) := by decide +kernel
theorem dX5_take_60 : decode cX5_take 60 = .ok (.iadd, 1) := by decide +kernel
theorem dX5_take_61 : decode cX5_take 61 = .ok (.if_icmp .ne 18, 3) := by decide +kernel
theorem dX5_take_64 : decode cX5_take 64 = .ok (.aload_n 0, 1) := by decide +kernel
theorem dX5_take_65 : decode cX5_take 65 = .ok (.aload_n 1, 1) := by decide +kernel
theorem dX5_take_66 : decode cX5_take 66 = .ok (.invokevirtual 58, 3) := by decide +kernel
theorem dX5_take_69 : decode cX5_take 69 = .ok (.aload_n 0, 1) := by decide +kernel
theorem dX5_take_70 : decode cX5_take 70 = .ok (.aload_n 1, 1) := by decide +kernel
theorem dX5_take_71 : decode cX5_take 71 = .ok (.getfield 38, 3) := by decide +kernel
theorem dX5_take_74 : decode cX5_take 74 = .ok (.invokevirtual 62, 3) := by decide +kernel
theorem dX5_take_77 : decode cX5_take 77 = .ok (.iconst 1, 1) := by decide +kernel
theorem dX5_take_78 : decode cX5_take 78 = .ok (.ireturn, 1) := by decide +kernel
theorem dX5_take_79 : decode cX5_take 79 = .ok (.aload_n 0, 1) := by decide +kernel
theorem dX5_take_80 : decode cX5_take 80 = .ok (.getfield 26, 3) := by decide +kernel
theorem dX5_take_83 : decode cX5_take 83 = .ok (.invokevirtual 65, 3) := by decide +kernel
theorem dX5_take_86 : decode cX5_take 86 = .ok (.ifCond .eq 15, 3) := by decide +kernel
theorem dX5_take_89 : decode cX5_take 89 = .ok (.aload_n 0, 1) := by decide +kernel
theorem dX5_take_90 : decode cX5_take 90 = .ok (.dup, 1) := by decide +kernel
theorem dX5_take_91 : decode cX5_take 91 = .ok (.getfield 69, 3) := by decide +kernel
theorem dX5_take_94 : decode cX5_take 94 = .ok (.iconst 1, 1) := by decide +kernel
theorem dX5_take_95 : decode cX5_take 95 = .ok (.iadd, 1) := by decide +kernel
theorem dX5_take_96 : decode cX5_take 96 = .ok (.putfield 69, 3) := by decide +kernel
theorem dX5_take_99 : decode cX5_take 99 = .ok (.iconst 4, 1) := by decide +kernel
theorem dX5_take_100 : decode cX5_take 100 = .ok (.ireturn, 1) := by decide +kernel
theorem dX5_take_101 : decode cX5_take 101 = .ok (.aload_n 0, 1) := by decide +kernel
theorem dX5_take_102 : decode cX5_take 102 = .ok (.getfield 26, 3) := by decide +kernel
theorem dX5_take_105 : decode cX5_take 105 = .ok (.aload_n 1, 1) := by decide +kernel
theorem dX5_take_106 : decode cX5_take 106 = .ok (.invokevirtual 72, 3) := by decide +kernel
theorem dX5_take_109 : decode cX5_take 109 = .ok (.iconst 3, 1) := by decide +kernel
theorem dX5_take_110 : decode cX5_take 110 = .ok (.ireturn, 1) := by decide +kernel
set_option maxRecDepth 20000 in
theorem ggX5_doNow_X6_apply : GoodIn wsX5_doNow wsX6_apply := goodIn_r _ [8, 9, 10, 11, 12, 13, 14, 15, 16, 17, 18, 19, 20, 21, 22, 23, 24, 7, 25, 33, 34, 35, 36, 37, 38, 39, 40, 41, 42, 43, 44] (by decide +kernel) (by decide +kernel)
set_option maxRecDepth 20000 in
theorem gX5_doNow_X6_apply : GoodIn wsX5_doNow (wsV RX5 75 RX6 yX6_apply wsX6_apply) := goodIn_app (goodIn_of _ (by decide +kernel)) ggX5_doNow_X6_apply
theorem dX5_doNow_0 : decode cX5_doNow 0 = .ok (.aload_n 0, 1) := by decide +kernel
theorem dX5_doNow_1 : decode cX5_doNow 1 = .ok (.getfield 12, 3) := by decide +kernel
theorem dX5_doNow_4 : decode cX5_doNow 4 = .ok (.aload_n 1, 1) := by decide +kernel
theorem dX5_doNow_5 : decode cX5_doNow 5 = .ok (.aload_n 0, 1) := by decide +kernel
theorem dX5_doNow_6 : decode cX5_doNow 6 = .ok (.getfield 30, 3) := by decide +kernel
theorem dX5_doNow_9 : decode cX5_doNow 9 = .ok (.invokevirtual 75, 3) := by decide +kernel
theorem dX5_doNow_12 : decode cX5_doNow 12 = .ok (.aload_n 0, 1) := by decide +kernel
theorem dX5_doNow_13 : decode cX5_doNow 13 = .ok (.dup, 1) := by decide +kernel
theorem dX5_doNow_14 : decode cX5_doNow 14 = .ok (.getfield 79, 3) := by decide +kernel
theorem dX5_doNow_17 : decode cX5_doNow 17 = .ok (.iconst 1, 1) := by decide +kernel
theorem dX5_doNow_18 : decode cX5_doNow 18 = .ok (.iadd, 1) := by decide +kernel
theorem dX5_doNow_19 : decode cX5_doNow 19 = .ok (.putfield 79, 3) := by decide +kernel
theorem dX5_doNow_22 : decode cX5_doNow 22 = .ok (.return_, 1) := by decide +kernel
set_option maxRecDepth 20000 in
theorem ggX5_doHeldThatFollow_X3_find : GoodIn wsX5_doHeldThatFollow wsX3_find := goodIn_r _ [7, 8, 9, 10, 11, 59, 60, 61, 62, 63, 64, 65] (by decide +kernel) (by decide +kernel)
set_option maxRecDepth 20000 in
theorem gX5_doHeldThatFollow_X3_find : GoodIn wsX5_doHeldThatFollow (wsV RX5 47 RX3 yX3_find wsX3_find) := goodIn_app (goodIn_of _ (by decide +kernel)) ggX5_doHeldThatFollow_X3_find
set_option maxRecDepth 20000 in
theorem ggX5_doHeldThatFollow_X3_at : GoodIn wsX5_doHeldThatFollow wsX3_at := goodIn_r _ [15, 8, 9, 59, 60] (by decide +kernel) (by decide +kernel)
set_option maxRecDepth 20000 in
theorem gX5_doHeldThatFollow_X3_at : GoodIn wsX5_doHeldThatFollow (wsV RX5 82 RX3 yX3_at wsX3_at) := goodIn_app (goodIn_of _ (by decide +kernel)) ggX5_doHeldThatFollow_X3_at
set_option maxRecDepth 20000 in
theorem ggX5_doHeldThatFollow_X3_remove : GoodIn wsX5_doHeldThatFollow wsX3_remove := goodIn_r _ [19, 8, 9, 59, 60] (by decide +kernel) (by decide +kernel)
set_option maxRecDepth 20000 in
theorem gX5_doHeldThatFollow_X3_remove : GoodIn wsX5_doHeldThatFollow (wsV RX5 86 RX3 yX3_remove wsX3_remove) := goodIn_app (goodIn_of _ (by decide +kernel)) ggX5_doHeldThatFollow_X3_remove
set_option maxRecDepth 20000 in
theorem ggX5_doHeldThatFollow_X5_doNow : GoodIn wsX5_doHeldThatFollow wsX5_doNow := goodIn_r _ [24, 2, 25, 26, 27, 28, 29, 30, 31, 32, 33, 34, 35, 36, 37, 38, 39, 40, 41, 42, 43, 44, 45, 46, 47, 48, 49, 50, 51, 52, 53, 54, 55, 56, 57, 58, 61, 62, 63, 64, 65, 66, 67, 68, 69] (by decide +kernel) (by decide +kernel)
set_option maxRecDepth 20000 in
theorem gX5_doHeldThatFollow_X5_doNow : GoodIn wsX5_doHeldThatFollow (wsV RX5 58 RX5 yX5_doNow wsX5_doNow) := goodIn_app (goodIn_of _ (by decide +kernel)) ggX5_doHeldThatFollow_X5_doNow
theorem dX5_doHeldThatFollow_0 : decode cX5_doHeldThatFollow 0 = .ok (.iconst 0, 1) := by decide +kernel
theorem dX5_doHeldThatFollow_1 : decode cX5_doHeldThatFollow 1 = .ok (.istore_n 2, 1) := by decide +kernel
theorem dX5_doHeldThatFollow_2 : decode cX5_doHeldThatFollow 2 = .ok (.iload_n 2, 1) := by decide +kernel
