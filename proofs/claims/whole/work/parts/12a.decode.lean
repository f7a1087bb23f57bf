theorem dX0_init_0 : decode cX0_init 0 = .ok (.aload_n 0, 1) := by decide +kernel
theorem dX0_init_1 : decode cX0_init 1 = .ok (.invokespecial 3, 3) := by decide +kernel
theorem dX0_init_4 : decode cX0_init 4 = .ok (.aload_n 0, 1) := by decide +kernel
theorem dX0_init_5 : decode cX0_init 5 = .ok (.bipush 8, 2) := by decide +kernel
theorem dX0_init_7 : decode cX0_init 7 = .ok (.newarray .int, 2) := by decide +kernel
theorem dX0_init_9 : decode cX0_init 9 = .ok (.putfield 9, 3) := by decide +kernel
theorem dX0_init_12 : decode cX0_init 12 = .ok (.aload_n 0, 1) := by decide +kernel
theorem dX0_init_13 : decode cX0_init 13 = .ok (.iload_n 1, 1) := by decide +kernel
theorem dX0_init_14 : decode cX0_init 14 = .ok (.putfield 15, 3) := by decide +kernel
theorem dX0_init_17 : decode cX0_init 17 = .ok (.aload_n 0, 1) := by decide +kernel
theorem dX0_init_18 : decode cX0_init 18 = .ok (.iload_n 2, 1) := by decide +kernel
theorem dX0_init_19 : decode cX0_init 19 = .ok (.putfield 19, 3) := by decide +kernel
theorem dX0_init_22 : decode cX0_init 22 = .ok (.aload_n 0, 1) := by decide +kernel
theorem dX0_init_23 : decode cX0_init 23 = .ok (.iload_n 3, 1) := by decide +kernel
theorem dX0_init_24 : decode cX0_init 24 = .ok (.putfield 22, 3) := by decide +kernel
theorem dX0_init_27 : decode cX0_init 27 = .ok (.aload_n 0, 1) := by decide +kernel
theorem dX0_init_28 : decode cX0_init 28 = .ok (.iload 4, 2) := by decide +kernel
theorem dX0_init_30 : decode cX0_init 30 = .ok (.putfield 25, 3) := by decide +kernel
theorem dX0_init_33 : decode cX0_init 33 = .ok (.aload_n 0, 1) := by decide +kernel
theorem dX0_init_34 : decode cX0_init 34 = .ok (.iload 5, 2) := by decide +kernel
theorem dX0_init_36 : decode cX0_init 36 = .ok (.putfield 28, 3) := by decide +kernel
theorem dX0_init_39 : decode cX0_init 39 = .ok (.aload_n 0, 1) := by decide +kernel
theorem dX0_init_40 : decode cX0_init 40 = .ok (.iload 6, 2) := by decide +kernel
theorem dX0_init_42 : decode cX0_init 42 = .ok (.putfield 31, 3) := by decide +kernel
theorem dX0_init_45 : decode cX0_init 45 = .ok (.aload_n 0, 1) := by decide +kernel
theorem dX0_init_46 : decode cX0_init 46 = .ok (.iload 7, 2) := by decide +kernel
theorem dX0_init_48 : decode cX0_init 48 = .ok (.putfield 34, 3) := by decide +kernel
theorem dX0_init_51 : decode cX0_init 51 = .ok (.return_, 1) := by decide +kernel
theorem dX0_isBarredTo_0 : decode cX0_isBarredTo 0 = .ok (.aload_n 0, 1) := by decide +kernel
theorem dX0_isBarredTo_1 : decode cX0_isBarredTo 1 = .ok (.getfield 37, 3) := by decide +kernel
theorem dX0_isBarredTo_4 : decode cX0_isBarredTo 4 = .ok (.aload_n 1, 1) := by decide +kernel
theorem dX0_isBarredTo_5 : decode cX0_isBarredTo 5 = .ok (.getfield 40, 3) := by decide +kernel
theorem dX0_isBarredTo_8 : decode cX0_isBarredTo 8 = .ok (.invokestatic 45, 3) := by decide +kernel
theorem dX0_isBarredTo_11 : decode cX0_isBarredTo 11 = .ok (.ifCond .ne 25, 3) := by decide +kernel
theorem dX0_isBarredTo_14 : decode cX0_isBarredTo 14 = .ok (.aload_n 1, 1) := by decide +kernel
theorem dX0_isBarredTo_15 : decode cX0_isBarredTo 15 = .ok (.getfield 49, 3) := by decide +kernel
theorem dX0_isBarredTo_18 : decode cX0_isBarredTo 18 = .ok (.aload_n 0, 1) := by decide +kernel
theorem dX0_isBarredTo_19 : decode cX0_isBarredTo 19 = .ok (.getfield 19, 3) := by decide +kernel
theorem dX0_isBarredTo_22 : decode cX0_isBarredTo 22 = .ok (.if_icmp .eq 14, 3) := by decide +kernel
theorem dX0_isBarredTo_25 : decode cX0_isBarredTo 25 = .ok (.aload_n 1, 1) := by decide +kernel
theorem dX0_isBarredTo_26 : decode cX0_isBarredTo 26 = .ok (.getfield 49, 3) := by decide +kernel
theorem dX0_isBarredTo_29 : decode cX0_isBarredTo 29 = .ok (.aload_n 0, 1) := by decide +kernel
theorem dX0_isBarredTo_30 : decode cX0_isBarredTo 30 = .ok (.getfield 22, 3) := by decide +kernel
theorem dX0_isBarredTo_33 : decode cX0_isBarredTo 33 = .ok (.if_icmp .ne 7, 3) := by decide +kernel
theorem dX0_isBarredTo_36 : decode cX0_isBarredTo 36 = .ok (.iconst 1, 1) := by decide +kernel
theorem dX0_isBarredTo_37 : decode cX0_isBarredTo 37 = .ok (.goto 4, 3) := by decide +kernel
theorem dX0_isBarredTo_40 : decode cX0_isBarredTo 40 = .ok (.iconst 0, 1) := by decide +kernel
theorem dX0_isBarredTo_41 : decode cX0_isBarredTo 41 = .ok (.ireturn, 1) := by decide +kernel
theorem dX0_hasMarkThatCounts_0 : decode cX0_hasMarkThatCounts 0 = .ok (.aload_n 0, 1) := by decide +kernel
theorem dX0_hasMarkThatCounts_1 : decode cX0_hasMarkThatCounts 1 = .ok (.getfield 50, 3) := by decide +kernel
theorem dX0_hasMarkThatCounts_4 : decode cX0_hasMarkThatCounts 4 = .ok (.aload_n 1, 1) := by decide +kernel
theorem dX0_hasMarkThatCounts_5 : decode cX0_hasMarkThatCounts 5 = .ok (.getfield 40, 3) := by decide +kernel
theorem dX0_hasMarkThatCounts_8 : decode cX0_hasMarkThatCounts 8 = .ok (.invokestatic 45, 3) := by decide +kernel
theorem dX0_hasMarkThatCounts_11 : decode cX0_hasMarkThatCounts 11 = .ok (.ifCond .eq 15, 3) := by decide +kernel
theorem dX0_hasMarkThatCounts_14 : decode cX0_hasMarkThatCounts 14 = .ok (.aload_n 0, 1) := by decide +kernel
theorem dX0_hasMarkThatCounts_15 : decode cX0_hasMarkThatCounts 15 = .ok (.aload_n 1, 1) := by decide +kernel
theorem dX0_hasMarkThatCounts_16 : decode cX0_hasMarkThatCounts 16 = .ok (.invokevirtual 53, 3) := by decide +kernel
theorem dX0_hasMarkThatCounts_19 : decode cX0_hasMarkThatCounts 19 = .ok (.ifCond .ne 7, 3) := by decide +kernel
theorem dX0_hasMarkThatCounts_22 : decode cX0_hasMarkThatCounts 22 = .ok (.iconst 1, 1) := by decide +kernel
theorem dX0_hasMarkThatCounts_23 : decode cX0_hasMarkThatCounts 23 = .ok (.goto 4, 3) := by decide +kernel
theorem dX0_hasMarkThatCounts_26 : decode cX0_hasMarkThatCounts 26 = .ok (.iconst 0, 1) := by decide +kernel
theorem dX0_hasMarkThatCounts_27 : decode cX0_hasMarkThatCounts 27 = .ok (.ireturn, 1) := by decide +kernel
theorem dX0_setMark_0 : decode cX0_setMark 0 = .ok (.aload_n 1, 1) := by decide +kernel
theorem dX0_setMark_1 : decode cX0_setMark 1 = .ok (.getfield 40, 3) := by decide +kernel
theorem dX0_setMark_4 : decode cX0_setMark 4 = .ok (.iconst 0, 1) := by decide +kernel
theorem dX0_setMark_5 : decode cX0_setMark 5 = .ok (.aload_n 0, 1) := by decide +kernel
theorem dX0_setMark_6 : decode cX0_setMark 6 = .ok (.getfield 9, 3) := by decide +kernel
theorem dX0_setMark_9 : decode cX0_setMark 9 = .ok (.arraylength, 1) := by decide +kernel
theorem dX0_setMark_10 : decode cX0_setMark 10 = .ok (.iconst 1, 1) := by decide +kernel
theorem dX0_setMark_11 : decode cX0_setMark 11 = .ok (.isub, 1) := by decide +kernel
theorem dX0_setMark_12 : decode cX0_setMark 12 = .ok (.invokestatic 57, 3) := by decide +kernel
theorem dX0_setMark_15 : decode cX0_setMark 15 = .ok (.ifCond .eq 28, 3) := by decide +kernel
theorem dX0_setMark_18 : decode cX0_setMark 18 = .ok (.aload_n 0, 1) := by decide +kernel
theorem dX0_setMark_19 : decode cX0_setMark 19 = .ok (.getfield 9, 3) := by decide +kernel
theorem dX0_setMark_22 : decode cX0_setMark 22 = .ok (.aload_n 1, 1) := by decide +kernel
theorem dX0_setMark_23 : decode cX0_setMark 23 = .ok (.getfield 40, 3) := by decide +kernel
theorem dX0_setMark_26 : decode cX0_setMark 26 = .ok (.iload_n 2, 1) := by decide +kernel
theorem dX0_setMark_27 : decode cX0_setMark 27 = .ok (.iastore, 1) := by decide +kernel
theorem dX0_setMark_28 : decode cX0_setMark 28 = .ok (.aload_n 0, 1) := by decide +kernel
theorem dX0_setMark_29 : decode cX0_setMark 29 = .ok (.dup, 1) := by decide +kernel
theorem dX0_setMark_30 : decode cX0_setMark 30 = .ok (.getfield 50, 3) := by decide +kernel
theorem dX0_setMark_33 : decode cX0_setMark 33 = .ok (.iconst 1, 1) := by decide +kernel
theorem dX0_setMark_34 : decode cX0_setMark 34 = .ok (.aload_n 1, 1) := by decide +kernel
theorem dX0_setMark_35 : decode cX0_setMark 35 = .ok (.getfield 40, 3) := by decide +kernel
theorem dX0_setMark_38 : decode cX0_setMark 38 = .ok (.ishl, 1) := by decide +kernel
theorem dX0_setMark_39 : decode cX0_setMark 39 = .ok (.ior, 1) := by decide +kernel
theorem dX0_setMark_40 : decode cX0_setMark 40 = .ok (.putfield 50, 3) := by decide +kernel
theorem dX0_setMark_43 : decode cX0_setMark 43 = .ok (.return_, 1) := by decide +kernel
theorem dX0_markOf_0 : decode cX0_markOf 0 = .ok (.aload_n 1, 1) := by decide +kernel
theorem dX0_markOf_1 : decode cX0_markOf 1 = .ok (.getfield 40, 3) := by decide +kernel
theorem dX0_markOf_4 : decode cX0_markOf 4 = .ok (.iconst 0, 1) := by decide +kernel
theorem dX0_markOf_5 : decode cX0_markOf 5 = .ok (.aload_n 0, 1) := by decide +kernel
theorem dX0_markOf_6 : decode cX0_markOf 6 = .ok (.getfield 9, 3) := by decide +kernel
theorem dX0_markOf_9 : decode cX0_markOf 9 = .ok (.arraylength, 1) := by decide +kernel
theorem dX0_markOf_10 : decode cX0_markOf 10 = .ok (.iconst 1, 1) := by decide +kernel
theorem dX0_markOf_11 : decode cX0_markOf 11 = .ok (.isub, 1) := by decide +kernel
theorem dX0_markOf_12 : decode cX0_markOf 12 = .ok (.invokestatic 57, 3) := by decide +kernel
theorem dX0_markOf_15 : decode cX0_markOf 15 = .ok (.ifCond .eq 15, 3) := by decide +kernel
theorem dX0_markOf_18 : decode cX0_markOf 18 = .ok (.aload_n 0, 1) := by decide +kernel
theorem dX0_markOf_19 : decode cX0_markOf 19 = .ok (.getfield 9, 3) := by decide +kernel
theorem dX0_markOf_22 : decode cX0_markOf 22 = .ok (.aload_n 1, 1) := by decide +kernel
theorem dX0_markOf_23 : decode cX0_markOf 23 = .ok (.getfield 40, 3) := by decide +kernel
theorem dX0_markOf_26 : decode cX0_markOf 26 = .ok (.iaload, 1) := by decide +kernel
theorem dX0_markOf_27 : decode cX0_markOf 27 = .ok (.goto 4, 3) := by decide +kernel
theorem dX0_markOf_30 : decode cX0_markOf 30 = .ok (.iconst 0, 1) := by decide +kernel
theorem dX0_markOf_31 : decode cX0_markOf 31 = .ok (.ireturn, 1) := by decide +kernel
theorem dX1_init_0 : decode cX1_init 0 = .ok (.aload_n 0, 1) := by decide +kernel
theorem dX1_init_1 : decode cX1_init 1 = .ok (.invokespecial 3, 3) := by decide +kernel
theorem dX1_init_4 : decode cX1_init 4 = .ok (.aload_n 0, 1) := by decide +kernel
theorem dX1_init_5 : decode cX1_init 5 = .ok (.bipush 14, 2) := by decide +kernel
theorem dX1_init_7 : decode cX1_init 7 = .ok (.newarray .int, 2) := by decide +kernel
theorem dX1_init_9 : decode cX1_init 9 = .ok (.putfield 9, 3) := by decide +kernel
theorem dX1_init_12 : decode cX1_init 12 = .ok (.aload_n 0, 1) := by decide +kernel
theorem dX1_init_13 : decode cX1_init 13 = .ok (.bipush 14, 2) := by decide +kernel
theorem dX1_init_15 : decode cX1_init 15 = .ok (.newarray .int, 2) := by decide +kernel
theorem dX1_init_17 : decode cX1_init 17 = .ok (.putfield 15, 3) := by decide +kernel
theorem dX1_init_20 : decode cX1_init 20 = .ok (.aload_n 0, 1) := by decide +kernel
theorem dX1_init_21 : decode cX1_init 21 = .ok (.bipush 14, 2) := by decide +kernel
theorem dX1_init_23 : decode cX1_init 23 = .ok (.newarray .int, 2) := by decide +kernel
theorem dX1_init_25 : decode cX1_init 25 = .ok (.putfield 18, 3) := by decide +kernel
theorem dX1_init_28 : decode cX1_init 28 = .ok (.aload_n 0, 1) := by decide +kernel
theorem dX1_init_29 : decode cX1_init 29 = .ok (.bipush 15, 2) := by decide +kernel
theorem dX1_init_31 : decode cX1_init 31 = .ok (.newarray .int, 2) := by decide +kernel
theorem dX1_init_33 : decode cX1_init 33 = .ok (.putfield 21, 3) := by decide +kernel
theorem dX1_init_36 : decode cX1_init 36 = .ok (.aload_n 0, 1) := by decide +kernel
theorem dX1_init_37 : decode cX1_init 37 = .ok (.bipush 15, 2) := by decide +kernel
theorem dX1_init_39 : decode cX1_init 39 = .ok (.newarray .int, 2) := by decide +kernel
theorem dX1_init_41 : decode cX1_init 41 = .ok (.putfield 24, 3) := by decide +kernel
theorem dX1_init_44 : decode cX1_init 44 = .ok (.aload_n 0, 1) := by decide +kernel
theorem dX1_init_45 : decode cX1_init 45 = .ok (.bipush 15, 2) := by decide +kernel
theorem dX1_init_47 : decode cX1_init 47 = .ok (.newarray .int, 2) := by decide +kernel
theorem dX1_init_49 : decode cX1_init 49 = .ok (.putfield 27, 3) := by decide +kernel
theorem dX1_init_52 : decode cX1_init 52 = .ok (.return_, 1) := by decide +kernel
theorem dX1_start_0 : decode cX1_start 0 = .ok (.aload_n 0, 1) := by decide +kernel
theorem dX1_start_1 : decode cX1_start 1 = .ok (.iload_n 1, 1) := by decide +kernel
theorem dX1_start_2 : decode cX1_start 2 = .ok (.putfield 30, 3) := by decide +kernel
theorem dX1_start_5 : decode cX1_start 5 = .ok (.aload_n 0, 1) := by decide +kernel
theorem dX1_start_6 : decode cX1_start 6 = .ok (.iconst 0, 1) := by decide +kernel
theorem dX1_start_7 : decode cX1_start 7 = .ok (.putfield 34, 3) := by decide +kernel
theorem dX1_start_10 : decode cX1_start 10 = .ok (.aload_n 0, 1) := by decide +kernel
theorem dX1_start_11 : decode cX1_start 11 = .ok (.iconst 0, 1) := by decide +kernel
theorem dX1_start_12 : decode cX1_start 12 = .ok (.putfield 37, 3) := by decide +kernel
theorem dX1_start_15 : decode cX1_start 15 = .ok (.aload_n 0, 1) := by decide +kernel
theorem dX1_start_16 : decode cX1_start 16 = .ok (.iconst 0, 1) := by decide +kernel
theorem dX1_start_17 : decode cX1_start 17 = .ok (.putfield 40, 3) := by decide +kernel
theorem dX1_start_20 : decode cX1_start 20 = .ok (.aload_n 0, 1) := by decide +kernel
theorem dX1_start_21 : decode cX1_start 21 = .ok (.iconst 0, 1) := by decide +kernel
theorem dX1_start_22 : decode cX1_start 22 = .ok (.putfield 43, 3) := by decide +kernel
theorem dX1_start_25 : decode cX1_start 25 = .ok (.return_, 1) := by decide +kernel
theorem dX1_add_0 : decode cX1_add 0 = .ok (.iload_n 3, 1) := by decide +kernel
theorem dX1_add_1 : decode cX1_add 1 = .ok (.ifCond .le 60, 3) := by decide +kernel
theorem dX1_add_4 : decode cX1_add 4 = .ok (.iload_n 2, 1) := by decide +kernel
theorem dX1_add_5 : decode cX1_add 5 = .ok (.aload_n 0, 1) := by decide +kernel
theorem dX1_add_6 : decode cX1_add 6 = .ok (.getfield 30, 3) := by decide +kernel
theorem dX1_add_9 : decode cX1_add 9 = .ok (.if_icmp .gt 52, 3) := by decide +kernel
theorem dX1_add_12 : decode cX1_add 12 = .ok (.aload_n 0, 1) := by decide +kernel
theorem dX1_add_13 : decode cX1_add 13 = .ok (.getfield 34, 3) := by decide +kernel
theorem dX1_add_16 : decode cX1_add 16 = .ok (.bipush 14, 2) := by decide +kernel
theorem dX1_add_18 : decode cX1_add 18 = .ok (.if_icmp .ge 43, 3) := by decide +kernel
theorem dX1_add_21 : decode cX1_add 21 = .ok (.aload_n 0, 1) := by decide +kernel
theorem dX1_add_22 : decode cX1_add 22 = .ok (.getfield 9, 3) := by decide +kernel
theorem dX1_add_25 : decode cX1_add 25 = .ok (.aload_n 0, 1) := by decide +kernel
theorem dX1_add_26 : decode cX1_add 26 = .ok (.getfield 34, 3) := by decide +kernel
theorem dX1_add_29 : decode cX1_add 29 = .ok (.iload_n 1, 1) := by decide +kernel
theorem dX1_add_30 : decode cX1_add 30 = .ok (.iastore, 1) := by decide +kernel
theorem dX1_add_31 : decode cX1_add 31 = .ok (.aload_n 0, 1) := by decide +kernel
theorem dX1_add_32 : decode cX1_add 32 = .ok (.getfield 15, 3) := by decide +kernel
theorem dX1_add_35 : decode cX1_add 35 = .ok (.aload_n 0, 1) := by decide +kernel
theorem dX1_add_36 : decode cX1_add 36 = .ok (.getfield 34, 3) := by decide +kernel
theorem dX1_add_39 : decode cX1_add 39 = .ok (.iload_n 2, 1) := by decide +kernel
theorem dX1_add_40 : decode cX1_add 40 = .ok (.iastore, 1) := by decide +kernel
theorem dX1_add_41 : decode cX1_add 41 = .ok (.aload_n 0, 1) := by decide +kernel
theorem dX1_add_42 : decode cX1_add 42 = .ok (.getfield 18, 3) := by decide +kernel
theorem dX1_add_45 : decode cX1_add 45 = .ok (.aload_n 0, 1) := by decide +kernel
theorem dX1_add_46 : decode cX1_add 46 = .ok (.getfield 34, 3) := by decide +kernel
theorem dX1_add_49 : decode cX1_add 49 = .ok (.iload_n 3, 1) := by decide +kernel
theorem dX1_add_50 : decode cX1_add 50 = .ok (.iastore, 1) := by decide +kernel
theorem dX1_add_51 : decode cX1_add 51 = .ok (.aload_n 0, 1) := by decide +kernel
theorem dX1_add_52 : decode cX1_add 52 = .ok (.dup, 1) := by decide +kernel
theorem dX1_add_53 : decode cX1_add 53 = .ok (.getfield 34, 3) := by decide +kernel
theorem dX1_add_56 : decode cX1_add 56 = .ok (.iconst 1, 1) := by decide +kernel
theorem dX1_add_57 : decode cX1_add 57 = .ok (.iadd, 1) := by decide +kernel
theorem dX1_add_58 : decode cX1_add 58 = .ok (.putfield 34, 3) := by decide +kernel
theorem dX1_add_61 : decode cX1_add 61 = .ok (.return_, 1) := by decide +kernel
theorem dX1_bestSet_0 : decode cX1_bestSet 0 = .ok (.aload_n 0, 1) := by decide +kernel
theorem dX1_bestSet_1 : decode cX1_bestSet 1 = .ok (.getfield 21, 3) := by decide +kernel
theorem dX1_bestSet_4 : decode cX1_bestSet 4 = .ok (.aload_n 0, 1) := by decide +kernel
theorem dX1_bestSet_5 : decode cX1_bestSet 5 = .ok (.getfield 34, 3) := by decide +kernel
theorem dX1_bestSet_8 : decode cX1_bestSet 8 = .ok (.iconst 0, 1) := by decide +kernel
theorem dX1_bestSet_9 : decode cX1_bestSet 9 = .ok (.iastore, 1) := by decide +kernel
theorem dX1_bestSet_10 : decode cX1_bestSet 10 = .ok (.aload_n 0, 1) := by decide +kernel
theorem dX1_bestSet_11 : decode cX1_bestSet 11 = .ok (.getfield 24, 3) := by decide +kernel
theorem dX1_bestSet_14 : decode cX1_bestSet 14 = .ok (.aload_n 0, 1) := by decide +kernel
theorem dX1_bestSet_15 : decode cX1_bestSet 15 = .ok (.getfield 34, 3) := by decide +kernel
theorem dX1_bestSet_18 : decode cX1_bestSet 18 = .ok (.iconst 0, 1) := by decide +kernel
theorem dX1_bestSet_19 : decode cX1_bestSet 19 = .ok (.iastore, 1) := by decide +kernel
theorem dX1_bestSet_20 : decode cX1_bestSet 20 = .ok (.aload_n 0, 1) := by decide +kernel
theorem dX1_bestSet_21 : decode cX1_bestSet 21 = .ok (.getfield 27, 3) := by decide +kernel
theorem dX1_bestSet_24 : decode cX1_bestSet 24 = .ok (.aload_n 0, 1) := by decide +kernel
theorem dX1_bestSet_25 : decode cX1_bestSet 25 = .ok (.getfield 34, 3) := by decide +kernel
theorem dX1_bestSet_28 : decode cX1_bestSet 28 = .ok (.iconst 0, 1) := by decide +kernel
theorem dX1_bestSet_29 : decode cX1_bestSet 29 = .ok (.iastore, 1) := by decide +kernel
theorem dX1_bestSet_30 : decode cX1_bestSet 30 = .ok (.aload_n 0, 1) := by decide +kernel
theorem dX1_bestSet_31 : decode cX1_bestSet 31 = .ok (.getfield 34, 3) := by decide +kernel
theorem dX1_bestSet_34 : decode cX1_bestSet 34 = .ok (.iconst 1, 1) := by decide +kernel
theorem dX1_bestSet_35 : decode cX1_bestSet 35 = .ok (.isub, 1) := by decide +kernel
theorem dX1_bestSet_36 : decode cX1_bestSet 36 = .ok (.istore_n 1, 1) := by decide +kernel
theorem dX1_bestSet_37 : decode cX1_bestSet 37 = .ok (.iload_n 1, 1) := by decide +kernel
theorem dX1_bestSet_38 : decode cX1_bestSet 38 = .ok (.ifCond .lt 74, 3) := by decide +kernel
theorem dX1_bestSet_41 : decode cX1_bestSet 41 = .ok (.aload_n 0, 1) := by decide +kernel
theorem dX1_bestSet_42 : decode cX1_bestSet 42 = .ok (.getfield 21, 3) := by decide +kernel
theorem dX1_bestSet_45 : decode cX1_bestSet 45 = .ok (.iload_n 1, 1) := by decide +kernel
theorem dX1_bestSet_46 : decode cX1_bestSet 46 = .ok (.aload_n 0, 1) := by decide +kernel
theorem dX1_bestSet_47 : decode cX1_bestSet 47 = .ok (.getfield 21, 3) := by decide +kernel
theorem dX1_bestSet_50 : decode cX1_bestSet 50 = .ok (.iload_n 1, 1) := by decide +kernel
theorem dX1_bestSet_51 : decode cX1_bestSet 51 = .ok (.iconst 1, 1) := by decide +kernel
theorem dX1_bestSet_52 : decode cX1_bestSet 52 = .ok (.iadd, 1) := by decide +kernel
theorem dX1_bestSet_53 : decode cX1_bestSet 53 = .ok (.iaload, 1) := by decide +kernel
theorem dX1_bestSet_54 : decode cX1_bestSet 54 = .ok (.aload_n 0, 1) := by decide +kernel
theorem dX1_bestSet_55 : decode cX1_bestSet 55 = .ok (.getfield 15, 3) := by decide +kernel
theorem dX1_bestSet_58 : decode cX1_bestSet 58 = .ok (.iload_n 1, 1) := by decide +kernel
theorem dX1_bestSet_59 : decode cX1_bestSet 59 = .ok (.iaload, 1) := by decide +kernel
theorem dX1_bestSet_60 : decode cX1_bestSet 60 = .ok (.iadd, 1) := by decide +kernel
theorem dX1_bestSet_61 : decode cX1_bestSet 61 = .ok (.iastore, 1) := by decide +kernel
theorem dX1_bestSet_62 : decode cX1_bestSet 62 = .ok (.aload_n 0, 1) := by decide +kernel
theorem dX1_bestSet_63 : decode cX1_bestSet 63 = .ok (.getfield 24, 3) := by decide +kernel
theorem dX1_bestSet_66 : decode cX1_bestSet 66 = .ok (.iload_n 1, 1) := by decide +kernel
theorem dX1_bestSet_67 : decode cX1_bestSet 67 = .ok (.aload_n 0, 1) := by decide +kernel
theorem dX1_bestSet_68 : decode cX1_bestSet 68 = .ok (.getfield 24, 3) := by decide +kernel
theorem dX1_bestSet_71 : decode cX1_bestSet 71 = .ok (.iload_n 1, 1) := by decide +kernel
theorem dX1_bestSet_72 : decode cX1_bestSet 72 = .ok (.iconst 1, 1) := by decide +kernel
theorem dX1_bestSet_73 : decode cX1_bestSet 73 = .ok (.iadd, 1) := by decide +kernel
theorem dX1_bestSet_74 : decode cX1_bestSet 74 = .ok (.iaload, 1) := by decide +kernel
theorem dX1_bestSet_75 : decode cX1_bestSet 75 = .ok (.aload_n 0, 1) := by decide +kernel
theorem dX1_bestSet_76 : decode cX1_bestSet 76 = .ok (.getfield 18, 3) := by decide +kernel
theorem dX1_bestSet_79 : decode cX1_bestSet 79 = .ok (.iload_n 1, 1) := by decide +kernel
theorem dX1_bestSet_80 : decode cX1_bestSet 80 = .ok (.iaload, 1) := by decide +kernel
theorem dX1_bestSet_81 : decode cX1_bestSet 81 = .ok (.iadd, 1) := by decide +kernel
theorem dX1_bestSet_82 : decode cX1_bestSet 82 = .ok (.iastore, 1) := by decide +kernel
theorem dX1_bestSet_83 : decode cX1_bestSet 83 = .ok (.aload_n 0, 1) := by decide +kernel
theorem dX1_bestSet_84 : decode cX1_bestSet 84 = .ok (.getfield 27, 3) := by decide +kernel
theorem dX1_bestSet_87 : decode cX1_bestSet 87 = .ok (.iload_n 1, 1) := by decide +kernel
theorem dX1_bestSet_88 : decode cX1_bestSet 88 = .ok (.aload_n 0, 1) := by decide +kernel
theorem dX1_bestSet_89 : decode cX1_bestSet 89 = .ok (.getfield 27, 3) := by decide +kernel
theorem dX1_bestSet_92 : decode cX1_bestSet 92 = .ok (.iload_n 1, 1) := by decide +kernel
theorem dX1_bestSet_93 : decode cX1_bestSet 93 = .ok (.iconst 1, 1) := by decide +kernel
theorem dX1_bestSet_94 : decode cX1_bestSet 94 = .ok (.iadd, 1) := by decide +kernel
theorem dX1_bestSet_95 : decode cX1_bestSet 95 = .ok (.iaload, 1) := by decide +kernel
theorem dX1_bestSet_96 : decode cX1_bestSet 96 = .ok (.iconst 1, 1) := by decide +kernel
theorem dX1_bestSet_97 : decode cX1_bestSet 97 = .ok (.aload_n 0, 1) := by decide +kernel
theorem dX1_bestSet_98 : decode cX1_bestSet 98 = .ok (.getfield 9, 3) := by decide +kernel
theorem dX1_bestSet_101 : decode cX1_bestSet 101 = .ok (.iload_n 1, 1) := by decide +kernel
theorem dX1_bestSet_102 : decode cX1_bestSet 102 = .ok (.iaload, 1) := by decide +kernel
theorem dX1_bestSet_103 : decode cX1_bestSet 103 = .ok (.ishl, 1) := by decide +kernel
theorem dX1_bestSet_104 : decode cX1_bestSet 104 = .ok (.ior, 1) := by decide +kernel
theorem dX1_bestSet_105 : decode cX1_bestSet 105 = .ok (.iastore, 1) := by decide +kernel
theorem dX1_bestSet_106 : decode cX1_bestSet 106 = .ok (.iinc 1 (-1), 3) := by decide +kernel
theorem dX1_bestSet_109 : decode cX1_bestSet 109 = .ok (.goto (-72), 3) := by decide +kernel
theorem dX1_bestSet_112 : decode cX1_bestSet 112 = .ok (.aload_n 0, 1) := by decide +kernel
theorem dX1_bestSet_113 : decode cX1_bestSet 113 = .ok (.iconst 0, 1) := by decide +kernel
theorem dX1_bestSet_114 : decode cX1_bestSet 114 = .ok (.iconst 0, 1) := by decide +kernel
theorem dX1_bestSet_115 : decode cX1_bestSet 115 = .ok (.iconst 0, 1) := by decide +kernel
theorem dX1_bestSet_116 : decode cX1_bestSet 116 = .ok (.iconst 0, 1) := by decide +kernel
theorem dX1_bestSet_117 : decode cX1_bestSet 117 = .ok (.invokestatic 46, 3) := by decide +kernel
theorem dX1_bestSet_120 : decode cX1_bestSet 120 = .ok (.aload_n 0, 1) := by decide +kernel
theorem dX1_bestSet_121 : decode cX1_bestSet 121 = .ok (.getfield 43, 3) := by decide +kernel
theorem dX1_bestSet_124 : decode cX1_bestSet 124 = .ok (.ireturn, 1) := by decide +kernel
theorem dX1_search_0 : decode cX1_search 0 = .ok (.iload_n 1, 1) := by decide +kernel
theorem dX1_search_1 : decode cX1_search 1 = .ok (.ifCond .lt 11, 3) := by decide +kernel
theorem dX1_search_4 : decode cX1_search 4 = .ok (.iload_n 1, 1) := by decide +kernel
theorem dX1_search_5 : decode cX1_search 5 = .ok (.aload_n 0, 1) := by decide +kernel
theorem dX1_search_6 : decode cX1_search 6 = .ok (.getfield 34, 3) := by decide +kernel
theorem dX1_search_9 : decode cX1_search 9 = .ok (.if_icmp .le 4, 3) := by decide +kernel
theorem dX1_search_12 : decode cX1_search 12 = .ok (.return_, 1) := by decide +kernel
theorem dX1_search_13 : decode cX1_search 13 = .ok (.iload_n 3, 1) := by decide +kernel
theorem dX1_search_14 : decode cX1_search 14 = .ok (.aload_n 0, 1) := by decide +kernel
theorem dX1_search_15 : decode cX1_search 15 = .ok (.getfield 21, 3) := by decide +kernel
theorem dX1_search_18 : decode cX1_search 18 = .ok (.iload_n 1, 1) := by decide +kernel
theorem dX1_search_19 : decode cX1_search 19 = .ok (.iaload, 1) := by decide +kernel
theorem dX1_search_20 : decode cX1_search 20 = .ok (.iadd, 1) := by decide +kernel
theorem dX1_search_21 : decode cX1_search 21 = .ok (.aload_n 0, 1) := by decide +kernel
theorem dX1_search_22 : decode cX1_search 22 = .ok (.getfield 30, 3) := by decide +kernel
theorem dX1_search_25 : decode cX1_search 25 = .ok (.if_icmp .gt 33, 3) := by decide +kernel
theorem dX1_search_28 : decode cX1_search 28 = .ok (.aload_n 0, 1) := by decide +kernel
theorem dX1_search_29 : decode cX1_search 29 = .ok (.iload_n 2, 1) := by decide +kernel
theorem dX1_search_30 : decode cX1_search 30 = .ok (.aload_n 0, 1) := by decide +kernel
theorem dX1_search_31 : decode cX1_search 31 = .ok (.getfield 24, 3) := by decide +kernel
theorem dX1_search_34 : decode cX1_search 34 = .ok (.iload_n 1, 1) := by decide +kernel
theorem dX1_search_35 : decode cX1_search 35 = .ok (.iaload, 1) := by decide +kernel
theorem dX1_search_36 : decode cX1_search 36 = .ok (.iadd, 1) := by decide +kernel
theorem dX1_search_37 : decode cX1_search 37 = .ok (.iload_n 3, 1) := by decide +kernel
theorem dX1_search_38 : decode cX1_search 38 = .ok (.aload_n 0, 1) := by decide +kernel
theorem dX1_search_39 : decode cX1_search 39 = .ok (.getfield 21, 3) := by decide +kernel
theorem dX1_search_42 : decode cX1_search 42 = .ok (.iload_n 1, 1) := by decide +kernel
theorem dX1_search_43 : decode cX1_search 43 = .ok (.iaload, 1) := by decide +kernel
theorem dX1_search_44 : decode cX1_search 44 = .ok (.iadd, 1) := by decide +kernel
theorem dX1_search_45 : decode cX1_search 45 = .ok (.iload 4, 2) := by decide +kernel
theorem dX1_search_47 : decode cX1_search 47 = .ok (.aload_n 0, 1) := by decide +kernel
theorem dX1_search_48 : decode cX1_search 48 = .ok (.getfield 27, 3) := by decide +kernel
theorem dX1_search_51 : decode cX1_search 51 = .ok (.iload_n 1, 1) := by decide +kernel
theorem dX1_search_52 : decode cX1_search 52 = .ok (.iaload, 1) := by decide +kernel
theorem dX1_search_53 : decode cX1_search 53 = .ok (.ior, 1) := by decide +kernel
theorem dX1_search_54 : decode cX1_search 54 = .ok (.invokevirtual 50, 3) := by decide +kernel
theorem dX1_search_57 : decode cX1_search 57 = .ok (.return_, 1) := by decide +kernel
theorem dX1_search_58 : decode cX1_search 58 = .ok (.iload_n 2, 1) := by decide +kernel
theorem dX1_search_59 : decode cX1_search 59 = .ok (.aload_n 0, 1) := by decide +kernel
theorem dX1_search_60 : decode cX1_search 60 = .ok (.getfield 24, 3) := by decide +kernel
theorem dX1_search_63 : decode cX1_search 63 = .ok (.iload_n 1, 1) := by decide +kernel
theorem dX1_search_64 : decode cX1_search 64 = .ok (.iaload, 1) := by decide +kernel
theorem dX1_search_65 : decode cX1_search 65 = .ok (.iadd, 1) := by decide +kernel
theorem dX1_search_66 : decode cX1_search 66 = .ok (.aload_n 0, 1) := by decide +kernel
theorem dX1_search_67 : decode cX1_search 67 = .ok (.getfield 37, 3) := by decide +kernel
theorem dX1_search_70 : decode cX1_search 70 = .ok (.if_icmp .le 11, 3) := by decide +kernel
theorem dX1_search_73 : decode cX1_search 73 = .ok (.iload_n 1, 1) := by decide +kernel
theorem dX1_search_74 : decode cX1_search 74 = .ok (.aload_n 0, 1) := by decide +kernel
theorem dX1_search_75 : decode cX1_search 75 = .ok (.getfield 34, 3) := by decide +kernel
theorem dX1_search_78 : decode cX1_search 78 = .ok (.if_icmp .ne 4, 3) := by decide +kernel
theorem dX1_search_81 : decode cX1_search 81 = .ok (.return_, 1) := by decide +kernel
theorem dX1_search_82 : decode cX1_search 82 = .ok (.iload_n 3, 1) := by decide +kernel
theorem dX1_search_83 : decode cX1_search 83 = .ok (.aload_n 0, 1) := by decide +kernel
theorem dX1_search_84 : decode cX1_search 84 = .ok (.getfield 15, 3) := by decide +kernel
theorem dX1_search_87 : decode cX1_search 87 = .ok (.iload_n 1, 1) := by decide +kernel
theorem dX1_search_88 : decode cX1_search 88 = .ok (.iaload, 1) := by decide +kernel
theorem dX1_search_89 : decode cX1_search 89 = .ok (.iadd, 1) := by decide +kernel
theorem dX1_search_90 : decode cX1_search 90 = .ok (.aload_n 0, 1) := by decide +kernel
theorem dX1_search_91 : decode cX1_search 91 = .ok (.getfield 30, 3) := by decide +kernel
theorem dX1_search_94 : decode cX1_search 94 = .ok (.if_icmp .gt 37, 3) := by decide +kernel
theorem dX1_search_97 : decode cX1_search 97 = .ok (.aload_n 0, 1) := by decide +kernel
theorem dX1_search_98 : decode cX1_search 98 = .ok (.iload_n 1, 1) := by decide +kernel
theorem dX1_search_99 : decode cX1_search 99 = .ok (.iconst 1, 1) := by decide +kernel
theorem dX1_search_100 : decode cX1_search 100 = .ok (.iadd, 1) := by decide +kernel
theorem dX1_search_101 : decode cX1_search 101 = .ok (.iload_n 2, 1) := by decide +kernel
theorem dX1_search_102 : decode cX1_search 102 = .ok (.aload_n 0, 1) := by decide +kernel
theorem dX1_search_103 : decode cX1_search 103 = .ok (.getfield 18, 3) := by decide +kernel
theorem dX1_search_106 : decode cX1_search 106 = .ok (.iload_n 1, 1) := by decide +kernel
theorem dX1_search_107 : decode cX1_search 107 = .ok (.iaload, 1) := by decide +kernel
theorem dX1_search_108 : decode cX1_search 108 = .ok (.iadd, 1) := by decide +kernel
theorem dX1_search_109 : decode cX1_search 109 = .ok (.iload_n 3, 1) := by decide +kernel
theorem dX1_search_110 : decode cX1_search 110 = .ok (.aload_n 0, 1) := by decide +kernel
theorem dX1_search_111 : decode cX1_search 111 = .ok (.getfield 15, 3) := by decide +kernel
theorem dX1_search_114 : decode cX1_search 114 = .ok (.iload_n 1, 1) := by decide +kernel
theorem dX1_search_115 : decode cX1_search 115 = .ok (.iaload, 1) := by decide +kernel
theorem dX1_search_116 : decode cX1_search 116 = .ok (.iadd, 1) := by decide +kernel
theorem dX1_search_117 : decode cX1_search 117 = .ok (.iload 4, 2) := by decide +kernel
theorem dX1_search_119 : decode cX1_search 119 = .ok (.iconst 1, 1) := by decide +kernel
theorem dX1_search_120 : decode cX1_search 120 = .ok (.aload_n 0, 1) := by decide +kernel
theorem dX1_search_121 : decode cX1_search 121 = .ok (.getfield 9, 3) := by decide +kernel
theorem dX1_search_124 : decode cX1_search 124 = .ok (.iload_n 1, 1) := by decide +kernel
theorem dX1_search_125 : decode cX1_search 125 = .ok (.iaload, 1) := by decide +kernel
theorem dX1_search_126 : decode cX1_search 126 = .ok (.ishl, 1) := by decide +kernel
theorem dX1_search_127 : decode cX1_search 127 = .ok (.ior, 1) := by decide +kernel
theorem dX1_search_128 : decode cX1_search 128 = .ok (.invokestatic 46, 3) := by decide +kernel
theorem dX1_search_131 : decode cX1_search 131 = .ok (.aload_n 0, 1) := by decide +kernel
theorem dX1_search_132 : decode cX1_search 132 = .ok (.iload_n 1, 1) := by decide +kernel
theorem dX1_search_133 : decode cX1_search 133 = .ok (.iconst 1, 1) := by decide +kernel
theorem dX1_search_134 : decode cX1_search 134 = .ok (.iadd, 1) := by decide +kernel
theorem dX1_search_135 : decode cX1_search 135 = .ok (.iload_n 2, 1) := by decide +kernel
theorem dX1_search_136 : decode cX1_search 136 = .ok (.iload_n 3, 1) := by decide +kernel
theorem dX1_search_137 : decode cX1_search 137 = .ok (.iload 4, 2) := by decide +kernel
theorem dX1_search_139 : decode cX1_search 139 = .ok (.invokestatic 46, 3) := by decide +kernel
theorem dX1_search_142 : decode cX1_search 142 = .ok (.return_, 1) := by decide +kernel
theorem dX1_keepBetter_0 : decode cX1_keepBetter 0 = .ok (.iload_n 1, 1) := by decide +kernel
theorem dX1_keepBetter_1 : decode cX1_keepBetter 1 = .ok (.aload_n 0, 1) := by decide +kernel
theorem dX1_keepBetter_2 : decode cX1_keepBetter 2 = .ok (.getfield 37, 3) := by decide +kernel
theorem dX1_keepBetter_5 : decode cX1_keepBetter 5 = .ok (.if_icmp .gt 35, 3) := by decide +kernel
theorem dX1_keepBetter_8 : decode cX1_keepBetter 8 = .ok (.iload_n 1, 1) := by decide +kernel
theorem dX1_keepBetter_9 : decode cX1_keepBetter 9 = .ok (.aload_n 0, 1) := by decide +kernel
theorem dX1_keepBetter_10 : decode cX1_keepBetter 10 = .ok (.getfield 37, 3) := by decide +kernel
theorem dX1_keepBetter_13 : decode cX1_keepBetter 13 = .ok (.if_icmp .ne 31, 3) := by decide +kernel
theorem dX1_keepBetter_16 : decode cX1_keepBetter 16 = .ok (.iload_n 2, 1) := by decide +kernel
theorem dX1_keepBetter_17 : decode cX1_keepBetter 17 = .ok (.aload_n 0, 1) := by decide +kernel
theorem dX1_keepBetter_18 : decode cX1_keepBetter 18 = .ok (.getfield 40, 3) := by decide +kernel
theorem dX1_keepBetter_21 : decode cX1_keepBetter 21 = .ok (.if_icmp .lt 19, 3) := by decide +kernel
theorem dX1_keepBetter_24 : decode cX1_keepBetter 24 = .ok (.iload_n 2, 1) := by decide +kernel
theorem dX1_keepBetter_25 : decode cX1_keepBetter 25 = .ok (.aload_n 0, 1) := by decide +kernel
theorem dX1_keepBetter_26 : decode cX1_keepBetter 26 = .ok (.getfield 40, 3) := by decide +kernel
theorem dX1_keepBetter_29 : decode cX1_keepBetter 29 = .ok (.if_icmp .ne 15, 3) := by decide +kernel
theorem dX1_keepBetter_32 : decode cX1_keepBetter 32 = .ok (.iload_n 3, 1) := by decide +kernel
theorem dX1_keepBetter_33 : decode cX1_keepBetter 33 = .ok (.aload_n 0, 1) := by decide +kernel
theorem dX1_keepBetter_34 : decode cX1_keepBetter 34 = .ok (.getfield 43, 3) := by decide +kernel
theorem dX1_keepBetter_37 : decode cX1_keepBetter 37 = .ok (.if_icmp .ge 7, 3) := by decide +kernel
theorem dX1_keepBetter_40 : decode cX1_keepBetter 40 = .ok (.iconst 1, 1) := by decide +kernel
theorem dX1_keepBetter_41 : decode cX1_keepBetter 41 = .ok (.goto 4, 3) := by decide +kernel
theorem dX1_keepBetter_44 : decode cX1_keepBetter 44 = .ok (.iconst 0, 1) := by decide +kernel
theorem dX1_keepBetter_45 : decode cX1_keepBetter 45 = .ok (.istore 4, 2) := by decide +kernel
theorem dX1_keepBetter_47 : decode cX1_keepBetter 47 = .ok (.iload 4, 2) := by decide +kernel
theorem dX1_keepBetter_49 : decode cX1_keepBetter 49 = .ok (.ifCond .eq 18, 3) := by decide +kernel
theorem dX1_keepBetter_52 : decode cX1_keepBetter 52 = .ok (.aload_n 0, 1) := by decide +kernel
theorem dX1_keepBetter_53 : decode cX1_keepBetter 53 = .ok (.iload_n 1, 1) := by decide +kernel
theorem dX1_keepBetter_54 : decode cX1_keepBetter 54 = .ok (.putfield 37, 3) := by decide +kernel
theorem dX1_keepBetter_57 : decode cX1_keepBetter 57 = .ok (.aload_n 0, 1) := by decide +kernel
theorem dX1_keepBetter_58 : decode cX1_keepBetter 58 = .ok (.iload_n 2, 1) := by decide +kernel
theorem dX1_keepBetter_59 : decode cX1_keepBetter 59 = .ok (.putfield 40, 3) := by decide +kernel
theorem dX1_keepBetter_62 : decode cX1_keepBetter 62 = .ok (.aload_n 0, 1) := by decide +kernel
theorem dX1_keepBetter_63 : decode cX1_keepBetter 63 = .ok (.iload_n 3, 1) := by decide +kernel
theorem dX1_keepBetter_64 : decode cX1_keepBetter 64 = .ok (.putfield 43, 3) := by decide +kernel
theorem dX1_keepBetter_67 : decode cX1_keepBetter 67 = .ok (.return_, 1) := by decide +kernel
theorem dX2_init_0 : decode cX2_init 0 = .ok (.aload_n 0, 1) := by decide +kernel
theorem dX2_init_1 : decode cX2_init 1 = .ok (.invokespecial 1, 3) := by decide +kernel
theorem dX2_init_4 : decode cX2_init 4 = .ok (.aload_n 0, 1) := by decide +kernel
theorem dX2_init_5 : decode cX2_init 5 = .ok (.iload_n 1, 1) := by decide +kernel
theorem dX2_init_6 : decode cX2_init 6 = .ok (.putfield 7, 3) := by decide +kernel
theorem dX2_init_9 : decode cX2_init 9 = .ok (.return_, 1) := by decide +kernel
theorem dX2_takeGift_0 : decode cX2_takeGift 0 = .ok (.aload_n 0, 1) := by decide +kernel
theorem dX2_takeGift_1 : decode cX2_takeGift 1 = .ok (.dup, 1) := by decide +kernel
theorem dX2_takeGift_2 : decode cX2_takeGift 2 = .ok (.getfield 13, 3) := by decide +kernel
theorem dX2_takeGift_5 : decode cX2_takeGift 5 = .ok (.iload_n 1, 1) := by decide +kernel
theorem dX2_takeGift_6 : decode cX2_takeGift 6 = .ok (.iadd, 1) := by decide +kernel
theorem dX2_takeGift_7 : decode cX2_takeGift 7 = .ok (.putfield 13, 3) := by decide +kernel
theorem dX2_takeGift_10 : decode cX2_takeGift 10 = .ok (.aload_n 0, 1) := by decide +kernel
theorem dX2_takeGift_11 : decode cX2_takeGift 11 = .ok (.dup, 1) := by decide +kernel
theorem dX2_takeGift_12 : decode cX2_takeGift 12 = .ok (.getfield 16, 3) := by decide +kernel
theorem dX2_takeGift_15 : decode cX2_takeGift 15 = .ok (.iload_n 1, 1) := by decide +kernel
theorem dX2_takeGift_16 : decode cX2_takeGift 16 = .ok (.iadd, 1) := by decide +kernel
theorem dX2_takeGift_17 : decode cX2_takeGift 17 = .ok (.putfield 16, 3) := by decide +kernel
theorem dX2_takeGift_20 : decode cX2_takeGift 20 = .ok (.return_, 1) := by decide +kernel
theorem dX2_promise_0 : decode cX2_promise 0 = .ok (.aload_n 0, 1) := by decide +kernel
theorem dX2_promise_1 : decode cX2_promise 1 = .ok (.dup, 1) := by decide +kernel
theorem dX2_promise_2 : decode cX2_promise 2 = .ok (.getfield 16, 3) := by decide +kernel
theorem dX2_promise_5 : decode cX2_promise 5 = .ok (.iload_n 1, 1) := by decide +kernel
theorem dX2_promise_6 : decode cX2_promise 6 = .ok (.isub, 1) := by decide +kernel
theorem dX2_promise_7 : decode cX2_promise 7 = .ok (.putfield 16, 3) := by decide +kernel
theorem dX2_promise_10 : decode cX2_promise 10 = .ok (.aload_n 0, 1) := by decide +kernel
theorem dX2_promise_11 : decode cX2_promise 11 = .ok (.dup, 1) := by decide +kernel
theorem dX2_promise_12 : decode cX2_promise 12 = .ok (.getfield 19, 3) := by decide +kernel
theorem dX2_promise_15 : decode cX2_promise 15 = .ok (.iload_n 1, 1) := by decide +kernel
theorem dX2_promise_16 : decode cX2_promise 16 = .ok (.iadd, 1) := by decide +kernel
theorem dX2_promise_17 : decode cX2_promise 17 = .ok (.putfield 19, 3) := by decide +kernel
theorem dX2_promise_20 : decode cX2_promise 20 = .ok (.return_, 1) := by decide +kernel
theorem dX2_pay_0 : decode cX2_pay 0 = .ok (.aload_n 0, 1) := by decide +kernel
theorem dX2_pay_1 : decode cX2_pay 1 = .ok (.dup, 1) := by decide +kernel
theorem dX2_pay_2 : decode cX2_pay 2 = .ok (.getfield 19, 3) := by decide +kernel
theorem dX2_pay_5 : decode cX2_pay 5 = .ok (.iload_n 1, 1) := by decide +kernel
theorem dX2_pay_6 : decode cX2_pay 6 = .ok (.isub, 1) := by decide +kernel
theorem dX2_pay_7 : decode cX2_pay 7 = .ok (.putfield 19, 3) := by decide +kernel
theorem dX2_pay_10 : decode cX2_pay 10 = .ok (.aload_n 0, 1) := by decide +kernel
theorem dX2_pay_11 : decode cX2_pay 11 = .ok (.dup, 1) := by decide +kernel
theorem dX2_pay_12 : decode cX2_pay 12 = .ok (.getfield 22, 3) := by decide +kernel
theorem dX2_pay_15 : decode cX2_pay 15 = .ok (.iload_n 1, 1) := by decide +kernel
theorem dX2_pay_16 : decode cX2_pay 16 = .ok (.iload_n 2, 1) := by decide +kernel
theorem dX2_pay_17 : decode cX2_pay 17 = .ok (.isub, 1) := by decide +kernel
theorem dX2_pay_18 : decode cX2_pay 18 = .ok (.iadd, 1) := by decide +kernel
theorem dX2_pay_19 : decode cX2_pay 19 = .ok (.putfield 22, 3) := by decide +kernel
theorem dX2_pay_22 : decode cX2_pay 22 = .ok (.aload_n 0, 1) := by decide +kernel
theorem dX2_pay_23 : decode cX2_pay 23 = .ok (.dup, 1) := by decide +kernel
theorem dX2_pay_24 : decode cX2_pay 24 = .ok (.getfield 16, 3) := by decide +kernel
theorem dX2_pay_27 : decode cX2_pay 27 = .ok (.iload_n 2, 1) := by decide +kernel
theorem dX2_pay_28 : decode cX2_pay 28 = .ok (.iadd, 1) := by decide +kernel
theorem dX2_pay_29 : decode cX2_pay 29 = .ok (.putfield 16, 3) := by decide +kernel
theorem dX2_pay_32 : decode cX2_pay 32 = .ok (.return_, 1) := by decide +kernel
theorem dX2_release_0 : decode cX2_release 0 = .ok (.aload_n 0, 1) := by decide +kernel
theorem dX2_release_1 : decode cX2_release 1 = .ok (.dup, 1) := by decide +kernel
theorem dX2_release_2 : decode cX2_release 2 = .ok (.getfield 19, 3) := by decide +kernel
theorem dX2_release_5 : decode cX2_release 5 = .ok (.iload_n 1, 1) := by decide +kernel
theorem dX2_release_6 : decode cX2_release 6 = .ok (.isub, 1) := by decide +kernel
theorem dX2_release_7 : decode cX2_release 7 = .ok (.putfield 19, 3) := by decide +kernel
theorem dX2_release_10 : decode cX2_release 10 = .ok (.aload_n 0, 1) := by decide +kernel
theorem dX2_release_11 : decode cX2_release 11 = .ok (.dup, 1) := by decide +kernel
theorem dX2_release_12 : decode cX2_release 12 = .ok (.getfield 16, 3) := by decide +kernel
theorem dX2_release_15 : decode cX2_release 15 = .ok (.iload_n 1, 1) := by decide +kernel
theorem dX2_release_16 : decode cX2_release 16 = .ok (.iadd, 1) := by decide +kernel
theorem dX2_release_17 : decode cX2_release 17 = .ok (.putfield 16, 3) := by decide +kernel
theorem dX2_release_20 : decode cX2_release 20 = .ok (.return_, 1) := by decide +kernel
theorem dX2_takeBack_0 : decode cX2_takeBack 0 = .ok (.aload_n 0, 1) := by decide +kernel
theorem dX2_takeBack_1 : decode cX2_takeBack 1 = .ok (.dup, 1) := by decide +kernel
theorem dX2_takeBack_2 : decode cX2_takeBack 2 = .ok (.getfield 22, 3) := by decide +kernel
theorem dX2_takeBack_5 : decode cX2_takeBack 5 = .ok (.iload_n 1, 1) := by decide +kernel
theorem dX2_takeBack_6 : decode cX2_takeBack 6 = .ok (.isub, 1) := by decide +kernel
theorem dX2_takeBack_7 : decode cX2_takeBack 7 = .ok (.putfield 22, 3) := by decide +kernel
theorem dX2_takeBack_10 : decode cX2_takeBack 10 = .ok (.aload_n 0, 1) := by decide +kernel
theorem dX2_takeBack_11 : decode cX2_takeBack 11 = .ok (.dup, 1) := by decide +kernel
theorem dX2_takeBack_12 : decode cX2_takeBack 12 = .ok (.getfield 16, 3) := by decide +kernel
theorem dX2_takeBack_15 : decode cX2_takeBack 15 = .ok (.iload_n 1, 1) := by decide +kernel
theorem dX2_takeBack_16 : decode cX2_takeBack 16 = .ok (.iadd, 1) := by decide +kernel
theorem dX2_takeBack_17 : decode cX2_takeBack 17 = .ok (.putfield 16, 3) := by decide +kernel
theorem dX2_takeBack_20 : decode cX2_takeBack 20 = .ok (.return_, 1) := by decide +kernel
theorem dX3_init_0 : decode cX3_init 0 = .ok (.aload_n 0, 1) := by decide +kernel
theorem dX3_init_1 : decode cX3_init 1 = .ok (.invokespecial 1, 3) := by decide +kernel
theorem dX3_init_4 : decode cX3_init 4 = .ok (.aload_n 0, 1) := by decide +kernel
theorem dX3_init_5 : decode cX3_init 5 = .ok (.aload_n 1, 1) := by decide +kernel
theorem dX3_init_6 : decode cX3_init 6 = .ok (.putfield 7, 3) := by decide +kernel
theorem dX3_init_9 : decode cX3_init 9 = .ok (.aload_n 0, 1) := by decide +kernel
theorem dX3_init_10 : decode cX3_init 10 = .ok (.iload_n 2, 1) := by decide +kernel
theorem dX3_init_11 : decode cX3_init 11 = .ok (.putfield 13, 3) := by decide +kernel
theorem dX3_init_14 : decode cX3_init 14 = .ok (.aload_n 0, 1) := by decide +kernel
theorem dX3_init_15 : decode cX3_init 15 = .ok (.iload 4, 2) := by decide +kernel
theorem dX3_init_17 : decode cX3_init 17 = .ok (.ifCond .le 10, 3) := by decide +kernel
theorem dX3_init_20 : decode cX3_init 20 = .ok (.iload_n 3, 1) := by decide +kernel
theorem dX3_init_21 : decode cX3_init 21 = .ok (.iload 4, 2) := by decide +kernel
theorem dX3_init_23 : decode cX3_init 23 = .ok (.idiv, 1) := by decide +kernel
theorem dX3_init_24 : decode cX3_init 24 = .ok (.goto 4, 3) := by decide +kernel
theorem dX3_init_27 : decode cX3_init 27 = .ok (.iload_n 3, 1) := by decide +kernel
theorem dX3_init_28 : decode cX3_init 28 = .ok (.putfield 17, 3) := by decide +kernel
theorem dX3_init_31 : decode cX3_init 31 = .ok (.aload_n 0, 1) := by decide +kernel
theorem dX3_init_32 : decode cX3_init 32 = .ok (.iload 4, 2) := by decide +kernel
theorem dX3_init_34 : decode cX3_init 34 = .ok (.putfield 20, 3) := by decide +kernel
theorem dX3_init_37 : decode cX3_init 37 = .ok (.aload_n 0, 1) := by decide +kernel
theorem dX3_init_38 : decode cX3_init 38 = .ok (.iload 5, 2) := by decide +kernel
theorem dX3_init_40 : decode cX3_init 40 = .ok (.putfield 23, 3) := by decide +kernel
theorem dX3_init_43 : decode cX3_init 43 = .ok (.aload_n 0, 1) := by decide +kernel
theorem dX3_init_44 : decode cX3_init 44 = .ok (.iload 6, 2) := by decide +kernel
theorem dX3_init_46 : decode cX3_init 46 = .ok (.putfield 26, 3) := by decide +kernel
theorem dX3_init_49 : decode cX3_init 49 = .ok (.aload_n 0, 1) := by decide +kernel
theorem dX3_init_50 : decode cX3_init 50 = .ok (.iload_n 3, 1) := by decide +kernel
theorem dX3_init_51 : decode cX3_init 51 = .ok (.putfield 29, 3) := by decide +kernel
theorem dX3_init_54 : decode cX3_init 54 = .ok (.return_, 1) := by decide +kernel
theorem dX3_isOpen_0 : decode cX3_isOpen 0 = .ok (.aload_n 0, 1) := by decide +kernel
theorem dX3_isOpen_1 : decode cX3_isOpen 1 = .ok (.getfield 29, 3) := by decide +kernel
theorem dX3_isOpen_4 : decode cX3_isOpen 4 = .ok (.ifCond .le 7, 3) := by decide +kernel
theorem dX3_isOpen_7 : decode cX3_isOpen 7 = .ok (.iconst 1, 1) := by decide +kernel
theorem dX3_isOpen_8 : decode cX3_isOpen 8 = .ok (.goto 4, 3) := by decide +kernel
theorem dX3_isOpen_11 : decode cX3_isOpen 11 = .ok (.iconst 0, 1) := by decide +kernel
theorem dX3_isOpen_12 : decode cX3_isOpen 12 = .ok (.ireturn, 1) := by decide +kernel
theorem dX3_nextPart_0 : decode cX3_nextPart 0 = .ok (.aload_n 0, 1) := by decide +kernel
theorem dX3_nextPart_1 : decode cX3_nextPart 1 = .ok (.getfield 32, 3) := by decide +kernel
theorem dX3_nextPart_4 : decode cX3_nextPart 4 = .ok (.aload_n 0, 1) := by decide +kernel
theorem dX3_nextPart_5 : decode cX3_nextPart 5 = .ok (.getfield 20, 3) := by decide +kernel
theorem dX3_nextPart_8 : decode cX3_nextPart 8 = .ok (.iconst 1, 1) := by decide +kernel
theorem dX3_nextPart_9 : decode cX3_nextPart 9 = .ok (.isub, 1) := by decide +kernel
theorem dX3_nextPart_10 : decode cX3_nextPart 10 = .ok (.if_icmp .lt 10, 3) := by decide +kernel
theorem dX3_nextPart_13 : decode cX3_nextPart 13 = .ok (.aload_n 0, 1) := by decide +kernel
theorem dX3_nextPart_14 : decode cX3_nextPart 14 = .ok (.getfield 29, 3) := by decide +kernel
theorem dX3_nextPart_17 : decode cX3_nextPart 17 = .ok (.goto 7, 3) := by decide +kernel
theorem dX3_nextPart_20 : decode cX3_nextPart 20 = .ok (.aload_n 0, 1) := by decide +kernel
theorem dX3_nextPart_21 : decode cX3_nextPart 21 = .ok (.getfield 17, 3) := by decide +kernel
theorem dX3_nextPart_24 : decode cX3_nextPart 24 = .ok (.ireturn, 1) := by decide +kernel
theorem dX3_nextDue_0 : decode cX3_nextDue 0 = .ok (.aload_n 0, 1) := by decide +kernel
theorem dX3_nextDue_1 : decode cX3_nextDue 1 = .ok (.getfield 26, 3) := by decide +kernel
theorem dX3_nextDue_4 : decode cX3_nextDue 4 = .ok (.aload_n 0, 1) := by decide +kernel
theorem dX3_nextDue_5 : decode cX3_nextDue 5 = .ok (.getfield 32, 3) := by decide +kernel
theorem dX3_nextDue_8 : decode cX3_nextDue 8 = .ok (.aload_n 0, 1) := by decide +kernel
theorem dX3_nextDue_9 : decode cX3_nextDue 9 = .ok (.getfield 23, 3) := by decide +kernel
theorem dX3_nextDue_12 : decode cX3_nextDue 12 = .ok (.imul, 1) := by decide +kernel
theorem dX3_nextDue_13 : decode cX3_nextDue 13 = .ok (.iadd, 1) := by decide +kernel
theorem dX3_nextDue_14 : decode cX3_nextDue 14 = .ok (.ireturn, 1) := by decide +kernel
theorem dX3_payNextPart_0 : decode cX3_payNextPart 0 = .ok (.aload_n 0, 1) := by decide +kernel
theorem dX3_payNextPart_1 : decode cX3_payNextPart 1 = .ok (.invokevirtual 35, 3) := by decide +kernel
theorem dX3_payNextPart_4 : decode cX3_payNextPart 4 = .ok (.istore_n 2, 1) := by decide +kernel
theorem dX3_payNextPart_5 : decode cX3_payNextPart 5 = .ok (.aload_n 0, 1) := by decide +kernel
theorem dX3_payNextPart_6 : decode cX3_payNextPart 6 = .ok (.getfield 7, 3) := by decide +kernel
theorem dX3_payNextPart_9 : decode cX3_payNextPart 9 = .ok (.iload_n 2, 1) := by decide +kernel
theorem dX3_payNextPart_10 : decode cX3_payNextPart 10 = .ok (.iload_n 1, 1) := by decide +kernel
theorem dX3_payNextPart_11 : decode cX3_payNextPart 11 = .ok (.invokevirtual 39, 3) := by decide +kernel
theorem dX3_payNextPart_14 : decode cX3_payNextPart 14 = .ok (.aload_n 0, 1) := by decide +kernel
theorem dX3_payNextPart_15 : decode cX3_payNextPart 15 = .ok (.dup, 1) := by decide +kernel
theorem dX3_payNextPart_16 : decode cX3_payNextPart 16 = .ok (.getfield 29, 3) := by decide +kernel
theorem dX3_payNextPart_19 : decode cX3_payNextPart 19 = .ok (.iload_n 2, 1) := by decide +kernel
theorem dX3_payNextPart_20 : decode cX3_payNextPart 20 = .ok (.isub, 1) := by decide +kernel
theorem dX3_payNextPart_21 : decode cX3_payNextPart 21 = .ok (.putfield 29, 3) := by decide +kernel
theorem dX3_payNextPart_24 : decode cX3_payNextPart 24 = .ok (.aload_n 0, 1) := by decide +kernel
theorem dX3_payNextPart_25 : decode cX3_payNextPart 25 = .ok (.dup, 1) := by decide +kernel
theorem dX3_payNextPart_26 : decode cX3_payNextPart 26 = .ok (.getfield 45, 3) := by decide +kernel
theorem dX3_payNextPart_29 : decode cX3_payNextPart 29 = .ok (.iload_n 2, 1) := by decide +kernel
theorem dX3_payNextPart_30 : decode cX3_payNextPart 30 = .ok (.iload_n 1, 1) := by decide +kernel
theorem dX3_payNextPart_31 : decode cX3_payNextPart 31 = .ok (.isub, 1) := by decide +kernel
theorem dX3_payNextPart_32 : decode cX3_payNextPart 32 = .ok (.iadd, 1) := by decide +kernel
theorem dX3_payNextPart_33 : decode cX3_payNextPart 33 = .ok (.putfield 45, 3) := by decide +kernel
theorem dX3_payNextPart_36 : decode cX3_payNextPart 36 = .ok (.aload_n 0, 1) := by decide +kernel
theorem dX3_payNextPart_37 : decode cX3_payNextPart 37 = .ok (.dup, 1) := by decide +kernel
theorem dX3_payNextPart_38 : decode cX3_payNextPart 38 = .ok (.getfield 32, 3) := by decide +kernel
theorem dX3_payNextPart_41 : decode cX3_payNextPart 41 = .ok (.iconst 1, 1) := by decide +kernel
theorem dX3_payNextPart_42 : decode cX3_payNextPart 42 = .ok (.iadd, 1) := by decide +kernel
theorem dX3_payNextPart_43 : decode cX3_payNextPart 43 = .ok (.putfield 32, 3) := by decide +kernel
theorem dX3_payNextPart_46 : decode cX3_payNextPart 46 = .ok (.return_, 1) := by decide +kernel
theorem dX3_release_0 : decode cX3_release 0 = .ok (.aload_n 0, 1) := by decide +kernel
theorem dX3_release_1 : decode cX3_release 1 = .ok (.getfield 29, 3) := by decide +kernel
theorem dX3_release_4 : decode cX3_release 4 = .ok (.istore_n 1, 1) := by decide +kernel
theorem dX3_release_5 : decode cX3_release 5 = .ok (.aload_n 0, 1) := by decide +kernel
theorem dX3_release_6 : decode cX3_release 6 = .ok (.getfield 7, 3) := by decide +kernel
theorem dX3_release_9 : decode cX3_release 9 = .ok (.iload_n 1, 1) := by decide +kernel
theorem dX3_release_10 : decode cX3_release 10 = .ok (.invokevirtual 48, 3) := by decide +kernel
theorem dX3_release_13 : decode cX3_release 13 = .ok (.aload_n 0, 1) := by decide +kernel
theorem dX3_release_14 : decode cX3_release 14 = .ok (.iconst 0, 1) := by decide +kernel
theorem dX3_release_15 : decode cX3_release 15 = .ok (.putfield 29, 3) := by decide +kernel
theorem dX3_release_18 : decode cX3_release 18 = .ok (.iload_n 1, 1) := by decide +kernel
theorem dX3_release_19 : decode cX3_release 19 = .ok (.ireturn, 1) := by decide +kernel
theorem dX3_takeBack_0 : decode cX3_takeBack 0 = .ok (.aload_n 0, 1) := by decide +kernel
theorem dX3_takeBack_1 : decode cX3_takeBack 1 = .ok (.getfield 7, 3) := by decide +kernel
theorem dX3_takeBack_4 : decode cX3_takeBack 4 = .ok (.iload_n 1, 1) := by decide +kernel
theorem dX3_takeBack_5 : decode cX3_takeBack 5 = .ok (.invokevirtual 52, 3) := by decide +kernel
theorem dX3_takeBack_8 : decode cX3_takeBack 8 = .ok (.aload_n 0, 1) := by decide +kernel
theorem dX3_takeBack_9 : decode cX3_takeBack 9 = .ok (.dup, 1) := by decide +kernel
theorem dX3_takeBack_10 : decode cX3_takeBack 10 = .ok (.getfield 45, 3) := by decide +kernel
theorem dX3_takeBack_13 : decode cX3_takeBack 13 = .ok (.iload_n 1, 1) := by decide +kernel
theorem dX3_takeBack_14 : decode cX3_takeBack 14 = .ok (.isub, 1) := by decide +kernel
theorem dX3_takeBack_15 : decode cX3_takeBack 15 = .ok (.putfield 45, 3) := by decide +kernel
theorem dX3_takeBack_18 : decode cX3_takeBack 18 = .ok (.return_, 1) := by decide +kernel
theorem dX4_init_0 : decode cX4_init 0 = .ok (.aload_n 0, 1) := by decide +kernel
theorem dX4_init_1 : decode cX4_init 1 = .ok (.invokespecial 3, 3) := by decide +kernel
theorem dX4_init_4 : decode cX4_init 4 = .ok (.aload_n 0, 1) := by decide +kernel
theorem dX4_init_5 : decode cX4_init 5 = .ok (.bipush 8, 2) := by decide +kernel
theorem dX4_init_7 : decode cX4_init 7 = .ok (.newarray .int, 2) := by decide +kernel
theorem dX4_init_9 : decode cX4_init 9 = .ok (.putfield 9, 3) := by decide +kernel
theorem dX4_init_12 : decode cX4_init 12 = .ok (.aload_n 0, 1) := by decide +kernel
theorem dX4_init_13 : decode cX4_init 13 = .ok (.bipush 8, 2) := by decide +kernel
theorem dX4_init_15 : decode cX4_init 15 = .ok (.newarray .int, 2) := by decide +kernel
theorem dX4_init_17 : decode cX4_init 17 = .ok (.putfield 15, 3) := by decide +kernel
theorem dX4_init_20 : decode cX4_init 20 = .ok (.aload_n 0, 1) := by decide +kernel
theorem dX4_init_21 : decode cX4_init 21 = .ok (.bipush 14, 2) := by decide +kernel
theorem dX4_init_23 : decode cX4_init 23 = .ok (.newarray .int, 2) := by decide +kernel
theorem dX4_init_25 : decode cX4_init 25 = .ok (.putfield 18, 3) := by decide +kernel
theorem dX4_init_28 : decode cX4_init 28 = .ok (.aload_n 0, 1) := by decide +kernel
theorem dX4_init_29 : decode cX4_init 29 = .ok (.bipush 14, 2) := by decide +kernel
theorem dX4_init_31 : decode cX4_init 31 = .ok (.newarray .int, 2) := by decide +kernel
theorem dX4_init_33 : decode cX4_init 33 = .ok (.putfield 21, 3) := by decide +kernel
theorem dX4_init_36 : decode cX4_init 36 = .ok (.aload_n 0, 1) := by decide +kernel
theorem dX4_init_37 : decode cX4_init 37 = .ok (.bipush 14, 2) := by decide +kernel
theorem dX4_init_39 : decode cX4_init 39 = .ok (.newarray .int, 2) := by decide +kernel
theorem dX4_init_41 : decode cX4_init 41 = .ok (.putfield 24, 3) := by decide +kernel
theorem dX4_init_44 : decode cX4_init 44 = .ok (.return_, 1) := by decide +kernel
theorem dX4_clear_0 : decode cX4_clear 0 = .ok (.aload_n 0, 1) := by decide +kernel
theorem dX4_clear_1 : decode cX4_clear 1 = .ok (.iconst 0, 1) := by decide +kernel
theorem dX4_clear_2 : decode cX4_clear 2 = .ok (.putfield 27, 3) := by decide +kernel
theorem dX4_clear_5 : decode cX4_clear 5 = .ok (.aload_n 0, 1) := by decide +kernel
theorem dX4_clear_6 : decode cX4_clear 6 = .ok (.iconst 0, 1) := by decide +kernel
theorem dX4_clear_7 : decode cX4_clear 7 = .ok (.putfield 31, 3) := by decide +kernel
theorem dX4_clear_10 : decode cX4_clear 10 = .ok (.return_, 1) := by decide +kernel
theorem dX4_addReader_0 : decode cX4_addReader 0 = .ok (.aload_n 0, 1) := by decide +kernel
theorem dX4_addReader_1 : decode cX4_addReader 1 = .ok (.getfield 27, 3) := by decide +kernel
theorem dX4_addReader_4 : decode cX4_addReader 4 = .ok (.bipush 8, 2) := by decide +kernel
theorem dX4_addReader_6 : decode cX4_addReader 6 = .ok (.if_icmp .ge 33, 3) := by decide +kernel
theorem dX4_addReader_9 : decode cX4_addReader 9 = .ok (.aload_n 0, 1) := by decide +kernel
theorem dX4_addReader_10 : decode cX4_addReader 10 = .ok (.getfield 9, 3) := by decide +kernel
theorem dX4_addReader_13 : decode cX4_addReader 13 = .ok (.aload_n 0, 1) := by decide +kernel
theorem dX4_addReader_14 : decode cX4_addReader 14 = .ok (.getfield 27, 3) := by decide +kernel
theorem dX4_addReader_17 : decode cX4_addReader 17 = .ok (.iload_n 1, 1) := by decide +kernel
theorem dX4_addReader_18 : decode cX4_addReader 18 = .ok (.iastore, 1) := by decide +kernel
theorem dX4_addReader_19 : decode cX4_addReader 19 = .ok (.aload_n 0, 1) := by decide +kernel
theorem dX4_addReader_20 : decode cX4_addReader 20 = .ok (.getfield 15, 3) := by decide +kernel
theorem dX4_addReader_23 : decode cX4_addReader 23 = .ok (.aload_n 0, 1) := by decide +kernel
theorem dX4_addReader_24 : decode cX4_addReader 24 = .ok (.getfield 27, 3) := by decide +kernel
theorem dX4_addReader_27 : decode cX4_addReader 27 = .ok (.iconst 0, 1) := by decide +kernel
theorem dX4_addReader_28 : decode cX4_addReader 28 = .ok (.iastore, 1) := by decide +kernel
theorem dX4_addReader_29 : decode cX4_addReader 29 = .ok (.aload_n 0, 1) := by decide +kernel
theorem dX4_addReader_30 : decode cX4_addReader 30 = .ok (.dup, 1) := by decide +kernel
theorem dX4_addReader_31 : decode cX4_addReader 31 = .ok (.getfield 27, 3) := by decide +kernel
theorem dX4_addReader_34 : decode cX4_addReader 34 = .ok (.iconst 1, 1) := by decide +kernel
theorem dX4_addReader_35 : decode cX4_addReader 35 = .ok (.iadd, 1) := by decide +kernel
theorem dX4_addReader_36 : decode cX4_addReader 36 = .ok (.putfield 27, 3) := by decide +kernel
theorem dX4_addReader_39 : decode cX4_addReader 39 = .ok (.return_, 1) := by decide +kernel
theorem dX4_addAsking_0 : decode cX4_addAsking 0 = .ok (.aload_n 0, 1) := by decide +kernel
theorem dX4_addAsking_1 : decode cX4_addAsking 1 = .ok (.getfield 31, 3) := by decide +kernel
theorem dX4_addAsking_4 : decode cX4_addAsking 4 = .ok (.bipush 14, 2) := by decide +kernel
theorem dX4_addAsking_6 : decode cX4_addAsking 6 = .ok (.if_icmp .ge 43, 3) := by decide +kernel
theorem dX4_addAsking_9 : decode cX4_addAsking 9 = .ok (.aload_n 0, 1) := by decide +kernel
theorem dX4_addAsking_10 : decode cX4_addAsking 10 = .ok (.getfield 18, 3) := by decide +kernel
theorem dX4_addAsking_13 : decode cX4_addAsking 13 = .ok (.aload_n 0, 1) := by decide +kernel
theorem dX4_addAsking_14 : decode cX4_addAsking 14 = .ok (.getfield 31, 3) := by decide +kernel
theorem dX4_addAsking_17 : decode cX4_addAsking 17 = .ok (.iload_n 1, 1) := by decide +kernel
theorem dX4_addAsking_18 : decode cX4_addAsking 18 = .ok (.iastore, 1) := by decide +kernel
theorem dX4_addAsking_19 : decode cX4_addAsking 19 = .ok (.aload_n 0, 1) := by decide +kernel
theorem dX4_addAsking_20 : decode cX4_addAsking 20 = .ok (.getfield 21, 3) := by decide +kernel
theorem dX4_addAsking_23 : decode cX4_addAsking 23 = .ok (.aload_n 0, 1) := by decide +kernel
theorem dX4_addAsking_24 : decode cX4_addAsking 24 = .ok (.getfield 31, 3) := by decide +kernel
theorem dX4_addAsking_27 : decode cX4_addAsking 27 = .ok (.iload_n 2, 1) := by decide +kernel
theorem dX4_addAsking_28 : decode cX4_addAsking 28 = .ok (.iastore, 1) := by decide +kernel
theorem dX4_addAsking_29 : decode cX4_addAsking 29 = .ok (.aload_n 0, 1) := by decide +kernel
theorem dX4_addAsking_30 : decode cX4_addAsking 30 = .ok (.getfield 24, 3) := by decide +kernel
theorem dX4_addAsking_33 : decode cX4_addAsking 33 = .ok (.aload_n 0, 1) := by decide +kernel
theorem dX4_addAsking_34 : decode cX4_addAsking 34 = .ok (.getfield 31, 3) := by decide +kernel
theorem dX4_addAsking_37 : decode cX4_addAsking 37 = .ok (.iconst 0, 1) := by decide +kernel
theorem dX4_addAsking_38 : decode cX4_addAsking 38 = .ok (.iastore, 1) := by decide +kernel
theorem dX4_addAsking_39 : decode cX4_addAsking 39 = .ok (.aload_n 0, 1) := by decide +kernel
theorem dX4_addAsking_40 : decode cX4_addAsking 40 = .ok (.dup, 1) := by decide +kernel
theorem dX4_addAsking_41 : decode cX4_addAsking 41 = .ok (.getfield 31, 3) := by decide +kernel
theorem dX4_addAsking_44 : decode cX4_addAsking 44 = .ok (.iconst 1, 1) := by decide +kernel
theorem dX4_addAsking_45 : decode cX4_addAsking 45 = .ok (.iadd, 1) := by decide +kernel
theorem dX4_addAsking_46 : decode cX4_addAsking 46 = .ok (.putfield 31, 3) := by decide +kernel
theorem dX4_addAsking_49 : decode cX4_addAsking 49 = .ok (.return_, 1) := by decide +kernel
theorem dX4_mostPairs_0 : decode cX4_mostPairs 0 = .ok (.iconst 0, 1) := by decide +kernel
theorem dX4_mostPairs_1 : decode cX4_mostPairs 1 = .ok (.istore_n 1, 1) := by decide +kernel
theorem dX4_mostPairs_2 : decode cX4_mostPairs 2 = .ok (.iconst 0, 1) := by decide +kernel
theorem dX4_mostPairs_3 : decode cX4_mostPairs 3 = .ok (.istore_n 2, 1) := by decide +kernel
theorem dX4_mostPairs_4 : decode cX4_mostPairs 4 = .ok (.iload_n 2, 1) := by decide +kernel
theorem dX4_mostPairs_5 : decode cX4_mostPairs 5 = .ok (.aload_n 0, 1) := by decide +kernel
theorem dX4_mostPairs_6 : decode cX4_mostPairs 6 = .ok (.getfield 31, 3) := by decide +kernel
theorem dX4_mostPairs_9 : decode cX4_mostPairs 9 = .ok (.if_icmp .ge 44, 3) := by decide +kernel
theorem dX4_mostPairs_12 : decode cX4_mostPairs 12 = .ok (.iconst 0, 1) := by decide +kernel
theorem dX4_mostPairs_13 : decode cX4_mostPairs 13 = .ok (.istore_n 3, 1) := by decide +kernel
theorem dX4_mostPairs_14 : decode cX4_mostPairs 14 = .ok (.iload_n 3, 1) := by decide +kernel
theorem dX4_mostPairs_15 : decode cX4_mostPairs 15 = .ok (.aload_n 0, 1) := by decide +kernel
theorem dX4_mostPairs_16 : decode cX4_mostPairs 16 = .ok (.getfield 18, 3) := by decide +kernel
theorem dX4_mostPairs_19 : decode cX4_mostPairs 19 = .ok (.iload_n 2, 1) := by decide +kernel
theorem dX4_mostPairs_20 : decode cX4_mostPairs 20 = .ok (.iaload, 1) := by decide +kernel
theorem dX4_mostPairs_21 : decode cX4_mostPairs 21 = .ok (.if_icmp .ge 26, 3) := by decide +kernel
theorem dX4_mostPairs_24 : decode cX4_mostPairs 24 = .ok (.aload_n 0, 1) := by decide +kernel
theorem dX4_mostPairs_25 : decode cX4_mostPairs 25 = .ok (.iconst 0, 1) := by decide +kernel
theorem dX4_mostPairs_26 : decode cX4_mostPairs 26 = .ok (.putfield 34, 3) := by decide +kernel
theorem dX4_mostPairs_29 : decode cX4_mostPairs 29 = .ok (.aload_n 0, 1) := by decide +kernel
theorem dX4_mostPairs_30 : decode cX4_mostPairs 30 = .ok (.iload_n 2, 1) := by decide +kernel
theorem dX4_mostPairs_31 : decode cX4_mostPairs 31 = .ok (.iconst 0, 1) := by decide +kernel
theorem dX4_mostPairs_32 : decode cX4_mostPairs 32 = .ok (.invokevirtual 37, 3) := by decide +kernel
theorem dX4_mostPairs_35 : decode cX4_mostPairs 35 = .ok (.ifCond .eq 6, 3) := by decide +kernel
theorem dX4_mostPairs_38 : decode cX4_mostPairs 38 = .ok (.iinc 1 1, 3) := by decide +kernel
theorem dX4_mostPairs_41 : decode cX4_mostPairs 41 = .ok (.iinc 3 1, 3) := by decide +kernel
theorem dX4_mostPairs_44 : decode cX4_mostPairs 44 = .ok (.goto (-30), 3) := by decide +kernel
theorem dX4_mostPairs_47 : decode cX4_mostPairs 47 = .ok (.iinc 2 1, 3) := by decide +kernel
theorem dX4_mostPairs_50 : decode cX4_mostPairs 50 = .ok (.goto (-46), 3) := by decide +kernel
theorem dX4_mostPairs_53 : decode cX4_mostPairs 53 = .ok (.iload_n 1, 1) := by decide +kernel
theorem dX4_mostPairs_54 : decode cX4_mostPairs 54 = .ok (.ireturn, 1) := by decide +kernel
theorem dX4_gains_0 : decode cX4_gains 0 = .ok (.iload_n 2, 1) := by decide +kernel
theorem dX4_gains_1 : decode cX4_gains 1 = .ok (.bipush 8, 2) := by decide +kernel
theorem dX4_gains_3 : decode cX4_gains 3 = .ok (.if_icmp .le 5, 3) := by decide +kernel
theorem dX4_gains_6 : decode cX4_gains 6 = .ok (.iconst 0, 1) := by decide +kernel
theorem dX4_gains_7 : decode cX4_gains 7 = .ok (.ireturn, 1) := by decide +kernel
theorem dX4_gains_8 : decode cX4_gains 8 = .ok (.iconst 0, 1) := by decide +kernel
theorem dX4_gains_9 : decode cX4_gains 9 = .ok (.istore_n 3, 1) := by decide +kernel
theorem dX4_gains_10 : decode cX4_gains 10 = .ok (.iload_n 3, 1) := by decide +kernel
theorem dX4_gains_11 : decode cX4_gains 11 = .ok (.aload_n 0, 1) := by decide +kernel
theorem dX4_gains_12 : decode cX4_gains 12 = .ok (.getfield 27, 3) := by decide +kernel
theorem dX4_gains_15 : decode cX4_gains 15 = .ok (.if_icmp .ge 73, 3) := by decide +kernel
theorem dX4_gains_18 : decode cX4_gains 18 = .ok (.aload_n 0, 1) := by decide +kernel
theorem dX4_gains_19 : decode cX4_gains 19 = .ok (.getfield 21, 3) := by decide +kernel
theorem dX4_gains_22 : decode cX4_gains 22 = .ok (.iload_n 1, 1) := by decide +kernel
theorem dX4_gains_23 : decode cX4_gains 23 = .ok (.iaload, 1) := by decide +kernel
theorem dX4_gains_24 : decode cX4_gains 24 = .ok (.aload_n 0, 1) := by decide +kernel
theorem dX4_gains_25 : decode cX4_gains 25 = .ok (.getfield 24, 3) := by decide +kernel
theorem dX4_gains_28 : decode cX4_gains 28 = .ok (.iload_n 1, 1) := by decide +kernel
theorem dX4_gains_29 : decode cX4_gains 29 = .ok (.iaload, 1) := by decide +kernel
theorem dX4_gains_30 : decode cX4_gains 30 = .ok (.iconst (-1), 1) := by decide +kernel
theorem dX4_gains_31 : decode cX4_gains 31 = .ok (.ixor, 1) := by decide +kernel
theorem dX4_gains_32 : decode cX4_gains 32 = .ok (.iand, 1) := by decide +kernel
theorem dX4_gains_33 : decode cX4_gains 33 = .ok (.aload_n 0, 1) := by decide +kernel
theorem dX4_gains_34 : decode cX4_gains 34 = .ok (.getfield 34, 3) := by decide +kernel
theorem dX4_gains_37 : decode cX4_gains 37 = .ok (.iconst (-1), 1) := by decide +kernel
theorem dX4_gains_38 : decode cX4_gains 38 = .ok (.ixor, 1) := by decide +kernel
theorem dX4_gains_39 : decode cX4_gains 39 = .ok (.iand, 1) := by decide +kernel
theorem dX4_gains_40 : decode cX4_gains 40 = .ok (.iload_n 3, 1) := by decide +kernel
theorem dX4_gains_41 : decode cX4_gains 41 = .ok (.invokestatic 41, 3) := by decide +kernel
theorem dX4_gains_44 : decode cX4_gains 44 = .ok (.ifCond .eq 38, 3) := by decide +kernel
theorem dX4_gains_47 : decode cX4_gains 47 = .ok (.aload_n 0, 1) := by decide +kernel
theorem dX4_gains_48 : decode cX4_gains 48 = .ok (.dup, 1) := by decide +kernel
theorem dX4_gains_49 : decode cX4_gains 49 = .ok (.getfield 34, 3) := by decide +kernel
theorem dX4_gains_52 : decode cX4_gains 52 = .ok (.iconst 1, 1) := by decide +kernel
theorem dX4_gains_53 : decode cX4_gains 53 = .ok (.iload_n 3, 1) := by decide +kernel
theorem dX4_gains_54 : decode cX4_gains 54 = .ok (.ishl, 1) := by decide +kernel
theorem dX4_gains_55 : decode cX4_gains 55 = .ok (.ior, 1) := by decide +kernel
theorem dX4_gains_56 : decode cX4_gains 56 = .ok (.putfield 34, 3) := by decide +kernel
theorem dX4_gains_59 : decode cX4_gains 59 = .ok (.aload_n 0, 1) := by decide +kernel
theorem dX4_gains_60 : decode cX4_gains 60 = .ok (.iload_n 3, 1) := by decide +kernel
theorem dX4_gains_61 : decode cX4_gains 61 = .ok (.iload_n 2, 1) := by decide +kernel
theorem dX4_gains_62 : decode cX4_gains 62 = .ok (.invokevirtual 44, 3) := by decide +kernel
theorem dX4_gains_65 : decode cX4_gains 65 = .ok (.ifCond .eq 17, 3) := by decide +kernel
theorem dX4_gains_68 : decode cX4_gains 68 = .ok (.aload_n 0, 1) := by decide +kernel
theorem dX4_gains_69 : decode cX4_gains 69 = .ok (.getfield 24, 3) := by decide +kernel
theorem dX4_gains_72 : decode cX4_gains 72 = .ok (.iload_n 1, 1) := by decide +kernel
theorem dX4_gains_73 : decode cX4_gains 73 = .ok (.dup2, 1) := by decide +kernel
theorem dX4_gains_74 : decode cX4_gains 74 = .ok (.iaload, 1) := by decide +kernel
theorem dX4_gains_75 : decode cX4_gains 75 = .ok (.iconst 1, 1) := by decide +kernel
theorem dX4_gains_76 : decode cX4_gains 76 = .ok (.iload_n 3, 1) := by decide +kernel
theorem dX4_gains_77 : decode cX4_gains 77 = .ok (.ishl, 1) := by decide +kernel
theorem dX4_gains_78 : decode cX4_gains 78 = .ok (.ior, 1) := by decide +kernel
theorem dX4_gains_79 : decode cX4_gains 79 = .ok (.iastore, 1) := by decide +kernel
theorem dX4_gains_80 : decode cX4_gains 80 = .ok (.iconst 1, 1) := by decide +kernel
theorem dX4_gains_81 : decode cX4_gains 81 = .ok (.ireturn, 1) := by decide +kernel
theorem dX4_gains_82 : decode cX4_gains 82 = .ok (.iinc 3 1, 3) := by decide +kernel
theorem dX4_gains_85 : decode cX4_gains 85 = .ok (.goto (-75), 3) := by decide +kernel
theorem dX4_gains_88 : decode cX4_gains 88 = .ok (.iconst 0, 1) := by decide +kernel
theorem dX4_gains_89 : decode cX4_gains 89 = .ok (.ireturn, 1) := by decide +kernel
theorem dX4_hasRoom_0 : decode cX4_hasRoom 0 = .ok (.aload_n 0, 1) := by decide +kernel
theorem dX4_hasRoom_1 : decode cX4_hasRoom 1 = .ok (.getfield 15, 3) := by decide +kernel
theorem dX4_hasRoom_4 : decode cX4_hasRoom 4 = .ok (.iload_n 1, 1) := by decide +kernel
theorem dX4_hasRoom_5 : decode cX4_hasRoom 5 = .ok (.iaload, 1) := by decide +kernel
theorem dX4_hasRoom_6 : decode cX4_hasRoom 6 = .ok (.aload_n 0, 1) := by decide +kernel
theorem dX4_hasRoom_7 : decode cX4_hasRoom 7 = .ok (.getfield 9, 3) := by decide +kernel
theorem dX4_hasRoom_10 : decode cX4_hasRoom 10 = .ok (.iload_n 1, 1) := by decide +kernel
theorem dX4_hasRoom_11 : decode cX4_hasRoom 11 = .ok (.iaload, 1) := by decide +kernel
theorem dX4_hasRoom_12 : decode cX4_hasRoom 12 = .ok (.if_icmp .ge 15, 3) := by decide +kernel
theorem dX4_hasRoom_15 : decode cX4_hasRoom 15 = .ok (.aload_n 0, 1) := by decide +kernel
theorem dX4_hasRoom_16 : decode cX4_hasRoom 16 = .ok (.getfield 15, 3) := by decide +kernel
theorem dX4_hasRoom_19 : decode cX4_hasRoom 19 = .ok (.iload_n 1, 1) := by decide +kernel
theorem dX4_hasRoom_20 : decode cX4_hasRoom 20 = .ok (.dup2, 1) := by decide +kernel
theorem dX4_hasRoom_21 : decode cX4_hasRoom 21 = .ok (.iaload, 1) := by decide +kernel
theorem dX4_hasRoom_22 : decode cX4_hasRoom 22 = .ok (.iconst 1, 1) := by decide +kernel
theorem dX4_hasRoom_23 : decode cX4_hasRoom 23 = .ok (.iadd, 1) := by decide +kernel
theorem dX4_hasRoom_24 : decode cX4_hasRoom 24 = .ok (.iastore, 1) := by decide +kernel
theorem dX4_hasRoom_25 : decode cX4_hasRoom 25 = .ok (.iconst 1, 1) := by decide +kernel
theorem dX4_hasRoom_26 : decode cX4_hasRoom 26 = .ok (.ireturn, 1) := by decide +kernel
theorem dX4_hasRoom_27 : decode cX4_hasRoom 27 = .ok (.iconst 0, 1) := by decide +kernel
theorem dX4_hasRoom_28 : decode cX4_hasRoom 28 = .ok (.istore_n 3, 1) := by decide +kernel
theorem dX4_hasRoom_29 : decode cX4_hasRoom 29 = .ok (.iload_n 3, 1) := by decide +kernel
theorem dX4_hasRoom_30 : decode cX4_hasRoom 30 = .ok (.aload_n 0, 1) := by decide +kernel
theorem dX4_hasRoom_31 : decode cX4_hasRoom 31 = .ok (.getfield 31, 3) := by decide +kernel
theorem dX4_hasRoom_34 : decode cX4_hasRoom 34 = .ok (.if_icmp .ge 49, 3) := by decide +kernel
theorem dX4_hasRoom_37 : decode cX4_hasRoom 37 = .ok (.aload_n 0, 1) := by decide +kernel
theorem dX4_hasRoom_38 : decode cX4_hasRoom 38 = .ok (.getfield 24, 3) := by decide +kernel
theorem dX4_hasRoom_41 : decode cX4_hasRoom 41 = .ok (.iload_n 3, 1) := by decide +kernel
theorem dX4_hasRoom_42 : decode cX4_hasRoom 42 = .ok (.iaload, 1) := by decide +kernel
theorem dX4_hasRoom_43 : decode cX4_hasRoom 43 = .ok (.iload_n 1, 1) := by decide +kernel
theorem dX4_hasRoom_44 : decode cX4_hasRoom 44 = .ok (.invokestatic 41, 3) := by decide +kernel
theorem dX4_hasRoom_47 : decode cX4_hasRoom 47 = .ok (.ifCond .eq 30, 3) := by decide +kernel
theorem dX4_hasRoom_50 : decode cX4_hasRoom 50 = .ok (.aload_n 0, 1) := by decide +kernel
theorem dX4_hasRoom_51 : decode cX4_hasRoom 51 = .ok (.iload_n 3, 1) := by decide +kernel
theorem dX4_hasRoom_52 : decode cX4_hasRoom 52 = .ok (.iload_n 2, 1) := by decide +kernel
theorem dX4_hasRoom_53 : decode cX4_hasRoom 53 = .ok (.iconst 1, 1) := by decide +kernel
theorem dX4_hasRoom_54 : decode cX4_hasRoom 54 = .ok (.iadd, 1) := by decide +kernel
theorem dX4_hasRoom_55 : decode cX4_hasRoom 55 = .ok (.invokevirtual 37, 3) := by decide +kernel
theorem dX4_hasRoom_58 : decode cX4_hasRoom 58 = .ok (.ifCond .eq 19, 3) := by decide +kernel
theorem dX4_hasRoom_61 : decode cX4_hasRoom 61 = .ok (.aload_n 0, 1) := by decide +kernel
theorem dX4_hasRoom_62 : decode cX4_hasRoom 62 = .ok (.getfield 24, 3) := by decide +kernel
theorem dX4_hasRoom_65 : decode cX4_hasRoom 65 = .ok (.iload_n 3, 1) := by decide +kernel
theorem dX4_hasRoom_66 : decode cX4_hasRoom 66 = .ok (.dup2, 1) := by decide +kernel
theorem dX4_hasRoom_67 : decode cX4_hasRoom 67 = .ok (.iaload, 1) := by decide +kernel
theorem dX4_hasRoom_68 : decode cX4_hasRoom 68 = .ok (.iconst 1, 1) := by decide +kernel
theorem dX4_hasRoom_69 : decode cX4_hasRoom 69 = .ok (.iload_n 1, 1) := by decide +kernel
theorem dX4_hasRoom_70 : decode cX4_hasRoom 70 = .ok (.ishl, 1) := by decide +kernel
theorem dX4_hasRoom_71 : decode cX4_hasRoom 71 = .ok (.iconst (-1), 1) := by decide +kernel
theorem dX4_hasRoom_72 : decode cX4_hasRoom 72 = .ok (.ixor, 1) := by decide +kernel
theorem dX4_hasRoom_73 : decode cX4_hasRoom 73 = .ok (.iand, 1) := by decide +kernel
theorem dX4_hasRoom_74 : decode cX4_hasRoom 74 = .ok (.iastore, 1) := by decide +kernel
theorem dX4_hasRoom_75 : decode cX4_hasRoom 75 = .ok (.iconst 1, 1) := by decide +kernel
theorem dX4_hasRoom_76 : decode cX4_hasRoom 76 = .ok (.ireturn, 1) := by decide +kernel
theorem dX4_hasRoom_77 : decode cX4_hasRoom 77 = .ok (.iinc 3 1, 3) := by decide +kernel
theorem dX4_hasRoom_80 : decode cX4_hasRoom 80 = .ok (.goto (-51), 3) := by decide +kernel
theorem dX4_hasRoom_83 : decode cX4_hasRoom 83 = .ok (.iconst 0, 1) := by decide +kernel
theorem dX4_hasRoom_84 : decode cX4_hasRoom 84 = .ok (.ireturn, 1) := by decide +kernel
theorem dX5_init_0 : decode cX5_init 0 = .ok (.aload_n 0, 1) := by decide +kernel
theorem dX5_init_1 : decode cX5_init 1 = .ok (.invokespecial 3, 3) := by decide +kernel
theorem dX5_init_4 : decode cX5_init 4 = .ok (.return_, 1) := by decide +kernel
theorem dX5_parse_0 : decode cX5_parse 0 = .ok (.aload_n 1, 1) := by decide +kernel
theorem dX5_parse_1 : decode cX5_parse 1 = .ok (.invokevirtual 9, 3) := by decide +kernel
theorem dX5_parse_4 : decode cX5_parse 4 = .ok (.aload_n 2, 1) := by decide +kernel
theorem dX5_parse_5 : decode cX5_parse 5 = .ok (.invokevirtual 14, 3) := by decide +kernel
theorem dX5_parse_8 : decode cX5_parse 8 = .ok (.aload_n 0, 1) := by decide +kernel
theorem dX5_parse_9 : decode cX5_parse 9 = .ok (.iconst 0, 1) := by decide +kernel
theorem dX5_parse_10 : decode cX5_parse 10 = .ok (.putfield 19, 3) := by decide +kernel
theorem dX5_parse_13 : decode cX5_parse 13 = .ok (.aload_n 0, 1) := by decide +kernel
theorem dX5_parse_14 : decode cX5_parse 14 = .ok (.iconst 0, 1) := by decide +kernel
theorem dX5_parse_15 : decode cX5_parse 15 = .ok (.putfield 25, 3) := by decide +kernel
theorem dX5_parse_18 : decode cX5_parse 18 = .ok (.aload_n 0, 1) := by decide +kernel
theorem dX5_parse_19 : decode cX5_parse 19 = .ok (.iconst (-1), 1) := by decide +kernel
theorem dX5_parse_20 : decode cX5_parse 20 = .ok (.putfield 28, 3) := by decide +kernel
theorem dX5_parse_23 : decode cX5_parse 23 = .ok (.iconst 0, 1) := by decide +kernel
theorem dX5_parse_24 : decode cX5_parse 24 = .ok (.istore_n 3, 1) := by decide +kernel
theorem dX5_parse_25 : decode cX5_parse 25 = .ok (.iload_n 3, 1) := by decide +kernel
theorem dX5_parse_26 : decode cX5_parse 26 = .ok (.iconst 3, 1) := by decide +kernel
theorem dX5_parse_27 : decode cX5_parse 27 = .ok (.if_icmp .ge 37, 3) := by decide +kernel
theorem dX5_parse_30 : decode cX5_parse 30 = .ok (.aload_n 0, 1) := by decide +kernel
theorem dX5_parse_31 : decode cX5_parse 31 = .ok (.aload_n 1, 1) := by decide +kernel
theorem dX5_parse_32 : decode cX5_parse 32 = .ok (.bipush 7, 2) := by decide +kernel
theorem dX5_parse_34 : decode cX5_parse 34 = .ok (.iload_n 3, 1) := by decide +kernel
theorem dX5_parse_35 : decode cX5_parse 35 = .ok (.iadd, 1) := by decide +kernel
theorem dX5_parse_36 : decode cX5_parse 36 = .ok (.invokevirtual 31, 3) := by decide +kernel
theorem dX5_parse_39 : decode cX5_parse 39 = .ok (.aload_n 0, 1) := by decide +kernel
theorem dX5_parse_40 : decode cX5_parse 40 = .ok (.aload_n 1, 1) := by decide +kernel
theorem dX5_parse_41 : decode cX5_parse 41 = .ok (.aload_n 2, 1) := by decide +kernel
theorem dX5_parse_42 : decode cX5_parse 42 = .ok (.iconst 0, 1) := by decide +kernel
theorem dX5_parse_43 : decode cX5_parse 43 = .ok (.invokevirtual 35, 3) := by decide +kernel
theorem dX5_parse_46 : decode cX5_parse 46 = .ok (.aload_n 2, 1) := by decide +kernel
theorem dX5_parse_47 : decode cX5_parse 47 = .ok (.iload_n 3, 1) := by decide +kernel
theorem dX5_parse_48 : decode cX5_parse 48 = .ok (.invokevirtual 39, 3) := by decide +kernel
theorem dX5_parse_51 : decode cX5_parse 51 = .ok (.aload_n 0, 1) := by decide +kernel
theorem dX5_parse_52 : decode cX5_parse 52 = .ok (.aload_n 1, 1) := by decide +kernel
theorem dX5_parse_53 : decode cX5_parse 53 = .ok (.bipush 16, 2) := by decide +kernel
theorem dX5_parse_55 : decode cX5_parse 55 = .ok (.invokevirtual 31, 3) := by decide +kernel
theorem dX5_parse_58 : decode cX5_parse 58 = .ok (.iinc 3 1, 3) := by decide +kernel
theorem dX5_parse_61 : decode cX5_parse 61 = .ok (.goto (-36), 3) := by decide +kernel
theorem dX5_parse_64 : decode cX5_parse 64 = .ok (.aload_n 0, 1) := by decide +kernel
theorem dX5_parse_65 : decode cX5_parse 65 = .ok (.aload_n 1, 1) := by decide +kernel
theorem dX5_parse_66 : decode cX5_parse 66 = .ok (.bipush 22, 2) := by decide +kernel
theorem dX5_parse_68 : decode cX5_parse 68 = .ok (.invokevirtual 31, 3) := by decide +kernel
theorem dX5_parse_71 : decode cX5_parse 71 = .ok (.aload_n 0, 1) := by decide +kernel
theorem dX5_parse_72 : decode cX5_parse 72 = .ok (.getfield 28, 3) := by decide +kernel
theorem dX5_parse_75 : decode cX5_parse 75 = .ok (.iconst (-1), 1) := by decide +kernel
theorem dX5_parse_76 : decode cX5_parse 76 = .ok (.if_icmp .ne 7, 3) := by decide +kernel
theorem dX5_parse_79 : decode cX5_parse 79 = .ok (.iconst (-1), 1) := by decide +kernel
theorem dX5_parse_80 : decode cX5_parse 80 = .ok (.goto 11, 3) := by decide +kernel
theorem dX5_parse_83 : decode cX5_parse 83 = .ok (.aload_n 1, 1) := by decide +kernel
theorem dX5_parse_84 : decode cX5_parse 84 = .ok (.aload_n 0, 1) := by decide +kernel
theorem dX5_parse_85 : decode cX5_parse 85 = .ok (.getfield 28, 3) := by decide +kernel
theorem dX5_parse_88 : decode cX5_parse 88 = .ok (.invokevirtual 43, 3) := by decide +kernel
theorem dX5_parse_91 : decode cX5_parse 91 = .ok (.ireturn, 1) := by decide +kernel
theorem dX5_parseLevel_0 : decode cX5_parseLevel 0 = .ok (.iload_n 3, 1) := by decide +kernel
theorem dX5_parseLevel_1 : decode cX5_parseLevel 1 = .ok (.iconst 5, 1) := by decide +kernel
theorem dX5_parseLevel_2 : decode cX5_parseLevel 2 = .ok (.if_icmp .lt 10, 3) := by decide +kernel
theorem dX5_parseLevel_5 : decode cX5_parseLevel 5 = .ok (.aload_n 0, 1) := by decide +kernel
theorem dX5_parseLevel_6 : decode cX5_parseLevel 6 = .ok (.aload_n 1, 1) := by decide +kernel
theorem dX5_parseLevel_7 : decode cX5_parseLevel 7 = .ok (.aload_n 2, 1) := by decide +kernel
theorem dX5_parseLevel_8 : decode cX5_parseLevel 8 = .ok (.invokevirtual 47, 3) := by decide +kernel
theorem dX5_parseLevel_11 : decode cX5_parseLevel 11 = .ok (.return_, 1) := by decide +kernel
theorem dX5_parseLevel_12 : decode cX5_parseLevel 12 = .ok (.iload_n 3, 1) := by decide +kernel
theorem dX5_parseLevel_13 : decode cX5_parseLevel 13 = .ok (.iconst 2, 1) := by decide +kernel
theorem dX5_parseLevel_14 : decode cX5_parseLevel 14 = .ok (.if_icmp .ne 48, 3) := by decide +kernel
theorem dX5_parseLevel_17 : decode cX5_parseLevel 17 = .ok (.aload_n 0, 1) := by decide +kernel
theorem dX5_parseLevel_18 : decode cX5_parseLevel 18 = .ok (.aload_n 1, 1) := by decide +kernel
theorem dX5_parseLevel_19 : decode cX5_parseLevel 19 = .ok (.invokevirtual 51, 3) := by decide +kernel
theorem dX5_parseLevel_22 : decode cX5_parseLevel 22 = .ok (.bipush 12, 2) := by decide +kernel
theorem dX5_parseLevel_24 : decode cX5_parseLevel 24 = .ok (.if_icmp .ne 38, 3) := by decide +kernel
theorem dX5_parseLevel_27 : decode cX5_parseLevel 27 = .ok (.aload_n 0, 1) := by decide +kernel
theorem dX5_parseLevel_28 : decode cX5_parseLevel 28 = .ok (.aload_n 1, 1) := by decide +kernel
theorem dX5_parseLevel_29 : decode cX5_parseLevel 29 = .ok (.invokevirtual 55, 3) := by decide +kernel
theorem dX5_parseLevel_32 : decode cX5_parseLevel 32 = .ok (.ifCond .eq 29, 3) := by decide +kernel
theorem dX5_parseLevel_35 : decode cX5_parseLevel 35 = .ok (.aload_n 0, 1) := by decide +kernel
theorem dX5_parseLevel_36 : decode cX5_parseLevel 36 = .ok (.aload_n 1, 1) := by decide +kernel
theorem dX5_parseLevel_37 : decode cX5_parseLevel 37 = .ok (.aload_n 2, 1) := by decide +kernel
theorem dX5_parseLevel_38 : decode cX5_parseLevel 38 = .ok (.iconst 2, 1) := by decide +kernel
theorem dX5_parseLevel_39 : decode cX5_parseLevel 39 = .ok (.invokevirtual 35, 3) := by decide +kernel
theorem dX5_parseLevel_42 : decode cX5_parseLevel 42 = .ok (.aload_n 0, 1) := by decide +kernel
theorem dX5_parseLevel_43 : decode cX5_parseLevel 43 = .ok (.dup, 1) := by decide +kernel
theorem dX5_parseLevel_44 : decode cX5_parseLevel 44 = .ok (.getfield 25, 3) := by decide +kernel
theorem dX5_parseLevel_47 : decode cX5_parseLevel 47 = .ok (.iconst 1, 1) := by decide +kernel
theorem dX5_parseLevel_48 : decode cX5_parseLevel 48 = .ok (.isub, 1) := by decide +kernel
theorem dX5_parseLevel_49 : decode cX5_parseLevel 49 = .ok (.putfield 25, 3) := by decide +kernel
theorem dX5_parseLevel_52 : decode cX5_parseLevel 52 = .ok (.aload_n 2, 1) := by decide +kernel
theorem dX5_parseLevel_53 : decode cX5_parseLevel 53 = .ok (.bipush 12, 2) := by decide +kernel
theorem dX5_parseLevel_55 : decode cX5_parseLevel 55 = .ok (.invokestatic 59, 3) := by decide +kernel
theorem dX5_parseLevel_58 : decode cX5_parseLevel 58 = .ok (.invokevirtual 62, 3) := by decide +kernel
theorem dX5_parseLevel_61 : decode cX5_parseLevel 61 = .ok (.return_, 1) := by decide +kernel
theorem dX5_parseLevel_62 : decode cX5_parseLevel 62 = .ok (.aload_n 0, 1) := by decide +kernel
theorem dX5_parseLevel_63 : decode cX5_parseLevel 63 = .ok (.aload_n 1, 1) := by decide +kernel
theorem dX5_parseLevel_64 : decode cX5_parseLevel 64 = .ok (.aload_n 2, 1) := by decide +kernel
theorem dX5_parseLevel_65 : decode cX5_parseLevel 65 = .ok (.iload_n 3, 1) := by decide +kernel
theorem dX5_parseLevel_66 : decode cX5_parseLevel 66 = .ok (.iconst 1, 1) := by decide +kernel
theorem dX5_parseLevel_67 : decode cX5_parseLevel 67 = .ok (.iadd, 1) := by decide +kernel
theorem dX5_parseLevel_68 : decode cX5_parseLevel 68 = .ok (.invokevirtual 35, 3) := by decide +kernel
theorem dX5_parseLevel_71 : decode cX5_parseLevel 71 = .ok (.iload_n 3, 1) := by decide +kernel
theorem dX5_parseLevel_72 : decode cX5_parseLevel 72 = .ok (.iconst 2, 1) := by decide +kernel
theorem dX5_parseLevel_73 : decode cX5_parseLevel 73 = .ok (.if_icmp .ne 7, 3) := by decide +kernel
theorem dX5_parseLevel_76 : decode cX5_parseLevel 76 = .ok (.iconst 1, 1) := by decide +kernel
theorem dX5_parseLevel_77 : decode cX5_parseLevel 77 = .ok (.goto 6, 3) := by decide +kernel
theorem dX5_parseLevel_80 : decode cX5_parseLevel 80 = .ok (.sipush 160, 3) := by decide +kernel
theorem dX5_parseLevel_83 : decode cX5_parseLevel 83 = .ok (.istore 4, 2) := by decide +kernel
theorem dX5_parseLevel_85 : decode cX5_parseLevel 85 = .ok (.iconst 0, 1) := by decide +kernel
theorem dX5_parseLevel_86 : decode cX5_parseLevel 86 = .ok (.istore 5, 2) := by decide +kernel
theorem dX5_parseLevel_88 : decode cX5_parseLevel 88 = .ok (.iload 5, 2) := by decide +kernel
theorem dX5_parseLevel_90 : decode cX5_parseLevel 90 = .ok (.iload 4, 2) := by decide +kernel
theorem dX5_parseLevel_92 : decode cX5_parseLevel 92 = .ok (.if_icmp .ge 56, 3) := by decide +kernel
theorem dX5_parseLevel_95 : decode cX5_parseLevel 95 = .ok (.aload_n 0, 1) := by decide +kernel
theorem dX5_parseLevel_96 : decode cX5_parseLevel 96 = .ok (.aload_n 1, 1) := by decide +kernel
theorem dX5_parseLevel_97 : decode cX5_parseLevel 97 = .ok (.invokevirtual 51, 3) := by decide +kernel
theorem dX5_parseLevel_100 : decode cX5_parseLevel 100 = .ok (.invokestatic 65, 3) := by decide +kernel
theorem dX5_parseLevel_103 : decode cX5_parseLevel 103 = .ok (.iload_n 3, 1) := by decide +kernel
theorem dX5_parseLevel_104 : decode cX5_parseLevel 104 = .ok (.if_icmp .ne 44, 3) := by decide +kernel
theorem dX5_parseLevel_107 : decode cX5_parseLevel 107 = .ok (.aload_n 0, 1) := by decide +kernel
theorem dX5_parseLevel_108 : decode cX5_parseLevel 108 = .ok (.aload_n 1, 1) := by decide +kernel
theorem dX5_parseLevel_109 : decode cX5_parseLevel 109 = .ok (.invokevirtual 51, 3) := by decide +kernel
theorem dX5_parseLevel_112 : decode cX5_parseLevel 112 = .ok (.istore 6, 2) := by decide +kernel
theorem dX5_parseLevel_114 : decode cX5_parseLevel 114 = .ok (.aload_n 0, 1) := by decide +kernel
theorem dX5_parseLevel_115 : decode cX5_parseLevel 115 = .ok (.dup, 1) := by decide +kernel
theorem dX5_parseLevel_116 : decode cX5_parseLevel 116 = .ok (.getfield 19, 3) := by decide +kernel
theorem dX5_parseLevel_119 : decode cX5_parseLevel 119 = .ok (.iconst 1, 1) := by decide +kernel
theorem dX5_parseLevel_120 : decode cX5_parseLevel 120 = .ok (.iadd, 1) := by decide +kernel
theorem dX5_parseLevel_121 : decode cX5_parseLevel 121 = .ok (.putfield 19, 3) := by decide +kernel
theorem dX5_parseLevel_124 : decode cX5_parseLevel 124 = .ok (.aload_n 0, 1) := by decide +kernel
theorem dX5_parseLevel_125 : decode cX5_parseLevel 125 = .ok (.aload_n 1, 1) := by decide +kernel
theorem dX5_parseLevel_126 : decode cX5_parseLevel 126 = .ok (.aload_n 2, 1) := by decide +kernel
theorem dX5_parseLevel_127 : decode cX5_parseLevel 127 = .ok (.iload_n 3, 1) := by decide +kernel
theorem dX5_parseLevel_128 : decode cX5_parseLevel 128 = .ok (.iconst 1, 1) := by decide +kernel
theorem dX5_parseLevel_129 : decode cX5_parseLevel 129 = .ok (.iadd, 1) := by decide +kernel
theorem dX5_parseLevel_130 : decode cX5_parseLevel 130 = .ok (.invokevirtual 35, 3) := by decide +kernel
theorem dX5_parseLevel_133 : decode cX5_parseLevel 133 = .ok (.aload_n 2, 1) := by decide +kernel
theorem dX5_parseLevel_134 : decode cX5_parseLevel 134 = .ok (.iload 6, 2) := by decide +kernel
theorem dX5_parseLevel_136 : decode cX5_parseLevel 136 = .ok (.invokestatic 59, 3) := by decide +kernel
theorem dX5_parseLevel_139 : decode cX5_parseLevel 139 = .ok (.invokevirtual 62, 3) := by decide +kernel
theorem dX5_parseLevel_142 : decode cX5_parseLevel 142 = .ok (.iinc 5 1, 3) := by decide +kernel
theorem dX5_parseLevel_145 : decode cX5_parseLevel 145 = .ok (.goto (-57), 3) := by decide +kernel
theorem dX5_parseLevel_148 : decode cX5_parseLevel 148 = .ok (.return_, 1) := by decide +kernel
theorem dX5_parseOne_0 : decode cX5_parseOne 0 = .ok (.aload_n 0, 1) := by decide +kernel
theorem dX5_parseOne_1 : decode cX5_parseOne 1 = .ok (.aload_n 1, 1) := by decide +kernel
theorem dX5_parseOne_2 : decode cX5_parseOne 2 = .ok (.invokevirtual 51, 3) := by decide +kernel
theorem dX5_parseOne_5 : decode cX5_parseOne 5 = .ok (.istore_n 3, 1) := by decide +kernel
theorem dX5_parseOne_6 : decode cX5_parseOne 6 = .ok (.iload_n 3, 1) := by decide +kernel
theorem dX5_parseOne_7 : decode cX5_parseOne 7 = .ok (.bipush 13, 2) := by decide +kernel
theorem dX5_parseOne_9 : decode cX5_parseOne 9 = .ok (.if_icmp .ne 28, 3) := by decide +kernel
theorem dX5_parseOne_12 : decode cX5_parseOne 12 = .ok (.aload_n 2, 1) := by decide +kernel
theorem dX5_parseOne_13 : decode cX5_parseOne 13 = .ok (.aload_n 1, 1) := by decide +kernel
theorem dX5_parseOne_14 : decode cX5_parseOne 14 = .ok (.aload_n 0, 1) := by decide +kernel
theorem dX5_parseOne_15 : decode cX5_parseOne 15 = .ok (.getfield 19, 3) := by decide +kernel
theorem dX5_parseOne_18 : decode cX5_parseOne 18 = .ok (.invokevirtual 68, 3) := by decide +kernel
theorem dX5_parseOne_21 : decode cX5_parseOne 21 = .ok (.invokevirtual 62, 3) := by decide +kernel
theorem dX5_parseOne_24 : decode cX5_parseOne 24 = .ok (.aload_n 0, 1) := by decide +kernel
theorem dX5_parseOne_25 : decode cX5_parseOne 25 = .ok (.dup, 1) := by decide +kernel
theorem dX5_parseOne_26 : decode cX5_parseOne 26 = .ok (.getfield 19, 3) := by decide +kernel
theorem dX5_parseOne_29 : decode cX5_parseOne 29 = .ok (.iconst 1, 1) := by decide +kernel
theorem dX5_parseOne_30 : decode cX5_parseOne 30 = .ok (.iadd, 1) := by decide +kernel
theorem dX5_parseOne_31 : decode cX5_parseOne 31 = .ok (.putfield 19, 3) := by decide +kernel
theorem dX5_parseOne_34 : decode cX5_parseOne 34 = .ok (.goto 117, 3) := by decide +kernel
theorem dX5_parseOne_37 : decode cX5_parseOne 37 = .ok (.iload_n 3, 1) := by decide +kernel
theorem dX5_parseOne_38 : decode cX5_parseOne 38 = .ok (.bipush 7, 2) := by decide +kernel
theorem dX5_parseOne_40 : decode cX5_parseOne 40 = .ok (.if_icmp .ge 24, 3) := by decide +kernel
theorem dX5_parseOne_43 : decode cX5_parseOne 43 = .ok (.aload_n 2, 1) := by decide +kernel
theorem dX5_parseOne_44 : decode cX5_parseOne 44 = .ok (.iload_n 3, 1) := by decide +kernel
theorem dX5_parseOne_45 : decode cX5_parseOne 45 = .ok (.invokestatic 59, 3) := by decide +kernel
theorem dX5_parseOne_48 : decode cX5_parseOne 48 = .ok (.invokevirtual 62, 3) := by decide +kernel
theorem dX5_parseOne_51 : decode cX5_parseOne 51 = .ok (.aload_n 0, 1) := by decide +kernel
theorem dX5_parseOne_52 : decode cX5_parseOne 52 = .ok (.dup, 1) := by decide +kernel
theorem dX5_parseOne_53 : decode cX5_parseOne 53 = .ok (.getfield 19, 3) := by decide +kernel
theorem dX5_parseOne_56 : decode cX5_parseOne 56 = .ok (.iconst 1, 1) := by decide +kernel
theorem dX5_parseOne_57 : decode cX5_parseOne 57 = .ok (.iadd, 1) := by decide +kernel
theorem dX5_parseOne_58 : decode cX5_parseOne 58 = .ok (.putfield 19, 3) := by decide +kernel
theorem dX5_parseOne_61 : decode cX5_parseOne 61 = .ok (.goto 90, 3) := by decide +kernel
theorem dX5_parseOne_64 : decode cX5_parseOne 64 = .ok (.iload_n 3, 1) := by decide +kernel
theorem dX5_parseOne_65 : decode cX5_parseOne 65 = .ok (.bipush 18, 2) := by decide +kernel
theorem dX5_parseOne_67 : decode cX5_parseOne 67 = .ok (.if_icmp .ne 39, 3) := by decide +kernel
theorem dX5_parseOne_70 : decode cX5_parseOne 70 = .ok (.aload_n 0, 1) := by decide +kernel
theorem dX5_parseOne_71 : decode cX5_parseOne 71 = .ok (.aload_n 1, 1) := by decide +kernel
theorem dX5_parseOne_72 : decode cX5_parseOne 72 = .ok (.invokevirtual 55, 3) := by decide +kernel
theorem dX5_parseOne_75 : decode cX5_parseOne 75 = .ok (.ifCond .eq 76, 3) := by decide +kernel
theorem dX5_parseOne_78 : decode cX5_parseOne 78 = .ok (.aload_n 0, 1) := by decide +kernel
theorem dX5_parseOne_79 : decode cX5_parseOne 79 = .ok (.aload_n 1, 1) := by decide +kernel
theorem dX5_parseOne_80 : decode cX5_parseOne 80 = .ok (.aload_n 2, 1) := by decide +kernel
theorem dX5_parseOne_81 : decode cX5_parseOne 81 = .ok (.invokevirtual 47, 3) := by decide +kernel
theorem dX5_parseOne_84 : decode cX5_parseOne 84 = .ok (.aload_n 0, 1) := by decide +kernel
theorem dX5_parseOne_85 : decode cX5_parseOne 85 = .ok (.dup, 1) := by decide +kernel
theorem dX5_parseOne_86 : decode cX5_parseOne 86 = .ok (.getfield 25, 3) := by decide +kernel
theorem dX5_parseOne_89 : decode cX5_parseOne 89 = .ok (.iconst 1, 1) := by decide +kernel
theorem dX5_parseOne_90 : decode cX5_parseOne 90 = .ok (.isub, 1) := by decide +kernel
theorem dX5_parseOne_91 : decode cX5_parseOne 91 = .ok (.putfield 25, 3) := by decide +kernel
theorem dX5_parseOne_94 : decode cX5_parseOne 94 = .ok (.aload_n 2, 1) := by decide +kernel
theorem dX5_parseOne_95 : decode cX5_parseOne 95 = .ok (.bipush 24, 2) := by decide +kernel
theorem dX5_parseOne_97 : decode cX5_parseOne 97 = .ok (.invokestatic 59, 3) := by decide +kernel
theorem dX5_parseOne_100 : decode cX5_parseOne 100 = .ok (.invokevirtual 62, 3) := by decide +kernel
theorem dX5_parseOne_103 : decode cX5_parseOne 103 = .ok (.goto 48, 3) := by decide +kernel
theorem dX5_parseOne_106 : decode cX5_parseOne 106 = .ok (.iload_n 3, 1) := by decide +kernel
theorem dX5_parseOne_107 : decode cX5_parseOne 107 = .ok (.bipush 14, 2) := by decide +kernel
theorem dX5_parseOne_109 : decode cX5_parseOne 109 = .ok (.if_icmp .ne 38, 3) := by decide +kernel
theorem dX5_parseOne_112 : decode cX5_parseOne 112 = .ok (.aload_n 0, 1) := by decide +kernel
theorem dX5_parseOne_113 : decode cX5_parseOne 113 = .ok (.aload_n 1, 1) := by decide +kernel
theorem dX5_parseOne_114 : decode cX5_parseOne 114 = .ok (.invokevirtual 55, 3) := by decide +kernel
theorem dX5_parseOne_117 : decode cX5_parseOne 117 = .ok (.ifCond .eq 34, 3) := by decide +kernel
theorem dX5_parseOne_120 : decode cX5_parseOne 120 = .ok (.aload_n 0, 1) := by decide +kernel
theorem dX5_parseOne_121 : decode cX5_parseOne 121 = .ok (.aload_n 1, 1) := by decide +kernel
theorem dX5_parseOne_122 : decode cX5_parseOne 122 = .ok (.aload_n 2, 1) := by decide +kernel
theorem dX5_parseOne_123 : decode cX5_parseOne 123 = .ok (.iconst 0, 1) := by decide +kernel
theorem dX5_parseOne_124 : decode cX5_parseOne 124 = .ok (.invokevirtual 35, 3) := by decide +kernel
theorem dX5_parseOne_127 : decode cX5_parseOne 127 = .ok (.aload_n 0, 1) := by decide +kernel
theorem dX5_parseOne_128 : decode cX5_parseOne 128 = .ok (.aload_n 1, 1) := by decide +kernel
theorem dX5_parseOne_129 : decode cX5_parseOne 129 = .ok (.bipush 15, 2) := by decide +kernel
theorem dX5_parseOne_131 : decode cX5_parseOne 131 = .ok (.invokevirtual 31, 3) := by decide +kernel
theorem dX5_parseOne_134 : decode cX5_parseOne 134 = .ok (.aload_n 0, 1) := by decide +kernel
theorem dX5_parseOne_135 : decode cX5_parseOne 135 = .ok (.dup, 1) := by decide +kernel
theorem dX5_parseOne_136 : decode cX5_parseOne 136 = .ok (.getfield 25, 3) := by decide +kernel
theorem dX5_parseOne_139 : decode cX5_parseOne 139 = .ok (.iconst 1, 1) := by decide +kernel
theorem dX5_parseOne_140 : decode cX5_parseOne 140 = .ok (.isub, 1) := by decide +kernel
theorem dX5_parseOne_141 : decode cX5_parseOne 141 = .ok (.putfield 25, 3) := by decide +kernel
theorem dX5_parseOne_144 : decode cX5_parseOne 144 = .ok (.goto 7, 3) := by decide +kernel
theorem dX5_parseOne_147 : decode cX5_parseOne 147 = .ok (.aload_n 0, 1) := by decide +kernel
theorem dX5_parseOne_148 : decode cX5_parseOne 148 = .ok (.invokevirtual 71, 3) := by decide +kernel
theorem dX5_parseOne_151 : decode cX5_parseOne 151 = .ok (.return_, 1) := by decide +kernel
theorem dX5_opens_0 : decode cX5_opens 0 = .ok (.aload_n 0, 1) := by decide +kernel
theorem dX5_opens_1 : decode cX5_opens 1 = .ok (.getfield 25, 3) := by decide +kernel
theorem dX5_opens_4 : decode cX5_opens 4 = .ok (.iconst 5, 1) := by decide +kernel
theorem dX5_opens_5 : decode cX5_opens 5 = .ok (.if_icmp .lt 9, 3) := by decide +kernel
theorem dX5_opens_8 : decode cX5_opens 8 = .ok (.aload_n 0, 1) := by decide +kernel
theorem dX5_opens_9 : decode cX5_opens 9 = .ok (.invokevirtual 71, 3) := by decide +kernel
theorem dX5_opens_12 : decode cX5_opens 12 = .ok (.iconst 0, 1) := by decide +kernel
theorem dX5_opens_13 : decode cX5_opens 13 = .ok (.ireturn, 1) := by decide +kernel
theorem dX5_opens_14 : decode cX5_opens 14 = .ok (.aload_n 0, 1) := by decide +kernel
theorem dX5_opens_15 : decode cX5_opens 15 = .ok (.dup, 1) := by decide +kernel
theorem dX5_opens_16 : decode cX5_opens 16 = .ok (.getfield 25, 3) := by decide +kernel
theorem dX5_opens_19 : decode cX5_opens 19 = .ok (.iconst 1, 1) := by decide +kernel
theorem dX5_opens_20 : decode cX5_opens 20 = .ok (.iadd, 1) := by decide +kernel
theorem dX5_opens_21 : decode cX5_opens 21 = .ok (.putfield 25, 3) := by decide +kernel
theorem dX5_opens_24 : decode cX5_opens 24 = .ok (.aload_n 0, 1) := by decide +kernel
theorem dX5_opens_25 : decode cX5_opens 25 = .ok (.dup, 1) := by decide +kernel
theorem dX5_opens_26 : decode cX5_opens 26 = .ok (.getfield 19, 3) := by decide +kernel
theorem dX5_opens_29 : decode cX5_opens 29 = .ok (.iconst 1, 1) := by decide +kernel
theorem dX5_opens_30 : decode cX5_opens 30 = .ok (.iadd, 1) := by decide +kernel
theorem dX5_opens_31 : decode cX5_opens 31 = .ok (.putfield 19, 3) := by decide +kernel
theorem dX5_opens_34 : decode cX5_opens 34 = .ok (.iconst 1, 1) := by decide +kernel
theorem dX5_opens_35 : decode cX5_opens 35 = .ok (.ireturn, 1) := by decide +kernel
theorem dX5_expect_0 : decode cX5_expect 0 = .ok (.aload_n 0, 1) := by decide +kernel
theorem dX5_expect_1 : decode cX5_expect 1 = .ok (.aload_n 1, 1) := by decide +kernel
theorem dX5_expect_2 : decode cX5_expect 2 = .ok (.invokevirtual 51, 3) := by decide +kernel
theorem dX5_expect_5 : decode cX5_expect 5 = .ok (.iload_n 2, 1) := by decide +kernel
theorem dX5_expect_6 : decode cX5_expect 6 = .ok (.if_icmp .ne 16, 3) := by decide +kernel
theorem dX5_expect_9 : decode cX5_expect 9 = .ok (.aload_n 0, 1) := by decide +kernel
theorem dX5_expect_10 : decode cX5_expect 10 = .ok (.dup, 1) := by decide +kernel
theorem dX5_expect_11 : decode cX5_expect 11 = .ok (.getfield 19, 3) := by decide +kernel
theorem dX5_expect_14 : decode cX5_expect 14 = .ok (.iconst 1, 1) := by decide +kernel
theorem dX5_expect_15 : decode cX5_expect 15 = .ok (.iadd, 1) := by decide +kernel
theorem dX5_expect_16 : decode cX5_expect 16 = .ok (.putfield 19, 3) := by decide +kernel
theorem dX5_expect_19 : decode cX5_expect 19 = .ok (.goto 7, 3) := by decide +kernel
theorem dX5_expect_22 : decode cX5_expect 22 = .ok (.aload_n 0, 1) := by decide +kernel
theorem dX5_expect_23 : decode cX5_expect 23 = .ok (.invokevirtual 71, 3) := by decide +kernel
theorem dX5_expect_26 : decode cX5_expect 26 = .ok (.return_, 1) := by decide +kernel
theorem dX5_current_0 : decode cX5_current 0 = .ok (.aload_n 0, 1) := by decide +kernel
theorem dX5_current_1 : decode cX5_current 1 = .ok (.getfield 28, 3) := by decide +kernel
theorem dX5_current_4 : decode cX5_current 4 = .ok (.iconst (-1), 1) := by decide +kernel
theorem dX5_current_5 : decode cX5_current 5 = .ok (.if_icmp .ne 14, 3) := by decide +kernel
theorem dX5_current_8 : decode cX5_current 8 = .ok (.aload_n 1, 1) := by decide +kernel
theorem dX5_current_9 : decode cX5_current 9 = .ok (.aload_n 0, 1) := by decide +kernel
theorem dX5_current_10 : decode cX5_current 10 = .ok (.getfield 19, 3) := by decide +kernel
theorem dX5_current_13 : decode cX5_current 13 = .ok (.invokevirtual 74, 3) := by decide +kernel
theorem dX5_current_16 : decode cX5_current 16 = .ok (.goto 5, 3) := by decide +kernel
theorem dX5_current_19 : decode cX5_current 19 = .ok (.bipush 23, 2) := by decide +kernel
theorem dX5_current_21 : decode cX5_current 21 = .ok (.ireturn, 1) := by decide +kernel
theorem dX5_fail_0 : decode cX5_fail 0 = .ok (.aload_n 0, 1) := by decide +kernel
theorem dX5_fail_1 : decode cX5_fail 1 = .ok (.getfield 28, 3) := by decide +kernel
theorem dX5_fail_4 : decode cX5_fail 4 = .ok (.iconst (-1), 1) := by decide +kernel
theorem dX5_fail_5 : decode cX5_fail 5 = .ok (.if_icmp .ne 11, 3) := by decide +kernel
theorem dX5_fail_8 : decode cX5_fail 8 = .ok (.aload_n 0, 1) := by decide +kernel
theorem dX5_fail_9 : decode cX5_fail 9 = .ok (.aload_n 0, 1) := by decide +kernel
theorem dX5_fail_10 : decode cX5_fail 10 = .ok (.getfield 19, 3) := by decide +kernel
theorem dX5_fail_13 : decode cX5_fail 13 = .ok (.putfield 28, 3) := by decide +kernel
theorem dX5_fail_16 : decode cX5_fail 16 = .ok (.return_, 1) := by decide +kernel
theorem dX5_levelOf_0 : decode cX5_levelOf 0 = .ok (.iload_n 0, 1) := by decide +kernel
theorem dX5_levelOf_1 : decode cX5_levelOf 1 = .ok (.tableswitch 73 10 21 #[63, 65, 73, 73, 73, 73, 73, 69, 69, 71, 67, 67], 63) := by decide +kernel
theorem dX5_levelOf_64 : decode cX5_levelOf 64 = .ok (.iconst 0, 1) := by decide +kernel
theorem dX5_levelOf_65 : decode cX5_levelOf 65 = .ok (.ireturn, 1) := by decide +kernel
theorem dX5_levelOf_66 : decode cX5_levelOf 66 = .ok (.iconst 1, 1) := by decide +kernel
theorem dX5_levelOf_67 : decode cX5_levelOf 67 = .ok (.ireturn, 1) := by decide +kernel
theorem dX5_levelOf_68 : decode cX5_levelOf 68 = .ok (.iconst 2, 1) := by decide +kernel
theorem dX5_levelOf_69 : decode cX5_levelOf 69 = .ok (.ireturn, 1) := by decide +kernel
theorem dX5_levelOf_70 : decode cX5_levelOf 70 = .ok (.iconst 3, 1) := by decide +kernel
theorem dX5_levelOf_71 : decode cX5_levelOf 71 = .ok (.ireturn, 1) := by decide +kernel
theorem dX5_levelOf_72 : decode cX5_levelOf 72 = .ok (.iconst 4, 1) := by decide +kernel
theorem dX5_levelOf_73 : decode cX5_levelOf 73 = .ok (.ireturn, 1) := by decide +kernel
theorem dX5_levelOf_74 : decode cX5_levelOf 74 = .ok (.iconst (-1), 1) := by decide +kernel
theorem dX5_levelOf_75 : decode cX5_levelOf 75 = .ok (.ireturn, 1) := by decide +kernel
theorem dX6_init_0 : decode cX6_init 0 = .ok (.aload_n 0, 1) := by decide +kernel
theorem dX6_init_1 : decode cX6_init 1 = .ok (.invokespecial 1, 3) := by decide +kernel
theorem dX6_init_4 : decode cX6_init 4 = .ok (.aload_n 0, 1) := by decide +kernel
theorem dX6_init_5 : decode cX6_init 5 = .ok (.iload_n 1, 1) := by decide +kernel
theorem dX6_init_6 : decode cX6_init 6 = .ok (.putfield 7, 3) := by decide +kernel
theorem dX6_init_9 : decode cX6_init 9 = .ok (.aload_n 0, 1) := by decide +kernel
theorem dX6_init_10 : decode cX6_init 10 = .ok (.iload_n 2, 1) := by decide +kernel
theorem dX6_init_11 : decode cX6_init 11 = .ok (.putfield 13, 3) := by decide +kernel
theorem dX6_init_14 : decode cX6_init 14 = .ok (.aload_n 0, 1) := by decide +kernel
theorem dX6_init_15 : decode cX6_init 15 = .ok (.iload_n 3, 1) := by decide +kernel
theorem dX6_init_16 : decode cX6_init 16 = .ok (.putfield 16, 3) := by decide +kernel
theorem dX6_init_19 : decode cX6_init 19 = .ok (.aload_n 0, 1) := by decide +kernel
theorem dX6_init_20 : decode cX6_init 20 = .ok (.iload 4, 2) := by decide +kernel
theorem dX6_init_22 : decode cX6_init 22 = .ok (.putfield 19, 3) := by decide +kernel
theorem dX6_init_25 : decode cX6_init 25 = .ok (.return_, 1) := by decide +kernel
theorem dX6_isAheadOf_0 : decode cX6_isAheadOf 0 = .ok (.aload_n 0, 1) := by decide +kernel
theorem dX6_isAheadOf_1 : decode cX6_isAheadOf 1 = .ok (.getfield 13, 3) := by decide +kernel
theorem dX6_isAheadOf_4 : decode cX6_isAheadOf 4 = .ok (.iload_n 2, 1) := by decide +kernel
theorem dX6_isAheadOf_5 : decode cX6_isAheadOf 5 = .ok (.invokestatic 22, 3) := by decide +kernel
theorem dX6_isAheadOf_8 : decode cX6_isAheadOf 8 = .ok (.istore_n 3, 1) := by decide +kernel
theorem dX6_isAheadOf_9 : decode cX6_isAheadOf 9 = .ok (.iload_n 3, 1) := by decide +kernel
theorem dX6_isAheadOf_10 : decode cX6_isAheadOf 10 = .ok (.aload_n 1, 1) := by decide +kernel
theorem dX6_isAheadOf_11 : decode cX6_isAheadOf 11 = .ok (.getfield 13, 3) := by decide +kernel
theorem dX6_isAheadOf_14 : decode cX6_isAheadOf 14 = .ok (.iload_n 2, 1) := by decide +kernel
theorem dX6_isAheadOf_15 : decode cX6_isAheadOf 15 = .ok (.invokestatic 22, 3) := by decide +kernel
theorem dX6_isAheadOf_18 : decode cX6_isAheadOf 18 = .ok (.if_icmp .eq 5, 3) := by decide +kernel
theorem dX6_isAheadOf_21 : decode cX6_isAheadOf 21 = .ok (.iload_n 3, 1) := by decide +kernel
theorem dX6_isAheadOf_22 : decode cX6_isAheadOf 22 = .ok (.ireturn, 1) := by decide +kernel
theorem dX6_isAheadOf_23 : decode cX6_isAheadOf 23 = .ok (.aload_n 0, 1) := by decide +kernel
theorem dX6_isAheadOf_24 : decode cX6_isAheadOf 24 = .ok (.getfield 28, 3) := by decide +kernel
theorem dX6_isAheadOf_27 : decode cX6_isAheadOf 27 = .ok (.aload_n 1, 1) := by decide +kernel
theorem dX6_isAheadOf_28 : decode cX6_isAheadOf 28 = .ok (.getfield 28, 3) := by decide +kernel
theorem dX6_isAheadOf_31 : decode cX6_isAheadOf 31 = .ok (.if_icmp .ge 7, 3) := by decide +kernel
theorem dX6_isAheadOf_34 : decode cX6_isAheadOf 34 = .ok (.iconst 1, 1) := by decide +kernel
theorem dX6_isAheadOf_35 : decode cX6_isAheadOf 35 = .ok (.goto 4, 3) := by decide +kernel
theorem dX6_isAheadOf_38 : decode cX6_isAheadOf 38 = .ok (.iconst 0, 1) := by decide +kernel
theorem dX6_isAheadOf_39 : decode cX6_isAheadOf 39 = .ok (.ireturn, 1) := by decide +kernel
theorem dX7_init_0 : decode cX7_init 0 = .ok (.aload_n 0, 1) := by decide +kernel
theorem dX7_init_1 : decode cX7_init 1 = .ok (.invokespecial 3, 3) := by decide +kernel
theorem dX7_init_4 : decode cX7_init 4 = .ok (.aload_n 0, 1) := by decide +kernel
theorem dX7_init_5 : decode cX7_init 5 = .ok (.bipush 8, 2) := by decide +kernel
theorem dX7_init_7 : decode cX7_init 7 = .ok (.newarray .int, 2) := by decide +kernel
theorem dX7_init_9 : decode cX7_init 9 = .ok (.putfield 9, 3) := by decide +kernel
theorem dX7_init_12 : decode cX7_init 12 = .ok (.aload_n 0, 1) := by decide +kernel
theorem dX7_init_13 : decode cX7_init 13 = .ok (.bipush 8, 2) := by decide +kernel
theorem dX7_init_15 : decode cX7_init 15 = .ok (.newarray .int, 2) := by decide +kernel
theorem dX7_init_17 : decode cX7_init 17 = .ok (.putfield 15, 3) := by decide +kernel
theorem dX7_init_20 : decode cX7_init 20 = .ok (.return_, 1) := by decide +kernel
theorem dX7_clear_0 : decode cX7_clear 0 = .ok (.iconst 0, 1) := by decide +kernel
theorem dX7_clear_1 : decode cX7_clear 1 = .ok (.istore_n 1, 1) := by decide +kernel
theorem dX7_clear_2 : decode cX7_clear 2 = .ok (.iload_n 1, 1) := by decide +kernel
theorem dX7_clear_3 : decode cX7_clear 3 = .ok (.aload_n 0, 1) := by decide +kernel
theorem dX7_clear_4 : decode cX7_clear 4 = .ok (.getfield 9, 3) := by decide +kernel
theorem dX7_clear_7 : decode cX7_clear 7 = .ok (.arraylength, 1) := by decide +kernel
theorem dX7_clear_8 : decode cX7_clear 8 = .ok (.if_icmp .ge 32, 3) := by decide +kernel
theorem dX7_clear_11 : decode cX7_clear 11 = .ok (.iload_n 1, 1) := by decide +kernel
theorem dX7_clear_12 : decode cX7_clear 12 = .ok (.aload_n 0, 1) := by decide +kernel
theorem dX7_clear_13 : decode cX7_clear 13 = .ok (.getfield 15, 3) := by decide +kernel
theorem dX7_clear_16 : decode cX7_clear 16 = .ok (.arraylength, 1) := by decide +kernel
theorem dX7_clear_17 : decode cX7_clear 17 = .ok (.if_icmp .ge 23, 3) := by decide +kernel
theorem dX7_clear_20 : decode cX7_clear 20 = .ok (.aload_n 0, 1) := by decide +kernel
theorem dX7_clear_21 : decode cX7_clear 21 = .ok (.getfield 9, 3) := by decide +kernel
theorem dX7_clear_24 : decode cX7_clear 24 = .ok (.iload_n 1, 1) := by decide +kernel
theorem dX7_clear_25 : decode cX7_clear 25 = .ok (.iconst 0, 1) := by decide +kernel
theorem dX7_clear_26 : decode cX7_clear 26 = .ok (.iastore, 1) := by decide +kernel
theorem dX7_clear_27 : decode cX7_clear 27 = .ok (.aload_n 0, 1) := by decide +kernel
theorem dX7_clear_28 : decode cX7_clear 28 = .ok (.getfield 15, 3) := by decide +kernel
theorem dX7_clear_31 : decode cX7_clear 31 = .ok (.iload_n 1, 1) := by decide +kernel
theorem dX7_clear_32 : decode cX7_clear 32 = .ok (.iconst 0, 1) := by decide +kernel
theorem dX7_clear_33 : decode cX7_clear 33 = .ok (.iastore, 1) := by decide +kernel
theorem dX7_clear_34 : decode cX7_clear 34 = .ok (.iinc 1 1, 3) := by decide +kernel
theorem dX7_clear_37 : decode cX7_clear 37 = .ok (.goto (-35), 3) := by decide +kernel
theorem dX7_clear_40 : decode cX7_clear 40 = .ok (.aload_n 0, 1) := by decide +kernel
theorem dX7_clear_41 : decode cX7_clear 41 = .ok (.iconst 0, 1) := by decide +kernel
theorem dX7_clear_42 : decode cX7_clear 42 = .ok (.putfield 18, 3) := by decide +kernel
theorem dX7_clear_45 : decode cX7_clear 45 = .ok (.aload_n 0, 1) := by decide +kernel
theorem dX7_clear_46 : decode cX7_clear 46 = .ok (.iconst 0, 1) := by decide +kernel
theorem dX7_clear_47 : decode cX7_clear 47 = .ok (.putfield 22, 3) := by decide +kernel
theorem dX7_clear_50 : decode cX7_clear 50 = .ok (.aload_n 0, 1) := by decide +kernel
theorem dX7_clear_51 : decode cX7_clear 51 = .ok (.lconst 0, 1) := by decide +kernel
theorem dX7_clear_52 : decode cX7_clear 52 = .ok (.putfield 25, 3) := by decide +kernel
theorem dX7_clear_55 : decode cX7_clear 55 = .ok (.aload_n 0, 1) := by decide +kernel
theorem dX7_clear_56 : decode cX7_clear 56 = .ok (.iconst 0, 1) := by decide +kernel
theorem dX7_clear_57 : decode cX7_clear 57 = .ok (.putfield 29, 3) := by decide +kernel
theorem dX7_clear_60 : decode cX7_clear 60 = .ok (.return_, 1) := by decide +kernel
theorem dX7_add_0 : decode cX7_add 0 = .ok (.iload_n 1, 1) := by decide +kernel
theorem dX7_add_1 : decode cX7_add 1 = .ok (.iconst 0, 1) := by decide +kernel
theorem dX7_add_2 : decode cX7_add 2 = .ok (.bipush 7, 2) := by decide +kernel
theorem dX7_add_4 : decode cX7_add 4 = .ok (.invokestatic 32, 3) := by decide +kernel
theorem dX7_add_7 : decode cX7_add 7 = .ok (.ifCond .eq 43, 3) := by decide +kernel
theorem dX7_add_10 : decode cX7_add 10 = .ok (.aload_n 0, 1) := by decide +kernel
theorem dX7_add_11 : decode cX7_add 11 = .ok (.getfield 9, 3) := by decide +kernel
theorem dX7_add_14 : decode cX7_add 14 = .ok (.iload_n 1, 1) := by decide +kernel
theorem dX7_add_15 : decode cX7_add 15 = .ok (.dup2, 1) := by decide +kernel
theorem dX7_add_16 : decode cX7_add 16 = .ok (.iaload, 1) := by decide +kernel
theorem dX7_add_17 : decode cX7_add 17 = .ok (.iload_n 2, 1) := by decide +kernel
theorem dX7_add_18 : decode cX7_add 18 = .ok (.iadd, 1) := by decide +kernel
theorem dX7_add_19 : decode cX7_add 19 = .ok (.iastore, 1) := by decide +kernel
theorem dX7_add_20 : decode cX7_add 20 = .ok (.aload_n 0, 1) := by decide +kernel
theorem dX7_add_21 : decode cX7_add 21 = .ok (.getfield 15, 3) := by decide +kernel
theorem dX7_add_24 : decode cX7_add 24 = .ok (.iload_n 1, 1) := by decide +kernel
theorem dX7_add_25 : decode cX7_add 25 = .ok (.dup2, 1) := by decide +kernel
theorem dX7_add_26 : decode cX7_add 26 = .ok (.iaload, 1) := by decide +kernel
theorem dX7_add_27 : decode cX7_add 27 = .ok (.iconst 1, 1) := by decide +kernel
theorem dX7_add_28 : decode cX7_add 28 = .ok (.iadd, 1) := by decide +kernel
theorem dX7_add_29 : decode cX7_add 29 = .ok (.iastore, 1) := by decide +kernel
theorem dX7_add_30 : decode cX7_add 30 = .ok (.aload_n 0, 1) := by decide +kernel
theorem dX7_add_31 : decode cX7_add 31 = .ok (.dup, 1) := by decide +kernel
theorem dX7_add_32 : decode cX7_add 32 = .ok (.getfield 18, 3) := by decide +kernel
theorem dX7_add_35 : decode cX7_add 35 = .ok (.iload_n 2, 1) := by decide +kernel
theorem dX7_add_36 : decode cX7_add 36 = .ok (.iadd, 1) := by decide +kernel
theorem dX7_add_37 : decode cX7_add 37 = .ok (.putfield 18, 3) := by decide +kernel
theorem dX7_add_40 : decode cX7_add 40 = .ok (.aload_n 0, 1) := by decide +kernel
theorem dX7_add_41 : decode cX7_add 41 = .ok (.dup, 1) := by decide +kernel
theorem dX7_add_42 : decode cX7_add 42 = .ok (.getfield 22, 3) := by decide +kernel
theorem dX7_add_45 : decode cX7_add 45 = .ok (.iconst 1, 1) := by decide +kernel
theorem dX7_add_46 : decode cX7_add 46 = .ok (.iadd, 1) := by decide +kernel
theorem dX7_add_47 : decode cX7_add 47 = .ok (.putfield 22, 3) := by decide +kernel
theorem dX7_add_50 : decode cX7_add 50 = .ok (.return_, 1) := by decide +kernel
theorem dX7_lay_0 : decode cX7_lay 0 = .ok (.iload_n 1, 1) := by decide +kernel
theorem dX7_lay_1 : decode cX7_lay 1 = .ok (.iconst 0, 1) := by decide +kernel
theorem dX7_lay_2 : decode cX7_lay 2 = .ok (.bipush 7, 2) := by decide +kernel
theorem dX7_lay_4 : decode cX7_lay 4 = .ok (.invokestatic 32, 3) := by decide +kernel
theorem dX7_lay_7 : decode cX7_lay 7 = .ok (.ifCond .eq 53, 3) := by decide +kernel
theorem dX7_lay_10 : decode cX7_lay 10 = .ok (.aload_n 0, 1) := by decide +kernel
theorem dX7_lay_11 : decode cX7_lay 11 = .ok (.getfield 15, 3) := by decide +kernel
theorem dX7_lay_14 : decode cX7_lay 14 = .ok (.iload_n 1, 1) := by decide +kernel
theorem dX7_lay_15 : decode cX7_lay 15 = .ok (.iaload, 1) := by decide +kernel
theorem dX7_lay_16 : decode cX7_lay 16 = .ok (.ifCond .le 44, 3) := by decide +kernel
theorem dX7_lay_19 : decode cX7_lay 19 = .ok (.aload_n 0, 1) := by decide +kernel
theorem dX7_lay_20 : decode cX7_lay 20 = .ok (.dup, 1) := by decide +kernel
theorem dX7_lay_21 : decode cX7_lay 21 = .ok (.getfield 25, 3) := by decide +kernel
theorem dX7_lay_24 : decode cX7_lay 24 = .ok (.bipush 60, 2) := by decide +kernel
theorem dX7_lay_26 : decode cX7_lay 26 = .ok (.iload_n 2, 1) := by decide +kernel
theorem dX7_lay_27 : decode cX7_lay 27 = .ok (.imul, 1) := by decide +kernel
theorem dX7_lay_28 : decode cX7_lay 28 = .ok (.bipush 60, 2) := by decide +kernel
theorem dX7_lay_30 : decode cX7_lay 30 = .ok (.aload_n 0, 1) := by decide +kernel
theorem dX7_lay_31 : decode cX7_lay 31 = .ok (.getfield 15, 3) := by decide +kernel
theorem dX7_lay_34 : decode cX7_lay 34 = .ok (.iload_n 1, 1) := by decide +kernel
theorem dX7_lay_35 : decode cX7_lay 35 = .ok (.iaload, 1) := by decide +kernel
theorem dX7_lay_36 : decode cX7_lay 36 = .ok (.idiv, 1) := by decide +kernel
theorem dX7_lay_37 : decode cX7_lay 37 = .ok (.aload_n 0, 1) := by decide +kernel
theorem dX7_lay_38 : decode cX7_lay 38 = .ok (.getfield 9, 3) := by decide +kernel
theorem dX7_lay_41 : decode cX7_lay 41 = .ok (.iload_n 1, 1) := by decide +kernel
theorem dX7_lay_42 : decode cX7_lay 42 = .ok (.iaload, 1) := by decide +kernel
theorem dX7_lay_43 : decode cX7_lay 43 = .ok (.imul, 1) := by decide +kernel
theorem dX7_lay_44 : decode cX7_lay 44 = .ok (.isub, 1) := by decide +kernel
theorem dX7_lay_45 : decode cX7_lay 45 = .ok (.i2l, 1) := by decide +kernel
theorem dX7_lay_46 : decode cX7_lay 46 = .ok (.ladd, 1) := by decide +kernel
theorem dX7_lay_47 : decode cX7_lay 47 = .ok (.putfield 25, 3) := by decide +kernel
theorem dX7_lay_50 : decode cX7_lay 50 = .ok (.aload_n 0, 1) := by decide +kernel
theorem dX7_lay_51 : decode cX7_lay 51 = .ok (.dup, 1) := by decide +kernel
theorem dX7_lay_52 : decode cX7_lay 52 = .ok (.getfield 29, 3) := by decide +kernel
theorem dX7_lay_55 : decode cX7_lay 55 = .ok (.iconst 1, 1) := by decide +kernel
theorem dX7_lay_56 : decode cX7_lay 56 = .ok (.iadd, 1) := by decide +kernel
theorem dX7_lay_57 : decode cX7_lay 57 = .ok (.putfield 29, 3) := by decide +kernel
theorem dX7_lay_60 : decode cX7_lay 60 = .ok (.return_, 1) := by decide +kernel
theorem dX7_settle_0 : decode cX7_settle 0 = .ok (.aload_n 0, 1) := by decide +kernel
theorem dX7_settle_1 : decode cX7_settle 1 = .ok (.aload_n 0, 1) := by decide +kernel
theorem dX7_settle_2 : decode cX7_settle 2 = .ok (.getfield 25, 3) := by decide +kernel
theorem dX7_settle_5 : decode cX7_settle 5 = .ok (.aload_n 0, 1) := by decide +kernel
theorem dX7_settle_6 : decode cX7_settle 6 = .ok (.getfield 22, 3) := by decide +kernel
theorem dX7_settle_9 : decode cX7_settle 9 = .ok (.i2l, 1) := by decide +kernel
theorem dX7_settle_10 : decode cX7_settle 10 = .ok (.lmul, 1) := by decide +kernel
theorem dX7_settle_11 : decode cX7_settle 11 = .ok (.ldc2_w 36, 3) := by decide +kernel
theorem dX7_settle_14 : decode cX7_settle 14 = .ok (.aload_n 0, 1) := by decide +kernel
theorem dX7_settle_15 : decode cX7_settle 15 = .ok (.getfield 29, 3) := by decide +kernel
theorem dX7_settle_18 : decode cX7_settle 18 = .ok (.i2l, 1) := by decide +kernel
theorem dX7_settle_19 : decode cX7_settle 19 = .ok (.lmul, 1) := by decide +kernel
theorem dX7_settle_20 : decode cX7_settle 20 = .ok (.aload_n 0, 1) := by decide +kernel
theorem dX7_settle_21 : decode cX7_settle 21 = .ok (.getfield 18, 3) := by decide +kernel
theorem dX7_settle_24 : decode cX7_settle 24 = .ok (.i2l, 1) := by decide +kernel
theorem dX7_settle_25 : decode cX7_settle 25 = .ok (.lmul, 1) := by decide +kernel
theorem dX7_settle_26 : decode cX7_settle 26 = .ok (.ladd, 1) := by decide +kernel
theorem dX7_settle_27 : decode cX7_settle 27 = .ok (.putfield 38, 3) := by decide +kernel
theorem dX7_settle_30 : decode cX7_settle 30 = .ok (.aload_n 0, 1) := by decide +kernel
theorem dX7_settle_31 : decode cX7_settle 31 = .ok (.ldc2_w 36, 3) := by decide +kernel
theorem dX7_settle_34 : decode cX7_settle 34 = .ok (.aload_n 0, 1) := by decide +kernel
theorem dX7_settle_35 : decode cX7_settle 35 = .ok (.getfield 29, 3) := by decide +kernel
theorem dX7_settle_38 : decode cX7_settle 38 = .ok (.i2l, 1) := by decide +kernel
theorem dX7_settle_39 : decode cX7_settle 39 = .ok (.lmul, 1) := by decide +kernel
theorem dX7_settle_40 : decode cX7_settle 40 = .ok (.aload_n 0, 1) := by decide +kernel
theorem dX7_settle_41 : decode cX7_settle 41 = .ok (.getfield 22, 3) := by decide +kernel
theorem dX7_settle_44 : decode cX7_settle 44 = .ok (.i2l, 1) := by decide +kernel
theorem dX7_settle_45 : decode cX7_settle 45 = .ok (.lmul, 1) := by decide +kernel
theorem dX7_settle_46 : decode cX7_settle 46 = .ok (.putfield 41, 3) := by decide +kernel
theorem dX7_settle_49 : decode cX7_settle 49 = .ok (.aload_n 0, 1) := by decide +kernel
theorem dX7_settle_50 : decode cX7_settle 50 = .ok (.getfield 38, 3) := by decide +kernel
theorem dX7_settle_53 : decode cX7_settle 53 = .ok (.invokestatic 44, 3) := by decide +kernel
theorem dX7_settle_56 : decode cX7_settle 56 = .ok (.aload_n 0, 1) := by decide +kernel
theorem dX7_settle_57 : decode cX7_settle 57 = .ok (.getfield 41, 3) := by decide +kernel
theorem dX7_settle_60 : decode cX7_settle 60 = .ok (.invokestatic 50, 3) := by decide +kernel
theorem dX7_settle_63 : decode cX7_settle 63 = .ok (.lstore_n 1, 1) := by decide +kernel
theorem dX7_settle_64 : decode cX7_settle 64 = .ok (.lload_n 1, 1) := by decide +kernel
theorem dX7_settle_65 : decode cX7_settle 65 = .ok (.lconst 0, 1) := by decide +kernel
theorem dX7_settle_66 : decode cX7_settle 66 = .ok (.lcmp, 1) := by decide +kernel
theorem dX7_settle_67 : decode cX7_settle 67 = .ok (.ifCond .le 23, 3) := by decide +kernel
theorem dX7_settle_70 : decode cX7_settle 70 = .ok (.aload_n 0, 1) := by decide +kernel
theorem dX7_settle_71 : decode cX7_settle 71 = .ok (.aload_n 0, 1) := by decide +kernel
theorem dX7_settle_72 : decode cX7_settle 72 = .ok (.getfield 38, 3) := by decide +kernel
theorem dX7_settle_75 : decode cX7_settle 75 = .ok (.lload_n 1, 1) := by decide +kernel
theorem dX7_settle_76 : decode cX7_settle 76 = .ok (.ldiv, 1) := by decide +kernel
theorem dX7_settle_77 : decode cX7_settle 77 = .ok (.putfield 38, 3) := by decide +kernel
theorem dX7_settle_80 : decode cX7_settle 80 = .ok (.aload_n 0, 1) := by decide +kernel
theorem dX7_settle_81 : decode cX7_settle 81 = .ok (.aload_n 0, 1) := by decide +kernel
theorem dX7_settle_82 : decode cX7_settle 82 = .ok (.getfield 41, 3) := by decide +kernel
theorem dX7_settle_85 : decode cX7_settle 85 = .ok (.lload_n 1, 1) := by decide +kernel
theorem dX7_settle_86 : decode cX7_settle 86 = .ok (.ldiv, 1) := by decide +kernel
theorem dX7_settle_87 : decode cX7_settle 87 = .ok (.putfield 41, 3) := by decide +kernel
theorem dX7_settle_90 : decode cX7_settle 90 = .ok (.return_, 1) := by decide +kernel
theorem dX7_hasWorth_0 : decode cX7_hasWorth 0 = .ok (.aload_n 0, 1) := by decide +kernel
theorem dX7_hasWorth_1 : decode cX7_hasWorth 1 = .ok (.getfield 41, 3) := by decide +kernel
theorem dX7_hasWorth_4 : decode cX7_hasWorth 4 = .ok (.lconst 0, 1) := by decide +kernel
theorem dX7_hasWorth_5 : decode cX7_hasWorth 5 = .ok (.lcmp, 1) := by decide +kernel
theorem dX7_hasWorth_6 : decode cX7_hasWorth 6 = .ok (.ifCond .le 7, 3) := by decide +kernel
theorem dX7_hasWorth_9 : decode cX7_hasWorth 9 = .ok (.iconst 1, 1) := by decide +kernel
theorem dX7_hasWorth_10 : decode cX7_hasWorth 10 = .ok (.goto 4, 3) := by decide +kernel
theorem dX7_hasWorth_13 : decode cX7_hasWorth 13 = .ok (.iconst 0, 1) := by decide +kernel
theorem dX7_hasWorth_14 : decode cX7_hasWorth 14 = .ok (.ireturn, 1) := by decide +kernel
theorem dX7_cutWorth_0 : decode cX7_cutWorth 0 = .ok (.aload_n 0, 1) := by decide +kernel
theorem dX7_cutWorth_1 : decode cX7_cutWorth 1 = .ok (.getfield 41, 3) := by decide +kernel
theorem dX7_cutWorth_4 : decode cX7_cutWorth 4 = .ok (.lconst 0, 1) := by decide +kernel
theorem dX7_cutWorth_5 : decode cX7_cutWorth 5 = .ok (.lcmp, 1) := by decide +kernel
theorem dX7_cutWorth_6 : decode cX7_cutWorth 6 = .ok (.ifCond .le 16, 3) := by decide +kernel
theorem dX7_cutWorth_9 : decode cX7_cutWorth 9 = .ok (.aload_n 0, 1) := by decide +kernel
theorem dX7_cutWorth_10 : decode cX7_cutWorth 10 = .ok (.getfield 38, 3) := by decide +kernel
theorem dX7_cutWorth_13 : decode cX7_cutWorth 13 = .ok (.aload_n 0, 1) := by decide +kernel
theorem dX7_cutWorth_14 : decode cX7_cutWorth 14 = .ok (.getfield 41, 3) := by decide +kernel
theorem dX7_cutWorth_17 : decode cX7_cutWorth 17 = .ok (.ldiv, 1) := by decide +kernel
theorem dX7_cutWorth_18 : decode cX7_cutWorth 18 = .ok (.l2i, 1) := by decide +kernel
theorem dX7_cutWorth_19 : decode cX7_cutWorth 19 = .ok (.goto 4, 3) := by decide +kernel
theorem dX7_cutWorth_22 : decode cX7_cutWorth 22 = .ok (.iconst 0, 1) := by decide +kernel
theorem dX7_cutWorth_23 : decode cX7_cutWorth 23 = .ok (.ireturn, 1) := by decide +kernel
theorem dX7_commonDivisor_0 : decode cX7_commonDivisor 0 = .ok (.lload_n 0, 1) := by decide +kernel
theorem dX7_commonDivisor_1 : decode cX7_commonDivisor 1 = .ok (.lstore 4, 2) := by decide +kernel
theorem dX7_commonDivisor_3 : decode cX7_commonDivisor 3 = .ok (.lload_n 2, 1) := by decide +kernel
theorem dX7_commonDivisor_4 : decode cX7_commonDivisor 4 = .ok (.lstore 6, 2) := by decide +kernel
theorem dX7_commonDivisor_6 : decode cX7_commonDivisor 6 = .ok (.iconst 0, 1) := by decide +kernel
theorem dX7_commonDivisor_7 : decode cX7_commonDivisor 7 = .ok (.istore 8, 2) := by decide +kernel
theorem dX7_commonDivisor_9 : decode cX7_commonDivisor 9 = .ok (.iload 8, 2) := by decide +kernel
theorem dX7_commonDivisor_11 : decode cX7_commonDivisor 11 = .ok (.sipush 200, 3) := by decide +kernel
theorem dX7_commonDivisor_14 : decode cX7_commonDivisor 14 = .ok (.if_icmp .ge 31, 3) := by decide +kernel
theorem dX7_commonDivisor_17 : decode cX7_commonDivisor 17 = .ok (.lload 6, 2) := by decide +kernel
theorem dX7_commonDivisor_19 : decode cX7_commonDivisor 19 = .ok (.lconst 0, 1) := by decide +kernel
theorem dX7_commonDivisor_20 : decode cX7_commonDivisor 20 = .ok (.lcmp, 1) := by decide +kernel
theorem dX7_commonDivisor_21 : decode cX7_commonDivisor 21 = .ok (.ifCond .le 24, 3) := by decide +kernel
theorem dX7_commonDivisor_24 : decode cX7_commonDivisor 24 = .ok (.lload 4, 2) := by decide +kernel
theorem dX7_commonDivisor_26 : decode cX7_commonDivisor 26 = .ok (.lload 6, 2) := by decide +kernel
theorem dX7_commonDivisor_28 : decode cX7_commonDivisor 28 = .ok (.lrem, 1) := by decide +kernel
theorem dX7_commonDivisor_29 : decode cX7_commonDivisor 29 = .ok (.lstore 9, 2) := by decide +kernel
theorem dX7_commonDivisor_31 : decode cX7_commonDivisor 31 = .ok (.lload 6, 2) := by decide +kernel
theorem dX7_commonDivisor_33 : decode cX7_commonDivisor 33 = .ok (.lstore 4, 2) := by decide +kernel
theorem dX7_commonDivisor_35 : decode cX7_commonDivisor 35 = .ok (.lload 9, 2) := by decide +kernel
theorem dX7_commonDivisor_37 : decode cX7_commonDivisor 37 = .ok (.lstore 6, 2) := by decide +kernel
theorem dX7_commonDivisor_39 : decode cX7_commonDivisor 39 = .ok (.iinc 8 1, 3) := by decide +kernel
theorem dX7_commonDivisor_42 : decode cX7_commonDivisor 42 = .ok (.goto (-33), 3) := by decide +kernel
theorem dX7_commonDivisor_45 : decode cX7_commonDivisor 45 = .ok (.lload 4, 2) := by decide +kernel
theorem dX7_commonDivisor_47 : decode cX7_commonDivisor 47 = .ok (.lreturn, 1) := by decide +kernel
theorem dX8_init_0 : decode cX8_init 0 = .ok (.aload_n 0, 1) := by decide +kernel
theorem dX8_init_1 : decode cX8_init 1 = .ok (.invokespecial 3, 3) := by decide +kernel
theorem dX8_init_4 : decode cX8_init 4 = .ok (.aload_n 0, 1) := by decide +kernel
theorem dX8_init_5 : decode cX8_init 5 = .ok (.bipush 40, 2) := by decide +kernel
theorem dX8_init_7 : decode cX8_init 7 = .ok (.newarray .int, 2) := by decide +kernel
theorem dX8_init_9 : decode cX8_init 9 = .ok (.putfield 9, 3) := by decide +kernel
theorem dX8_init_12 : decode cX8_init 12 = .ok (.aload_n 0, 1) := by decide +kernel
theorem dX8_init_13 : decode cX8_init 13 = .ok (.iconst (-1), 1) := by decide +kernel
theorem dX8_init_14 : decode cX8_init 14 = .ok (.putfield 15, 3) := by decide +kernel
theorem dX8_init_17 : decode cX8_init 17 = .ok (.return_, 1) := by decide +kernel
theorem dX8_isSort_0 : decode cX8_isSort 0 = .ok (.iload_n 0, 1) := by decide +kernel
theorem dX8_isSort_1 : decode cX8_isSort 1 = .ok (.iconst 0, 1) := by decide +kernel
theorem dX8_isSort_2 : decode cX8_isSort 2 = .ok (.iconst 2, 1) := by decide +kernel
theorem dX8_isSort_3 : decode cX8_isSort 3 = .ok (.invokestatic 19, 3) := by decide +kernel
theorem dX8_isSort_6 : decode cX8_isSort 6 = .ok (.ireturn, 1) := by decide +kernel
theorem dX8_isMissing_0 : decode cX8_isMissing 0 = .ok (.aload_n 0, 1) := by decide +kernel
theorem dX8_isMissing_1 : decode cX8_isMissing 1 = .ok (.getfield 15, 3) := by decide +kernel
theorem dX8_isMissing_4 : decode cX8_isMissing 4 = .ok (.iconst (-1), 1) := by decide +kernel
theorem dX8_isMissing_5 : decode cX8_isMissing 5 = .ok (.if_icmp .ne 7, 3) := by decide +kernel
theorem dX8_isMissing_8 : decode cX8_isMissing 8 = .ok (.iconst 1, 1) := by decide +kernel
theorem dX8_isMissing_9 : decode cX8_isMissing 9 = .ok (.goto 4, 3) := by decide +kernel
theorem dX8_isMissing_12 : decode cX8_isMissing 12 = .ok (.iconst 0, 1) := by decide +kernel
theorem dX8_isMissing_13 : decode cX8_isMissing 13 = .ok (.ireturn, 1) := by decide +kernel
theorem dX8_vanish_0 : decode cX8_vanish 0 = .ok (.aload_n 0, 1) := by decide +kernel
theorem dX8_vanish_1 : decode cX8_vanish 1 = .ok (.iconst (-1), 1) := by decide +kernel
theorem dX8_vanish_2 : decode cX8_vanish 2 = .ok (.putfield 15, 3) := by decide +kernel
theorem dX8_vanish_5 : decode cX8_vanish 5 = .ok (.aload_n 0, 1) := by decide +kernel
theorem dX8_vanish_6 : decode cX8_vanish 6 = .ok (.iconst 0, 1) := by decide +kernel
theorem dX8_vanish_7 : decode cX8_vanish 7 = .ok (.putfield 23, 3) := by decide +kernel
theorem dX8_vanish_10 : decode cX8_vanish 10 = .ok (.return_, 1) := by decide +kernel
theorem dX8_become_0 : decode cX8_become 0 = .ok (.aload_n 0, 1) := by decide +kernel
theorem dX8_become_1 : decode cX8_become 1 = .ok (.iload_n 1, 1) := by decide +kernel
theorem dX8_become_2 : decode cX8_become 2 = .ok (.putfield 15, 3) := by decide +kernel
theorem dX8_become_5 : decode cX8_become 5 = .ok (.aload_n 0, 1) := by decide +kernel
theorem dX8_become_6 : decode cX8_become 6 = .ok (.iload_n 2, 1) := by decide +kernel
theorem dX8_become_7 : decode cX8_become 7 = .ok (.putfield 23, 3) := by decide +kernel
theorem dX8_become_10 : decode cX8_become 10 = .ok (.iconst 0, 1) := by decide +kernel
theorem dX8_become_11 : decode cX8_become 11 = .ok (.istore_n 3, 1) := by decide +kernel
theorem dX8_become_12 : decode cX8_become 12 = .ok (.iload_n 3, 1) := by decide +kernel
theorem dX8_become_13 : decode cX8_become 13 = .ok (.aload_n 0, 1) := by decide +kernel
theorem dX8_become_14 : decode cX8_become 14 = .ok (.getfield 9, 3) := by decide +kernel
theorem dX8_become_17 : decode cX8_become 17 = .ok (.arraylength, 1) := by decide +kernel
theorem dX8_become_18 : decode cX8_become 18 = .ok (.if_icmp .ge 16, 3) := by decide +kernel
theorem dX8_become_21 : decode cX8_become 21 = .ok (.aload_n 0, 1) := by decide +kernel
theorem dX8_become_22 : decode cX8_become 22 = .ok (.getfield 9, 3) := by decide +kernel
theorem dX8_become_25 : decode cX8_become 25 = .ok (.iload_n 3, 1) := by decide +kernel
theorem dX8_become_26 : decode cX8_become 26 = .ok (.iconst 0, 1) := by decide +kernel
theorem dX8_become_27 : decode cX8_become 27 = .ok (.iastore, 1) := by decide +kernel
theorem dX8_become_28 : decode cX8_become 28 = .ok (.iinc 3 1, 3) := by decide +kernel
theorem dX8_become_31 : decode cX8_become 31 = .ok (.goto (-19), 3) := by decide +kernel
theorem dX8_become_34 : decode cX8_become 34 = .ok (.return_, 1) := by decide +kernel
theorem dX8_holds_0 : decode cX8_holds 0 = .ok (.iload_n 1, 1) := by decide +kernel
theorem dX8_holds_1 : decode cX8_holds 1 = .ok (.iconst 0, 1) := by decide +kernel
theorem dX8_holds_2 : decode cX8_holds 2 = .ok (.aload_n 0, 1) := by decide +kernel
theorem dX8_holds_3 : decode cX8_holds 3 = .ok (.getfield 23, 3) := by decide +kernel
theorem dX8_holds_6 : decode cX8_holds 6 = .ok (.iconst 1, 1) := by decide +kernel
theorem dX8_holds_7 : decode cX8_holds 7 = .ok (.isub, 1) := by decide +kernel
theorem dX8_holds_8 : decode cX8_holds 8 = .ok (.invokestatic 19, 3) := by decide +kernel
theorem dX8_holds_11 : decode cX8_holds 11 = .ok (.ifCond .eq 16, 3) := by decide +kernel
theorem dX8_holds_14 : decode cX8_holds 14 = .ok (.iload_n 1, 1) := by decide +kernel
theorem dX8_holds_15 : decode cX8_holds 15 = .ok (.aload_n 0, 1) := by decide +kernel
theorem dX8_holds_16 : decode cX8_holds 16 = .ok (.getfield 9, 3) := by decide +kernel
theorem dX8_holds_19 : decode cX8_holds 19 = .ok (.arraylength, 1) := by decide +kernel
theorem dX8_holds_20 : decode cX8_holds 20 = .ok (.if_icmp .ge 7, 3) := by decide +kernel
theorem dX8_holds_23 : decode cX8_holds 23 = .ok (.iconst 1, 1) := by decide +kernel
theorem dX8_holds_24 : decode cX8_holds 24 = .ok (.goto 4, 3) := by decide +kernel
theorem dX8_holds_27 : decode cX8_holds 27 = .ok (.iconst 0, 1) := by decide +kernel
theorem dX8_holds_28 : decode cX8_holds 28 = .ok (.ireturn, 1) := by decide +kernel
theorem dX8_item_0 : decode cX8_item 0 = .ok (.aload_n 0, 1) := by decide +kernel
theorem dX8_item_1 : decode cX8_item 1 = .ok (.iload_n 1, 1) := by decide +kernel
theorem dX8_item_2 : decode cX8_item 2 = .ok (.invokevirtual 26, 3) := by decide +kernel
theorem dX8_item_5 : decode cX8_item 5 = .ok (.ifCond .eq 12, 3) := by decide +kernel
theorem dX8_item_8 : decode cX8_item 8 = .ok (.aload_n 0, 1) := by decide +kernel
theorem dX8_item_9 : decode cX8_item 9 = .ok (.getfield 9, 3) := by decide +kernel
theorem dX8_item_12 : decode cX8_item 12 = .ok (.iload_n 1, 1) := by decide +kernel
theorem dX8_item_13 : decode cX8_item 13 = .ok (.iaload, 1) := by decide +kernel
theorem dX8_item_14 : decode cX8_item 14 = .ok (.goto 4, 3) := by decide +kernel
theorem dX8_item_17 : decode cX8_item 17 = .ok (.iconst 0, 1) := by decide +kernel
theorem dX8_item_18 : decode cX8_item 18 = .ok (.ireturn, 1) := by decide +kernel
theorem dX8_put_0 : decode cX8_put 0 = .ok (.aload_n 0, 1) := by decide +kernel
theorem dX8_put_1 : decode cX8_put 1 = .ok (.iload_n 1, 1) := by decide +kernel
theorem dX8_put_2 : decode cX8_put 2 = .ok (.invokevirtual 26, 3) := by decide +kernel
theorem dX8_put_5 : decode cX8_put 5 = .ok (.ifCond .eq 14, 3) := by decide +kernel
theorem dX8_put_8 : decode cX8_put 8 = .ok (.aload_n 0, 1) := by decide +kernel
theorem dX8_put_9 : decode cX8_put 9 = .ok (.getfield 9, 3) := by decide +kernel
theorem dX8_put_12 : decode cX8_put 12 = .ok (.iload_n 1, 1) := by decide +kernel
theorem dX8_put_13 : decode cX8_put 13 = .ok (.aload_n 0, 1) := by decide +kernel
theorem dX8_put_14 : decode cX8_put 14 = .ok (.iload_n 2, 1) := by decide +kernel
theorem dX8_put_15 : decode cX8_put 15 = .ok (.invokevirtual 30, 3) := by decide +kernel
theorem dX8_put_18 : decode cX8_put 18 = .ok (.iastore, 1) := by decide +kernel
theorem dX8_put_19 : decode cX8_put 19 = .ok (.return_, 1) := by decide +kernel
theorem dX8_cut_0 : decode cX8_cut 0 = .ok (.aload_n 0, 1) := by decide +kernel
theorem dX8_cut_1 : decode cX8_cut 1 = .ok (.getfield 15, 3) := by decide +kernel
theorem dX8_cut_4 : decode cX8_cut 4 = .ok (.lookupswitch 34 #[(0, 28), (1, 31)], 28) := by decide +kernel
theorem dX8_cut_32 : decode cX8_cut 32 = .ok (.iload_n 1, 1) := by decide +kernel
theorem dX8_cut_33 : decode cX8_cut 33 = .ok (.i2b, 1) := by decide +kernel
theorem dX8_cut_34 : decode cX8_cut 34 = .ok (.ireturn, 1) := by decide +kernel
theorem dX8_cut_35 : decode cX8_cut 35 = .ok (.iload_n 1, 1) := by decide +kernel
theorem dX8_cut_36 : decode cX8_cut 36 = .ok (.i2s, 1) := by decide +kernel
theorem dX8_cut_37 : decode cX8_cut 37 = .ok (.ireturn, 1) := by decide +kernel
theorem dX8_cut_38 : decode cX8_cut 38 = .ok (.iload_n 1, 1) := by decide +kernel
theorem dX8_cut_39 : decode cX8_cut 39 = .ok (.ireturn, 1) := by decide +kernel
theorem dX9_init_0 : decode cX9_init 0 = .ok (.aload_n 0, 1) := by decide +kernel
theorem dX9_init_1 : decode cX9_init 1 = .ok (.invokespecial 3, 3) := by decide +kernel
theorem dX9_init_4 : decode cX9_init 4 = .ok (.aload_n 0, 1) := by decide +kernel
theorem dX9_init_5 : decode cX9_init 5 = .ok (.sipush 160, 3) := by decide +kernel
theorem dX9_init_8 : decode cX9_init 8 = .ok (.newarray .byte, 2) := by decide +kernel
theorem dX9_init_10 : decode cX9_init 10 = .ok (.putfield 9, 3) := by decide +kernel
theorem dX9_init_13 : decode cX9_init 13 = .ok (.aload_n 0, 1) := by decide +kernel
theorem dX9_init_14 : decode cX9_init 14 = .ok (.sipush 161, 3) := by decide +kernel
theorem dX9_init_17 : decode cX9_init 17 = .ok (.newarray .int, 2) := by decide +kernel
theorem dX9_init_19 : decode cX9_init 19 = .ok (.putfield 15, 3) := by decide +kernel
theorem dX9_init_22 : decode cX9_init 22 = .ok (.aload_n 0, 1) := by decide +kernel
theorem dX9_init_23 : decode cX9_init 23 = .ok (.sipush 161, 3) := by decide +kernel
theorem dX9_init_26 : decode cX9_init 26 = .ok (.newarray .int, 2) := by decide +kernel
theorem dX9_init_28 : decode cX9_init 28 = .ok (.putfield 19, 3) := by decide +kernel
theorem dX9_init_31 : decode cX9_init 31 = .ok (.aload_n 0, 1) := by decide +kernel
theorem dX9_init_32 : decode cX9_init 32 = .ok (.sipush 161, 3) := by decide +kernel
theorem dX9_init_35 : decode cX9_init 35 = .ok (.newarray .int, 2) := by decide +kernel
theorem dX9_init_37 : decode cX9_init 37 = .ok (.putfield 22, 3) := by decide +kernel
theorem dX9_init_40 : decode cX9_init 40 = .ok (.return_, 1) := by decide +kernel
theorem dX9_clear_0 : decode cX9_clear 0 = .ok (.aload_n 0, 1) := by decide +kernel
theorem dX9_clear_1 : decode cX9_clear 1 = .ok (.iconst 0, 1) := by decide +kernel
theorem dX9_clear_2 : decode cX9_clear 2 = .ok (.putfield 25, 3) := by decide +kernel
theorem dX9_clear_5 : decode cX9_clear 5 = .ok (.return_, 1) := by decide +kernel
theorem dX9_add_0 : decode cX9_add 0 = .ok (.aload_n 0, 1) := by decide +kernel
theorem dX9_add_1 : decode cX9_add 1 = .ok (.getfield 25, 3) := by decide +kernel
theorem dX9_add_4 : decode cX9_add 4 = .ok (.aload_n 0, 1) := by decide +kernel
theorem dX9_add_5 : decode cX9_add 5 = .ok (.getfield 9, 3) := by decide +kernel
theorem dX9_add_8 : decode cX9_add 8 = .ok (.arraylength, 1) := by decide +kernel
theorem dX9_add_9 : decode cX9_add 9 = .ok (.if_icmp .ge 23, 3) := by decide +kernel
theorem dX9_add_12 : decode cX9_add 12 = .ok (.aload_n 0, 1) := by decide +kernel
theorem dX9_add_13 : decode cX9_add 13 = .ok (.getfield 9, 3) := by decide +kernel
theorem dX9_add_16 : decode cX9_add 16 = .ok (.aload_n 0, 1) := by decide +kernel
theorem dX9_add_17 : decode cX9_add 17 = .ok (.getfield 25, 3) := by decide +kernel
theorem dX9_add_20 : decode cX9_add 20 = .ok (.iload_n 1, 1) := by decide +kernel
theorem dX9_add_21 : decode cX9_add 21 = .ok (.bastore, 1) := by decide +kernel
theorem dX9_add_22 : decode cX9_add 22 = .ok (.aload_n 0, 1) := by decide +kernel
theorem dX9_add_23 : decode cX9_add 23 = .ok (.dup, 1) := by decide +kernel
theorem dX9_add_24 : decode cX9_add 24 = .ok (.getfield 25, 3) := by decide +kernel
theorem dX9_add_27 : decode cX9_add 27 = .ok (.iconst 1, 1) := by decide +kernel
theorem dX9_add_28 : decode cX9_add 28 = .ok (.iadd, 1) := by decide +kernel
theorem dX9_add_29 : decode cX9_add 29 = .ok (.putfield 25, 3) := by decide +kernel
theorem dX9_add_32 : decode cX9_add 32 = .ok (.return_, 1) := by decide +kernel
theorem dX9_write_0 : decode cX9_write 0 = .ok (.iconst 0, 1) := by decide +kernel
theorem dX9_write_1 : decode cX9_write 1 = .ok (.istore_n 2, 1) := by decide +kernel
theorem dX9_write_2 : decode cX9_write 2 = .ok (.iload_n 2, 1) := by decide +kernel
theorem dX9_write_3 : decode cX9_write 3 = .ok (.aload_n 1, 1) := by decide +kernel
theorem dX9_write_4 : decode cX9_write 4 = .ok (.invokevirtual 29, 3) := by decide +kernel
theorem dX9_write_7 : decode cX9_write 7 = .ok (.if_icmp .ge 19, 3) := by decide +kernel
theorem dX9_write_10 : decode cX9_write 10 = .ok (.aload_n 0, 1) := by decide +kernel
theorem dX9_write_11 : decode cX9_write 11 = .ok (.aload_n 1, 1) := by decide +kernel
theorem dX9_write_12 : decode cX9_write 12 = .ok (.iload_n 2, 1) := by decide +kernel
theorem dX9_write_13 : decode cX9_write 13 = .ok (.invokevirtual 35, 3) := by decide +kernel
theorem dX9_write_16 : decode cX9_write 16 = .ok (.i2b, 1) := by decide +kernel
theorem dX9_write_17 : decode cX9_write 17 = .ok (.invokevirtual 39, 3) := by decide +kernel
theorem dX9_write_20 : decode cX9_write 20 = .ok (.iinc 2 1, 3) := by decide +kernel
theorem dX9_write_23 : decode cX9_write 23 = .ok (.goto (-21), 3) := by decide +kernel
theorem dX9_write_26 : decode cX9_write 26 = .ok (.return_, 1) := by decide +kernel
theorem dX9_split_0 : decode cX9_split 0 = .ok (.aload_n 0, 1) := by decide +kernel
theorem dX9_split_1 : decode cX9_split 1 = .ok (.iconst 0, 1) := by decide +kernel
theorem dX9_split_2 : decode cX9_split 2 = .ok (.putfield 43, 3) := by decide +kernel
theorem dX9_split_5 : decode cX9_split 5 = .ok (.aload_n 0, 1) := by decide +kernel
theorem dX9_split_6 : decode cX9_split 6 = .ok (.iconst 0, 1) := by decide +kernel
theorem dX9_split_7 : decode cX9_split 7 = .ok (.putfield 46, 3) := by decide +kernel
theorem dX9_split_10 : decode cX9_split 10 = .ok (.iconst 1, 1) := by decide +kernel
theorem dX9_split_11 : decode cX9_split 11 = .ok (.istore_n 1, 1) := by decide +kernel
theorem dX9_split_12 : decode cX9_split 12 = .ok (.iconst 0, 1) := by decide +kernel
theorem dX9_split_13 : decode cX9_split 13 = .ok (.istore_n 2, 1) := by decide +kernel
theorem dX9_split_14 : decode cX9_split 14 = .ok (.iload_n 2, 1) := by decide +kernel
theorem dX9_split_15 : decode cX9_split 15 = .ok (.sipush 160, 3) := by decide +kernel
theorem dX9_split_18 : decode cX9_split 18 = .ok (.if_icmp .gt 71, 3) := by decide +kernel
theorem dX9_split_21 : decode cX9_split 21 = .ok (.iload_n 1, 1) := by decide +kernel
theorem dX9_split_22 : decode cX9_split 22 = .ok (.ifCond .eq 67, 3) := by decide +kernel
theorem dX9_split_25 : decode cX9_split 25 = .ok (.aload_n 0, 1) := by decide +kernel
theorem dX9_split_26 : decode cX9_split 26 = .ok (.invokevirtual 49, 3) := by decide +kernel
theorem dX9_split_29 : decode cX9_split 29 = .ok (.aload_n 0, 1) := by decide +kernel
theorem dX9_split_30 : decode cX9_split 30 = .ok (.getfield 46, 3) := by decide +kernel
theorem dX9_split_33 : decode cX9_split 33 = .ok (.istore_n 3, 1) := by decide +kernel
theorem dX9_split_34 : decode cX9_split 34 = .ok (.aload_n 0, 1) := by decide +kernel
theorem dX9_split_35 : decode cX9_split 35 = .ok (.invokevirtual 52, 3) := by decide +kernel
theorem dX9_split_38 : decode cX9_split 38 = .ok (.istore 4, 2) := by decide +kernel
theorem dX9_split_40 : decode cX9_split 40 = .ok (.aload_n 0, 1) := by decide +kernel
theorem dX9_split_41 : decode cX9_split 41 = .ok (.iload 4, 2) := by decide +kernel
theorem dX9_split_43 : decode cX9_split 43 = .ok (.iload_n 3, 1) := by decide +kernel
theorem dX9_split_44 : decode cX9_split 44 = .ok (.iload 4, 2) := by decide +kernel
theorem dX9_split_46 : decode cX9_split 46 = .ok (.bipush 13, 2) := by decide +kernel
theorem dX9_split_48 : decode cX9_split 48 = .ok (.if_icmp .ne 11, 3) := by decide +kernel
theorem dX9_split_51 : decode cX9_split 51 = .ok (.aload_n 0, 1) := by decide +kernel
theorem dX9_split_52 : decode cX9_split 52 = .ok (.iload_n 3, 1) := by decide +kernel
theorem dX9_split_53 : decode cX9_split 53 = .ok (.invokevirtual 55, 3) := by decide +kernel
theorem dX9_split_56 : decode cX9_split 56 = .ok (.goto 4, 3) := by decide +kernel
theorem dX9_split_59 : decode cX9_split 59 = .ok (.iconst 0, 1) := by decide +kernel
theorem dX9_split_60 : decode cX9_split 60 = .ok (.invokevirtual 59, 3) := by decide +kernel
theorem dX9_split_63 : decode cX9_split 63 = .ok (.iload 4, 2) := by decide +kernel
theorem dX9_split_65 : decode cX9_split 65 = .ok (.bipush 22, 2) := by decide +kernel
theorem dX9_split_67 : decode cX9_split 67 = .ok (.if_icmp .eq 14, 3) := by decide +kernel
theorem dX9_split_70 : decode cX9_split 70 = .ok (.iload 4, 2) := by decide +kernel
theorem dX9_split_72 : decode cX9_split 72 = .ok (.bipush 23, 2) := by decide +kernel
theorem dX9_split_74 : decode cX9_split 74 = .ok (.if_icmp .eq 7, 3) := by decide +kernel
theorem dX9_split_77 : decode cX9_split 77 = .ok (.iconst 1, 1) := by decide +kernel
theorem dX9_split_78 : decode cX9_split 78 = .ok (.goto 4, 3) := by decide +kernel
theorem dX9_split_81 : decode cX9_split 81 = .ok (.iconst 0, 1) := by decide +kernel
theorem dX9_split_82 : decode cX9_split 82 = .ok (.istore_n 1, 1) := by decide +kernel
theorem dX9_split_83 : decode cX9_split 83 = .ok (.iinc 2 1, 3) := by decide +kernel
theorem dX9_split_86 : decode cX9_split 86 = .ok (.goto (-72), 3) := by decide +kernel
theorem dX9_split_89 : decode cX9_split 89 = .ok (.return_, 1) := by decide +kernel
theorem dX9_token_0 : decode cX9_token 0 = .ok (.iload_n 1, 1) := by decide +kernel
theorem dX9_token_1 : decode cX9_token 1 = .ok (.ifCond .lt 20, 3) := by decide +kernel
theorem dX9_token_4 : decode cX9_token 4 = .ok (.iload_n 1, 1) := by decide +kernel
theorem dX9_token_5 : decode cX9_token 5 = .ok (.aload_n 0, 1) := by decide +kernel
theorem dX9_token_6 : decode cX9_token 6 = .ok (.getfield 43, 3) := by decide +kernel
theorem dX9_token_9 : decode cX9_token 9 = .ok (.if_icmp .ge 12, 3) := by decide +kernel
theorem dX9_token_12 : decode cX9_token 12 = .ok (.aload_n 0, 1) := by decide +kernel
theorem dX9_token_13 : decode cX9_token 13 = .ok (.getfield 15, 3) := by decide +kernel
theorem dX9_token_16 : decode cX9_token 16 = .ok (.iload_n 1, 1) := by decide +kernel
theorem dX9_token_17 : decode cX9_token 17 = .ok (.iaload, 1) := by decide +kernel
theorem dX9_token_18 : decode cX9_token 18 = .ok (.goto 5, 3) := by decide +kernel
theorem dX9_token_21 : decode cX9_token 21 = .ok (.bipush 22, 2) := by decide +kernel
theorem dX9_token_23 : decode cX9_token 23 = .ok (.ireturn, 1) := by decide +kernel
theorem dX9_placeOf_0 : decode cX9_placeOf 0 = .ok (.iload_n 1, 1) := by decide +kernel
theorem dX9_placeOf_1 : decode cX9_placeOf 1 = .ok (.iconst 0, 1) := by decide +kernel
theorem dX9_placeOf_2 : decode cX9_placeOf 2 = .ok (.aload_n 0, 1) := by decide +kernel
theorem dX9_placeOf_3 : decode cX9_placeOf 3 = .ok (.getfield 43, 3) := by decide +kernel
theorem dX9_placeOf_6 : decode cX9_placeOf 6 = .ok (.iconst 1, 1) := by decide +kernel
theorem dX9_placeOf_7 : decode cX9_placeOf 7 = .ok (.isub, 1) := by decide +kernel
theorem dX9_placeOf_8 : decode cX9_placeOf 8 = .ok (.invokestatic 63, 3) := by decide +kernel
theorem dX9_placeOf_11 : decode cX9_placeOf 11 = .ok (.ifCond .eq 12, 3) := by decide +kernel
theorem dX9_placeOf_14 : decode cX9_placeOf 14 = .ok (.aload_n 0, 1) := by decide +kernel
theorem dX9_placeOf_15 : decode cX9_placeOf 15 = .ok (.getfield 19, 3) := by decide +kernel
theorem dX9_placeOf_18 : decode cX9_placeOf 18 = .ok (.iload_n 1, 1) := by decide +kernel
theorem dX9_placeOf_19 : decode cX9_placeOf 19 = .ok (.iaload, 1) := by decide +kernel
theorem dX9_placeOf_20 : decode cX9_placeOf 20 = .ok (.goto 7, 3) := by decide +kernel
theorem dX9_placeOf_23 : decode cX9_placeOf 23 = .ok (.aload_n 0, 1) := by decide +kernel
theorem dX9_placeOf_24 : decode cX9_placeOf 24 = .ok (.getfield 25, 3) := by decide +kernel
theorem dX9_placeOf_27 : decode cX9_placeOf 27 = .ok (.ireturn, 1) := by decide +kernel
theorem dX9_numberAt_0 : decode cX9_numberAt 0 = .ok (.iload_n 1, 1) := by decide +kernel
theorem dX9_numberAt_1 : decode cX9_numberAt 1 = .ok (.iconst 0, 1) := by decide +kernel
theorem dX9_numberAt_2 : decode cX9_numberAt 2 = .ok (.aload_n 0, 1) := by decide +kernel
theorem dX9_numberAt_3 : decode cX9_numberAt 3 = .ok (.getfield 43, 3) := by decide +kernel
theorem dX9_numberAt_6 : decode cX9_numberAt 6 = .ok (.iconst 1, 1) := by decide +kernel
theorem dX9_numberAt_7 : decode cX9_numberAt 7 = .ok (.isub, 1) := by decide +kernel
theorem dX9_numberAt_8 : decode cX9_numberAt 8 = .ok (.invokestatic 63, 3) := by decide +kernel
theorem dX9_numberAt_11 : decode cX9_numberAt 11 = .ok (.ifCond .eq 12, 3) := by decide +kernel
theorem dX9_numberAt_14 : decode cX9_numberAt 14 = .ok (.aload_n 0, 1) := by decide +kernel
theorem dX9_numberAt_15 : decode cX9_numberAt 15 = .ok (.getfield 22, 3) := by decide +kernel
theorem dX9_numberAt_18 : decode cX9_numberAt 18 = .ok (.iload_n 1, 1) := by decide +kernel
theorem dX9_numberAt_19 : decode cX9_numberAt 19 = .ok (.iaload, 1) := by decide +kernel
theorem dX9_numberAt_20 : decode cX9_numberAt 20 = .ok (.goto 4, 3) := by decide +kernel
theorem dX9_numberAt_23 : decode cX9_numberAt 23 = .ok (.iconst 0, 1) := by decide +kernel
theorem dX9_numberAt_24 : decode cX9_numberAt 24 = .ok (.ireturn, 1) := by decide +kernel
theorem dX9_addToken_0 : decode cX9_addToken 0 = .ok (.aload_n 0, 1) := by decide +kernel
theorem dX9_addToken_1 : decode cX9_addToken 1 = .ok (.getfield 43, 3) := by decide +kernel
theorem dX9_addToken_4 : decode cX9_addToken 4 = .ok (.aload_n 0, 1) := by decide +kernel
theorem dX9_addToken_5 : decode cX9_addToken 5 = .ok (.getfield 15, 3) := by decide +kernel
theorem dX9_addToken_8 : decode cX9_addToken 8 = .ok (.arraylength, 1) := by decide +kernel
theorem dX9_addToken_9 : decode cX9_addToken 9 = .ok (.if_icmp .ge 43, 3) := by decide +kernel
theorem dX9_addToken_12 : decode cX9_addToken 12 = .ok (.aload_n 0, 1) := by decide +kernel
theorem dX9_addToken_13 : decode cX9_addToken 13 = .ok (.getfield 15, 3) := by decide +kernel
theorem dX9_addToken_16 : decode cX9_addToken 16 = .ok (.aload_n 0, 1) := by decide +kernel
theorem dX9_addToken_17 : decode cX9_addToken 17 = .ok (.getfield 43, 3) := by decide +kernel
theorem dX9_addToken_20 : decode cX9_addToken 20 = .ok (.iload_n 1, 1) := by decide +kernel
theorem dX9_addToken_21 : decode cX9_addToken 21 = .ok (.iastore, 1) := by decide +kernel
theorem dX9_addToken_22 : decode cX9_addToken 22 = .ok (.aload_n 0, 1) := by decide +kernel
theorem dX9_addToken_23 : decode cX9_addToken 23 = .ok (.getfield 19, 3) := by decide +kernel
theorem dX9_addToken_26 : decode cX9_addToken 26 = .ok (.aload_n 0, 1) := by decide +kernel
theorem dX9_addToken_27 : decode cX9_addToken 27 = .ok (.getfield 43, 3) := by decide +kernel
theorem dX9_addToken_30 : decode cX9_addToken 30 = .ok (.iload_n 2, 1) := by decide +kernel
theorem dX9_addToken_31 : decode cX9_addToken 31 = .ok (.iastore, 1) := by decide +kernel
theorem dX9_addToken_32 : decode cX9_addToken 32 = .ok (.aload_n 0, 1) := by decide +kernel
theorem dX9_addToken_33 : decode cX9_addToken 33 = .ok (.getfield 22, 3) := by decide +kernel
theorem dX9_addToken_36 : decode cX9_addToken 36 = .ok (.aload_n 0, 1) := by decide +kernel
theorem dX9_addToken_37 : decode cX9_addToken 37 = .ok (.getfield 43, 3) := by decide +kernel
theorem dX9_addToken_40 : decode cX9_addToken 40 = .ok (.iload_n 3, 1) := by decide +kernel
theorem dX9_addToken_41 : decode cX9_addToken 41 = .ok (.iastore, 1) := by decide +kernel
theorem dX9_addToken_42 : decode cX9_addToken 42 = .ok (.aload_n 0, 1) := by decide +kernel
theorem dX9_addToken_43 : decode cX9_addToken 43 = .ok (.dup, 1) := by decide +kernel
theorem dX9_addToken_44 : decode cX9_addToken 44 = .ok (.getfield 43, 3) := by decide +kernel
theorem dX9_addToken_47 : decode cX9_addToken 47 = .ok (.iconst 1, 1) := by decide +kernel
theorem dX9_addToken_48 : decode cX9_addToken 48 = .ok (.iadd, 1) := by decide +kernel
theorem dX9_addToken_49 : decode cX9_addToken 49 = .ok (.putfield 43, 3) := by decide +kernel
theorem dX9_addToken_52 : decode cX9_addToken 52 = .ok (.return_, 1) := by decide +kernel
theorem dX9_byteAt_0 : decode cX9_byteAt 0 = .ok (.iload_n 1, 1) := by decide +kernel
theorem dX9_byteAt_1 : decode cX9_byteAt 1 = .ok (.iconst 0, 1) := by decide +kernel
theorem dX9_byteAt_2 : decode cX9_byteAt 2 = .ok (.aload_n 0, 1) := by decide +kernel
theorem dX9_byteAt_3 : decode cX9_byteAt 3 = .ok (.getfield 25, 3) := by decide +kernel
theorem dX9_byteAt_6 : decode cX9_byteAt 6 = .ok (.iconst 1, 1) := by decide +kernel
theorem dX9_byteAt_7 : decode cX9_byteAt 7 = .ok (.isub, 1) := by decide +kernel
theorem dX9_byteAt_8 : decode cX9_byteAt 8 = .ok (.invokestatic 63, 3) := by decide +kernel
theorem dX9_byteAt_11 : decode cX9_byteAt 11 = .ok (.ifCond .eq 12, 3) := by decide +kernel
theorem dX9_byteAt_14 : decode cX9_byteAt 14 = .ok (.aload_n 0, 1) := by decide +kernel
theorem dX9_byteAt_15 : decode cX9_byteAt 15 = .ok (.getfield 9, 3) := by decide +kernel
theorem dX9_byteAt_18 : decode cX9_byteAt 18 = .ok (.iload_n 1, 1) := by decide +kernel
theorem dX9_byteAt_19 : decode cX9_byteAt 19 = .ok (.baload, 1) := by decide +kernel
theorem dX9_byteAt_20 : decode cX9_byteAt 20 = .ok (.goto 4, 3) := by decide +kernel
theorem dX9_byteAt_23 : decode cX9_byteAt 23 = .ok (.iconst (-1), 1) := by decide +kernel
theorem dX9_byteAt_24 : decode cX9_byteAt 24 = .ok (.ireturn, 1) := by decide +kernel
theorem dX9_isLetter_0 : decode cX9_isLetter 0 = .ok (.iload_n 0, 1) := by decide +kernel
theorem dX9_isLetter_1 : decode cX9_isLetter 1 = .ok (.bipush 97, 2) := by decide +kernel
theorem dX9_isLetter_3 : decode cX9_isLetter 3 = .ok (.if_icmp .lt 13, 3) := by decide +kernel
theorem dX9_isLetter_6 : decode cX9_isLetter 6 = .ok (.iload_n 0, 1) := by decide +kernel
theorem dX9_isLetter_7 : decode cX9_isLetter 7 = .ok (.bipush 122, 2) := by decide +kernel
theorem dX9_isLetter_9 : decode cX9_isLetter 9 = .ok (.if_icmp .gt 7, 3) := by decide +kernel
theorem dX9_isLetter_12 : decode cX9_isLetter 12 = .ok (.iconst 1, 1) := by decide +kernel
theorem dX9_isLetter_13 : decode cX9_isLetter 13 = .ok (.goto 4, 3) := by decide +kernel
theorem dX9_isLetter_16 : decode cX9_isLetter 16 = .ok (.iconst 0, 1) := by decide +kernel
theorem dX9_isLetter_17 : decode cX9_isLetter 17 = .ok (.ireturn, 1) := by decide +kernel
theorem dX9_isDigit_0 : decode cX9_isDigit 0 = .ok (.iload_n 0, 1) := by decide +kernel
theorem dX9_isDigit_1 : decode cX9_isDigit 1 = .ok (.bipush 48, 2) := by decide +kernel
theorem dX9_isDigit_3 : decode cX9_isDigit 3 = .ok (.if_icmp .lt 13, 3) := by decide +kernel
theorem dX9_isDigit_6 : decode cX9_isDigit 6 = .ok (.iload_n 0, 1) := by decide +kernel
theorem dX9_isDigit_7 : decode cX9_isDigit 7 = .ok (.bipush 57, 2) := by decide +kernel
theorem dX9_isDigit_9 : decode cX9_isDigit 9 = .ok (.if_icmp .gt 7, 3) := by decide +kernel
theorem dX9_isDigit_12 : decode cX9_isDigit 12 = .ok (.iconst 1, 1) := by decide +kernel
theorem dX9_isDigit_13 : decode cX9_isDigit 13 = .ok (.goto 4, 3) := by decide +kernel
theorem dX9_isDigit_16 : decode cX9_isDigit 16 = .ok (.iconst 0, 1) := by decide +kernel
theorem dX9_isDigit_17 : decode cX9_isDigit 17 = .ok (.ireturn, 1) := by decide +kernel
theorem dX9_skipBlanks_0 : decode cX9_skipBlanks 0 = .ok (.aload_n 0, 1) := by decide +kernel
theorem dX9_skipBlanks_1 : decode cX9_skipBlanks 1 = .ok (.getfield 46, 3) := by decide +kernel
theorem dX9_skipBlanks_4 : decode cX9_skipBlanks 4 = .ok (.aload_n 0, 1) := by decide +kernel
theorem dX9_skipBlanks_5 : decode cX9_skipBlanks 5 = .ok (.getfield 25, 3) := by decide +kernel
theorem dX9_skipBlanks_8 : decode cX9_skipBlanks 8 = .ok (.if_icmp .ge 42, 3) := by decide +kernel
theorem dX9_skipBlanks_11 : decode cX9_skipBlanks 11 = .ok (.aload_n 0, 1) := by decide +kernel
theorem dX9_skipBlanks_12 : decode cX9_skipBlanks 12 = .ok (.aload_n 0, 1) := by decide +kernel
theorem dX9_skipBlanks_13 : decode cX9_skipBlanks 13 = .ok (.getfield 46, 3) := by decide +kernel
theorem dX9_skipBlanks_16 : decode cX9_skipBlanks 16 = .ok (.invokevirtual 67, 3) := by decide +kernel
theorem dX9_skipBlanks_19 : decode cX9_skipBlanks 19 = .ok (.bipush 32, 2) := by decide +kernel
theorem dX9_skipBlanks_21 : decode cX9_skipBlanks 21 = .ok (.if_icmp .eq 16, 3) := by decide +kernel
theorem dX9_skipBlanks_24 : decode cX9_skipBlanks 24 = .ok (.aload_n 0, 1) := by decide +kernel
theorem dX9_skipBlanks_25 : decode cX9_skipBlanks 25 = .ok (.aload_n 0, 1) := by decide +kernel
theorem dX9_skipBlanks_26 : decode cX9_skipBlanks 26 = .ok (.getfield 46, 3) := by decide +kernel
theorem dX9_skipBlanks_29 : decode cX9_skipBlanks 29 = .ok (.invokevirtual 67, 3) := by decide +kernel
theorem dX9_skipBlanks_32 : decode cX9_skipBlanks 32 = .ok (.bipush 10, 2) := by decide +kernel
theorem dX9_skipBlanks_34 : decode cX9_skipBlanks 34 = .ok (.if_icmp .ne 16, 3) := by decide +kernel
theorem dX9_skipBlanks_37 : decode cX9_skipBlanks 37 = .ok (.aload_n 0, 1) := by decide +kernel
theorem dX9_skipBlanks_38 : decode cX9_skipBlanks 38 = .ok (.dup, 1) := by decide +kernel
theorem dX9_skipBlanks_39 : decode cX9_skipBlanks 39 = .ok (.getfield 46, 3) := by decide +kernel
theorem dX9_skipBlanks_42 : decode cX9_skipBlanks 42 = .ok (.iconst 1, 1) := by decide +kernel
theorem dX9_skipBlanks_43 : decode cX9_skipBlanks 43 = .ok (.iadd, 1) := by decide +kernel
theorem dX9_skipBlanks_44 : decode cX9_skipBlanks 44 = .ok (.putfield 46, 3) := by decide +kernel
theorem dX9_skipBlanks_47 : decode cX9_skipBlanks 47 = .ok (.goto (-47), 3) := by decide +kernel
theorem dX9_skipBlanks_50 : decode cX9_skipBlanks 50 = .ok (.return_, 1) := by decide +kernel
theorem dX9_takeToken_0 : decode cX9_takeToken 0 = .ok (.aload_n 0, 1) := by decide +kernel
theorem dX9_takeToken_1 : decode cX9_takeToken 1 = .ok (.getfield 46, 3) := by decide +kernel
theorem dX9_takeToken_4 : decode cX9_takeToken 4 = .ok (.aload_n 0, 1) := by decide +kernel
theorem dX9_takeToken_5 : decode cX9_takeToken 5 = .ok (.getfield 25, 3) := by decide +kernel
theorem dX9_takeToken_8 : decode cX9_takeToken 8 = .ok (.if_icmp .lt 6, 3) := by decide +kernel
theorem dX9_takeToken_11 : decode cX9_takeToken 11 = .ok (.bipush 22, 2) := by decide +kernel
theorem dX9_takeToken_13 : decode cX9_takeToken 13 = .ok (.ireturn, 1) := by decide +kernel
theorem dX9_takeToken_14 : decode cX9_takeToken 14 = .ok (.aload_n 0, 1) := by decide +kernel
theorem dX9_takeToken_15 : decode cX9_takeToken 15 = .ok (.getfield 46, 3) := by decide +kernel
theorem dX9_takeToken_18 : decode cX9_takeToken 18 = .ok (.istore_n 1, 1) := by decide +kernel
theorem dX9_takeToken_19 : decode cX9_takeToken 19 = .ok (.aload_n 0, 1) := by decide +kernel
theorem dX9_takeToken_20 : decode cX9_takeToken 20 = .ok (.aload_n 0, 1) := by decide +kernel
theorem dX9_takeToken_21 : decode cX9_takeToken 21 = .ok (.getfield 46, 3) := by decide +kernel
theorem dX9_takeToken_24 : decode cX9_takeToken 24 = .ok (.invokevirtual 67, 3) := by decide +kernel
theorem dX9_takeToken_27 : decode cX9_takeToken 27 = .ok (.istore_n 2, 1) := by decide +kernel
theorem dX9_takeToken_28 : decode cX9_takeToken 28 = .ok (.aload_n 0, 1) := by decide +kernel
theorem dX9_takeToken_29 : decode cX9_takeToken 29 = .ok (.dup, 1) := by decide +kernel
theorem dX9_takeToken_30 : decode cX9_takeToken 30 = .ok (.getfield 46, 3) := by decide +kernel
theorem dX9_takeToken_33 : decode cX9_takeToken 33 = .ok (.iconst 1, 1) := by decide +kernel
theorem dX9_takeToken_34 : decode cX9_takeToken 34 = .ok (.iadd, 1) := by decide +kernel
theorem dX9_takeToken_35 : decode cX9_takeToken 35 = .ok (.putfield 46, 3) := by decide +kernel
theorem dX9_takeToken_38 : decode cX9_takeToken 38 = .ok (.iload_n 2, 1) := by decide +kernel
theorem dX9_takeToken_39 : decode cX9_takeToken 39 = .ok (.invokestatic 70, 3) := by decide +kernel
theorem dX9_takeToken_42 : decode cX9_takeToken 42 = .ok (.ifCond .eq 47, 3) := by decide +kernel
theorem dX9_takeToken_45 : decode cX9_takeToken 45 = .ok (.aload_n 0, 1) := by decide +kernel
theorem dX9_takeToken_46 : decode cX9_takeToken 46 = .ok (.getfield 46, 3) := by decide +kernel
theorem dX9_takeToken_49 : decode cX9_takeToken 49 = .ok (.aload_n 0, 1) := by decide +kernel
theorem dX9_takeToken_50 : decode cX9_takeToken 50 = .ok (.getfield 25, 3) := by decide +kernel
theorem dX9_takeToken_53 : decode cX9_takeToken 53 = .ok (.if_icmp .ge 30, 3) := by decide +kernel
theorem dX9_takeToken_56 : decode cX9_takeToken 56 = .ok (.aload_n 0, 1) := by decide +kernel
theorem dX9_takeToken_57 : decode cX9_takeToken 57 = .ok (.aload_n 0, 1) := by decide +kernel
theorem dX9_takeToken_58 : decode cX9_takeToken 58 = .ok (.getfield 46, 3) := by decide +kernel
theorem dX9_takeToken_61 : decode cX9_takeToken 61 = .ok (.invokevirtual 67, 3) := by decide +kernel
theorem dX9_takeToken_64 : decode cX9_takeToken 64 = .ok (.invokestatic 70, 3) := by decide +kernel
theorem dX9_takeToken_67 : decode cX9_takeToken 67 = .ok (.ifCond .eq 16, 3) := by decide +kernel
theorem dX9_takeToken_70 : decode cX9_takeToken 70 = .ok (.aload_n 0, 1) := by decide +kernel
theorem dX9_takeToken_71 : decode cX9_takeToken 71 = .ok (.dup, 1) := by decide +kernel
theorem dX9_takeToken_72 : decode cX9_takeToken 72 = .ok (.getfield 46, 3) := by decide +kernel
theorem dX9_takeToken_75 : decode cX9_takeToken 75 = .ok (.iconst 1, 1) := by decide +kernel
theorem dX9_takeToken_76 : decode cX9_takeToken 76 = .ok (.iadd, 1) := by decide +kernel
theorem dX9_takeToken_77 : decode cX9_takeToken 77 = .ok (.putfield 46, 3) := by decide +kernel
theorem dX9_takeToken_80 : decode cX9_takeToken 80 = .ok (.goto (-35), 3) := by decide +kernel
theorem dX9_takeToken_83 : decode cX9_takeToken 83 = .ok (.aload_n 0, 1) := by decide +kernel
theorem dX9_takeToken_84 : decode cX9_takeToken 84 = .ok (.iload_n 1, 1) := by decide +kernel
theorem dX9_takeToken_85 : decode cX9_takeToken 85 = .ok (.invokevirtual 74, 3) := by decide +kernel
theorem dX9_takeToken_88 : decode cX9_takeToken 88 = .ok (.ireturn, 1) := by decide +kernel
theorem dX9_takeToken_89 : decode cX9_takeToken 89 = .ok (.iload_n 2, 1) := by decide +kernel
theorem dX9_takeToken_90 : decode cX9_takeToken 90 = .ok (.invokestatic 77, 3) := by decide +kernel
theorem dX9_takeToken_93 : decode cX9_takeToken 93 = .ok (.ifCond .eq 59, 3) := by decide +kernel
theorem dX9_takeToken_96 : decode cX9_takeToken 96 = .ok (.aload_n 0, 1) := by decide +kernel
theorem dX9_takeToken_97 : decode cX9_takeToken 97 = .ok (.getfield 46, 3) := by decide +kernel
theorem dX9_takeToken_100 : decode cX9_takeToken 100 = .ok (.aload_n 0, 1) := by decide +kernel
theorem dX9_takeToken_101 : decode cX9_takeToken 101 = .ok (.getfield 25, 3) := by decide +kernel
theorem dX9_takeToken_104 : decode cX9_takeToken 104 = .ok (.if_icmp .ge 30, 3) := by decide +kernel
theorem dX9_takeToken_107 : decode cX9_takeToken 107 = .ok (.aload_n 0, 1) := by decide +kernel
theorem dX9_takeToken_108 : decode cX9_takeToken 108 = .ok (.aload_n 0, 1) := by decide +kernel
theorem dX9_takeToken_109 : decode cX9_takeToken 109 = .ok (.getfield 46, 3) := by decide +kernel
theorem dX9_takeToken_112 : decode cX9_takeToken 112 = .ok (.invokevirtual 67, 3) := by decide +kernel
theorem dX9_takeToken_115 : decode cX9_takeToken 115 = .ok (.invokestatic 77, 3) := by decide +kernel
theorem dX9_takeToken_118 : decode cX9_takeToken 118 = .ok (.ifCond .eq 16, 3) := by decide +kernel
theorem dX9_takeToken_121 : decode cX9_takeToken 121 = .ok (.aload_n 0, 1) := by decide +kernel
theorem dX9_takeToken_122 : decode cX9_takeToken 122 = .ok (.dup, 1) := by decide +kernel
theorem dX9_takeToken_123 : decode cX9_takeToken 123 = .ok (.getfield 46, 3) := by decide +kernel
theorem dX9_takeToken_126 : decode cX9_takeToken 126 = .ok (.iconst 1, 1) := by decide +kernel
theorem dX9_takeToken_127 : decode cX9_takeToken 127 = .ok (.iadd, 1) := by decide +kernel
theorem dX9_takeToken_128 : decode cX9_takeToken 128 = .ok (.putfield 46, 3) := by decide +kernel
theorem dX9_takeToken_131 : decode cX9_takeToken 131 = .ok (.goto (-35), 3) := by decide +kernel
theorem dX9_takeToken_134 : decode cX9_takeToken 134 = .ok (.aload_n 0, 1) := by decide +kernel
theorem dX9_takeToken_135 : decode cX9_takeToken 135 = .ok (.getfield 46, 3) := by decide +kernel
theorem dX9_takeToken_138 : decode cX9_takeToken 138 = .ok (.iload_n 1, 1) := by decide +kernel
theorem dX9_takeToken_139 : decode cX9_takeToken 139 = .ok (.isub, 1) := by decide +kernel
theorem dX9_takeToken_140 : decode cX9_takeToken 140 = .ok (.iconst 4, 1) := by decide +kernel
theorem dX9_takeToken_141 : decode cX9_takeToken 141 = .ok (.if_icmp .le 8, 3) := by decide +kernel
theorem dX9_takeToken_144 : decode cX9_takeToken 144 = .ok (.bipush 23, 2) := by decide +kernel
theorem dX9_takeToken_146 : decode cX9_takeToken 146 = .ok (.goto 5, 3) := by decide +kernel
theorem dX9_takeToken_149 : decode cX9_takeToken 149 = .ok (.bipush 13, 2) := by decide +kernel
theorem dX9_takeToken_151 : decode cX9_takeToken 151 = .ok (.ireturn, 1) := by decide +kernel
theorem dX9_takeToken_152 : decode cX9_takeToken 152 = .ok (.iconst 0, 1) := by decide +kernel
theorem dX9_takeToken_153 : decode cX9_takeToken 153 = .ok (.istore_n 3, 1) := by decide +kernel
theorem dX9_takeToken_154 : decode cX9_takeToken 154 = .ok (.iload_n 3, 1) := by decide +kernel
theorem dX9_takeToken_155 : decode cX9_takeToken 155 = .ok (.ldc 80, 2) := by decide +kernel
theorem dX9_takeToken_157 : decode cX9_takeToken 157 = .ok (.invokevirtual 29, 3) := by decide +kernel
theorem dX9_takeToken_160 : decode cX9_takeToken 160 = .ok (.if_icmp .ge 24, 3) := by decide +kernel
theorem dX9_takeToken_163 : decode cX9_takeToken 163 = .ok (.ldc 80, 2) := by decide +kernel
theorem dX9_takeToken_165 : decode cX9_takeToken 165 = .ok (.iload_n 3, 1) := by decide +kernel
theorem dX9_takeToken_166 : decode cX9_takeToken 166 = .ok (.invokevirtual 35, 3) := by decide +kernel
theorem dX9_takeToken_169 : decode cX9_takeToken 169 = .ok (.iload_n 2, 1) := by decide +kernel
theorem dX9_takeToken_170 : decode cX9_takeToken 170 = .ok (.if_icmp .ne 8, 3) := by decide +kernel
theorem dX9_takeToken_173 : decode cX9_takeToken 173 = .ok (.bipush 14, 2) := by decide +kernel
theorem dX9_takeToken_175 : decode cX9_takeToken 175 = .ok (.iload_n 3, 1) := by decide +kernel
theorem dX9_takeToken_176 : decode cX9_takeToken 176 = .ok (.iadd, 1) := by decide +kernel
theorem dX9_takeToken_177 : decode cX9_takeToken 177 = .ok (.ireturn, 1) := by decide +kernel
theorem dX9_takeToken_178 : decode cX9_takeToken 178 = .ok (.iinc 3 1, 3) := by decide +kernel
theorem dX9_takeToken_181 : decode cX9_takeToken 181 = .ok (.goto (-27), 3) := by decide +kernel
theorem dX9_takeToken_184 : decode cX9_takeToken 184 = .ok (.bipush 23, 2) := by decide +kernel
theorem dX9_takeToken_186 : decode cX9_takeToken 186 = .ok (.ireturn, 1) := by decide +kernel
theorem dX9_wordIn_0 : decode cX9_wordIn 0 = .ok (.iconst 0, 1) := by decide +kernel
theorem dX9_wordIn_1 : decode cX9_wordIn 1 = .ok (.istore_n 2, 1) := by decide +kernel
theorem dX9_wordIn_2 : decode cX9_wordIn 2 = .ok (.iload_n 1, 1) := by decide +kernel
theorem dX9_wordIn_3 : decode cX9_wordIn 3 = .ok (.istore_n 3, 1) := by decide +kernel
theorem dX9_wordIn_4 : decode cX9_wordIn 4 = .ok (.iconst 1, 1) := by decide +kernel
theorem dX9_wordIn_5 : decode cX9_wordIn 5 = .ok (.istore 4, 2) := by decide +kernel
theorem dX9_wordIn_7 : decode cX9_wordIn 7 = .ok (.iconst 0, 1) := by decide +kernel
theorem dX9_wordIn_8 : decode cX9_wordIn 8 = .ok (.istore 5, 2) := by decide +kernel
theorem dX9_wordIn_10 : decode cX9_wordIn 10 = .ok (.iload 5, 2) := by decide +kernel
theorem dX9_wordIn_12 : decode cX9_wordIn 12 = .ok (.ldc 82, 2) := by decide +kernel
theorem dX9_wordIn_14 : decode cX9_wordIn 14 = .ok (.invokevirtual 29, 3) := by decide +kernel
theorem dX9_wordIn_17 : decode cX9_wordIn 17 = .ok (.if_icmp .ge 84, 3) := by decide +kernel
theorem dX9_wordIn_20 : decode cX9_wordIn 20 = .ok (.ldc 82, 2) := by decide +kernel
theorem dX9_wordIn_22 : decode cX9_wordIn 22 = .ok (.iload 5, 2) := by decide +kernel
theorem dX9_wordIn_24 : decode cX9_wordIn 24 = .ok (.invokevirtual 35, 3) := by decide +kernel
theorem dX9_wordIn_27 : decode cX9_wordIn 27 = .ok (.istore 6, 2) := by decide +kernel
theorem dX9_wordIn_29 : decode cX9_wordIn 29 = .ok (.iload 6, 2) := by decide +kernel
theorem dX9_wordIn_31 : decode cX9_wordIn 31 = .ok (.bipush 32, 2) := by decide +kernel
theorem dX9_wordIn_33 : decode cX9_wordIn 33 = .ok (.if_icmp .eq 39, 3) := by decide +kernel
theorem dX9_wordIn_36 : decode cX9_wordIn 36 = .ok (.iload 4, 2) := by decide +kernel
theorem dX9_wordIn_38 : decode cX9_wordIn 38 = .ok (.ifCond .eq 25, 3) := by decide +kernel
theorem dX9_wordIn_41 : decode cX9_wordIn 41 = .ok (.iload_n 3, 1) := by decide +kernel
theorem dX9_wordIn_42 : decode cX9_wordIn 42 = .ok (.aload_n 0, 1) := by decide +kernel
theorem dX9_wordIn_43 : decode cX9_wordIn 43 = .ok (.getfield 46, 3) := by decide +kernel
theorem dX9_wordIn_46 : decode cX9_wordIn 46 = .ok (.if_icmp .ge 17, 3) := by decide +kernel
theorem dX9_wordIn_49 : decode cX9_wordIn 49 = .ok (.aload_n 0, 1) := by decide +kernel
theorem dX9_wordIn_50 : decode cX9_wordIn 50 = .ok (.iload_n 3, 1) := by decide +kernel
theorem dX9_wordIn_51 : decode cX9_wordIn 51 = .ok (.invokevirtual 67, 3) := by decide +kernel
theorem dX9_wordIn_54 : decode cX9_wordIn 54 = .ok (.iload 6, 2) := by decide +kernel
theorem dX9_wordIn_56 : decode cX9_wordIn 56 = .ok (.if_icmp .ne 7, 3) := by decide +kernel
theorem dX9_wordIn_59 : decode cX9_wordIn 59 = .ok (.iconst 1, 1) := by decide +kernel
theorem dX9_wordIn_60 : decode cX9_wordIn 60 = .ok (.goto 4, 3) := by decide +kernel
theorem dX9_wordIn_63 : decode cX9_wordIn 63 = .ok (.iconst 0, 1) := by decide +kernel
theorem dX9_wordIn_64 : decode cX9_wordIn 64 = .ok (.istore 4, 2) := by decide +kernel
theorem dX9_wordIn_66 : decode cX9_wordIn 66 = .ok (.iinc 3 1, 3) := by decide +kernel
theorem dX9_wordIn_69 : decode cX9_wordIn 69 = .ok (.goto 26, 3) := by decide +kernel
theorem dX9_wordIn_72 : decode cX9_wordIn 72 = .ok (.iload 4, 2) := by decide +kernel
theorem dX9_wordIn_74 : decode cX9_wordIn 74 = .ok (.ifCond .eq 13, 3) := by decide +kernel
theorem dX9_wordIn_77 : decode cX9_wordIn 77 = .ok (.iload_n 3, 1) := by decide +kernel
theorem dX9_wordIn_78 : decode cX9_wordIn 78 = .ok (.aload_n 0, 1) := by decide +kernel
theorem dX9_wordIn_79 : decode cX9_wordIn 79 = .ok (.getfield 46, 3) := by decide +kernel
theorem dX9_wordIn_82 : decode cX9_wordIn 82 = .ok (.if_icmp .ne 5, 3) := by decide +kernel
theorem dX9_wordIn_85 : decode cX9_wordIn 85 = .ok (.iload_n 2, 1) := by decide +kernel
theorem dX9_wordIn_86 : decode cX9_wordIn 86 = .ok (.ireturn, 1) := by decide +kernel
theorem dX9_wordIn_87 : decode cX9_wordIn 87 = .ok (.iinc 2 1, 3) := by decide +kernel
theorem dX9_wordIn_90 : decode cX9_wordIn 90 = .ok (.iload_n 1, 1) := by decide +kernel
theorem dX9_wordIn_91 : decode cX9_wordIn 91 = .ok (.istore_n 3, 1) := by decide +kernel
theorem dX9_wordIn_92 : decode cX9_wordIn 92 = .ok (.iconst 1, 1) := by decide +kernel
theorem dX9_wordIn_93 : decode cX9_wordIn 93 = .ok (.istore 4, 2) := by decide +kernel
theorem dX9_wordIn_95 : decode cX9_wordIn 95 = .ok (.iinc 5 1, 3) := by decide +kernel
theorem dX9_wordIn_98 : decode cX9_wordIn 98 = .ok (.goto (-88), 3) := by decide +kernel
theorem dX9_wordIn_101 : decode cX9_wordIn 101 = .ok (.bipush 23, 2) := by decide +kernel
theorem dX9_wordIn_103 : decode cX9_wordIn 103 = .ok (.ireturn, 1) := by decide +kernel
theorem dX9_numberOf_0 : decode cX9_numberOf 0 = .ok (.iconst 0, 1) := by decide +kernel
theorem dX9_numberOf_1 : decode cX9_numberOf 1 = .ok (.istore_n 2, 1) := by decide +kernel
theorem dX9_numberOf_2 : decode cX9_numberOf 2 = .ok (.iload_n 1, 1) := by decide +kernel
theorem dX9_numberOf_3 : decode cX9_numberOf 3 = .ok (.istore_n 3, 1) := by decide +kernel
theorem dX9_numberOf_4 : decode cX9_numberOf 4 = .ok (.iload_n 3, 1) := by decide +kernel
theorem dX9_numberOf_5 : decode cX9_numberOf 5 = .ok (.aload_n 0, 1) := by decide +kernel
theorem dX9_numberOf_6 : decode cX9_numberOf 6 = .ok (.getfield 46, 3) := by decide +kernel
theorem dX9_numberOf_9 : decode cX9_numberOf 9 = .ok (.if_icmp .ge 23, 3) := by decide +kernel
theorem dX9_numberOf_12 : decode cX9_numberOf 12 = .ok (.iload_n 2, 1) := by decide +kernel
theorem dX9_numberOf_13 : decode cX9_numberOf 13 = .ok (.bipush 10, 2) := by decide +kernel
theorem dX9_numberOf_15 : decode cX9_numberOf 15 = .ok (.imul, 1) := by decide +kernel
theorem dX9_numberOf_16 : decode cX9_numberOf 16 = .ok (.aload_n 0, 1) := by decide +kernel
theorem dX9_numberOf_17 : decode cX9_numberOf 17 = .ok (.iload_n 3, 1) := by decide +kernel
theorem dX9_numberOf_18 : decode cX9_numberOf 18 = .ok (.invokevirtual 67, 3) := by decide +kernel
theorem dX9_numberOf_21 : decode cX9_numberOf 21 = .ok (.iadd, 1) := by decide +kernel
theorem dX9_numberOf_22 : decode cX9_numberOf 22 = .ok (.bipush 48, 2) := by decide +kernel
theorem dX9_numberOf_24 : decode cX9_numberOf 24 = .ok (.isub, 1) := by decide +kernel
theorem dX9_numberOf_25 : decode cX9_numberOf 25 = .ok (.istore_n 2, 1) := by decide +kernel
theorem dX9_numberOf_26 : decode cX9_numberOf 26 = .ok (.iinc 3 1, 3) := by decide +kernel
theorem dX9_numberOf_29 : decode cX9_numberOf 29 = .ok (.goto (-25), 3) := by decide +kernel
theorem dX9_numberOf_32 : decode cX9_numberOf 32 = .ok (.iload_n 2, 1) := by decide +kernel
theorem dX9_numberOf_33 : decode cX9_numberOf 33 = .ok (.ireturn, 1) := by decide +kernel
theorem dX10_init_0 : decode cX10_init 0 = .ok (.aload_n 0, 1) := by decide +kernel
theorem dX10_init_1 : decode cX10_init 1 = .ok (.invokespecial 3, 3) := by decide +kernel
theorem dX10_init_4 : decode cX10_init 4 = .ok (.aload_n 0, 1) := by decide +kernel
theorem dX10_init_5 : decode cX10_init 5 = .ok (.sipush 160, 3) := by decide +kernel
theorem dX10_init_8 : decode cX10_init 8 = .ok (.newarray .int, 2) := by decide +kernel
theorem dX10_init_10 : decode cX10_init 10 = .ok (.putfield 9, 3) := by decide +kernel
theorem dX10_init_13 : decode cX10_init 13 = .ok (.aload_n 0, 1) := by decide +kernel
theorem dX10_init_14 : decode cX10_init 14 = .ok (.iconst 3, 1) := by decide +kernel
theorem dX10_init_15 : decode cX10_init 15 = .ok (.newarray .int, 2) := by decide +kernel
theorem dX10_init_17 : decode cX10_init 17 = .ok (.putfield 15, 3) := by decide +kernel
theorem dX10_init_20 : decode cX10_init 20 = .ok (.aload_n 0, 1) := by decide +kernel
theorem dX10_init_21 : decode cX10_init 21 = .ok (.sipush 160, 3) := by decide +kernel
theorem dX10_init_24 : decode cX10_init 24 = .ok (.newarray .int, 2) := by decide +kernel
theorem dX10_init_26 : decode cX10_init 26 = .ok (.putfield 18, 3) := by decide +kernel
theorem dX10_init_29 : decode cX10_init 29 = .ok (.return_, 1) := by decide +kernel
theorem dX10_codeOf_0 : decode cX10_codeOf 0 = .ok (.iconst (-1), 1) := by decide +kernel
theorem dX10_codeOf_1 : decode cX10_codeOf 1 = .ok (.iload_n 0, 1) := by decide +kernel
theorem dX10_codeOf_2 : decode cX10_codeOf 2 = .ok (.isub, 1) := by decide +kernel
theorem dX10_codeOf_3 : decode cX10_codeOf 3 = .ok (.ireturn, 1) := by decide +kernel
theorem dX10_clear_0 : decode cX10_clear 0 = .ok (.aload_n 0, 1) := by decide +kernel
theorem dX10_clear_1 : decode cX10_clear 1 = .ok (.iconst 0, 1) := by decide +kernel
theorem dX10_clear_2 : decode cX10_clear 2 = .ok (.putfield 21, 3) := by decide +kernel
theorem dX10_clear_5 : decode cX10_clear 5 = .ok (.return_, 1) := by decide +kernel
theorem dX10_add_0 : decode cX10_add 0 = .ok (.aload_n 0, 1) := by decide +kernel
theorem dX10_add_1 : decode cX10_add 1 = .ok (.getfield 21, 3) := by decide +kernel
theorem dX10_add_4 : decode cX10_add 4 = .ok (.aload_n 0, 1) := by decide +kernel
theorem dX10_add_5 : decode cX10_add 5 = .ok (.getfield 9, 3) := by decide +kernel
theorem dX10_add_8 : decode cX10_add 8 = .ok (.arraylength, 1) := by decide +kernel
theorem dX10_add_9 : decode cX10_add 9 = .ok (.if_icmp .ge 23, 3) := by decide +kernel
theorem dX10_add_12 : decode cX10_add 12 = .ok (.aload_n 0, 1) := by decide +kernel
theorem dX10_add_13 : decode cX10_add 13 = .ok (.getfield 9, 3) := by decide +kernel
theorem dX10_add_16 : decode cX10_add 16 = .ok (.aload_n 0, 1) := by decide +kernel
theorem dX10_add_17 : decode cX10_add 17 = .ok (.getfield 21, 3) := by decide +kernel
theorem dX10_add_20 : decode cX10_add 20 = .ok (.iload_n 1, 1) := by decide +kernel
theorem dX10_add_21 : decode cX10_add 21 = .ok (.iastore, 1) := by decide +kernel
theorem dX10_add_22 : decode cX10_add 22 = .ok (.aload_n 0, 1) := by decide +kernel
theorem dX10_add_23 : decode cX10_add 23 = .ok (.dup, 1) := by decide +kernel
theorem dX10_add_24 : decode cX10_add 24 = .ok (.getfield 21, 3) := by decide +kernel
theorem dX10_add_27 : decode cX10_add 27 = .ok (.iconst 1, 1) := by decide +kernel
theorem dX10_add_28 : decode cX10_add 28 = .ok (.iadd, 1) := by decide +kernel
theorem dX10_add_29 : decode cX10_add 29 = .ok (.putfield 21, 3) := by decide +kernel
theorem dX10_add_32 : decode cX10_add 32 = .ok (.return_, 1) := by decide +kernel
theorem dX10_endPart_0 : decode cX10_endPart 0 = .ok (.iload_n 1, 1) := by decide +kernel
theorem dX10_endPart_1 : decode cX10_endPart 1 = .ok (.iconst 0, 1) := by decide +kernel
theorem dX10_endPart_2 : decode cX10_endPart 2 = .ok (.aload_n 0, 1) := by decide +kernel
theorem dX10_endPart_3 : decode cX10_endPart 3 = .ok (.getfield 15, 3) := by decide +kernel
theorem dX10_endPart_6 : decode cX10_endPart 6 = .ok (.arraylength, 1) := by decide +kernel
theorem dX10_endPart_7 : decode cX10_endPart 7 = .ok (.iconst 1, 1) := by decide +kernel
theorem dX10_endPart_8 : decode cX10_endPart 8 = .ok (.isub, 1) := by decide +kernel
theorem dX10_endPart_9 : decode cX10_endPart 9 = .ok (.invokestatic 25, 3) := by decide +kernel
theorem dX10_endPart_12 : decode cX10_endPart 12 = .ok (.ifCond .eq 13, 3) := by decide +kernel
theorem dX10_endPart_15 : decode cX10_endPart 15 = .ok (.aload_n 0, 1) := by decide +kernel
theorem dX10_endPart_16 : decode cX10_endPart 16 = .ok (.getfield 15, 3) := by decide +kernel
theorem dX10_endPart_19 : decode cX10_endPart 19 = .ok (.iload_n 1, 1) := by decide +kernel
theorem dX10_endPart_20 : decode cX10_endPart 20 = .ok (.aload_n 0, 1) := by decide +kernel
theorem dX10_endPart_21 : decode cX10_endPart 21 = .ok (.getfield 21, 3) := by decide +kernel
theorem dX10_endPart_24 : decode cX10_endPart 24 = .ok (.iastore, 1) := by decide +kernel
theorem dX10_endPart_25 : decode cX10_endPart 25 = .ok (.return_, 1) := by decide +kernel
theorem dX10_valueOf_0 : decode cX10_valueOf 0 = .ok (.iload_n 1, 1) := by decide +kernel
theorem dX10_valueOf_1 : decode cX10_valueOf 1 = .ok (.iconst 0, 1) := by decide +kernel
theorem dX10_valueOf_2 : decode cX10_valueOf 2 = .ok (.aload_n 0, 1) := by decide +kernel
theorem dX10_valueOf_3 : decode cX10_valueOf 3 = .ok (.getfield 15, 3) := by decide +kernel
theorem dX10_valueOf_6 : decode cX10_valueOf 6 = .ok (.arraylength, 1) := by decide +kernel
theorem dX10_valueOf_7 : decode cX10_valueOf 7 = .ok (.iconst 1, 1) := by decide +kernel
theorem dX10_valueOf_8 : decode cX10_valueOf 8 = .ok (.isub, 1) := by decide +kernel
theorem dX10_valueOf_9 : decode cX10_valueOf 9 = .ok (.invokestatic 25, 3) := by decide +kernel
theorem dX10_valueOf_12 : decode cX10_valueOf 12 = .ok (.ifCond .ne 5, 3) := by decide +kernel
theorem dX10_valueOf_15 : decode cX10_valueOf 15 = .ok (.iconst 0, 1) := by decide +kernel
theorem dX10_valueOf_16 : decode cX10_valueOf 16 = .ok (.ireturn, 1) := by decide +kernel
theorem dX10_valueOf_17 : decode cX10_valueOf 17 = .ok (.aload_n 0, 1) := by decide +kernel
theorem dX10_valueOf_18 : decode cX10_valueOf 18 = .ok (.iconst 0, 1) := by decide +kernel
theorem dX10_valueOf_19 : decode cX10_valueOf 19 = .ok (.putfield 29, 3) := by decide +kernel
theorem dX10_valueOf_22 : decode cX10_valueOf 22 = .ok (.iload_n 1, 1) := by decide +kernel
theorem dX10_valueOf_23 : decode cX10_valueOf 23 = .ok (.ifCond .ne 7, 3) := by decide +kernel
theorem dX10_valueOf_26 : decode cX10_valueOf 26 = .ok (.iconst 0, 1) := by decide +kernel
theorem dX10_valueOf_27 : decode cX10_valueOf 27 = .ok (.goto 11, 3) := by decide +kernel
theorem dX10_valueOf_30 : decode cX10_valueOf 30 = .ok (.aload_n 0, 1) := by decide +kernel
theorem dX10_valueOf_31 : decode cX10_valueOf 31 = .ok (.getfield 15, 3) := by decide +kernel
theorem dX10_valueOf_34 : decode cX10_valueOf 34 = .ok (.iload_n 1, 1) := by decide +kernel
theorem dX10_valueOf_35 : decode cX10_valueOf 35 = .ok (.iconst 1, 1) := by decide +kernel
theorem dX10_valueOf_36 : decode cX10_valueOf 36 = .ok (.isub, 1) := by decide +kernel
theorem dX10_valueOf_37 : decode cX10_valueOf 37 = .ok (.iaload, 1) := by decide +kernel
theorem dX10_valueOf_38 : decode cX10_valueOf 38 = .ok (.istore_n 3, 1) := by decide +kernel
theorem dX10_valueOf_39 : decode cX10_valueOf 39 = .ok (.iload_n 3, 1) := by decide +kernel
theorem dX10_valueOf_40 : decode cX10_valueOf 40 = .ok (.istore 4, 2) := by decide +kernel
theorem dX10_valueOf_42 : decode cX10_valueOf 42 = .ok (.iload 4, 2) := by decide +kernel
theorem dX10_valueOf_44 : decode cX10_valueOf 44 = .ok (.aload_n 0, 1) := by decide +kernel
theorem dX10_valueOf_45 : decode cX10_valueOf 45 = .ok (.getfield 15, 3) := by decide +kernel
theorem dX10_valueOf_48 : decode cX10_valueOf 48 = .ok (.iload_n 1, 1) := by decide +kernel
theorem dX10_valueOf_49 : decode cX10_valueOf 49 = .ok (.iaload, 1) := by decide +kernel
theorem dX10_valueOf_50 : decode cX10_valueOf 50 = .ok (.if_icmp .ge 58, 3) := by decide +kernel
theorem dX10_valueOf_53 : decode cX10_valueOf 53 = .ok (.iload 4, 2) := by decide +kernel
theorem dX10_valueOf_55 : decode cX10_valueOf 55 = .ok (.aload_n 0, 1) := by decide +kernel
theorem dX10_valueOf_56 : decode cX10_valueOf 56 = .ok (.getfield 9, 3) := by decide +kernel
theorem dX10_valueOf_59 : decode cX10_valueOf 59 = .ok (.arraylength, 1) := by decide +kernel
theorem dX10_valueOf_60 : decode cX10_valueOf 60 = .ok (.if_icmp .ge 48, 3) := by decide +kernel
theorem dX10_valueOf_63 : decode cX10_valueOf 63 = .ok (.aload_n 0, 1) := by decide +kernel
theorem dX10_valueOf_64 : decode cX10_valueOf 64 = .ok (.getfield 9, 3) := by decide +kernel
theorem dX10_valueOf_67 : decode cX10_valueOf 67 = .ok (.iload 4, 2) := by decide +kernel
theorem dX10_valueOf_69 : decode cX10_valueOf 69 = .ok (.iaload, 1) := by decide +kernel
theorem dX10_valueOf_70 : decode cX10_valueOf 70 = .ok (.ifCond .lt 17, 3) := by decide +kernel
theorem dX10_valueOf_73 : decode cX10_valueOf 73 = .ok (.aload_n 0, 1) := by decide +kernel
theorem dX10_valueOf_74 : decode cX10_valueOf 74 = .ok (.aload_n 0, 1) := by decide +kernel
theorem dX10_valueOf_75 : decode cX10_valueOf 75 = .ok (.getfield 9, 3) := by decide +kernel
theorem dX10_valueOf_78 : decode cX10_valueOf 78 = .ok (.iload 4, 2) := by decide +kernel
theorem dX10_valueOf_80 : decode cX10_valueOf 80 = .ok (.iaload, 1) := by decide +kernel
theorem dX10_valueOf_81 : decode cX10_valueOf 81 = .ok (.invokevirtual 32, 3) := by decide +kernel
theorem dX10_valueOf_84 : decode cX10_valueOf 84 = .ok (.goto 18, 3) := by decide +kernel
theorem dX10_valueOf_87 : decode cX10_valueOf 87 = .ok (.aload_n 0, 1) := by decide +kernel
theorem dX10_valueOf_88 : decode cX10_valueOf 88 = .ok (.aload_n 0, 1) := by decide +kernel
theorem dX10_valueOf_89 : decode cX10_valueOf 89 = .ok (.getfield 9, 3) := by decide +kernel
theorem dX10_valueOf_92 : decode cX10_valueOf 92 = .ok (.iload 4, 2) := by decide +kernel
theorem dX10_valueOf_94 : decode cX10_valueOf 94 = .ok (.iaload, 1) := by decide +kernel
theorem dX10_valueOf_95 : decode cX10_valueOf 95 = .ok (.invokestatic 36, 3) := by decide +kernel
theorem dX10_valueOf_98 : decode cX10_valueOf 98 = .ok (.aload_n 2, 1) := by decide +kernel
theorem dX10_valueOf_99 : decode cX10_valueOf 99 = .ok (.invokevirtual 40, 3) := by decide +kernel
theorem dX10_valueOf_102 : decode cX10_valueOf 102 = .ok (.iinc 4 1, 3) := by decide +kernel
theorem dX10_valueOf_105 : decode cX10_valueOf 105 = .ok (.goto (-63), 3) := by decide +kernel
theorem dX10_valueOf_108 : decode cX10_valueOf 108 = .ok (.aload_n 0, 1) := by decide +kernel
theorem dX10_valueOf_109 : decode cX10_valueOf 109 = .ok (.invokevirtual 44, 3) := by decide +kernel
theorem dX10_valueOf_112 : decode cX10_valueOf 112 = .ok (.ireturn, 1) := by decide +kernel
theorem dX10_take_0 : decode cX10_take 0 = .ok (.iload_n 1, 1) := by decide +kernel
theorem dX10_take_1 : decode cX10_take 1 = .ok (.iconst 0, 1) := by decide +kernel
theorem dX10_take_2 : decode cX10_take 2 = .ok (.aload_n 2, 1) := by decide +kernel
theorem dX10_take_3 : decode cX10_take 3 = .ok (.arraylength, 1) := by decide +kernel
theorem dX10_take_4 : decode cX10_take 4 = .ok (.iconst 1, 1) := by decide +kernel
theorem dX10_take_5 : decode cX10_take 5 = .ok (.isub, 1) := by decide +kernel
theorem dX10_take_6 : decode cX10_take 6 = .ok (.invokestatic 25, 3) := by decide +kernel
theorem dX10_take_9 : decode cX10_take 9 = .ok (.ifCond .eq 13, 3) := by decide +kernel
theorem dX10_take_12 : decode cX10_take 12 = .ok (.aload_n 0, 1) := by decide +kernel
theorem dX10_take_13 : decode cX10_take 13 = .ok (.aload_n 2, 1) := by decide +kernel
theorem dX10_take_14 : decode cX10_take 14 = .ok (.iload_n 1, 1) := by decide +kernel
theorem dX10_take_15 : decode cX10_take 15 = .ok (.iaload, 1) := by decide +kernel
theorem dX10_take_16 : decode cX10_take 16 = .ok (.invokevirtual 32, 3) := by decide +kernel
theorem dX10_take_19 : decode cX10_take 19 = .ok (.goto 68, 3) := by decide +kernel
theorem dX10_take_22 : decode cX10_take 22 = .ok (.iload_n 1, 1) := by decide +kernel
theorem dX10_take_23 : decode cX10_take 23 = .ok (.bipush 12, 2) := by decide +kernel
theorem dX10_take_25 : decode cX10_take 25 = .ok (.if_icmp .ne 22, 3) := by decide +kernel
theorem dX10_take_28 : decode cX10_take 28 = .ok (.aload_n 0, 1) := by decide +kernel
theorem dX10_take_29 : decode cX10_take 29 = .ok (.aload_n 0, 1) := by decide +kernel
theorem dX10_take_30 : decode cX10_take 30 = .ok (.invokevirtual 44, 3) := by decide +kernel
theorem dX10_take_33 : decode cX10_take 33 = .ok (.ifCond .ne 7, 3) := by decide +kernel
theorem dX10_take_36 : decode cX10_take 36 = .ok (.iconst 1, 1) := by decide +kernel
theorem dX10_take_37 : decode cX10_take 37 = .ok (.goto 4, 3) := by decide +kernel
theorem dX10_take_40 : decode cX10_take 40 = .ok (.iconst 0, 1) := by decide +kernel
theorem dX10_take_41 : decode cX10_take 41 = .ok (.invokevirtual 32, 3) := by decide +kernel
theorem dX10_take_44 : decode cX10_take 44 = .ok (.goto 43, 3) := by decide +kernel
theorem dX10_take_47 : decode cX10_take 47 = .ok (.iload_n 1, 1) := by decide +kernel
theorem dX10_take_48 : decode cX10_take 48 = .ok (.bipush 24, 2) := by decide +kernel
theorem dX10_take_50 : decode cX10_take 50 = .ok (.if_icmp .ne 15, 3) := by decide +kernel
theorem dX10_take_53 : decode cX10_take 53 = .ok (.aload_n 0, 1) := by decide +kernel
theorem dX10_take_54 : decode cX10_take 54 = .ok (.aload_n 0, 1) := by decide +kernel
theorem dX10_take_55 : decode cX10_take 55 = .ok (.invokevirtual 44, 3) := by decide +kernel
theorem dX10_take_58 : decode cX10_take 58 = .ok (.ineg, 1) := by decide +kernel
theorem dX10_take_59 : decode cX10_take 59 = .ok (.invokevirtual 32, 3) := by decide +kernel
theorem dX10_take_62 : decode cX10_take 62 = .ok (.goto 25, 3) := by decide +kernel
theorem dX10_take_65 : decode cX10_take 65 = .ok (.aload_n 0, 1) := by decide +kernel
theorem dX10_take_66 : decode cX10_take 66 = .ok (.invokevirtual 44, 3) := by decide +kernel
theorem dX10_take_69 : decode cX10_take 69 = .ok (.istore_n 3, 1) := by decide +kernel
theorem dX10_take_70 : decode cX10_take 70 = .ok (.aload_n 0, 1) := by decide +kernel
theorem dX10_take_71 : decode cX10_take 71 = .ok (.invokevirtual 44, 3) := by decide +kernel
theorem dX10_take_74 : decode cX10_take 74 = .ok (.istore 4, 2) := by decide +kernel
theorem dX10_take_76 : decode cX10_take 76 = .ok (.aload_n 0, 1) := by decide +kernel
theorem dX10_take_77 : decode cX10_take 77 = .ok (.iload_n 1, 1) := by decide +kernel
theorem dX10_take_78 : decode cX10_take 78 = .ok (.iload 4, 2) := by decide +kernel
theorem dX10_take_80 : decode cX10_take 80 = .ok (.iload_n 3, 1) := by decide +kernel
theorem dX10_take_81 : decode cX10_take 81 = .ok (.invokestatic 50, 3) := by decide +kernel
theorem dX10_take_84 : decode cX10_take 84 = .ok (.invokevirtual 32, 3) := by decide +kernel
theorem dX10_take_87 : decode cX10_take 87 = .ok (.return_, 1) := by decide +kernel
theorem dX10_join_0 : decode cX10_join 0 = .ok (.iload_n 0, 1) := by decide +kernel
theorem dX10_join_1 : decode cX10_join 1 = .ok (.tableswitch 125 10 21 #[63, 77, 125, 125, 125, 125, 125, 113, 117, 121, 91, 102], 63) := by decide +kernel
theorem dX10_join_64 : decode cX10_join 64 = .ok (.iload_n 1, 1) := by decide +kernel
theorem dX10_join_65 : decode cX10_join 65 = .ok (.ifCond .ne 7, 3) := by decide +kernel
theorem dX10_join_68 : decode cX10_join 68 = .ok (.iload_n 2, 1) := by decide +kernel
theorem dX10_join_69 : decode cX10_join 69 = .ok (.ifCond .eq 7, 3) := by decide +kernel
theorem dX10_join_72 : decode cX10_join 72 = .ok (.iconst 1, 1) := by decide +kernel
theorem dX10_join_73 : decode cX10_join 73 = .ok (.goto 4, 3) := by decide +kernel
theorem dX10_join_76 : decode cX10_join 76 = .ok (.iconst 0, 1) := by decide +kernel
theorem dX10_join_77 : decode cX10_join 77 = .ok (.ireturn, 1) := by decide +kernel
theorem dX10_join_78 : decode cX10_join 78 = .ok (.iload_n 1, 1) := by decide +kernel
theorem dX10_join_79 : decode cX10_join 79 = .ok (.ifCond .eq 11, 3) := by decide +kernel
theorem dX10_join_82 : decode cX10_join 82 = .ok (.iload_n 2, 1) := by decide +kernel
theorem dX10_join_83 : decode cX10_join 83 = .ok (.ifCond .eq 7, 3) := by decide +kernel
theorem dX10_join_86 : decode cX10_join 86 = .ok (.iconst 1, 1) := by decide +kernel
theorem dX10_join_87 : decode cX10_join 87 = .ok (.goto 4, 3) := by decide +kernel
theorem dX10_join_90 : decode cX10_join 90 = .ok (.iconst 0, 1) := by decide +kernel
theorem dX10_join_91 : decode cX10_join 91 = .ok (.ireturn, 1) := by decide +kernel
theorem dX10_join_92 : decode cX10_join 92 = .ok (.iload_n 1, 1) := by decide +kernel
theorem dX10_join_93 : decode cX10_join 93 = .ok (.iload_n 2, 1) := by decide +kernel
theorem dX10_join_94 : decode cX10_join 94 = .ok (.if_icmp .ge 7, 3) := by decide +kernel
theorem dX10_join_97 : decode cX10_join 97 = .ok (.iconst 1, 1) := by decide +kernel
theorem dX10_join_98 : decode cX10_join 98 = .ok (.goto 4, 3) := by decide +kernel
theorem dX10_join_101 : decode cX10_join 101 = .ok (.iconst 0, 1) := by decide +kernel
theorem dX10_join_102 : decode cX10_join 102 = .ok (.ireturn, 1) := by decide +kernel
theorem dX10_join_103 : decode cX10_join 103 = .ok (.iload_n 1, 1) := by decide +kernel
theorem dX10_join_104 : decode cX10_join 104 = .ok (.iload_n 2, 1) := by decide +kernel
theorem dX10_join_105 : decode cX10_join 105 = .ok (.if_icmp .ne 7, 3) := by decide +kernel
theorem dX10_join_108 : decode cX10_join 108 = .ok (.iconst 1, 1) := by decide +kernel
theorem dX10_join_109 : decode cX10_join 109 = .ok (.goto 4, 3) := by decide +kernel
theorem dX10_join_112 : decode cX10_join 112 = .ok (.iconst 0, 1) := by decide +kernel
theorem dX10_join_113 : decode cX10_join 113 = .ok (.ireturn, 1) := by decide +kernel
theorem dX10_join_114 : decode cX10_join 114 = .ok (.iload_n 1, 1) := by decide +kernel
theorem dX10_join_115 : decode cX10_join 115 = .ok (.iload_n 2, 1) := by decide +kernel
theorem dX10_join_116 : decode cX10_join 116 = .ok (.iadd, 1) := by decide +kernel
theorem dX10_join_117 : decode cX10_join 117 = .ok (.ireturn, 1) := by decide +kernel
theorem dX10_join_118 : decode cX10_join 118 = .ok (.iload_n 1, 1) := by decide +kernel
theorem dX10_join_119 : decode cX10_join 119 = .ok (.iload_n 2, 1) := by decide +kernel
theorem dX10_join_120 : decode cX10_join 120 = .ok (.isub, 1) := by decide +kernel
theorem dX10_join_121 : decode cX10_join 121 = .ok (.ireturn, 1) := by decide +kernel
theorem dX10_join_122 : decode cX10_join 122 = .ok (.iload_n 1, 1) := by decide +kernel
theorem dX10_join_123 : decode cX10_join 123 = .ok (.iload_n 2, 1) := by decide +kernel
theorem dX10_join_124 : decode cX10_join 124 = .ok (.imul, 1) := by decide +kernel
theorem dX10_join_125 : decode cX10_join 125 = .ok (.ireturn, 1) := by decide +kernel
theorem dX10_join_126 : decode cX10_join 126 = .ok (.iconst 0, 1) := by decide +kernel
theorem dX10_join_127 : decode cX10_join 127 = .ok (.ireturn, 1) := by decide +kernel
theorem dX10_push_0 : decode cX10_push 0 = .ok (.aload_n 0, 1) := by decide +kernel
theorem dX10_push_1 : decode cX10_push 1 = .ok (.getfield 29, 3) := by decide +kernel
theorem dX10_push_4 : decode cX10_push 4 = .ok (.aload_n 0, 1) := by decide +kernel
theorem dX10_push_5 : decode cX10_push 5 = .ok (.getfield 18, 3) := by decide +kernel
theorem dX10_push_8 : decode cX10_push 8 = .ok (.arraylength, 1) := by decide +kernel
theorem dX10_push_9 : decode cX10_push 9 = .ok (.if_icmp .ge 23, 3) := by decide +kernel
theorem dX10_push_12 : decode cX10_push 12 = .ok (.aload_n 0, 1) := by decide +kernel
theorem dX10_push_13 : decode cX10_push 13 = .ok (.getfield 18, 3) := by decide +kernel
theorem dX10_push_16 : decode cX10_push 16 = .ok (.aload_n 0, 1) := by decide +kernel
theorem dX10_push_17 : decode cX10_push 17 = .ok (.getfield 29, 3) := by decide +kernel
theorem dX10_push_20 : decode cX10_push 20 = .ok (.iload_n 1, 1) := by decide +kernel
theorem dX10_push_21 : decode cX10_push 21 = .ok (.iastore, 1) := by decide +kernel
theorem dX10_push_22 : decode cX10_push 22 = .ok (.aload_n 0, 1) := by decide +kernel
theorem dX10_push_23 : decode cX10_push 23 = .ok (.dup, 1) := by decide +kernel
theorem dX10_push_24 : decode cX10_push 24 = .ok (.getfield 29, 3) := by decide +kernel
theorem dX10_push_27 : decode cX10_push 27 = .ok (.iconst 1, 1) := by decide +kernel
theorem dX10_push_28 : decode cX10_push 28 = .ok (.iadd, 1) := by decide +kernel
theorem dX10_push_29 : decode cX10_push 29 = .ok (.putfield 29, 3) := by decide +kernel
theorem dX10_push_32 : decode cX10_push 32 = .ok (.return_, 1) := by decide +kernel
theorem dX10_pop_0 : decode cX10_pop 0 = .ok (.aload_n 0, 1) := by decide +kernel
theorem dX10_pop_1 : decode cX10_pop 1 = .ok (.getfield 29, 3) := by decide +kernel
theorem dX10_pop_4 : decode cX10_pop 4 = .ok (.iconst 1, 1) := by decide +kernel
theorem dX10_pop_5 : decode cX10_pop 5 = .ok (.if_icmp .ge 5, 3) := by decide +kernel
theorem dX10_pop_8 : decode cX10_pop 8 = .ok (.iconst 0, 1) := by decide +kernel
theorem dX10_pop_9 : decode cX10_pop 9 = .ok (.ireturn, 1) := by decide +kernel
theorem dX10_pop_10 : decode cX10_pop 10 = .ok (.aload_n 0, 1) := by decide +kernel
theorem dX10_pop_11 : decode cX10_pop 11 = .ok (.dup, 1) := by decide +kernel
theorem dX10_pop_12 : decode cX10_pop 12 = .ok (.getfield 29, 3) := by decide +kernel
theorem dX10_pop_15 : decode cX10_pop 15 = .ok (.iconst 1, 1) := by decide +kernel
theorem dX10_pop_16 : decode cX10_pop 16 = .ok (.isub, 1) := by decide +kernel
theorem dX10_pop_17 : decode cX10_pop 17 = .ok (.putfield 29, 3) := by decide +kernel
theorem dX10_pop_20 : decode cX10_pop 20 = .ok (.aload_n 0, 1) := by decide +kernel
theorem dX10_pop_21 : decode cX10_pop 21 = .ok (.getfield 18, 3) := by decide +kernel
theorem dX10_pop_24 : decode cX10_pop 24 = .ok (.aload_n 0, 1) := by decide +kernel
theorem dX10_pop_25 : decode cX10_pop 25 = .ok (.getfield 29, 3) := by decide +kernel
theorem dX10_pop_28 : decode cX10_pop 28 = .ok (.iaload, 1) := by decide +kernel
theorem dX10_pop_29 : decode cX10_pop 29 = .ok (.ireturn, 1) := by decide +kernel
theorem dX11_init_0 : decode cX11_init 0 = .ok (.aload_n 0, 1) := by decide +kernel
theorem dX11_init_1 : decode cX11_init 1 = .ok (.invokespecial 1, 3) := by decide +kernel
theorem dX11_init_4 : decode cX11_init 4 = .ok (.aload_n 0, 1) := by decide +kernel
theorem dX11_init_5 : decode cX11_init 5 = .ok (.iconst 5, 1) := by decide +kernel
theorem dX11_init_6 : decode cX11_init 6 = .ok (.anewarray 9, 3) := by decide +kernel
theorem dX11_init_9 : decode cX11_init 9 = .ok (.putfield 11, 3) := by decide +kernel
theorem dX11_init_12 : decode cX11_init 12 = .ok (.aload_n 0, 1) := by decide +kernel
theorem dX11_init_13 : decode cX11_init 13 = .ok (.bipush 8, 2) := by decide +kernel
theorem dX11_init_15 : decode cX11_init 15 = .ok (.anewarray 15, 3) := by decide +kernel
theorem dX11_init_18 : decode cX11_init 18 = .ok (.putfield 17, 3) := by decide +kernel
theorem dX11_init_21 : decode cX11_init 21 = .ok (.aload_n 0, 1) := by decide +kernel
theorem dX11_init_22 : decode cX11_init 22 = .ok (.bipush 14, 2) := by decide +kernel
theorem dX11_init_24 : decode cX11_init 24 = .ok (.anewarray 21, 3) := by decide +kernel
theorem dX11_init_27 : decode cX11_init 27 = .ok (.putfield 23, 3) := by decide +kernel
theorem dX11_init_30 : decode cX11_init 30 = .ok (.aload_n 0, 1) := by decide +kernel
theorem dX11_init_31 : decode cX11_init 31 = .ok (.bipush 6, 2) := by decide +kernel
theorem dX11_init_33 : decode cX11_init 33 = .ok (.anewarray 27, 3) := by decide +kernel
theorem dX11_init_36 : decode cX11_init 36 = .ok (.putfield 29, 3) := by decide +kernel
theorem dX11_init_39 : decode cX11_init 39 = .ok (.aload_n 0, 1) := by decide +kernel
theorem dX11_init_40 : decode cX11_init 40 = .ok (.iconst 4, 1) := by decide +kernel
theorem dX11_init_41 : decode cX11_init 41 = .ok (.anewarray 33, 3) := by decide +kernel
theorem dX11_init_44 : decode cX11_init 44 = .ok (.putfield 35, 3) := by decide +kernel
theorem dX11_init_47 : decode cX11_init 47 = .ok (.aload_n 0, 1) := by decide +kernel
theorem dX11_init_48 : decode cX11_init 48 = .ok (.new 39, 3) := by decide +kernel
theorem dX11_init_51 : decode cX11_init 51 = .ok (.dup, 1) := by decide +kernel
theorem dX11_init_52 : decode cX11_init 52 = .ok (.invokespecial 41, 3) := by decide +kernel
theorem dX11_init_55 : decode cX11_init 55 = .ok (.putfield 42, 3) := by decide +kernel
theorem dX11_init_58 : decode cX11_init 58 = .ok (.aload_n 0, 1) := by decide +kernel
theorem dX11_init_59 : decode cX11_init 59 = .ok (.new 46, 3) := by decide +kernel
theorem dX11_init_62 : decode cX11_init 62 = .ok (.dup, 1) := by decide +kernel
theorem dX11_init_63 : decode cX11_init 63 = .ok (.invokespecial 48, 3) := by decide +kernel
theorem dX11_init_66 : decode cX11_init 66 = .ok (.putfield 49, 3) := by decide +kernel
theorem dX11_init_69 : decode cX11_init 69 = .ok (.aload_n 0, 1) := by decide +kernel
theorem dX11_init_70 : decode cX11_init 70 = .ok (.bipush 7, 2) := by decide +kernel
theorem dX11_init_72 : decode cX11_init 72 = .ok (.newarray .int, 2) := by decide +kernel
theorem dX11_init_74 : decode cX11_init 74 = .ok (.putfield 53, 3) := by decide +kernel
theorem dX11_init_77 : decode cX11_init 77 = .ok (.aload_n 0, 1) := by decide +kernel
theorem dX11_init_78 : decode cX11_init 78 = .ok (.new 57, 3) := by decide +kernel
theorem dX11_init_81 : decode cX11_init 81 = .ok (.dup, 1) := by decide +kernel
theorem dX11_init_82 : decode cX11_init 82 = .ok (.invokespecial 59, 3) := by decide +kernel
theorem dX11_init_85 : decode cX11_init 85 = .ok (.putfield 60, 3) := by decide +kernel
theorem dX11_init_88 : decode cX11_init 88 = .ok (.aload_n 0, 1) := by decide +kernel
theorem dX11_init_89 : decode cX11_init 89 = .ok (.new 64, 3) := by decide +kernel
theorem dX11_init_92 : decode cX11_init 92 = .ok (.dup, 1) := by decide +kernel
theorem dX11_init_93 : decode cX11_init 93 = .ok (.invokespecial 66, 3) := by decide +kernel
theorem dX11_init_96 : decode cX11_init 96 = .ok (.putfield 67, 3) := by decide +kernel
theorem dX11_init_99 : decode cX11_init 99 = .ok (.aload_n 0, 1) := by decide +kernel
theorem dX11_init_100 : decode cX11_init 100 = .ok (.new 71, 3) := by decide +kernel
theorem dX11_init_103 : decode cX11_init 103 = .ok (.dup, 1) := by decide +kernel
theorem dX11_init_104 : decode cX11_init 104 = .ok (.invokespecial 73, 3) := by decide +kernel
theorem dX11_init_107 : decode cX11_init 107 = .ok (.putfield 74, 3) := by decide +kernel
theorem dX11_init_110 : decode cX11_init 110 = .ok (.aload_n 0, 1) := by decide +kernel
theorem dX11_init_111 : decode cX11_init 111 = .ok (.getfield 29, 3) := by decide +kernel
theorem dX11_init_114 : decode cX11_init 114 = .ok (.iconst 0, 1) := by decide +kernel
