theorem dX0_init_0 : decode cX0_init 0 = .ok (.aload_n 0, 1) := by decide +kernel
theorem dX0_init_1 : decode cX0_init 1 = .ok (.invokespecial 3, 3) := by decide +kernel
theorem dX0_init_4 : decode cX0_init 4 = .ok (.aload_n 0, 1) := by decide +kernel
theorem dX0_init_5 : decode cX0_init 5 = .ok (.iconst 0, 1) := by decide +kernel
theorem dX0_init_6 : decode cX0_init 6 = .ok (.putfield 9, 3) := by decide +kernel
theorem dX0_init_9 : decode cX0_init 9 = .ok (.aload_n 0, 1) := by decide +kernel
theorem dX0_init_10 : decode cX0_init 10 = .ok (.iconst 0, 1) := by decide +kernel
theorem dX0_init_11 : decode cX0_init 11 = .ok (.putfield 15, 3) := by decide +kernel
theorem dX0_init_14 : decode cX0_init 14 = .ok (.aload_n 0, 1) := by decide +kernel
theorem dX0_init_15 : decode cX0_init 15 = .ok (.iconst 0, 1) := by decide +kernel
theorem dX0_init_16 : decode cX0_init 16 = .ok (.putfield 18, 3) := by decide +kernel
theorem dX0_init_19 : decode cX0_init 19 = .ok (.aload_n 0, 1) := by decide +kernel
theorem dX0_init_20 : decode cX0_init 20 = .ok (.iconst 0, 1) := by decide +kernel
theorem dX0_init_21 : decode cX0_init 21 = .ok (.putfield 22, 3) := by decide +kernel
theorem dX0_init_24 : decode cX0_init 24 = .ok (.aload_n 0, 1) := by decide +kernel
theorem dX0_init_25 : decode cX0_init 25 = .ok (.iconst 0, 1) := by decide +kernel
theorem dX0_init_26 : decode cX0_init 26 = .ok (.putfield 25, 3) := by decide +kernel
theorem dX0_init_29 : decode cX0_init 29 = .ok (.aload_n 0, 1) := by decide +kernel
theorem dX0_init_30 : decode cX0_init 30 = .ok (.iconst 2, 1) := by decide +kernel
theorem dX0_init_31 : decode cX0_init 31 = .ok (.anewarray 28, 3) := by decide +kernel
theorem dX0_init_34 : decode cX0_init 34 = .ok (.putfield 30, 3) := by decide +kernel
theorem dX0_init_37 : decode cX0_init 37 = .ok (.iconst 0, 1) := by decide +kernel
theorem dX0_init_38 : decode cX0_init 38 = .ok (.istore_n 1, 1) := by decide +kernel
theorem dX0_init_39 : decode cX0_init 39 = .ok (.iload_n 1, 1) := by decide +kernel
theorem dX0_init_40 : decode cX0_init 40 = .ok (.iconst 2, 1) := by decide +kernel
theorem dX0_init_41 : decode cX0_init 41 = .ok (.if_icmp .ge 22, 3) := by decide +kernel
theorem dX0_init_44 : decode cX0_init 44 = .ok (.aload_n 0, 1) := by decide +kernel
theorem dX0_init_45 : decode cX0_init 45 = .ok (.getfield 30, 3) := by decide +kernel
theorem dX0_init_48 : decode cX0_init 48 = .ok (.iload_n 1, 1) := by decide +kernel
theorem dX0_init_49 : decode cX0_init 49 = .ok (.new 28, 3) := by decide +kernel
theorem dX0_init_52 : decode cX0_init 52 = .ok (.dup, 1) := by decide +kernel
theorem dX0_init_53 : decode cX0_init 53 = .ok (.invokespecial 34, 3) := by decide +kernel
theorem dX0_init_56 : decode cX0_init 56 = .ok (.aastore, 1) := by decide +kernel
theorem dX0_init_57 : decode cX0_init 57 = .ok (.iinc 1 1, 3) := by decide +kernel
theorem dX0_init_60 : decode cX0_init 60 = .ok (.goto (-21), 3) := by decide +kernel
theorem dX0_init_63 : decode cX0_init 63 = .ok (.return_, 1) := by decide +kernel
theorem dX0_isUpAt_0 : decode cX0_isUpAt 0 = .ok (.aload_n 0, 1) := by decide +kernel
theorem dX0_isUpAt_1 : decode cX0_isUpAt 1 = .ok (.getfield 15, 3) := by decide +kernel
theorem dX0_isUpAt_4 : decode cX0_isUpAt 4 = .ok (.ifCond .eq 23, 3) := by decide +kernel
theorem dX0_isUpAt_7 : decode cX0_isUpAt 7 = .ok (.iload_n 1, 1) := by decide +kernel
theorem dX0_isUpAt_8 : decode cX0_isUpAt 8 = .ok (.aload_n 0, 1) := by decide +kernel
theorem dX0_isUpAt_9 : decode cX0_isUpAt 9 = .ok (.getfield 18, 3) := by decide +kernel
theorem dX0_isUpAt_12 : decode cX0_isUpAt 12 = .ok (.if_icmp .eq 11, 3) := by decide +kernel
theorem dX0_isUpAt_15 : decode cX0_isUpAt 15 = .ok (.iload_n 1, 1) := by decide +kernel
theorem dX0_isUpAt_16 : decode cX0_isUpAt 16 = .ok (.aload_n 0, 1) := by decide +kernel
theorem dX0_isUpAt_17 : decode cX0_isUpAt 17 = .ok (.getfield 22, 3) := by decide +kernel
theorem dX0_isUpAt_20 : decode cX0_isUpAt 20 = .ok (.if_icmp .ne 7, 3) := by decide +kernel
theorem dX0_isUpAt_23 : decode cX0_isUpAt 23 = .ok (.iconst 1, 1) := by decide +kernel
theorem dX0_isUpAt_24 : decode cX0_isUpAt 24 = .ok (.goto 4, 3) := by decide +kernel
theorem dX0_isUpAt_27 : decode cX0_isUpAt 27 = .ok (.iconst 0, 1) := by decide +kernel
theorem dX0_isUpAt_28 : decode cX0_isUpAt 28 = .ok (.ireturn, 1) := by decide +kernel
theorem dX0_otherEnd_0 : decode cX0_otherEnd 0 = .ok (.iload_n 1, 1) := by decide +kernel
theorem dX0_otherEnd_1 : decode cX0_otherEnd 1 = .ok (.aload_n 0, 1) := by decide +kernel
theorem dX0_otherEnd_2 : decode cX0_otherEnd 2 = .ok (.getfield 18, 3) := by decide +kernel
theorem dX0_otherEnd_5 : decode cX0_otherEnd 5 = .ok (.if_icmp .ne 10, 3) := by decide +kernel
theorem dX0_otherEnd_8 : decode cX0_otherEnd 8 = .ok (.aload_n 0, 1) := by decide +kernel
theorem dX0_otherEnd_9 : decode cX0_otherEnd 9 = .ok (.getfield 22, 3) := by decide +kernel
theorem dX0_otherEnd_12 : decode cX0_otherEnd 12 = .ok (.goto 7, 3) := by decide +kernel
theorem dX0_otherEnd_15 : decode cX0_otherEnd 15 = .ok (.aload_n 0, 1) := by decide +kernel
theorem dX0_otherEnd_16 : decode cX0_otherEnd 16 = .ok (.getfield 18, 3) := by decide +kernel
theorem dX0_otherEnd_19 : decode cX0_otherEnd 19 = .ok (.ireturn, 1) := by decide +kernel
theorem dX0_queueOf_0 : decode cX0_queueOf 0 = .ok (.aload_n 0, 1) := by decide +kernel
theorem dX0_queueOf_1 : decode cX0_queueOf 1 = .ok (.getfield 30, 3) := by decide +kernel
theorem dX0_queueOf_4 : decode cX0_queueOf 4 = .ok (.iload_n 1, 1) := by decide +kernel
theorem dX0_queueOf_5 : decode cX0_queueOf 5 = .ok (.aload_n 0, 1) := by decide +kernel
theorem dX0_queueOf_6 : decode cX0_queueOf 6 = .ok (.getfield 18, 3) := by decide +kernel
theorem dX0_queueOf_9 : decode cX0_queueOf 9 = .ok (.if_icmp .ne 7, 3) := by decide +kernel
theorem dX0_queueOf_12 : decode cX0_queueOf 12 = .ok (.iconst 0, 1) := by decide +kernel
theorem dX0_queueOf_13 : decode cX0_queueOf 13 = .ok (.goto 4, 3) := by decide +kernel
theorem dX0_queueOf_16 : decode cX0_queueOf 16 = .ok (.iconst 1, 1) := by decide +kernel
theorem dX0_queueOf_17 : decode cX0_queueOf 17 = .ok (.aaload, 1) := by decide +kernel
theorem dX0_queueOf_18 : decode cX0_queueOf 18 = .ok (.areturn, 1) := by decide +kernel
theorem dX1_init_0 : decode cX1_init 0 = .ok (.aload_n 0, 1) := by decide +kernel
theorem dX1_init_1 : decode cX1_init 1 = .ok (.invokespecial 3, 3) := by decide +kernel
theorem dX1_init_4 : decode cX1_init 4 = .ok (.return_, 1) := by decide +kernel
theorem dX1_as_0 : decode cX1_as 0 = .ok (.aload_n 0, 1) := by decide +kernel
theorem dX1_as_1 : decode cX1_as 1 = .ok (.iload_n 1, 1) := by decide +kernel
theorem dX1_as_2 : decode cX1_as 2 = .ok (.putfield 9, 3) := by decide +kernel
theorem dX1_as_5 : decode cX1_as 5 = .ok (.aload_n 0, 1) := by decide +kernel
theorem dX1_as_6 : decode cX1_as 6 = .ok (.iload_n 2, 1) := by decide +kernel
theorem dX1_as_7 : decode cX1_as 7 = .ok (.putfield 15, 3) := by decide +kernel
theorem dX1_as_10 : decode cX1_as 10 = .ok (.aload_n 0, 1) := by decide +kernel
theorem dX1_as_11 : decode cX1_as 11 = .ok (.iload_n 3, 1) := by decide +kernel
theorem dX1_as_12 : decode cX1_as 12 = .ok (.putfield 18, 3) := by decide +kernel
theorem dX1_as_15 : decode cX1_as 15 = .ok (.aload_n 0, 1) := by decide +kernel
theorem dX1_as_16 : decode cX1_as 16 = .ok (.iload 4, 2) := by decide +kernel
theorem dX1_as_18 : decode cX1_as 18 = .ok (.putfield 21, 3) := by decide +kernel
theorem dX1_as_21 : decode cX1_as 21 = .ok (.aload_n 0, 1) := by decide +kernel
theorem dX1_as_22 : decode cX1_as 22 = .ok (.aconst_null, 1) := by decide +kernel
theorem dX1_as_23 : decode cX1_as 23 = .ok (.putfield 24, 3) := by decide +kernel
theorem dX1_as_26 : decode cX1_as 26 = .ok (.aload_n 0, 1) := by decide +kernel
theorem dX1_as_27 : decode cX1_as 27 = .ok (.areturn, 1) := by decide +kernel
theorem dX1_asNote_0 : decode cX1_asNote 0 = .ok (.aload_n 0, 1) := by decide +kernel
theorem dX1_asNote_1 : decode cX1_asNote 1 = .ok (.iconst 0, 1) := by decide +kernel
theorem dX1_asNote_2 : decode cX1_asNote 2 = .ok (.aload_n 1, 1) := by decide +kernel
theorem dX1_asNote_3 : decode cX1_asNote 3 = .ok (.getfield 28, 3) := by decide +kernel
theorem dX1_asNote_6 : decode cX1_asNote 6 = .ok (.aload_n 1, 1) := by decide +kernel
theorem dX1_asNote_7 : decode cX1_asNote 7 = .ok (.getfield 33, 3) := by decide +kernel
theorem dX1_asNote_10 : decode cX1_asNote 10 = .ok (.iconst 0, 1) := by decide +kernel
theorem dX1_asNote_11 : decode cX1_asNote 11 = .ok (.invokevirtual 36, 3) := by decide +kernel
theorem dX1_asNote_14 : decode cX1_asNote 14 = .ok (.pop, 1) := by decide +kernel
theorem dX1_asNote_15 : decode cX1_asNote 15 = .ok (.aload_n 0, 1) := by decide +kernel
theorem dX1_asNote_16 : decode cX1_asNote 16 = .ok (.aload_n 1, 1) := by decide +kernel
theorem dX1_asNote_17 : decode cX1_asNote 17 = .ok (.putfield 24, 3) := by decide +kernel
theorem dX1_asNote_20 : decode cX1_asNote 20 = .ok (.aload_n 0, 1) := by decide +kernel
theorem dX1_asNote_21 : decode cX1_asNote 21 = .ok (.areturn, 1) := by decide +kernel
theorem dX1_copy_0 : decode cX1_copy 0 = .ok (.aload_n 0, 1) := by decide +kernel
theorem dX1_copy_1 : decode cX1_copy 1 = .ok (.aload_n 1, 1) := by decide +kernel
theorem dX1_copy_2 : decode cX1_copy 2 = .ok (.getfield 9, 3) := by decide +kernel
theorem dX1_copy_5 : decode cX1_copy 5 = .ok (.putfield 9, 3) := by decide +kernel
theorem dX1_copy_8 : decode cX1_copy 8 = .ok (.aload_n 0, 1) := by decide +kernel
theorem dX1_copy_9 : decode cX1_copy 9 = .ok (.aload_n 1, 1) := by decide +kernel
theorem dX1_copy_10 : decode cX1_copy 10 = .ok (.getfield 15, 3) := by decide +kernel
theorem dX1_copy_13 : decode cX1_copy 13 = .ok (.putfield 15, 3) := by decide +kernel
theorem dX1_copy_16 : decode cX1_copy 16 = .ok (.aload_n 0, 1) := by decide +kernel
theorem dX1_copy_17 : decode cX1_copy 17 = .ok (.aload_n 1, 1) := by decide +kernel
theorem dX1_copy_18 : decode cX1_copy 18 = .ok (.getfield 18, 3) := by decide +kernel
theorem dX1_copy_21 : decode cX1_copy 21 = .ok (.putfield 18, 3) := by decide +kernel
theorem dX1_copy_24 : decode cX1_copy 24 = .ok (.aload_n 0, 1) := by decide +kernel
theorem dX1_copy_25 : decode cX1_copy 25 = .ok (.aload_n 1, 1) := by decide +kernel
theorem dX1_copy_26 : decode cX1_copy 26 = .ok (.getfield 21, 3) := by decide +kernel
theorem dX1_copy_29 : decode cX1_copy 29 = .ok (.putfield 21, 3) := by decide +kernel
theorem dX1_copy_32 : decode cX1_copy 32 = .ok (.aload_n 0, 1) := by decide +kernel
theorem dX1_copy_33 : decode cX1_copy 33 = .ok (.aload_n 1, 1) := by decide +kernel
theorem dX1_copy_34 : decode cX1_copy 34 = .ok (.getfield 24, 3) := by decide +kernel
theorem dX1_copy_37 : decode cX1_copy 37 = .ok (.putfield 24, 3) := by decide +kernel
theorem dX1_copy_40 : decode cX1_copy 40 = .ok (.aload_n 0, 1) := by decide +kernel
theorem dX1_copy_41 : decode cX1_copy 41 = .ok (.iconst 0, 1) := by decide +kernel
theorem dX1_copy_42 : decode cX1_copy 42 = .ok (.putfield 40, 3) := by decide +kernel
theorem dX1_copy_45 : decode cX1_copy 45 = .ok (.return_, 1) := by decide +kernel
theorem dX1_shownKind_0 : decode cX1_shownKind 0 = .ok (.aload_n 0, 1) := by decide +kernel
theorem dX1_shownKind_1 : decode cX1_shownKind 1 = .ok (.getfield 40, 3) := by decide +kernel
theorem dX1_shownKind_4 : decode cX1_shownKind 4 = .ok (.ifCond .eq 13, 3) := by decide +kernel
theorem dX1_shownKind_7 : decode cX1_shownKind 7 = .ok (.aload_n 0, 1) := by decide +kernel
theorem dX1_shownKind_8 : decode cX1_shownKind 8 = .ok (.getfield 9, 3) := by decide +kernel
theorem dX1_shownKind_11 : decode cX1_shownKind 11 = .ok (.bipush 8, 2) := by decide +kernel
theorem dX1_shownKind_13 : decode cX1_shownKind 13 = .ok (.iadd, 1) := by decide +kernel
theorem dX1_shownKind_14 : decode cX1_shownKind 14 = .ok (.goto 7, 3) := by decide +kernel
theorem dX1_shownKind_17 : decode cX1_shownKind 17 = .ok (.aload_n 0, 1) := by decide +kernel
theorem dX1_shownKind_18 : decode cX1_shownKind 18 = .ok (.getfield 9, 3) := by decide +kernel
theorem dX1_shownKind_21 : decode cX1_shownKind 21 = .ok (.ireturn, 1) := by decide +kernel
theorem dX2_init_0 : decode cX2_init 0 = .ok (.aload_n 0, 1) := by decide +kernel
theorem dX2_init_1 : decode cX2_init 1 = .ok (.invokespecial 3, 3) := by decide +kernel
theorem dX2_init_4 : decode cX2_init 4 = .ok (.aload_n 0, 1) := by decide +kernel
theorem dX2_init_5 : decode cX2_init 5 = .ok (.bipush 16, 2) := by decide +kernel
theorem dX2_init_7 : decode cX2_init 7 = .ok (.anewarray 9, 3) := by decide +kernel
theorem dX2_init_10 : decode cX2_init 10 = .ok (.putfield 11, 3) := by decide +kernel
theorem dX2_init_13 : decode cX2_init 13 = .ok (.aload_n 0, 1) := by decide +kernel
theorem dX2_init_14 : decode cX2_init 14 = .ok (.iconst 0, 1) := by decide +kernel
theorem dX2_init_15 : decode cX2_init 15 = .ok (.putfield 17, 3) := by decide +kernel
theorem dX2_init_18 : decode cX2_init 18 = .ok (.aload_n 0, 1) := by decide +kernel
theorem dX2_init_19 : decode cX2_init 19 = .ok (.iconst 0, 1) := by decide +kernel
theorem dX2_init_20 : decode cX2_init 20 = .ok (.putfield 21, 3) := by decide +kernel
theorem dX2_init_23 : decode cX2_init 23 = .ok (.iconst 0, 1) := by decide +kernel
theorem dX2_init_24 : decode cX2_init 24 = .ok (.istore_n 1, 1) := by decide +kernel
theorem dX2_init_25 : decode cX2_init 25 = .ok (.iload_n 1, 1) := by decide +kernel
theorem dX2_init_26 : decode cX2_init 26 = .ok (.bipush 16, 2) := by decide +kernel
theorem dX2_init_28 : decode cX2_init 28 = .ok (.if_icmp .ge 22, 3) := by decide +kernel
theorem dX2_init_31 : decode cX2_init 31 = .ok (.aload_n 0, 1) := by decide +kernel
theorem dX2_init_32 : decode cX2_init 32 = .ok (.getfield 11, 3) := by decide +kernel
theorem dX2_init_35 : decode cX2_init 35 = .ok (.iload_n 1, 1) := by decide +kernel
theorem dX2_init_36 : decode cX2_init 36 = .ok (.new 9, 3) := by decide +kernel
theorem dX2_init_39 : decode cX2_init 39 = .ok (.dup, 1) := by decide +kernel
theorem dX2_init_40 : decode cX2_init 40 = .ok (.invokespecial 24, 3) := by decide +kernel
theorem dX2_init_43 : decode cX2_init 43 = .ok (.aastore, 1) := by decide +kernel
theorem dX2_init_44 : decode cX2_init 44 = .ok (.iinc 1 1, 3) := by decide +kernel
theorem dX2_init_47 : decode cX2_init 47 = .ok (.goto (-22), 3) := by decide +kernel
theorem dX2_init_50 : decode cX2_init 50 = .ok (.return_, 1) := by decide +kernel
theorem dX2_at_0 : decode cX2_at 0 = .ok (.iload_n 1, 1) := by decide +kernel
theorem dX2_at_1 : decode cX2_at 1 = .ok (.ifCond .lt 11, 3) := by decide +kernel
theorem dX2_at_4 : decode cX2_at 4 = .ok (.iload_n 1, 1) := by decide +kernel
theorem dX2_at_5 : decode cX2_at 5 = .ok (.aload_n 0, 1) := by decide +kernel
theorem dX2_at_6 : decode cX2_at 6 = .ok (.getfield 21, 3) := by decide +kernel
theorem dX2_at_9 : decode cX2_at 9 = .ok (.if_icmp .lt 7, 3) := by decide +kernel
theorem dX2_at_12 : decode cX2_at 12 = .ok (.aconst_null, 1) := by decide +kernel
theorem dX2_at_13 : decode cX2_at 13 = .ok (.goto 17, 3) := by decide +kernel
theorem dX2_at_16 : decode cX2_at 16 = .ok (.aload_n 0, 1) := by decide +kernel
theorem dX2_at_17 : decode cX2_at 17 = .ok (.getfield 11, 3) := by decide +kernel
theorem dX2_at_20 : decode cX2_at 20 = .ok (.aload_n 0, 1) := by decide +kernel
theorem dX2_at_21 : decode cX2_at 21 = .ok (.getfield 17, 3) := by decide +kernel
theorem dX2_at_24 : decode cX2_at 24 = .ok (.iload_n 1, 1) := by decide +kernel
theorem dX2_at_25 : decode cX2_at 25 = .ok (.iadd, 1) := by decide +kernel
theorem dX2_at_26 : decode cX2_at 26 = .ok (.bipush 16, 2) := by decide +kernel
theorem dX2_at_28 : decode cX2_at 28 = .ok (.irem, 1) := by decide +kernel
theorem dX2_at_29 : decode cX2_at 29 = .ok (.aaload, 1) := by decide +kernel
theorem dX2_at_30 : decode cX2_at 30 = .ok (.areturn, 1) := by decide +kernel
theorem dX2_nextFree_0 : decode cX2_nextFree 0 = .ok (.aload_n 0, 1) := by decide +kernel
theorem dX2_nextFree_1 : decode cX2_nextFree 1 = .ok (.getfield 21, 3) := by decide +kernel
theorem dX2_nextFree_4 : decode cX2_nextFree 4 = .ok (.bipush 16, 2) := by decide +kernel
theorem dX2_nextFree_6 : decode cX2_nextFree 6 = .ok (.if_icmp .lt 5, 3) := by decide +kernel
theorem dX2_nextFree_9 : decode cX2_nextFree 9 = .ok (.aconst_null, 1) := by decide +kernel
theorem dX2_nextFree_10 : decode cX2_nextFree 10 = .ok (.areturn, 1) := by decide +kernel
theorem dX2_nextFree_11 : decode cX2_nextFree 11 = .ok (.aload_n 0, 1) := by decide +kernel
theorem dX2_nextFree_12 : decode cX2_nextFree 12 = .ok (.dup, 1) := by decide +kernel
theorem dX2_nextFree_13 : decode cX2_nextFree 13 = .ok (.getfield 21, 3) := by decide +kernel
theorem dX2_nextFree_16 : decode cX2_nextFree 16 = .ok (.iconst 1, 1) := by decide +kernel
theorem dX2_nextFree_17 : decode cX2_nextFree 17 = .ok (.iadd, 1) := by decide +kernel
theorem dX2_nextFree_18 : decode cX2_nextFree 18 = .ok (.putfield 21, 3) := by decide +kernel
theorem dX2_nextFree_21 : decode cX2_nextFree 21 = .ok (.aload_n 0, 1) := by decide +kernel
theorem dX2_nextFree_22 : decode cX2_nextFree 22 = .ok (.getfield 11, 3) := by decide +kernel
theorem dX2_nextFree_25 : decode cX2_nextFree 25 = .ok (.aload_n 0, 1) := by decide +kernel
theorem dX2_nextFree_26 : decode cX2_nextFree 26 = .ok (.getfield 17, 3) := by decide +kernel
theorem dX2_nextFree_29 : decode cX2_nextFree 29 = .ok (.aload_n 0, 1) := by decide +kernel
theorem dX2_nextFree_30 : decode cX2_nextFree 30 = .ok (.getfield 21, 3) := by decide +kernel
theorem dX2_nextFree_33 : decode cX2_nextFree 33 = .ok (.iadd, 1) := by decide +kernel
theorem dX2_nextFree_34 : decode cX2_nextFree 34 = .ok (.iconst 1, 1) := by decide +kernel
theorem dX2_nextFree_35 : decode cX2_nextFree 35 = .ok (.isub, 1) := by decide +kernel
theorem dX2_nextFree_36 : decode cX2_nextFree 36 = .ok (.bipush 16, 2) := by decide +kernel
theorem dX2_nextFree_38 : decode cX2_nextFree 38 = .ok (.irem, 1) := by decide +kernel
theorem dX2_nextFree_39 : decode cX2_nextFree 39 = .ok (.aaload, 1) := by decide +kernel
theorem dX2_nextFree_40 : decode cX2_nextFree 40 = .ok (.areturn, 1) := by decide +kernel
theorem dX2_dropFirst_0 : decode cX2_dropFirst 0 = .ok (.aload_n 0, 1) := by decide +kernel
theorem dX2_dropFirst_1 : decode cX2_dropFirst 1 = .ok (.getfield 21, 3) := by decide +kernel
theorem dX2_dropFirst_4 : decode cX2_dropFirst 4 = .ok (.ifCond .le 26, 3) := by decide +kernel
theorem dX2_dropFirst_7 : decode cX2_dropFirst 7 = .ok (.aload_n 0, 1) := by decide +kernel
theorem dX2_dropFirst_8 : decode cX2_dropFirst 8 = .ok (.aload_n 0, 1) := by decide +kernel
theorem dX2_dropFirst_9 : decode cX2_dropFirst 9 = .ok (.getfield 17, 3) := by decide +kernel
theorem dX2_dropFirst_12 : decode cX2_dropFirst 12 = .ok (.iconst 1, 1) := by decide +kernel
theorem dX2_dropFirst_13 : decode cX2_dropFirst 13 = .ok (.iadd, 1) := by decide +kernel
theorem dX2_dropFirst_14 : decode cX2_dropFirst 14 = .ok (.bipush 16, 2) := by decide +kernel
theorem dX2_dropFirst_16 : decode cX2_dropFirst 16 = .ok (.irem, 1) := by decide +kernel
theorem dX2_dropFirst_17 : decode cX2_dropFirst 17 = .ok (.putfield 17, 3) := by decide +kernel
theorem dX2_dropFirst_20 : decode cX2_dropFirst 20 = .ok (.aload_n 0, 1) := by decide +kernel
theorem dX2_dropFirst_21 : decode cX2_dropFirst 21 = .ok (.dup, 1) := by decide +kernel
theorem dX2_dropFirst_22 : decode cX2_dropFirst 22 = .ok (.getfield 21, 3) := by decide +kernel
theorem dX2_dropFirst_25 : decode cX2_dropFirst 25 = .ok (.iconst 1, 1) := by decide +kernel
theorem dX2_dropFirst_26 : decode cX2_dropFirst 26 = .ok (.isub, 1) := by decide +kernel
theorem dX2_dropFirst_27 : decode cX2_dropFirst 27 = .ok (.putfield 21, 3) := by decide +kernel
theorem dX2_dropFirst_30 : decode cX2_dropFirst 30 = .ok (.return_, 1) := by decide +kernel
theorem dX3_init_0 : decode cX3_init 0 = .ok (.aload_n 0, 1) := by decide +kernel
theorem dX3_init_1 : decode cX3_init 1 = .ok (.invokespecial 3, 3) := by decide +kernel
theorem dX3_init_4 : decode cX3_init 4 = .ok (.aload_n 0, 1) := by decide +kernel
theorem dX3_init_5 : decode cX3_init 5 = .ok (.iconst (-1), 1) := by decide +kernel
theorem dX3_init_6 : decode cX3_init 6 = .ok (.putfield 9, 3) := by decide +kernel
theorem dX3_init_9 : decode cX3_init 9 = .ok (.aload_n 0, 1) := by decide +kernel
theorem dX3_init_10 : decode cX3_init 10 = .ok (.iconst (-1), 1) := by decide +kernel
theorem dX3_init_11 : decode cX3_init 11 = .ok (.putfield 15, 3) := by decide +kernel
theorem dX3_init_14 : decode cX3_init 14 = .ok (.aload_n 0, 1) := by decide +kernel
theorem dX3_init_15 : decode cX3_init 15 = .ok (.iconst 0, 1) := by decide +kernel
theorem dX3_init_16 : decode cX3_init 16 = .ok (.putfield 18, 3) := by decide +kernel
theorem dX3_init_19 : decode cX3_init 19 = .ok (.aload_n 0, 1) := by decide +kernel
theorem dX3_init_20 : decode cX3_init 20 = .ok (.iload_n 1, 1) := by decide +kernel
theorem dX3_init_21 : decode cX3_init 21 = .ok (.putfield 21, 3) := by decide +kernel
theorem dX3_init_24 : decode cX3_init 24 = .ok (.aload_n 0, 1) := by decide +kernel
theorem dX3_init_25 : decode cX3_init 25 = .ok (.iload_n 2, 1) := by decide +kernel
theorem dX3_init_26 : decode cX3_init 26 = .ok (.putfield 24, 3) := by decide +kernel
theorem dX3_init_29 : decode cX3_init 29 = .ok (.return_, 1) := by decide +kernel
theorem dX4_init_0 : decode cX4_init 0 = .ok (.aload_n 0, 1) := by decide +kernel
theorem dX4_init_1 : decode cX4_init 1 = .ok (.invokespecial 3, 3) := by decide +kernel
theorem dX4_init_4 : decode cX4_init 4 = .ok (.aload_n 0, 1) := by decide +kernel
theorem dX4_init_5 : decode cX4_init 5 = .ok (.bipush 8, 2) := by decide +kernel
theorem dX4_init_7 : decode cX4_init 7 = .ok (.anewarray 9, 3) := by decide +kernel
theorem dX4_init_10 : decode cX4_init 10 = .ok (.putfield 11, 3) := by decide +kernel
theorem dX4_init_13 : decode cX4_init 13 = .ok (.aload_n 0, 1) := by decide +kernel
theorem dX4_init_14 : decode cX4_init 14 = .ok (.bipush 8, 2) := by decide +kernel
theorem dX4_init_16 : decode cX4_init 16 = .ok (.bipush 8, 2) := by decide +kernel
theorem dX4_init_18 : decode cX4_init 18 = .ok (.multianewarray 17 2, 4) := by decide +kernel
theorem dX4_init_22 : decode cX4_init 22 = .ok (.putfield 19, 3) := by decide +kernel
theorem dX4_init_25 : decode cX4_init 25 = .ok (.aload_n 0, 1) := by decide +kernel
theorem dX4_init_26 : decode cX4_init 26 = .ok (.bipush 8, 2) := by decide +kernel
theorem dX4_init_28 : decode cX4_init 28 = .ok (.bipush 12, 2) := by decide +kernel
theorem dX4_init_30 : decode cX4_init 30 = .ok (.multianewarray 17 2, 4) := by decide +kernel
theorem dX4_init_34 : decode cX4_init 34 = .ok (.putfield 22, 3) := by decide +kernel
theorem dX4_init_37 : decode cX4_init 37 = .ok (.aload_n 0, 1) := by decide +kernel
theorem dX4_init_38 : decode cX4_init 38 = .ok (.bipush 8, 2) := by decide +kernel
theorem dX4_init_40 : decode cX4_init 40 = .ok (.bipush 12, 2) := by decide +kernel
theorem dX4_init_42 : decode cX4_init 42 = .ok (.multianewarray 17 2, 4) := by decide +kernel
theorem dX4_init_46 : decode cX4_init 46 = .ok (.putfield 25, 3) := by decide +kernel
theorem dX4_init_49 : decode cX4_init 49 = .ok (.aload_n 0, 1) := by decide +kernel
theorem dX4_init_50 : decode cX4_init 50 = .ok (.bipush 8, 2) := by decide +kernel
theorem dX4_init_52 : decode cX4_init 52 = .ok (.newarray .int, 2) := by decide +kernel
theorem dX4_init_54 : decode cX4_init 54 = .ok (.putfield 28, 3) := by decide +kernel
theorem dX4_init_57 : decode cX4_init 57 = .ok (.aload_n 0, 1) := by decide +kernel
theorem dX4_init_58 : decode cX4_init 58 = .ok (.bipush 8, 2) := by decide +kernel
theorem dX4_init_60 : decode cX4_init 60 = .ok (.newarray .int, 2) := by decide +kernel
theorem dX4_init_62 : decode cX4_init 62 = .ok (.putfield 32, 3) := by decide +kernel
theorem dX4_init_65 : decode cX4_init 65 = .ok (.aload_n 0, 1) := by decide +kernel
theorem dX4_init_66 : decode cX4_init 66 = .ok (.bipush 80, 2) := by decide +kernel
theorem dX4_init_68 : decode cX4_init 68 = .ok (.newarray .int, 2) := by decide +kernel
theorem dX4_init_70 : decode cX4_init 70 = .ok (.putfield 35, 3) := by decide +kernel
theorem dX4_init_73 : decode cX4_init 73 = .ok (.aload_n 0, 1) := by decide +kernel
theorem dX4_init_74 : decode cX4_init 74 = .ok (.bipush 80, 2) := by decide +kernel
theorem dX4_init_76 : decode cX4_init 76 = .ok (.newarray .int, 2) := by decide +kernel
theorem dX4_init_78 : decode cX4_init 78 = .ok (.putfield 38, 3) := by decide +kernel
theorem dX4_init_81 : decode cX4_init 81 = .ok (.aload_n 0, 1) := by decide +kernel
theorem dX4_init_82 : decode cX4_init 82 = .ok (.iload_n 1, 1) := by decide +kernel
theorem dX4_init_83 : decode cX4_init 83 = .ok (.putfield 41, 3) := by decide +kernel
theorem dX4_init_86 : decode cX4_init 86 = .ok (.aload_n 0, 1) := by decide +kernel
theorem dX4_init_87 : decode cX4_init 87 = .ok (.getfield 11, 3) := by decide +kernel
theorem dX4_init_90 : decode cX4_init 90 = .ok (.iload_n 1, 1) := by decide +kernel
theorem dX4_init_91 : decode cX4_init 91 = .ok (.new 9, 3) := by decide +kernel
theorem dX4_init_94 : decode cX4_init 94 = .ok (.dup, 1) := by decide +kernel
theorem dX4_init_95 : decode cX4_init 95 = .ok (.iload_n 1, 1) := by decide +kernel
theorem dX4_init_96 : decode cX4_init 96 = .ok (.iconst 1, 1) := by decide +kernel
theorem dX4_init_97 : decode cX4_init 97 = .ok (.iconst 0, 1) := by decide +kernel
theorem dX4_init_98 : decode cX4_init 98 = .ok (.iconst 0, 1) := by decide +kernel
theorem dX4_init_99 : decode cX4_init 99 = .ok (.invokespecial 45, 3) := by decide +kernel
theorem dX4_init_102 : decode cX4_init 102 = .ok (.aastore, 1) := by decide +kernel
theorem dX4_init_103 : decode cX4_init 103 = .ok (.aload_n 0, 1) := by decide +kernel
theorem dX4_init_104 : decode cX4_init 104 = .ok (.invokevirtual 48, 3) := by decide +kernel
theorem dX4_init_107 : decode cX4_init 107 = .ok (.iconst 0, 1) := by decide +kernel
theorem dX4_init_108 : decode cX4_init 108 = .ok (.istore_n 2, 1) := by decide +kernel
theorem dX4_init_109 : decode cX4_init 109 = .ok (.iload_n 2, 1) := by decide +kernel
theorem dX4_init_110 : decode cX4_init 110 = .ok (.bipush 8, 2) := by decide +kernel
theorem dX4_init_112 : decode cX4_init 112 = .ok (.if_icmp .ge 43, 3) := by decide +kernel
theorem dX4_init_115 : decode cX4_init 115 = .ok (.aload_n 0, 1) := by decide +kernel
theorem dX4_init_116 : decode cX4_init 116 = .ok (.getfield 28, 3) := by decide +kernel
theorem dX4_init_119 : decode cX4_init 119 = .ok (.iload_n 2, 1) := by decide +kernel
theorem dX4_init_120 : decode cX4_init 120 = .ok (.iconst (-1), 1) := by decide +kernel
theorem dX4_init_121 : decode cX4_init 121 = .ok (.iastore, 1) := by decide +kernel
theorem dX4_init_122 : decode cX4_init 122 = .ok (.aload_n 0, 1) := by decide +kernel
theorem dX4_init_123 : decode cX4_init 123 = .ok (.getfield 32, 3) := by decide +kernel
theorem dX4_init_126 : decode cX4_init 126 = .ok (.iload_n 2, 1) := by decide +kernel
theorem dX4_init_127 : decode cX4_init 127 = .ok (.iconst (-1), 1) := by decide +kernel
theorem dX4_init_128 : decode cX4_init 128 = .ok (.iastore, 1) := by decide +kernel
theorem dX4_init_129 : decode cX4_init 129 = .ok (.iconst 0, 1) := by decide +kernel
theorem dX4_init_130 : decode cX4_init 130 = .ok (.istore_n 3, 1) := by decide +kernel
theorem dX4_init_131 : decode cX4_init 131 = .ok (.iload_n 3, 1) := by decide +kernel
theorem dX4_init_132 : decode cX4_init 132 = .ok (.bipush 12, 2) := by decide +kernel
theorem dX4_init_134 : decode cX4_init 134 = .ok (.if_icmp .ge 15, 3) := by decide +kernel
theorem dX4_init_137 : decode cX4_init 137 = .ok (.aload_n 0, 1) := by decide +kernel
theorem dX4_init_138 : decode cX4_init 138 = .ok (.iload_n 2, 1) := by decide +kernel
theorem dX4_init_139 : decode cX4_init 139 = .ok (.iload_n 3, 1) := by decide +kernel
theorem dX4_init_140 : decode cX4_init 140 = .ok (.invokevirtual 51, 3) := by decide +kernel
theorem dX4_init_143 : decode cX4_init 143 = .ok (.iinc 3 1, 3) := by decide +kernel
theorem dX4_init_146 : decode cX4_init 146 = .ok (.goto (-15), 3) := by decide +kernel
theorem dX4_init_149 : decode cX4_init 149 = .ok (.iinc 2 1, 3) := by decide +kernel
theorem dX4_init_152 : decode cX4_init 152 = .ok (.goto (-43), 3) := by decide +kernel
theorem dX4_init_155 : decode cX4_init 155 = .ok (.iconst 0, 1) := by decide +kernel
theorem dX4_init_156 : decode cX4_init 156 = .ok (.istore_n 2, 1) := by decide +kernel
theorem dX4_init_157 : decode cX4_init 157 = .ok (.iload_n 2, 1) := by decide +kernel
theorem dX4_init_158 : decode cX4_init 158 = .ok (.bipush 80, 2) := by decide +kernel
theorem dX4_init_160 : decode cX4_init 160 = .ok (.if_icmp .ge 16, 3) := by decide +kernel
theorem dX4_init_163 : decode cX4_init 163 = .ok (.aload_n 0, 1) := by decide +kernel
theorem dX4_init_164 : decode cX4_init 164 = .ok (.getfield 35, 3) := by decide +kernel
theorem dX4_init_167 : decode cX4_init 167 = .ok (.iload_n 2, 1) := by decide +kernel
theorem dX4_init_168 : decode cX4_init 168 = .ok (.iconst (-1), 1) := by decide +kernel
theorem dX4_init_169 : decode cX4_init 169 = .ok (.iastore, 1) := by decide +kernel
theorem dX4_init_170 : decode cX4_init 170 = .ok (.iinc 2 1, 3) := by decide +kernel
theorem dX4_init_173 : decode cX4_init 173 = .ok (.goto (-16), 3) := by decide +kernel
theorem dX4_init_176 : decode cX4_init 176 = .ok (.return_, 1) := by decide +kernel
theorem dX4_knowsUp_0 : decode cX4_knowsUp 0 = .ok (.aload_n 0, 1) := by decide +kernel
theorem dX4_knowsUp_1 : decode cX4_knowsUp 1 = .ok (.getfield 11, 3) := by decide +kernel
theorem dX4_knowsUp_4 : decode cX4_knowsUp 4 = .ok (.iload_n 1, 1) := by decide +kernel
theorem dX4_knowsUp_5 : decode cX4_knowsUp 5 = .ok (.aaload, 1) := by decide +kernel
theorem dX4_knowsUp_6 : decode cX4_knowsUp 6 = .ok (.ifnull 24, 3) := by decide +kernel
theorem dX4_knowsUp_9 : decode cX4_knowsUp 9 = .ok (.aload_n 0, 1) := by decide +kernel
theorem dX4_knowsUp_10 : decode cX4_knowsUp 10 = .ok (.getfield 11, 3) := by decide +kernel
theorem dX4_knowsUp_13 : decode cX4_knowsUp 13 = .ok (.iload_n 1, 1) := by decide +kernel
theorem dX4_knowsUp_14 : decode cX4_knowsUp 14 = .ok (.aaload, 1) := by decide +kernel
theorem dX4_knowsUp_15 : decode cX4_knowsUp 15 = .ok (.getfield 55, 3) := by decide +kernel
theorem dX4_knowsUp_18 : decode cX4_knowsUp 18 = .ok (.iload_n 2, 1) := by decide +kernel
theorem dX4_knowsUp_19 : decode cX4_knowsUp 19 = .ok (.ishr, 1) := by decide +kernel
theorem dX4_knowsUp_20 : decode cX4_knowsUp 20 = .ok (.iconst 1, 1) := by decide +kernel
theorem dX4_knowsUp_21 : decode cX4_knowsUp 21 = .ok (.iand, 1) := by decide +kernel
theorem dX4_knowsUp_22 : decode cX4_knowsUp 22 = .ok (.iconst 1, 1) := by decide +kernel
theorem dX4_knowsUp_23 : decode cX4_knowsUp 23 = .ok (.if_icmp .ne 7, 3) := by decide +kernel
theorem dX4_knowsUp_26 : decode cX4_knowsUp 26 = .ok (.iconst 1, 1) := by decide +kernel
theorem dX4_knowsUp_27 : decode cX4_knowsUp 27 = .ok (.goto 4, 3) := by decide +kernel
theorem dX4_knowsUp_30 : decode cX4_knowsUp 30 = .ok (.iconst 0, 1) := by decide +kernel
theorem dX4_knowsUp_31 : decode cX4_knowsUp 31 = .ok (.ireturn, 1) := by decide +kernel
theorem dX4_forgetDistances_0 : decode cX4_forgetDistances 0 = .ok (.iconst 0, 1) := by decide +kernel
theorem dX4_forgetDistances_1 : decode cX4_forgetDistances 1 = .ok (.istore_n 1, 1) := by decide +kernel
theorem dX4_forgetDistances_2 : decode cX4_forgetDistances 2 = .ok (.iload_n 1, 1) := by decide +kernel
theorem dX4_forgetDistances_3 : decode cX4_forgetDistances 3 = .ok (.bipush 8, 2) := by decide +kernel
theorem dX4_forgetDistances_5 : decode cX4_forgetDistances 5 = .ok (.if_icmp .ge 42, 3) := by decide +kernel
theorem dX4_forgetDistances_8 : decode cX4_forgetDistances 8 = .ok (.iconst 0, 1) := by decide +kernel
theorem dX4_forgetDistances_9 : decode cX4_forgetDistances 9 = .ok (.istore_n 2, 1) := by decide +kernel
theorem dX4_forgetDistances_10 : decode cX4_forgetDistances 10 = .ok (.iload_n 2, 1) := by decide +kernel
theorem dX4_forgetDistances_11 : decode cX4_forgetDistances 11 = .ok (.bipush 8, 2) := by decide +kernel
theorem dX4_forgetDistances_13 : decode cX4_forgetDistances 13 = .ok (.if_icmp .ge 28, 3) := by decide +kernel
theorem dX4_forgetDistances_16 : decode cX4_forgetDistances 16 = .ok (.aload_n 0, 1) := by decide +kernel
theorem dX4_forgetDistances_17 : decode cX4_forgetDistances 17 = .ok (.getfield 19, 3) := by decide +kernel
theorem dX4_forgetDistances_20 : decode cX4_forgetDistances 20 = .ok (.iload_n 1, 1) := by decide +kernel
theorem dX4_forgetDistances_21 : decode cX4_forgetDistances 21 = .ok (.aaload, 1) := by decide +kernel
theorem dX4_forgetDistances_22 : decode cX4_forgetDistances 22 = .ok (.iload_n 2, 1) := by decide +kernel
theorem dX4_forgetDistances_23 : decode cX4_forgetDistances 23 = .ok (.iload_n 1, 1) := by decide +kernel
theorem dX4_forgetDistances_24 : decode cX4_forgetDistances 24 = .ok (.iload_n 2, 1) := by decide +kernel
theorem dX4_forgetDistances_25 : decode cX4_forgetDistances 25 = .ok (.if_icmp .ne 7, 3) := by decide +kernel
theorem dX4_forgetDistances_28 : decode cX4_forgetDistances 28 = .ok (.iconst 0, 1) := by decide +kernel
theorem dX4_forgetDistances_29 : decode cX4_forgetDistances 29 = .ok (.goto 5, 3) := by decide +kernel
theorem dX4_forgetDistances_32 : decode cX4_forgetDistances 32 = .ok (.ldc 58, 2) := by decide +kernel
theorem dX4_forgetDistances_34 : decode cX4_forgetDistances 34 = .ok (.iastore, 1) := by decide +kernel
theorem dX4_forgetDistances_35 : decode cX4_forgetDistances 35 = .ok (.iinc 2 1, 3) := by decide +kernel
theorem dX4_forgetDistances_38 : decode cX4_forgetDistances 38 = .ok (.goto (-28), 3) := by decide +kernel
theorem dX4_forgetDistances_41 : decode cX4_forgetDistances 41 = .ok (.iinc 1 1, 3) := by decide +kernel
theorem dX4_forgetDistances_44 : decode cX4_forgetDistances 44 = .ok (.goto (-42), 3) := by decide +kernel
theorem dX4_forgetDistances_47 : decode cX4_forgetDistances 47 = .ok (.return_, 1) := by decide +kernel
theorem dX4_takeStep_0 : decode cX4_takeStep 0 = .ok (.aload_n 0, 1) := by decide +kernel
theorem dX4_takeStep_1 : decode cX4_takeStep 1 = .ok (.getfield 19, 3) := by decide +kernel
theorem dX4_takeStep_4 : decode cX4_takeStep 4 = .ok (.iload_n 1, 1) := by decide +kernel
theorem dX4_takeStep_5 : decode cX4_takeStep 5 = .ok (.aaload, 1) := by decide +kernel
theorem dX4_takeStep_6 : decode cX4_takeStep 6 = .ok (.iload_n 2, 1) := by decide +kernel
theorem dX4_takeStep_7 : decode cX4_takeStep 7 = .ok (.iaload, 1) := by decide +kernel
theorem dX4_takeStep_8 : decode cX4_takeStep 8 = .ok (.iload_n 3, 1) := by decide +kernel
theorem dX4_takeStep_9 : decode cX4_takeStep 9 = .ok (.invokestatic 59, 3) := by decide +kernel
theorem dX4_takeStep_12 : decode cX4_takeStep 12 = .ok (.istore 4, 2) := by decide +kernel
theorem dX4_takeStep_14 : decode cX4_takeStep 14 = .ok (.aload_n 0, 1) := by decide +kernel
theorem dX4_takeStep_15 : decode cX4_takeStep 15 = .ok (.getfield 19, 3) := by decide +kernel
theorem dX4_takeStep_18 : decode cX4_takeStep 18 = .ok (.iload_n 1, 1) := by decide +kernel
theorem dX4_takeStep_19 : decode cX4_takeStep 19 = .ok (.aaload, 1) := by decide +kernel
theorem dX4_takeStep_20 : decode cX4_takeStep 20 = .ok (.iload_n 2, 1) := by decide +kernel
theorem dX4_takeStep_21 : decode cX4_takeStep 21 = .ok (.iload 4, 2) := by decide +kernel
theorem dX4_takeStep_23 : decode cX4_takeStep 23 = .ok (.iastore, 1) := by decide +kernel
theorem dX4_takeStep_24 : decode cX4_takeStep 24 = .ok (.aload_n 0, 1) := by decide +kernel
theorem dX4_takeStep_25 : decode cX4_takeStep 25 = .ok (.getfield 19, 3) := by decide +kernel
theorem dX4_takeStep_28 : decode cX4_takeStep 28 = .ok (.iload_n 2, 1) := by decide +kernel
theorem dX4_takeStep_29 : decode cX4_takeStep 29 = .ok (.aaload, 1) := by decide +kernel
theorem dX4_takeStep_30 : decode cX4_takeStep 30 = .ok (.iload_n 1, 1) := by decide +kernel
theorem dX4_takeStep_31 : decode cX4_takeStep 31 = .ok (.iload 4, 2) := by decide +kernel
theorem dX4_takeStep_33 : decode cX4_takeStep 33 = .ok (.iastore, 1) := by decide +kernel
theorem dX4_takeStep_34 : decode cX4_takeStep 34 = .ok (.return_, 1) := by decide +kernel
theorem dX4_joinSteps_0 : decode cX4_joinSteps 0 = .ok (.iconst 0, 1) := by decide +kernel
theorem dX4_joinSteps_1 : decode cX4_joinSteps 1 = .ok (.istore_n 1, 1) := by decide +kernel
theorem dX4_joinSteps_2 : decode cX4_joinSteps 2 = .ok (.iload_n 1, 1) := by decide +kernel
theorem dX4_joinSteps_3 : decode cX4_joinSteps 3 = .ok (.bipush 8, 2) := by decide +kernel
theorem dX4_joinSteps_5 : decode cX4_joinSteps 5 = .ok (.if_icmp .ge 42, 3) := by decide +kernel
theorem dX4_joinSteps_8 : decode cX4_joinSteps 8 = .ok (.iconst 0, 1) := by decide +kernel
theorem dX4_joinSteps_9 : decode cX4_joinSteps 9 = .ok (.istore_n 2, 1) := by decide +kernel
theorem dX4_joinSteps_10 : decode cX4_joinSteps 10 = .ok (.iload_n 2, 1) := by decide +kernel
theorem dX4_joinSteps_11 : decode cX4_joinSteps 11 = .ok (.bipush 8, 2) := by decide +kernel
theorem dX4_joinSteps_13 : decode cX4_joinSteps 13 = .ok (.if_icmp .ge 28, 3) := by decide +kernel
theorem dX4_joinSteps_16 : decode cX4_joinSteps 16 = .ok (.aload_n 0, 1) := by decide +kernel
theorem dX4_joinSteps_17 : decode cX4_joinSteps 17 = .ok (.getfield 19, 3) := by decide +kernel
theorem dX4_joinSteps_20 : decode cX4_joinSteps 20 = .ok (.iload_n 2, 1) := by decide +kernel
theorem dX4_joinSteps_21 : decode cX4_joinSteps 21 = .ok (.aaload, 1) := by decide +kernel
theorem dX4_joinSteps_22 : decode cX4_joinSteps 22 = .ok (.iload_n 1, 1) := by decide +kernel
theorem dX4_joinSteps_23 : decode cX4_joinSteps 23 = .ok (.iaload, 1) := by decide +kernel
theorem dX4_joinSteps_24 : decode cX4_joinSteps 24 = .ok (.ldc 58, 2) := by decide +kernel
theorem dX4_joinSteps_26 : decode cX4_joinSteps 26 = .ok (.if_icmp .ge 9, 3) := by decide +kernel
theorem dX4_joinSteps_29 : decode cX4_joinSteps 29 = .ok (.aload_n 0, 1) := by decide +kernel
theorem dX4_joinSteps_30 : decode cX4_joinSteps 30 = .ok (.iload_n 2, 1) := by decide +kernel
theorem dX4_joinSteps_31 : decode cX4_joinSteps 31 = .ok (.iload_n 1, 1) := by decide +kernel
theorem dX4_joinSteps_32 : decode cX4_joinSteps 32 = .ok (.invokevirtual 65, 3) := by decide +kernel
theorem dX4_joinSteps_35 : decode cX4_joinSteps 35 = .ok (.iinc 2 1, 3) := by decide +kernel
theorem dX4_joinSteps_38 : decode cX4_joinSteps 38 = .ok (.goto (-28), 3) := by decide +kernel
theorem dX4_joinSteps_41 : decode cX4_joinSteps 41 = .ok (.iinc 1 1, 3) := by decide +kernel
theorem dX4_joinSteps_44 : decode cX4_joinSteps 44 = .ok (.goto (-42), 3) := by decide +kernel
theorem dX4_joinSteps_47 : decode cX4_joinSteps 47 = .ok (.return_, 1) := by decide +kernel
theorem dX4_joinAt_0 : decode cX4_joinAt 0 = .ok (.iconst 0, 1) := by decide +kernel
theorem dX4_joinAt_1 : decode cX4_joinAt 1 = .ok (.istore_n 3, 1) := by decide +kernel
theorem dX4_joinAt_2 : decode cX4_joinAt 2 = .ok (.iload_n 3, 1) := by decide +kernel
theorem dX4_joinAt_3 : decode cX4_joinAt 3 = .ok (.bipush 8, 2) := by decide +kernel
theorem dX4_joinAt_5 : decode cX4_joinAt 5 = .ok (.if_icmp .ge 45, 3) := by decide +kernel
theorem dX4_joinAt_8 : decode cX4_joinAt 8 = .ok (.aload_n 0, 1) := by decide +kernel
theorem dX4_joinAt_9 : decode cX4_joinAt 9 = .ok (.getfield 19, 3) := by decide +kernel
theorem dX4_joinAt_12 : decode cX4_joinAt 12 = .ok (.iload_n 1, 1) := by decide +kernel
theorem dX4_joinAt_13 : decode cX4_joinAt 13 = .ok (.aaload, 1) := by decide +kernel
theorem dX4_joinAt_14 : decode cX4_joinAt 14 = .ok (.iload_n 3, 1) := by decide +kernel
theorem dX4_joinAt_15 : decode cX4_joinAt 15 = .ok (.aload_n 0, 1) := by decide +kernel
theorem dX4_joinAt_16 : decode cX4_joinAt 16 = .ok (.getfield 19, 3) := by decide +kernel
theorem dX4_joinAt_19 : decode cX4_joinAt 19 = .ok (.iload_n 1, 1) := by decide +kernel
theorem dX4_joinAt_20 : decode cX4_joinAt 20 = .ok (.aaload, 1) := by decide +kernel
theorem dX4_joinAt_21 : decode cX4_joinAt 21 = .ok (.iload_n 3, 1) := by decide +kernel
theorem dX4_joinAt_22 : decode cX4_joinAt 22 = .ok (.iaload, 1) := by decide +kernel
theorem dX4_joinAt_23 : decode cX4_joinAt 23 = .ok (.aload_n 0, 1) := by decide +kernel
theorem dX4_joinAt_24 : decode cX4_joinAt 24 = .ok (.getfield 19, 3) := by decide +kernel
theorem dX4_joinAt_27 : decode cX4_joinAt 27 = .ok (.iload_n 1, 1) := by decide +kernel
theorem dX4_joinAt_28 : decode cX4_joinAt 28 = .ok (.aaload, 1) := by decide +kernel
theorem dX4_joinAt_29 : decode cX4_joinAt 29 = .ok (.iload_n 2, 1) := by decide +kernel
theorem dX4_joinAt_30 : decode cX4_joinAt 30 = .ok (.iaload, 1) := by decide +kernel
theorem dX4_joinAt_31 : decode cX4_joinAt 31 = .ok (.aload_n 0, 1) := by decide +kernel
theorem dX4_joinAt_32 : decode cX4_joinAt 32 = .ok (.getfield 19, 3) := by decide +kernel
theorem dX4_joinAt_35 : decode cX4_joinAt 35 = .ok (.iload_n 2, 1) := by decide +kernel
theorem dX4_joinAt_36 : decode cX4_joinAt 36 = .ok (.aaload, 1) := by decide +kernel
theorem dX4_joinAt_37 : decode cX4_joinAt 37 = .ok (.iload_n 3, 1) := by decide +kernel
theorem dX4_joinAt_38 : decode cX4_joinAt 38 = .ok (.iaload, 1) := by decide +kernel
theorem dX4_joinAt_39 : decode cX4_joinAt 39 = .ok (.iadd, 1) := by decide +kernel
theorem dX4_joinAt_40 : decode cX4_joinAt 40 = .ok (.invokestatic 59, 3) := by decide +kernel
theorem dX4_joinAt_43 : decode cX4_joinAt 43 = .ok (.iastore, 1) := by decide +kernel
theorem dX4_joinAt_44 : decode cX4_joinAt 44 = .ok (.iinc 3 1, 3) := by decide +kernel
theorem dX4_joinAt_47 : decode cX4_joinAt 47 = .ok (.goto (-45), 3) := by decide +kernel
theorem dX4_joinAt_50 : decode cX4_joinAt 50 = .ok (.return_, 1) := by decide +kernel
theorem dX4_egress_0 : decode cX4_egress 0 = .ok (.iconst 0, 1) := by decide +kernel
theorem dX4_egress_1 : decode cX4_egress 1 = .ok (.istore_n 2, 1) := by decide +kernel
theorem dX4_egress_2 : decode cX4_egress 2 = .ok (.iload_n 2, 1) := by decide +kernel
theorem dX4_egress_3 : decode cX4_egress 3 = .ok (.bipush 8, 2) := by decide +kernel
theorem dX4_egress_5 : decode cX4_egress 5 = .ok (.if_icmp .ge 50, 3) := by decide +kernel
theorem dX4_egress_8 : decode cX4_egress 8 = .ok (.aload_n 0, 1) := by decide +kernel
theorem dX4_egress_9 : decode cX4_egress 9 = .ok (.getfield 11, 3) := by decide +kernel
theorem dX4_egress_12 : decode cX4_egress 12 = .ok (.iload_n 2, 1) := by decide +kernel
theorem dX4_egress_13 : decode cX4_egress 13 = .ok (.aaload, 1) := by decide +kernel
theorem dX4_egress_14 : decode cX4_egress 14 = .ok (.astore_n 3, 1) := by decide +kernel
theorem dX4_egress_15 : decode cX4_egress 15 = .ok (.aload_n 3, 1) := by decide +kernel
theorem dX4_egress_16 : decode cX4_egress 16 = .ok (.ifnull 33, 3) := by decide +kernel
theorem dX4_egress_19 : decode cX4_egress 19 = .ok (.aload_n 3, 1) := by decide +kernel
theorem dX4_egress_20 : decode cX4_egress 20 = .ok (.getfield 68, 3) := by decide +kernel
theorem dX4_egress_23 : decode cX4_egress 23 = .ok (.iload_n 1, 1) := by decide +kernel
theorem dX4_egress_24 : decode cX4_egress 24 = .ok (.ishr, 1) := by decide +kernel
theorem dX4_egress_25 : decode cX4_egress 25 = .ok (.iconst 1, 1) := by decide +kernel
theorem dX4_egress_26 : decode cX4_egress 26 = .ok (.iand, 1) := by decide +kernel
theorem dX4_egress_27 : decode cX4_egress 27 = .ok (.iconst 1, 1) := by decide +kernel
theorem dX4_egress_28 : decode cX4_egress 28 = .ok (.if_icmp .ne 21, 3) := by decide +kernel
theorem dX4_egress_31 : decode cX4_egress 31 = .ok (.aload_n 0, 1) := by decide +kernel
theorem dX4_egress_32 : decode cX4_egress 32 = .ok (.getfield 19, 3) := by decide +kernel
theorem dX4_egress_35 : decode cX4_egress 35 = .ok (.aload_n 0, 1) := by decide +kernel
theorem dX4_egress_36 : decode cX4_egress 36 = .ok (.getfield 41, 3) := by decide +kernel
theorem dX4_egress_39 : decode cX4_egress 39 = .ok (.aaload, 1) := by decide +kernel
theorem dX4_egress_40 : decode cX4_egress 40 = .ok (.iload_n 2, 1) := by decide +kernel
theorem dX4_egress_41 : decode cX4_egress 41 = .ok (.iaload, 1) := by decide +kernel
theorem dX4_egress_42 : decode cX4_egress 42 = .ok (.ldc 58, 2) := by decide +kernel
theorem dX4_egress_44 : decode cX4_egress 44 = .ok (.if_icmp .ge 5, 3) := by decide +kernel
theorem dX4_egress_47 : decode cX4_egress 47 = .ok (.iload_n 2, 1) := by decide +kernel
theorem dX4_egress_48 : decode cX4_egress 48 = .ok (.ireturn, 1) := by decide +kernel
theorem dX4_egress_49 : decode cX4_egress 49 = .ok (.iinc 2 1, 3) := by decide +kernel
theorem dX4_egress_52 : decode cX4_egress 52 = .ok (.goto (-50), 3) := by decide +kernel
theorem dX4_egress_55 : decode cX4_egress 55 = .ok (.iconst (-1), 1) := by decide +kernel
theorem dX4_egress_56 : decode cX4_egress 56 = .ok (.ireturn, 1) := by decide +kernel
theorem dX4_forgetMapping_0 : decode cX4_forgetMapping 0 = .ok (.aload_n 0, 1) := by decide +kernel
theorem dX4_forgetMapping_1 : decode cX4_forgetMapping 1 = .ok (.getfield 22, 3) := by decide +kernel
theorem dX4_forgetMapping_4 : decode cX4_forgetMapping 4 = .ok (.iload_n 1, 1) := by decide +kernel
theorem dX4_forgetMapping_5 : decode cX4_forgetMapping 5 = .ok (.aaload, 1) := by decide +kernel
theorem dX4_forgetMapping_6 : decode cX4_forgetMapping 6 = .ok (.iload_n 2, 1) := by decide +kernel
theorem dX4_forgetMapping_7 : decode cX4_forgetMapping 7 = .ok (.iconst (-1), 1) := by decide +kernel
theorem dX4_forgetMapping_8 : decode cX4_forgetMapping 8 = .ok (.iastore, 1) := by decide +kernel
theorem dX4_forgetMapping_9 : decode cX4_forgetMapping 9 = .ok (.aload_n 0, 1) := by decide +kernel
theorem dX4_forgetMapping_10 : decode cX4_forgetMapping 10 = .ok (.getfield 25, 3) := by decide +kernel
theorem dX4_forgetMapping_13 : decode cX4_forgetMapping 13 = .ok (.iload_n 1, 1) := by decide +kernel
theorem dX4_forgetMapping_14 : decode cX4_forgetMapping 14 = .ok (.aaload, 1) := by decide +kernel
theorem dX4_forgetMapping_15 : decode cX4_forgetMapping 15 = .ok (.iload_n 2, 1) := by decide +kernel
theorem dX4_forgetMapping_16 : decode cX4_forgetMapping 16 = .ok (.iconst (-1), 1) := by decide +kernel
theorem dX4_forgetMapping_17 : decode cX4_forgetMapping 17 = .ok (.iastore, 1) := by decide +kernel
theorem dX4_forgetMapping_18 : decode cX4_forgetMapping 18 = .ok (.return_, 1) := by decide +kernel
theorem dX4_forgetLink_0 : decode cX4_forgetLink 0 = .ok (.iconst 0, 1) := by decide +kernel
theorem dX4_forgetLink_1 : decode cX4_forgetLink 1 = .ok (.istore_n 2, 1) := by decide +kernel
theorem dX4_forgetLink_2 : decode cX4_forgetLink 2 = .ok (.iload_n 2, 1) := by decide +kernel
theorem dX4_forgetLink_3 : decode cX4_forgetLink 3 = .ok (.bipush 8, 2) := by decide +kernel
theorem dX4_forgetLink_5 : decode cX4_forgetLink 5 = .ok (.if_icmp .ge 15, 3) := by decide +kernel
theorem dX4_forgetLink_8 : decode cX4_forgetLink 8 = .ok (.aload_n 0, 1) := by decide +kernel
theorem dX4_forgetLink_9 : decode cX4_forgetLink 9 = .ok (.iload_n 2, 1) := by decide +kernel
theorem dX4_forgetLink_10 : decode cX4_forgetLink 10 = .ok (.iload_n 1, 1) := by decide +kernel
theorem dX4_forgetLink_11 : decode cX4_forgetLink 11 = .ok (.invokevirtual 51, 3) := by decide +kernel
theorem dX4_forgetLink_14 : decode cX4_forgetLink 14 = .ok (.iinc 2 1, 3) := by decide +kernel
theorem dX4_forgetLink_17 : decode cX4_forgetLink 17 = .ok (.goto (-15), 3) := by decide +kernel
theorem dX4_forgetLink_20 : decode cX4_forgetLink 20 = .ok (.bipush 16, 2) := by decide +kernel
theorem dX4_forgetLink_22 : decode cX4_forgetLink 22 = .ok (.istore_n 2, 1) := by decide +kernel
theorem dX4_forgetLink_23 : decode cX4_forgetLink 23 = .ok (.iload_n 2, 1) := by decide +kernel
theorem dX4_forgetLink_24 : decode cX4_forgetLink 24 = .ok (.bipush 80, 2) := by decide +kernel
theorem dX4_forgetLink_26 : decode cX4_forgetLink 26 = .ok (.if_icmp .ge 28, 3) := by decide +kernel
theorem dX4_forgetLink_29 : decode cX4_forgetLink 29 = .ok (.aload_n 0, 1) := by decide +kernel
theorem dX4_forgetLink_30 : decode cX4_forgetLink 30 = .ok (.getfield 38, 3) := by decide +kernel
theorem dX4_forgetLink_33 : decode cX4_forgetLink 33 = .ok (.iload_n 2, 1) := by decide +kernel
theorem dX4_forgetLink_34 : decode cX4_forgetLink 34 = .ok (.dup2, 1) := by decide +kernel
theorem dX4_forgetLink_35 : decode cX4_forgetLink 35 = .ok (.iaload, 1) := by decide +kernel
theorem dX4_forgetLink_36 : decode cX4_forgetLink 36 = .ok (.iconst 1, 1) := by decide +kernel
theorem dX4_forgetLink_37 : decode cX4_forgetLink 37 = .ok (.iload_n 1, 1) := by decide +kernel
theorem dX4_forgetLink_38 : decode cX4_forgetLink 38 = .ok (.ishl, 1) := by decide +kernel
theorem dX4_forgetLink_39 : decode cX4_forgetLink 39 = .ok (.iconst (-1), 1) := by decide +kernel
theorem dX4_forgetLink_40 : decode cX4_forgetLink 40 = .ok (.ixor, 1) := by decide +kernel
theorem dX4_forgetLink_41 : decode cX4_forgetLink 41 = .ok (.iand, 1) := by decide +kernel
theorem dX4_forgetLink_42 : decode cX4_forgetLink 42 = .ok (.iastore, 1) := by decide +kernel
theorem dX4_forgetLink_43 : decode cX4_forgetLink 43 = .ok (.aload_n 0, 1) := by decide +kernel
theorem dX4_forgetLink_44 : decode cX4_forgetLink 44 = .ok (.iload_n 2, 1) := by decide +kernel
theorem dX4_forgetLink_45 : decode cX4_forgetLink 45 = .ok (.invokevirtual 71, 3) := by decide +kernel
theorem dX4_forgetLink_48 : decode cX4_forgetLink 48 = .ok (.iinc 2 1, 3) := by decide +kernel
theorem dX4_forgetLink_51 : decode cX4_forgetLink 51 = .ok (.goto (-28), 3) := by decide +kernel
theorem dX4_forgetLink_54 : decode cX4_forgetLink 54 = .ok (.return_, 1) := by decide +kernel
theorem dX4_labelFor_0 : decode cX4_labelFor 0 = .ok (.iload_n 2, 1) := by decide +kernel
theorem dX4_labelFor_1 : decode cX4_labelFor 1 = .ok (.iconst (-1), 1) := by decide +kernel
theorem dX4_labelFor_2 : decode cX4_labelFor 2 = .ok (.if_icmp .ne 5, 3) := by decide +kernel
theorem dX4_labelFor_5 : decode cX4_labelFor 5 = .ok (.iconst (-1), 1) := by decide +kernel
theorem dX4_labelFor_6 : decode cX4_labelFor 6 = .ok (.ireturn, 1) := by decide +kernel
theorem dX4_labelFor_7 : decode cX4_labelFor 7 = .ok (.iload_n 2, 1) := by decide +kernel
theorem dX4_labelFor_8 : decode cX4_labelFor 8 = .ok (.iconst 1, 1) := by decide +kernel
theorem dX4_labelFor_9 : decode cX4_labelFor 9 = .ok (.aload_n 0, 1) := by decide +kernel
theorem dX4_labelFor_10 : decode cX4_labelFor 10 = .ok (.getfield 41, 3) := by decide +kernel
theorem dX4_labelFor_13 : decode cX4_labelFor 13 = .ok (.ishl, 1) := by decide +kernel
theorem dX4_labelFor_14 : decode cX4_labelFor 14 = .ok (.if_icmp .ne 5, 3) := by decide +kernel
theorem dX4_labelFor_17 : decode cX4_labelFor 17 = .ok (.iconst 3, 1) := by decide +kernel
theorem dX4_labelFor_18 : decode cX4_labelFor 18 = .ok (.ireturn, 1) := by decide +kernel
theorem dX4_labelFor_19 : decode cX4_labelFor 19 = .ok (.iload_n 1, 1) := by decide +kernel
theorem dX4_labelFor_20 : decode cX4_labelFor 20 = .ok (.bipush 16, 2) := by decide +kernel
theorem dX4_labelFor_22 : decode cX4_labelFor 22 = .ok (.if_icmp .lt 7, 3) := by decide +kernel
theorem dX4_labelFor_25 : decode cX4_labelFor 25 = .ok (.iload_n 1, 1) := by decide +kernel
theorem dX4_labelFor_26 : decode cX4_labelFor 26 = .ok (.goto 7, 3) := by decide +kernel
theorem dX4_labelFor_29 : decode cX4_labelFor 29 = .ok (.aload_n 0, 1) := by decide +kernel
theorem dX4_labelFor_30 : decode cX4_labelFor 30 = .ok (.invokevirtual 75, 3) := by decide +kernel
theorem dX4_labelFor_33 : decode cX4_labelFor 33 = .ok (.ireturn, 1) := by decide +kernel
theorem dX4_leastFreeLabel_0 : decode cX4_leastFreeLabel 0 = .ok (.bipush 16, 2) := by decide +kernel
theorem dX4_leastFreeLabel_2 : decode cX4_leastFreeLabel 2 = .ok (.istore_n 1, 1) := by decide +kernel
theorem dX4_leastFreeLabel_3 : decode cX4_leastFreeLabel 3 = .ok (.iload_n 1, 1) := by decide +kernel
theorem dX4_leastFreeLabel_4 : decode cX4_leastFreeLabel 4 = .ok (.bipush 80, 2) := by decide +kernel
theorem dX4_leastFreeLabel_6 : decode cX4_leastFreeLabel 6 = .ok (.if_icmp .ge 21, 3) := by decide +kernel
theorem dX4_leastFreeLabel_9 : decode cX4_leastFreeLabel 9 = .ok (.aload_n 0, 1) := by decide +kernel
theorem dX4_leastFreeLabel_10 : decode cX4_leastFreeLabel 10 = .ok (.getfield 35, 3) := by decide +kernel
theorem dX4_leastFreeLabel_13 : decode cX4_leastFreeLabel 13 = .ok (.iload_n 1, 1) := by decide +kernel
theorem dX4_leastFreeLabel_14 : decode cX4_leastFreeLabel 14 = .ok (.iaload, 1) := by decide +kernel
theorem dX4_leastFreeLabel_15 : decode cX4_leastFreeLabel 15 = .ok (.iconst (-1), 1) := by decide +kernel
theorem dX4_leastFreeLabel_16 : decode cX4_leastFreeLabel 16 = .ok (.if_icmp .ne 5, 3) := by decide +kernel
theorem dX4_leastFreeLabel_19 : decode cX4_leastFreeLabel 19 = .ok (.iload_n 1, 1) := by decide +kernel
theorem dX4_leastFreeLabel_20 : decode cX4_leastFreeLabel 20 = .ok (.ireturn, 1) := by decide +kernel
theorem dX4_leastFreeLabel_21 : decode cX4_leastFreeLabel 21 = .ok (.iinc 1 1, 3) := by decide +kernel
theorem dX4_leastFreeLabel_24 : decode cX4_leastFreeLabel 24 = .ok (.goto (-21), 3) := by decide +kernel
theorem dX4_leastFreeLabel_27 : decode cX4_leastFreeLabel 27 = .ok (.iconst (-1), 1) := by decide +kernel
theorem dX4_leastFreeLabel_28 : decode cX4_leastFreeLabel 28 = .ok (.ireturn, 1) := by decide +kernel
theorem dX4_bind_0 : decode cX4_bind 0 = .ok (.aload_n 0, 1) := by decide +kernel
theorem dX4_bind_1 : decode cX4_bind 1 = .ok (.getfield 28, 3) := by decide +kernel
theorem dX4_bind_4 : decode cX4_bind 4 = .ok (.iload_n 1, 1) := by decide +kernel
theorem dX4_bind_5 : decode cX4_bind 5 = .ok (.iload_n 2, 1) := by decide +kernel
theorem dX4_bind_6 : decode cX4_bind 6 = .ok (.iastore, 1) := by decide +kernel
theorem dX4_bind_7 : decode cX4_bind 7 = .ok (.aload_n 0, 1) := by decide +kernel
theorem dX4_bind_8 : decode cX4_bind 8 = .ok (.getfield 32, 3) := by decide +kernel
theorem dX4_bind_11 : decode cX4_bind 11 = .ok (.iload_n 1, 1) := by decide +kernel
theorem dX4_bind_12 : decode cX4_bind 12 = .ok (.iload_n 3, 1) := by decide +kernel
theorem dX4_bind_13 : decode cX4_bind 13 = .ok (.iastore, 1) := by decide +kernel
theorem dX4_bind_14 : decode cX4_bind 14 = .ok (.iload_n 2, 1) := by decide +kernel
theorem dX4_bind_15 : decode cX4_bind 15 = .ok (.invokestatic 79, 3) := by decide +kernel
theorem dX4_bind_18 : decode cX4_bind 18 = .ok (.ifCond .eq 10, 3) := by decide +kernel
theorem dX4_bind_21 : decode cX4_bind 21 = .ok (.aload_n 0, 1) := by decide +kernel
theorem dX4_bind_22 : decode cX4_bind 22 = .ok (.getfield 35, 3) := by decide +kernel
theorem dX4_bind_25 : decode cX4_bind 25 = .ok (.iload_n 2, 1) := by decide +kernel
theorem dX4_bind_26 : decode cX4_bind 26 = .ok (.iload_n 1, 1) := by decide +kernel
theorem dX4_bind_27 : decode cX4_bind 27 = .ok (.iastore, 1) := by decide +kernel
theorem dX4_bind_28 : decode cX4_bind 28 = .ok (.return_, 1) := by decide +kernel
theorem dX4_isOwnLabel_0 : decode cX4_isOwnLabel 0 = .ok (.iload_n 0, 1) := by decide +kernel
theorem dX4_isOwnLabel_1 : decode cX4_isOwnLabel 1 = .ok (.bipush 16, 2) := by decide +kernel
theorem dX4_isOwnLabel_3 : decode cX4_isOwnLabel 3 = .ok (.if_icmp .lt 13, 3) := by decide +kernel
theorem dX4_isOwnLabel_6 : decode cX4_isOwnLabel 6 = .ok (.iload_n 0, 1) := by decide +kernel
theorem dX4_isOwnLabel_7 : decode cX4_isOwnLabel 7 = .ok (.bipush 80, 2) := by decide +kernel
theorem dX4_isOwnLabel_9 : decode cX4_isOwnLabel 9 = .ok (.if_icmp .ge 7, 3) := by decide +kernel
theorem dX4_isOwnLabel_12 : decode cX4_isOwnLabel 12 = .ok (.iconst 1, 1) := by decide +kernel
theorem dX4_isOwnLabel_13 : decode cX4_isOwnLabel 13 = .ok (.goto 4, 3) := by decide +kernel
theorem dX4_isOwnLabel_16 : decode cX4_isOwnLabel 16 = .ok (.iconst 0, 1) := by decide +kernel
theorem dX4_isOwnLabel_17 : decode cX4_isOwnLabel 17 = .ok (.ireturn, 1) := by decide +kernel
theorem dX4_releaseCounts_0 : decode cX4_releaseCounts 0 = .ok (.iload_n 2, 1) := by decide +kernel
theorem dX4_releaseCounts_1 : decode cX4_releaseCounts 1 = .ok (.invokestatic 79, 3) := by decide +kernel
theorem dX4_releaseCounts_4 : decode cX4_releaseCounts 4 = .ok (.ifCond .eq 13, 3) := by decide +kernel
theorem dX4_releaseCounts_7 : decode cX4_releaseCounts 7 = .ok (.aload_n 0, 1) := by decide +kernel
theorem dX4_releaseCounts_8 : decode cX4_releaseCounts 8 = .ok (.getfield 35, 3) := by decide +kernel
theorem dX4_releaseCounts_11 : decode cX4_releaseCounts 11 = .ok (.iload_n 2, 1) := by decide +kernel
theorem dX4_releaseCounts_12 : decode cX4_releaseCounts 12 = .ok (.iaload, 1) := by decide +kernel
theorem dX4_releaseCounts_13 : decode cX4_releaseCounts 13 = .ok (.iload_n 1, 1) := by decide +kernel
theorem dX4_releaseCounts_14 : decode cX4_releaseCounts 14 = .ok (.if_icmp .eq 5, 3) := by decide +kernel
theorem dX4_releaseCounts_17 : decode cX4_releaseCounts 17 = .ok (.iconst 0, 1) := by decide +kernel
theorem dX4_releaseCounts_18 : decode cX4_releaseCounts 18 = .ok (.ireturn, 1) := by decide +kernel
theorem dX4_releaseCounts_19 : decode cX4_releaseCounts 19 = .ok (.aload_n 0, 1) := by decide +kernel
theorem dX4_releaseCounts_20 : decode cX4_releaseCounts 20 = .ok (.getfield 38, 3) := by decide +kernel
theorem dX4_releaseCounts_23 : decode cX4_releaseCounts 23 = .ok (.iload_n 2, 1) := by decide +kernel
theorem dX4_releaseCounts_24 : decode cX4_releaseCounts 24 = .ok (.dup2, 1) := by decide +kernel
theorem dX4_releaseCounts_25 : decode cX4_releaseCounts 25 = .ok (.iaload, 1) := by decide +kernel
theorem dX4_releaseCounts_26 : decode cX4_releaseCounts 26 = .ok (.iconst 1, 1) := by decide +kernel
theorem dX4_releaseCounts_27 : decode cX4_releaseCounts 27 = .ok (.iload_n 3, 1) := by decide +kernel
theorem dX4_releaseCounts_28 : decode cX4_releaseCounts 28 = .ok (.ishl, 1) := by decide +kernel
theorem dX4_releaseCounts_29 : decode cX4_releaseCounts 29 = .ok (.iconst (-1), 1) := by decide +kernel
theorem dX4_releaseCounts_30 : decode cX4_releaseCounts 30 = .ok (.ixor, 1) := by decide +kernel
theorem dX4_releaseCounts_31 : decode cX4_releaseCounts 31 = .ok (.iand, 1) := by decide +kernel
theorem dX4_releaseCounts_32 : decode cX4_releaseCounts 32 = .ok (.iastore, 1) := by decide +kernel
theorem dX4_releaseCounts_33 : decode cX4_releaseCounts 33 = .ok (.aload_n 0, 1) := by decide +kernel
theorem dX4_releaseCounts_34 : decode cX4_releaseCounts 34 = .ok (.iload_n 2, 1) := by decide +kernel
theorem dX4_releaseCounts_35 : decode cX4_releaseCounts 35 = .ok (.invokevirtual 71, 3) := by decide +kernel
theorem dX4_releaseCounts_38 : decode cX4_releaseCounts 38 = .ok (.iconst 1, 1) := by decide +kernel
theorem dX4_releaseCounts_39 : decode cX4_releaseCounts 39 = .ok (.ireturn, 1) := by decide +kernel
theorem dX4_freeIfReleased_0 : decode cX4_freeIfReleased 0 = .ok (.iload_n 1, 1) := by decide +kernel
theorem dX4_freeIfReleased_1 : decode cX4_freeIfReleased 1 = .ok (.invokestatic 79, 3) := by decide +kernel
theorem dX4_freeIfReleased_4 : decode cX4_freeIfReleased 4 = .ok (.ifCond .eq 44, 3) := by decide +kernel
theorem dX4_freeIfReleased_7 : decode cX4_freeIfReleased 7 = .ok (.aload_n 0, 1) := by decide +kernel
theorem dX4_freeIfReleased_8 : decode cX4_freeIfReleased 8 = .ok (.getfield 35, 3) := by decide +kernel
theorem dX4_freeIfReleased_11 : decode cX4_freeIfReleased 11 = .ok (.iload_n 1, 1) := by decide +kernel
theorem dX4_freeIfReleased_12 : decode cX4_freeIfReleased 12 = .ok (.iaload, 1) := by decide +kernel
theorem dX4_freeIfReleased_13 : decode cX4_freeIfReleased 13 = .ok (.iconst (-1), 1) := by decide +kernel
theorem dX4_freeIfReleased_14 : decode cX4_freeIfReleased 14 = .ok (.if_icmp .eq 34, 3) := by decide +kernel
theorem dX4_freeIfReleased_17 : decode cX4_freeIfReleased 17 = .ok (.aload_n 0, 1) := by decide +kernel
theorem dX4_freeIfReleased_18 : decode cX4_freeIfReleased 18 = .ok (.getfield 38, 3) := by decide +kernel
theorem dX4_freeIfReleased_21 : decode cX4_freeIfReleased 21 = .ok (.iload_n 1, 1) := by decide +kernel
theorem dX4_freeIfReleased_22 : decode cX4_freeIfReleased 22 = .ok (.iaload, 1) := by decide +kernel
theorem dX4_freeIfReleased_23 : decode cX4_freeIfReleased 23 = .ok (.ifCond .ne 25, 3) := by decide +kernel
theorem dX4_freeIfReleased_26 : decode cX4_freeIfReleased 26 = .ok (.aload_n 0, 1) := by decide +kernel
theorem dX4_freeIfReleased_27 : decode cX4_freeIfReleased 27 = .ok (.getfield 28, 3) := by decide +kernel
theorem dX4_freeIfReleased_30 : decode cX4_freeIfReleased 30 = .ok (.aload_n 0, 1) := by decide +kernel
theorem dX4_freeIfReleased_31 : decode cX4_freeIfReleased 31 = .ok (.getfield 35, 3) := by decide +kernel
theorem dX4_freeIfReleased_34 : decode cX4_freeIfReleased 34 = .ok (.iload_n 1, 1) := by decide +kernel
theorem dX4_freeIfReleased_35 : decode cX4_freeIfReleased 35 = .ok (.iaload, 1) := by decide +kernel
theorem dX4_freeIfReleased_36 : decode cX4_freeIfReleased 36 = .ok (.iaload, 1) := by decide +kernel
theorem dX4_freeIfReleased_37 : decode cX4_freeIfReleased 37 = .ok (.iload_n 1, 1) := by decide +kernel
theorem dX4_freeIfReleased_38 : decode cX4_freeIfReleased 38 = .ok (.if_icmp .eq 10, 3) := by decide +kernel
theorem dX4_freeIfReleased_41 : decode cX4_freeIfReleased 41 = .ok (.aload_n 0, 1) := by decide +kernel
theorem dX4_freeIfReleased_42 : decode cX4_freeIfReleased 42 = .ok (.getfield 35, 3) := by decide +kernel
theorem dX4_freeIfReleased_45 : decode cX4_freeIfReleased 45 = .ok (.iload_n 1, 1) := by decide +kernel
theorem dX4_freeIfReleased_46 : decode cX4_freeIfReleased 46 = .ok (.iconst (-1), 1) := by decide +kernel
theorem dX4_freeIfReleased_47 : decode cX4_freeIfReleased 47 = .ok (.iastore, 1) := by decide +kernel
theorem dX4_freeIfReleased_48 : decode cX4_freeIfReleased 48 = .ok (.return_, 1) := by decide +kernel
theorem dX4_prefixOfLabel_0 : decode cX4_prefixOfLabel 0 = .ok (.iconst 0, 1) := by decide +kernel
theorem dX4_prefixOfLabel_1 : decode cX4_prefixOfLabel 1 = .ok (.istore_n 2, 1) := by decide +kernel
theorem dX4_prefixOfLabel_2 : decode cX4_prefixOfLabel 2 = .ok (.iload_n 2, 1) := by decide +kernel
theorem dX4_prefixOfLabel_3 : decode cX4_prefixOfLabel 3 = .ok (.bipush 8, 2) := by decide +kernel
theorem dX4_prefixOfLabel_5 : decode cX4_prefixOfLabel 5 = .ok (.if_icmp .ge 21, 3) := by decide +kernel
theorem dX4_prefixOfLabel_8 : decode cX4_prefixOfLabel 8 = .ok (.aload_n 0, 1) := by decide +kernel
theorem dX4_prefixOfLabel_9 : decode cX4_prefixOfLabel 9 = .ok (.getfield 28, 3) := by decide +kernel
theorem dX4_prefixOfLabel_12 : decode cX4_prefixOfLabel 12 = .ok (.iload_n 2, 1) := by decide +kernel
theorem dX4_prefixOfLabel_13 : decode cX4_prefixOfLabel 13 = .ok (.iaload, 1) := by decide +kernel
theorem dX4_prefixOfLabel_14 : decode cX4_prefixOfLabel 14 = .ok (.iload_n 1, 1) := by decide +kernel
theorem dX4_prefixOfLabel_15 : decode cX4_prefixOfLabel 15 = .ok (.if_icmp .ne 5, 3) := by decide +kernel
theorem dX4_prefixOfLabel_18 : decode cX4_prefixOfLabel 18 = .ok (.iload_n 2, 1) := by decide +kernel
theorem dX4_prefixOfLabel_19 : decode cX4_prefixOfLabel 19 = .ok (.ireturn, 1) := by decide +kernel
theorem dX4_prefixOfLabel_20 : decode cX4_prefixOfLabel 20 = .ok (.iinc 2 1, 3) := by decide +kernel
theorem dX4_prefixOfLabel_23 : decode cX4_prefixOfLabel 23 = .ok (.goto (-21), 3) := by decide +kernel
theorem dX4_prefixOfLabel_26 : decode cX4_prefixOfLabel 26 = .ok (.iconst (-1), 1) := by decide +kernel
theorem dX4_prefixOfLabel_27 : decode cX4_prefixOfLabel 27 = .ok (.ireturn, 1) := by decide +kernel
theorem dX4_labelsInUse_0 : decode cX4_labelsInUse 0 = .ok (.iconst 0, 1) := by decide +kernel
theorem dX4_labelsInUse_1 : decode cX4_labelsInUse 1 = .ok (.istore_n 1, 1) := by decide +kernel
theorem dX4_labelsInUse_2 : decode cX4_labelsInUse 2 = .ok (.bipush 16, 2) := by decide +kernel
theorem dX4_labelsInUse_4 : decode cX4_labelsInUse 4 = .ok (.istore_n 2, 1) := by decide +kernel
theorem dX4_labelsInUse_5 : decode cX4_labelsInUse 5 = .ok (.iload_n 2, 1) := by decide +kernel
theorem dX4_labelsInUse_6 : decode cX4_labelsInUse 6 = .ok (.bipush 80, 2) := by decide +kernel
theorem dX4_labelsInUse_8 : decode cX4_labelsInUse 8 = .ok (.if_icmp .ge 22, 3) := by decide +kernel
theorem dX4_labelsInUse_11 : decode cX4_labelsInUse 11 = .ok (.aload_n 0, 1) := by decide +kernel
theorem dX4_labelsInUse_12 : decode cX4_labelsInUse 12 = .ok (.getfield 35, 3) := by decide +kernel
theorem dX4_labelsInUse_15 : decode cX4_labelsInUse 15 = .ok (.iload_n 2, 1) := by decide +kernel
theorem dX4_labelsInUse_16 : decode cX4_labelsInUse 16 = .ok (.iaload, 1) := by decide +kernel
theorem dX4_labelsInUse_17 : decode cX4_labelsInUse 17 = .ok (.iconst (-1), 1) := by decide +kernel
theorem dX4_labelsInUse_18 : decode cX4_labelsInUse 18 = .ok (.if_icmp .eq 6, 3) := by decide +kernel
theorem dX4_labelsInUse_21 : decode cX4_labelsInUse 21 = .ok (.iinc 1 1, 3) := by decide +kernel
theorem dX4_labelsInUse_24 : decode cX4_labelsInUse 24 = .ok (.iinc 2 1, 3) := by decide +kernel
theorem dX4_labelsInUse_27 : decode cX4_labelsInUse 27 = .ok (.goto (-22), 3) := by decide +kernel
theorem dX4_labelsInUse_30 : decode cX4_labelsInUse 30 = .ok (.iload_n 1, 1) := by decide +kernel
theorem dX4_labelsInUse_31 : decode cX4_labelsInUse 31 = .ok (.ireturn, 1) := by decide +kernel
theorem dX5_init_0 : decode cX5_init 0 = .ok (.aload_n 0, 1) := by decide +kernel
theorem dX5_init_1 : decode cX5_init 1 = .ok (.invokespecial 1, 3) := by decide +kernel
theorem dX5_init_4 : decode cX5_init 4 = .ok (.aload_n 0, 1) := by decide +kernel
theorem dX5_init_5 : decode cX5_init 5 = .ok (.iload_n 1, 1) := by decide +kernel
theorem dX5_init_6 : decode cX5_init 6 = .ok (.putfield 7, 3) := by decide +kernel
theorem dX5_init_9 : decode cX5_init 9 = .ok (.aload_n 0, 1) := by decide +kernel
theorem dX5_init_10 : decode cX5_init 10 = .ok (.iload_n 2, 1) := by decide +kernel
theorem dX5_init_11 : decode cX5_init 11 = .ok (.putfield 13, 3) := by decide +kernel
theorem dX5_init_14 : decode cX5_init 14 = .ok (.aload_n 0, 1) := by decide +kernel
theorem dX5_init_15 : decode cX5_init 15 = .ok (.iload_n 3, 1) := by decide +kernel
theorem dX5_init_16 : decode cX5_init 16 = .ok (.putfield 16, 3) := by decide +kernel
theorem dX5_init_19 : decode cX5_init 19 = .ok (.aload_n 0, 1) := by decide +kernel
theorem dX5_init_20 : decode cX5_init 20 = .ok (.iload 4, 2) := by decide +kernel
theorem dX5_init_22 : decode cX5_init 22 = .ok (.putfield 19, 3) := by decide +kernel
theorem dX5_init_25 : decode cX5_init 25 = .ok (.return_, 1) := by decide +kernel
