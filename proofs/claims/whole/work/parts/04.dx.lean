theorem dX_isBelow_0 : decode b_X_isBelow 0 = .ok (.iload_n 0, 1) := by decide +kernel
theorem dX_isBelow_1 : decode b_X_isBelow 1 = .ok (.ifCond .lt 12, 3) := by decide +kernel
theorem dX_isBelow_4 : decode b_X_isBelow 4 = .ok (.iload_n 0, 1) := by decide +kernel
theorem dX_isBelow_5 : decode b_X_isBelow 5 = .ok (.iload_n 1, 1) := by decide +kernel
theorem dX_isBelow_6 : decode b_X_isBelow 6 = .ok (.if_icmp .ge 7, 3) := by decide +kernel
theorem dX_isBelow_9 : decode b_X_isBelow 9 = .ok (.iconst 1, 1) := by decide +kernel
theorem dX_isBelow_10 : decode b_X_isBelow 10 = .ok (.goto 4, 3) := by decide +kernel
theorem dX_isBelow_13 : decode b_X_isBelow 13 = .ok (.iconst 0, 1) := by decide +kernel
theorem dX_isBelow_14 : decode b_X_isBelow 14 = .ok (.ireturn, 1) := by decide +kernel
theorem dX_isPriority_0 : decode b_X_isPriority 0 = .ok (.iload_n 0, 1) := by decide +kernel
theorem dX_isPriority_1 : decode b_X_isPriority 1 = .ok (.iconst 1, 1) := by decide +kernel
theorem dX_isPriority_2 : decode b_X_isPriority 2 = .ok (.if_icmp .lt 13, 3) := by decide +kernel
theorem dX_isPriority_5 : decode b_X_isPriority 5 = .ok (.iload_n 0, 1) := by decide +kernel
theorem dX_isPriority_6 : decode b_X_isPriority 6 = .ok (.bipush 31, 2) := by decide +kernel
theorem dX_isPriority_8 : decode b_X_isPriority 8 = .ok (.if_icmp .gt 7, 3) := by decide +kernel
theorem dX_isPriority_11 : decode b_X_isPriority 11 = .ok (.iconst 1, 1) := by decide +kernel
theorem dX_isPriority_12 : decode b_X_isPriority 12 = .ok (.goto 4, 3) := by decide +kernel
theorem dX_isPriority_15 : decode b_X_isPriority 15 = .ok (.iconst 0, 1) := by decide +kernel
theorem dX_isPriority_16 : decode b_X_isPriority 16 = .ok (.ireturn, 1) := by decide +kernel
theorem dX_isTimeout_0 : decode b_X_isTimeout 0 = .ok (.iload_n 0, 1) := by decide +kernel
theorem dX_isTimeout_1 : decode b_X_isTimeout 1 = .ok (.ifCond .lt 14, 3) := by decide +kernel
theorem dX_isTimeout_4 : decode b_X_isTimeout 4 = .ok (.iload_n 0, 1) := by decide +kernel
theorem dX_isTimeout_5 : decode b_X_isTimeout 5 = .ok (.sipush 1000, 3) := by decide +kernel
theorem dX_isTimeout_8 : decode b_X_isTimeout 8 = .ok (.if_icmp .gt 7, 3) := by decide +kernel
theorem dX_isTimeout_11 : decode b_X_isTimeout 11 = .ok (.iconst 1, 1) := by decide +kernel
theorem dX_isTimeout_12 : decode b_X_isTimeout 12 = .ok (.goto 4, 3) := by decide +kernel
theorem dX_isTimeout_15 : decode b_X_isTimeout 15 = .ok (.iconst 0, 1) := by decide +kernel
theorem dX_isTimeout_16 : decode b_X_isTimeout 16 = .ok (.ireturn, 1) := by decide +kernel
theorem dT_isAheadOf_0 : decode b_T_isAheadOf 0 = .ok (.aload_n 0, 1) := by decide +kernel
theorem dT_isAheadOf_1 : decode b_T_isAheadOf 1 = .ok (.getfield 18, 3) := by decide +kernel
theorem dT_isAheadOf_4 : decode b_T_isAheadOf 4 = .ok (.aload_n 1, 1) := by decide +kernel
theorem dT_isAheadOf_5 : decode b_T_isAheadOf 5 = .ok (.getfield 18, 3) := by decide +kernel
theorem dT_isAheadOf_8 : decode b_T_isAheadOf 8 = .ok (.if_icmp .gt 26, 3) := by decide +kernel
theorem dT_isAheadOf_11 : decode b_T_isAheadOf 11 = .ok (.aload_n 0, 1) := by decide +kernel
theorem dT_isAheadOf_12 : decode b_T_isAheadOf 12 = .ok (.getfield 18, 3) := by decide +kernel
theorem dT_isAheadOf_15 : decode b_T_isAheadOf 15 = .ok (.aload_n 1, 1) := by decide +kernel
theorem dT_isAheadOf_16 : decode b_T_isAheadOf 16 = .ok (.getfield 18, 3) := by decide +kernel
theorem dT_isAheadOf_19 : decode b_T_isAheadOf 19 = .ok (.if_icmp .ne 19, 3) := by decide +kernel
theorem dT_isAheadOf_22 : decode b_T_isAheadOf 22 = .ok (.aload_n 0, 1) := by decide +kernel
theorem dT_isAheadOf_23 : decode b_T_isAheadOf 23 = .ok (.getfield 31, 3) := by decide +kernel
theorem dT_isAheadOf_26 : decode b_T_isAheadOf 26 = .ok (.aload_n 1, 1) := by decide +kernel
theorem dT_isAheadOf_27 : decode b_T_isAheadOf 27 = .ok (.getfield 31, 3) := by decide +kernel
theorem dT_isAheadOf_30 : decode b_T_isAheadOf 30 = .ok (.lcmp, 1) := by decide +kernel
theorem dT_isAheadOf_31 : decode b_T_isAheadOf 31 = .ok (.ifCond .ge 7, 3) := by decide +kernel
theorem dT_isAheadOf_34 : decode b_T_isAheadOf 34 = .ok (.iconst 1, 1) := by decide +kernel
theorem dT_isAheadOf_35 : decode b_T_isAheadOf 35 = .ok (.goto 4, 3) := by decide +kernel
theorem dT_isAheadOf_38 : decode b_T_isAheadOf 38 = .ok (.iconst 0, 1) := by decide +kernel
theorem dT_isAheadOf_39 : decode b_T_isAheadOf 39 = .ok (.ireturn, 1) := by decide +kernel
theorem dQ_isEmpty_0 : decode b_Q_isEmpty 0 = .ok (.aload_n 0, 1) := by decide +kernel
theorem dQ_isEmpty_1 : decode b_Q_isEmpty 1 = .ok (.getfield 18, 3) := by decide +kernel
theorem dQ_isEmpty_4 : decode b_Q_isEmpty 4 = .ok (.ifCond .ne 7, 3) := by decide +kernel
theorem dQ_isEmpty_7 : decode b_Q_isEmpty 7 = .ok (.iconst 1, 1) := by decide +kernel
theorem dQ_isEmpty_8 : decode b_Q_isEmpty 8 = .ok (.goto 4, 3) := by decide +kernel
theorem dQ_isEmpty_11 : decode b_Q_isEmpty 11 = .ok (.iconst 0, 1) := by decide +kernel
theorem dQ_isEmpty_12 : decode b_Q_isEmpty 12 = .ok (.ireturn, 1) := by decide +kernel
theorem dQ_isFull_0 : decode b_Q_isFull 0 = .ok (.aload_n 0, 1) := by decide +kernel
theorem dQ_isFull_1 : decode b_Q_isFull 1 = .ok (.getfield 18, 3) := by decide +kernel
theorem dQ_isFull_4 : decode b_Q_isFull 4 = .ok (.iconst 4, 1) := by decide +kernel
theorem dQ_isFull_5 : decode b_Q_isFull 5 = .ok (.if_icmp .ne 7, 3) := by decide +kernel
theorem dQ_isFull_8 : decode b_Q_isFull 8 = .ok (.iconst 1, 1) := by decide +kernel
theorem dQ_isFull_9 : decode b_Q_isFull 9 = .ok (.goto 4, 3) := by decide +kernel
theorem dQ_isFull_12 : decode b_Q_isFull 12 = .ok (.iconst 0, 1) := by decide +kernel
theorem dQ_isFull_13 : decode b_Q_isFull 13 = .ok (.ireturn, 1) := by decide +kernel
theorem dQ_insert_0 : decode b_Q_insert 0 = .ok (.aload_n 0, 1) := by decide +kernel
theorem dQ_insert_1 : decode b_Q_insert 1 = .ok (.invokevirtual 22, 3) := by decide +kernel
theorem dQ_insert_4 : decode b_Q_insert 4 = .ok (.ifCond .eq 4, 3) := by decide +kernel
theorem dQ_insert_7 : decode b_Q_insert 7 = .ok (.return_, 1) := by decide +kernel
theorem dQ_insert_8 : decode b_Q_insert 8 = .ok (.aload_n 0, 1) := by decide +kernel
theorem dQ_insert_9 : decode b_Q_insert 9 = .ok (.getfield 18, 3) := by decide +kernel
theorem dQ_insert_12 : decode b_Q_insert 12 = .ok (.istore_n 3, 1) := by decide +kernel
theorem dQ_insert_13 : decode b_Q_insert 13 = .ok (.iload_n 3, 1) := by decide +kernel
theorem dQ_insert_14 : decode b_Q_insert 14 = .ok (.ifCond .le 49, 3) := by decide +kernel
theorem dQ_insert_17 : decode b_Q_insert 17 = .ok (.aload_n 0, 1) := by decide +kernel
theorem dQ_insert_18 : decode b_Q_insert 18 = .ok (.getfield 9, 3) := by decide +kernel
theorem dQ_insert_21 : decode b_Q_insert 21 = .ok (.iload_n 3, 1) := by decide +kernel
theorem dQ_insert_22 : decode b_Q_insert 22 = .ok (.iconst 1, 1) := by decide +kernel
theorem dQ_insert_23 : decode b_Q_insert 23 = .ok (.isub, 1) := by decide +kernel
theorem dQ_insert_24 : decode b_Q_insert 24 = .ok (.iaload, 1) := by decide +kernel
theorem dQ_insert_25 : decode b_Q_insert 25 = .ok (.iload_n 1, 1) := by decide +kernel
theorem dQ_insert_26 : decode b_Q_insert 26 = .ok (.if_icmp .ge 37, 3) := by decide +kernel
theorem dQ_insert_29 : decode b_Q_insert 29 = .ok (.aload_n 0, 1) := by decide +kernel
theorem dQ_insert_30 : decode b_Q_insert 30 = .ok (.getfield 9, 3) := by decide +kernel
theorem dQ_insert_33 : decode b_Q_insert 33 = .ok (.iload_n 3, 1) := by decide +kernel
theorem dQ_insert_34 : decode b_Q_insert 34 = .ok (.aload_n 0, 1) := by decide +kernel
theorem dQ_insert_35 : decode b_Q_insert 35 = .ok (.getfield 9, 3) := by decide +kernel
theorem dQ_insert_38 : decode b_Q_insert 38 = .ok (.iload_n 3, 1) := by decide +kernel
theorem dQ_insert_39 : decode b_Q_insert 39 = .ok (.iconst 1, 1) := by decide +kernel
theorem dQ_insert_40 : decode b_Q_insert 40 = .ok (.isub, 1) := by decide +kernel
theorem dQ_insert_41 : decode b_Q_insert 41 = .ok (.iaload, 1) := by decide +kernel
theorem dQ_insert_42 : decode b_Q_insert 42 = .ok (.iastore, 1) := by decide +kernel
theorem dQ_insert_43 : decode b_Q_insert 43 = .ok (.aload_n 0, 1) := by decide +kernel
theorem dQ_insert_44 : decode b_Q_insert 44 = .ok (.getfield 15, 3) := by decide +kernel
theorem dQ_insert_47 : decode b_Q_insert 47 = .ok (.iload_n 3, 1) := by decide +kernel
theorem dQ_insert_48 : decode b_Q_insert 48 = .ok (.aload_n 0, 1) := by decide +kernel
theorem dQ_insert_49 : decode b_Q_insert 49 = .ok (.getfield 15, 3) := by decide +kernel
theorem dQ_insert_52 : decode b_Q_insert 52 = .ok (.iload_n 3, 1) := by decide +kernel
theorem dQ_insert_53 : decode b_Q_insert 53 = .ok (.iconst 1, 1) := by decide +kernel
theorem dQ_insert_54 : decode b_Q_insert 54 = .ok (.isub, 1) := by decide +kernel
theorem dQ_insert_55 : decode b_Q_insert 55 = .ok (.iaload, 1) := by decide +kernel
theorem dQ_insert_56 : decode b_Q_insert 56 = .ok (.iastore, 1) := by decide +kernel
theorem dQ_insert_57 : decode b_Q_insert 57 = .ok (.iinc 3 (-1), 3) := by decide +kernel
theorem dQ_insert_60 : decode b_Q_insert 60 = .ok (.goto (-47), 3) := by decide +kernel
theorem dQ_insert_63 : decode b_Q_insert 63 = .ok (.aload_n 0, 1) := by decide +kernel
theorem dQ_insert_64 : decode b_Q_insert 64 = .ok (.getfield 9, 3) := by decide +kernel
theorem dQ_insert_67 : decode b_Q_insert 67 = .ok (.iload_n 3, 1) := by decide +kernel
theorem dQ_insert_68 : decode b_Q_insert 68 = .ok (.iload_n 1, 1) := by decide +kernel
theorem dQ_insert_69 : decode b_Q_insert 69 = .ok (.iastore, 1) := by decide +kernel
theorem dQ_insert_70 : decode b_Q_insert 70 = .ok (.aload_n 0, 1) := by decide +kernel
theorem dQ_insert_71 : decode b_Q_insert 71 = .ok (.getfield 15, 3) := by decide +kernel
theorem dQ_insert_74 : decode b_Q_insert 74 = .ok (.iload_n 3, 1) := by decide +kernel
theorem dQ_insert_75 : decode b_Q_insert 75 = .ok (.iload_n 2, 1) := by decide +kernel
theorem dQ_insert_76 : decode b_Q_insert 76 = .ok (.iastore, 1) := by decide +kernel
theorem dQ_insert_77 : decode b_Q_insert 77 = .ok (.aload_n 0, 1) := by decide +kernel
theorem dQ_insert_78 : decode b_Q_insert 78 = .ok (.dup, 1) := by decide +kernel
theorem dQ_insert_79 : decode b_Q_insert 79 = .ok (.getfield 18, 3) := by decide +kernel
theorem dQ_insert_82 : decode b_Q_insert 82 = .ok (.iconst 1, 1) := by decide +kernel
theorem dQ_insert_83 : decode b_Q_insert 83 = .ok (.iadd, 1) := by decide +kernel
theorem dQ_insert_84 : decode b_Q_insert 84 = .ok (.putfield 18, 3) := by decide +kernel
theorem dQ_insert_87 : decode b_Q_insert 87 = .ok (.return_, 1) := by decide +kernel
theorem dQ_removeFirst_0 : decode b_Q_removeFirst 0 = .ok (.aload_n 0, 1) := by decide +kernel
theorem dQ_removeFirst_1 : decode b_Q_removeFirst 1 = .ok (.invokevirtual 26, 3) := by decide +kernel
theorem dQ_removeFirst_4 : decode b_Q_removeFirst 4 = .ok (.ifCond .eq 5, 3) := by decide +kernel
theorem dQ_removeFirst_7 : decode b_Q_removeFirst 7 = .ok (.iconst 0, 1) := by decide +kernel
theorem dQ_removeFirst_8 : decode b_Q_removeFirst 8 = .ok (.ireturn, 1) := by decide +kernel
theorem dQ_removeFirst_9 : decode b_Q_removeFirst 9 = .ok (.aload_n 0, 1) := by decide +kernel
theorem dQ_removeFirst_10 : decode b_Q_removeFirst 10 = .ok (.getfield 15, 3) := by decide +kernel
theorem dQ_removeFirst_13 : decode b_Q_removeFirst 13 = .ok (.iconst 0, 1) := by decide +kernel
theorem dQ_removeFirst_14 : decode b_Q_removeFirst 14 = .ok (.iaload, 1) := by decide +kernel
theorem dQ_removeFirst_15 : decode b_Q_removeFirst 15 = .ok (.istore_n 1, 1) := by decide +kernel
theorem dQ_removeFirst_16 : decode b_Q_removeFirst 16 = .ok (.aload_n 0, 1) := by decide +kernel
theorem dQ_removeFirst_17 : decode b_Q_removeFirst 17 = .ok (.dup, 1) := by decide +kernel
theorem dQ_removeFirst_18 : decode b_Q_removeFirst 18 = .ok (.getfield 18, 3) := by decide +kernel
theorem dQ_removeFirst_21 : decode b_Q_removeFirst 21 = .ok (.iconst 1, 1) := by decide +kernel
theorem dQ_removeFirst_22 : decode b_Q_removeFirst 22 = .ok (.isub, 1) := by decide +kernel
theorem dQ_removeFirst_23 : decode b_Q_removeFirst 23 = .ok (.putfield 18, 3) := by decide +kernel
theorem dQ_removeFirst_26 : decode b_Q_removeFirst 26 = .ok (.iconst 0, 1) := by decide +kernel
theorem dQ_removeFirst_27 : decode b_Q_removeFirst 27 = .ok (.istore_n 2, 1) := by decide +kernel
theorem dQ_removeFirst_28 : decode b_Q_removeFirst 28 = .ok (.iload_n 2, 1) := by decide +kernel
theorem dQ_removeFirst_29 : decode b_Q_removeFirst 29 = .ok (.aload_n 0, 1) := by decide +kernel
theorem dQ_removeFirst_30 : decode b_Q_removeFirst 30 = .ok (.getfield 18, 3) := by decide +kernel
theorem dQ_removeFirst_33 : decode b_Q_removeFirst 33 = .ok (.if_icmp .ge 37, 3) := by decide +kernel
theorem dQ_removeFirst_36 : decode b_Q_removeFirst 36 = .ok (.aload_n 0, 1) := by decide +kernel
theorem dQ_removeFirst_37 : decode b_Q_removeFirst 37 = .ok (.getfield 9, 3) := by decide +kernel
theorem dQ_removeFirst_40 : decode b_Q_removeFirst 40 = .ok (.iload_n 2, 1) := by decide +kernel
theorem dQ_removeFirst_41 : decode b_Q_removeFirst 41 = .ok (.aload_n 0, 1) := by decide +kernel
theorem dQ_removeFirst_42 : decode b_Q_removeFirst 42 = .ok (.getfield 9, 3) := by decide +kernel
theorem dQ_removeFirst_45 : decode b_Q_removeFirst 45 = .ok (.iload_n 2, 1) := by decide +kernel
theorem dQ_removeFirst_46 : decode b_Q_removeFirst 46 = .ok (.iconst 1, 1) := by decide +kernel
theorem dQ_removeFirst_47 : decode b_Q_removeFirst 47 = .ok (.iadd, 1) := by decide +kernel
theorem dQ_removeFirst_48 : decode b_Q_removeFirst 48 = .ok (.iaload, 1) := by decide +kernel
theorem dQ_removeFirst_49 : decode b_Q_removeFirst 49 = .ok (.iastore, 1) := by decide +kernel
theorem dQ_removeFirst_50 : decode b_Q_removeFirst 50 = .ok (.aload_n 0, 1) := by decide +kernel
theorem dQ_removeFirst_51 : decode b_Q_removeFirst 51 = .ok (.getfield 15, 3) := by decide +kernel
theorem dQ_removeFirst_54 : decode b_Q_removeFirst 54 = .ok (.iload_n 2, 1) := by decide +kernel
theorem dQ_removeFirst_55 : decode b_Q_removeFirst 55 = .ok (.aload_n 0, 1) := by decide +kernel
theorem dQ_removeFirst_56 : decode b_Q_removeFirst 56 = .ok (.getfield 15, 3) := by decide +kernel
theorem dQ_removeFirst_59 : decode b_Q_removeFirst 59 = .ok (.iload_n 2, 1) := by decide +kernel
theorem dQ_removeFirst_60 : decode b_Q_removeFirst 60 = .ok (.iconst 1, 1) := by decide +kernel
theorem dQ_removeFirst_61 : decode b_Q_removeFirst 61 = .ok (.iadd, 1) := by decide +kernel
theorem dQ_removeFirst_62 : decode b_Q_removeFirst 62 = .ok (.iaload, 1) := by decide +kernel
theorem dQ_removeFirst_63 : decode b_Q_removeFirst 63 = .ok (.iastore, 1) := by decide +kernel
theorem dQ_removeFirst_64 : decode b_Q_removeFirst 64 = .ok (.iinc 2 1, 3) := by decide +kernel
theorem dQ_removeFirst_67 : decode b_Q_removeFirst 67 = .ok (.goto (-39), 3) := by decide +kernel
theorem dQ_removeFirst_70 : decode b_Q_removeFirst 70 = .ok (.iload_n 1, 1) := by decide +kernel
theorem dQ_removeFirst_71 : decode b_Q_removeFirst 71 = .ok (.ireturn, 1) := by decide +kernel
theorem dX_deadlineAfter_0 : decode b_X_deadlineAfter 0 = .ok (.iload_n 1, 1) := by decide +kernel
theorem dX_deadlineAfter_1 : decode b_X_deadlineAfter 1 = .ok (.ifCond .ne 9, 3) := by decide +kernel
theorem dX_deadlineAfter_4 : decode b_X_deadlineAfter 4 = .ok (.ldc2_w 137, 3) := by decide +kernel
theorem dX_deadlineAfter_7 : decode b_X_deadlineAfter 7 = .ok (.goto 11, 3) := by decide +kernel
theorem dX_deadlineAfter_10 : decode b_X_deadlineAfter 10 = .ok (.aload_n 0, 1) := by decide +kernel
theorem dX_deadlineAfter_11 : decode b_X_deadlineAfter 11 = .ok (.getfield 28, 3) := by decide +kernel
theorem dX_deadlineAfter_14 : decode b_X_deadlineAfter 14 = .ok (.i2l, 1) := by decide +kernel
theorem dX_deadlineAfter_15 : decode b_X_deadlineAfter 15 = .ok (.iload_n 1, 1) := by decide +kernel
theorem dX_deadlineAfter_16 : decode b_X_deadlineAfter 16 = .ok (.i2l, 1) := by decide +kernel
theorem dX_deadlineAfter_17 : decode b_X_deadlineAfter 17 = .ok (.ladd, 1) := by decide +kernel
theorem dX_deadlineAfter_18 : decode b_X_deadlineAfter 18 = .ok (.lreturn, 1) := by decide +kernel
theorem dX_heirOf_0 : decode b_X_heirOf 0 = .ok (.iconst 1, 1) := by decide +kernel
theorem dX_heirOf_1 : decode b_X_heirOf 1 = .ok (.istore_n 2, 1) := by decide +kernel
theorem dX_heirOf_2 : decode b_X_heirOf 2 = .ok (.iload_n 2, 1) := by decide +kernel
theorem dX_heirOf_3 : decode b_X_heirOf 3 = .ok (.iconst 2, 1) := by decide +kernel
theorem dX_heirOf_4 : decode b_X_heirOf 4 = .ok (.if_icmp .gt 27, 3) := by decide +kernel
theorem dX_heirOf_7 : decode b_X_heirOf 7 = .ok (.aload_n 1, 1) := by decide +kernel
theorem dX_heirOf_8 : decode b_X_heirOf 8 = .ok (.getfield 166, 3) := by decide +kernel
theorem dX_heirOf_11 : decode b_X_heirOf 11 = .ok (.bipush 10, 2) := by decide +kernel
theorem dX_heirOf_13 : decode b_X_heirOf 13 = .ok (.iload_n 2, 1) := by decide +kernel
theorem dX_heirOf_14 : decode b_X_heirOf 14 = .ok (.iadd, 1) := by decide +kernel
theorem dX_heirOf_15 : decode b_X_heirOf 15 = .ok (.if_icmp .ne 10, 3) := by decide +kernel
theorem dX_heirOf_18 : decode b_X_heirOf 18 = .ok (.aload_n 0, 1) := by decide +kernel
theorem dX_heirOf_19 : decode b_X_heirOf 19 = .ok (.getfield 15, 3) := by decide +kernel
theorem dX_heirOf_22 : decode b_X_heirOf 22 = .ok (.iload_n 2, 1) := by decide +kernel
theorem dX_heirOf_23 : decode b_X_heirOf 23 = .ok (.iaload, 1) := by decide +kernel
theorem dX_heirOf_24 : decode b_X_heirOf 24 = .ok (.ireturn, 1) := by decide +kernel
theorem dX_heirOf_25 : decode b_X_heirOf 25 = .ok (.iinc 2 1, 3) := by decide +kernel
theorem dX_heirOf_28 : decode b_X_heirOf 28 = .ok (.goto (-26), 3) := by decide +kernel
theorem dX_heirOf_31 : decode b_X_heirOf 31 = .ok (.iconst (-1), 1) := by decide +kernel
theorem dX_heirOf_32 : decode b_X_heirOf 32 = .ok (.ireturn, 1) := by decide +kernel
theorem dX_inheritOnce_0 : decode b_X_inheritOnce 0 = .ok (.iconst 0, 1) := by decide +kernel
theorem dX_inheritOnce_1 : decode b_X_inheritOnce 1 = .ok (.istore_n 1, 1) := by decide +kernel
theorem dX_inheritOnce_2 : decode b_X_inheritOnce 2 = .ok (.aload_n 0, 1) := by decide +kernel
theorem dX_inheritOnce_3 : decode b_X_inheritOnce 3 = .ok (.getfield 11, 3) := by decide +kernel
theorem dX_inheritOnce_6 : decode b_X_inheritOnce 6 = .ok (.astore_n 2, 1) := by decide +kernel
theorem dX_inheritOnce_7 : decode b_X_inheritOnce 7 = .ok (.aload_n 2, 1) := by decide +kernel
theorem dX_inheritOnce_8 : decode b_X_inheritOnce 8 = .ok (.arraylength, 1) := by decide +kernel
theorem dX_inheritOnce_9 : decode b_X_inheritOnce 9 = .ok (.istore_n 3, 1) := by decide +kernel
theorem dX_inheritOnce_10 : decode b_X_inheritOnce 10 = .ok (.iconst 0, 1) := by decide +kernel
theorem dX_inheritOnce_11 : decode b_X_inheritOnce 11 = .ok (.istore 4, 2) := by decide +kernel
theorem dX_inheritOnce_13 : decode b_X_inheritOnce 13 = .ok (.iload 4, 2) := by decide +kernel
theorem dX_inheritOnce_15 : decode b_X_inheritOnce 15 = .ok (.iload_n 3, 1) := by decide +kernel
theorem dX_inheritOnce_16 : decode b_X_inheritOnce 16 = .ok (.if_icmp .ge 64, 3) := by decide +kernel
theorem dX_inheritOnce_19 : decode b_X_inheritOnce 19 = .ok (.aload_n 2, 1) := by decide +kernel
theorem dX_inheritOnce_20 : decode b_X_inheritOnce 20 = .ok (.iload 4, 2) := by decide +kernel
theorem dX_inheritOnce_22 : decode b_X_inheritOnce 22 = .ok (.aaload, 1) := by decide +kernel
theorem dX_inheritOnce_23 : decode b_X_inheritOnce 23 = .ok (.astore 5, 2) := by decide +kernel
theorem dX_inheritOnce_25 : decode b_X_inheritOnce 25 = .ok (.aload_n 0, 1) := by decide +kernel
theorem dX_inheritOnce_26 : decode b_X_inheritOnce 26 = .ok (.aload 5, 2) := by decide +kernel
theorem dX_inheritOnce_28 : decode b_X_inheritOnce 28 = .ok (.invokevirtual 188, 3) := by decide +kernel
theorem dX_inheritOnce_31 : decode b_X_inheritOnce 31 = .ok (.istore 6, 2) := by decide +kernel
theorem dX_inheritOnce_33 : decode b_X_inheritOnce 33 = .ok (.iload 6, 2) := by decide +kernel
theorem dX_inheritOnce_35 : decode b_X_inheritOnce 35 = .ok (.iconst (-1), 1) := by decide +kernel
theorem dX_inheritOnce_36 : decode b_X_inheritOnce 36 = .ok (.if_icmp .eq 38, 3) := by decide +kernel
theorem dX_inheritOnce_39 : decode b_X_inheritOnce 39 = .ok (.aload_n 0, 1) := by decide +kernel
theorem dX_inheritOnce_40 : decode b_X_inheritOnce 40 = .ok (.getfield 11, 3) := by decide +kernel
theorem dX_inheritOnce_43 : decode b_X_inheritOnce 43 = .ok (.iload 6, 2) := by decide +kernel
theorem dX_inheritOnce_45 : decode b_X_inheritOnce 45 = .ok (.aaload, 1) := by decide +kernel
theorem dX_inheritOnce_46 : decode b_X_inheritOnce 46 = .ok (.getfield 163, 3) := by decide +kernel
theorem dX_inheritOnce_49 : decode b_X_inheritOnce 49 = .ok (.aload 5, 2) := by decide +kernel
theorem dX_inheritOnce_51 : decode b_X_inheritOnce 51 = .ok (.getfield 163, 3) := by decide +kernel
theorem dX_inheritOnce_54 : decode b_X_inheritOnce 54 = .ok (.if_icmp .ge 20, 3) := by decide +kernel
theorem dX_inheritOnce_57 : decode b_X_inheritOnce 57 = .ok (.aload_n 0, 1) := by decide +kernel
theorem dX_inheritOnce_58 : decode b_X_inheritOnce 58 = .ok (.getfield 11, 3) := by decide +kernel
theorem dX_inheritOnce_61 : decode b_X_inheritOnce 61 = .ok (.iload 6, 2) := by decide +kernel
theorem dX_inheritOnce_63 : decode b_X_inheritOnce 63 = .ok (.aaload, 1) := by decide +kernel
theorem dX_inheritOnce_64 : decode b_X_inheritOnce 64 = .ok (.aload 5, 2) := by decide +kernel
theorem dX_inheritOnce_66 : decode b_X_inheritOnce 66 = .ok (.getfield 163, 3) := by decide +kernel
theorem dX_inheritOnce_69 : decode b_X_inheritOnce 69 = .ok (.putfield 163, 3) := by decide +kernel
theorem dX_inheritOnce_72 : decode b_X_inheritOnce 72 = .ok (.iconst 1, 1) := by decide +kernel
theorem dX_inheritOnce_73 : decode b_X_inheritOnce 73 = .ok (.istore_n 1, 1) := by decide +kernel
theorem dX_inheritOnce_74 : decode b_X_inheritOnce 74 = .ok (.iinc 4 1, 3) := by decide +kernel
theorem dX_inheritOnce_77 : decode b_X_inheritOnce 77 = .ok (.goto (-64), 3) := by decide +kernel
theorem dX_inheritOnce_80 : decode b_X_inheritOnce 80 = .ok (.iload_n 1, 1) := by decide +kernel
theorem dX_inheritOnce_81 : decode b_X_inheritOnce 81 = .ok (.ireturn, 1) := by decide +kernel
theorem dX_workOutEffective_0 : decode b_X_workOutEffective 0 = .ok (.aload_n 0, 1) := by decide +kernel
theorem dX_workOutEffective_1 : decode b_X_workOutEffective 1 = .ok (.getfield 11, 3) := by decide +kernel
theorem dX_workOutEffective_4 : decode b_X_workOutEffective 4 = .ok (.astore_n 1, 1) := by decide +kernel
theorem dX_workOutEffective_5 : decode b_X_workOutEffective 5 = .ok (.aload_n 1, 1) := by decide +kernel
theorem dX_workOutEffective_6 : decode b_X_workOutEffective 6 = .ok (.arraylength, 1) := by decide +kernel
theorem dX_workOutEffective_7 : decode b_X_workOutEffective 7 = .ok (.istore_n 2, 1) := by decide +kernel
theorem dX_workOutEffective_8 : decode b_X_workOutEffective 8 = .ok (.iconst 0, 1) := by decide +kernel
theorem dX_workOutEffective_9 : decode b_X_workOutEffective 9 = .ok (.istore_n 3, 1) := by decide +kernel
theorem dX_workOutEffective_10 : decode b_X_workOutEffective 10 = .ok (.iload_n 3, 1) := by decide +kernel
theorem dX_workOutEffective_11 : decode b_X_workOutEffective 11 = .ok (.iload_n 2, 1) := by decide +kernel
theorem dX_workOutEffective_12 : decode b_X_workOutEffective 12 = .ok (.if_icmp .ge 53, 3) := by decide +kernel
theorem dX_workOutEffective_15 : decode b_X_workOutEffective 15 = .ok (.aload_n 1, 1) := by decide +kernel
theorem dX_workOutEffective_16 : decode b_X_workOutEffective 16 = .ok (.iload_n 3, 1) := by decide +kernel
theorem dX_workOutEffective_17 : decode b_X_workOutEffective 17 = .ok (.aaload, 1) := by decide +kernel
theorem dX_workOutEffective_18 : decode b_X_workOutEffective 18 = .ok (.astore 4, 2) := by decide +kernel
theorem dX_workOutEffective_20 : decode b_X_workOutEffective 20 = .ok (.aload 4, 2) := by decide +kernel
theorem dX_workOutEffective_22 : decode b_X_workOutEffective 22 = .ok (.aload_n 0, 1) := by decide +kernel
theorem dX_workOutEffective_23 : decode b_X_workOutEffective 23 = .ok (.getfield 15, 3) := by decide +kernel
theorem dX_workOutEffective_26 : decode b_X_workOutEffective 26 = .ok (.iconst 3, 1) := by decide +kernel
theorem dX_workOutEffective_27 : decode b_X_workOutEffective 27 = .ok (.iaload, 1) := by decide +kernel
theorem dX_workOutEffective_28 : decode b_X_workOutEffective 28 = .ok (.aload 4, 2) := by decide +kernel
theorem dX_workOutEffective_30 : decode b_X_workOutEffective 30 = .ok (.getfield 74, 3) := by decide +kernel
theorem dX_workOutEffective_33 : decode b_X_workOutEffective 33 = .ok (.if_icmp .ne 18, 3) := by decide +kernel
theorem dX_workOutEffective_36 : decode b_X_workOutEffective 36 = .ok (.aload 4, 2) := by decide +kernel
theorem dX_workOutEffective_38 : decode b_X_workOutEffective 38 = .ok (.getfield 63, 3) := by decide +kernel
theorem dX_workOutEffective_41 : decode b_X_workOutEffective 41 = .ok (.aload_n 0, 1) := by decide +kernel
theorem dX_workOutEffective_42 : decode b_X_workOutEffective 42 = .ok (.getfield 48, 3) := by decide +kernel
theorem dX_workOutEffective_45 : decode b_X_workOutEffective 45 = .ok (.invokestatic 42, 3) := by decide +kernel
theorem dX_workOutEffective_48 : decode b_X_workOutEffective 48 = .ok (.goto 8, 3) := by decide +kernel
theorem dX_workOutEffective_51 : decode b_X_workOutEffective 51 = .ok (.aload 4, 2) := by decide +kernel
theorem dX_workOutEffective_53 : decode b_X_workOutEffective 53 = .ok (.getfield 63, 3) := by decide +kernel
theorem dX_workOutEffective_56 : decode b_X_workOutEffective 56 = .ok (.putfield 163, 3) := by decide +kernel
theorem dX_workOutEffective_59 : decode b_X_workOutEffective 59 = .ok (.iinc 3 1, 3) := by decide +kernel
theorem dX_workOutEffective_62 : decode b_X_workOutEffective 62 = .ok (.goto (-52), 3) := by decide +kernel
theorem dX_workOutEffective_65 : decode b_X_workOutEffective 65 = .ok (.iconst 1, 1) := by decide +kernel
theorem dX_workOutEffective_66 : decode b_X_workOutEffective 66 = .ok (.istore_n 1, 1) := by decide +kernel
theorem dX_workOutEffective_67 : decode b_X_workOutEffective 67 = .ok (.iconst 0, 1) := by decide +kernel
theorem dX_workOutEffective_68 : decode b_X_workOutEffective 68 = .ok (.istore_n 2, 1) := by decide +kernel
theorem dX_workOutEffective_69 : decode b_X_workOutEffective 69 = .ok (.iload_n 2, 1) := by decide +kernel
theorem dX_workOutEffective_70 : decode b_X_workOutEffective 70 = .ok (.bipush 8, 2) := by decide +kernel
theorem dX_workOutEffective_72 : decode b_X_workOutEffective 72 = .ok (.if_icmp .ge 18, 3) := by decide +kernel
theorem dX_workOutEffective_75 : decode b_X_workOutEffective 75 = .ok (.iload_n 1, 1) := by decide +kernel
theorem dX_workOutEffective_76 : decode b_X_workOutEffective 76 = .ok (.ifCond .eq 14, 3) := by decide +kernel
theorem dX_workOutEffective_79 : decode b_X_workOutEffective 79 = .ok (.aload_n 0, 1) := by decide +kernel
theorem dX_workOutEffective_80 : decode b_X_workOutEffective 80 = .ok (.invokevirtual 185, 3) := by decide +kernel
theorem dX_workOutEffective_83 : decode b_X_workOutEffective 83 = .ok (.istore_n 1, 1) := by decide +kernel
theorem dX_workOutEffective_84 : decode b_X_workOutEffective 84 = .ok (.iinc 2 1, 3) := by decide +kernel
theorem dX_workOutEffective_87 : decode b_X_workOutEffective 87 = .ok (.goto (-18), 3) := by decide +kernel
theorem dX_workOutEffective_90 : decode b_X_workOutEffective 90 = .ok (.return_, 1) := by decide +kernel
theorem dX_foremost_0 : decode b_X_foremost 0 = .ok (.aload_n 0, 1) := by decide +kernel
theorem dX_foremost_1 : decode b_X_foremost 1 = .ok (.invokevirtual 160, 3) := by decide +kernel
theorem dX_foremost_4 : decode b_X_foremost 4 = .ok (.aconst_null, 1) := by decide +kernel
theorem dX_foremost_5 : decode b_X_foremost 5 = .ok (.astore_n 3, 1) := by decide +kernel
theorem dX_foremost_6 : decode b_X_foremost 6 = .ok (.aload_n 0, 1) := by decide +kernel
theorem dX_foremost_7 : decode b_X_foremost 7 = .ok (.getfield 11, 3) := by decide +kernel
theorem dX_foremost_10 : decode b_X_foremost 10 = .ok (.astore 4, 2) := by decide +kernel
theorem dX_foremost_12 : decode b_X_foremost 12 = .ok (.aload 4, 2) := by decide +kernel
theorem dX_foremost_14 : decode b_X_foremost 14 = .ok (.arraylength, 1) := by decide +kernel
theorem dX_foremost_15 : decode b_X_foremost 15 = .ok (.istore 5, 2) := by decide +kernel
theorem dX_foremost_17 : decode b_X_foremost 17 = .ok (.iconst 0, 1) := by decide +kernel
theorem dX_foremost_18 : decode b_X_foremost 18 = .ok (.istore 6, 2) := by decide +kernel
theorem dX_foremost_20 : decode b_X_foremost 20 = .ok (.iload 6, 2) := by decide +kernel
theorem dX_foremost_22 : decode b_X_foremost 22 = .ok (.iload 5, 2) := by decide +kernel
theorem dX_foremost_24 : decode b_X_foremost 24 = .ok (.if_icmp .ge 50, 3) := by decide +kernel
theorem dX_foremost_27 : decode b_X_foremost 27 = .ok (.aload 4, 2) := by decide +kernel
theorem dX_foremost_29 : decode b_X_foremost 29 = .ok (.iload 6, 2) := by decide +kernel
theorem dX_foremost_31 : decode b_X_foremost 31 = .ok (.aaload, 1) := by decide +kernel
theorem dX_foremost_32 : decode b_X_foremost 32 = .ok (.astore 7, 2) := by decide +kernel
theorem dX_foremost_34 : decode b_X_foremost 34 = .ok (.aload 7, 2) := by decide +kernel
theorem dX_foremost_36 : decode b_X_foremost 36 = .ok (.getfield 81, 3) := by decide +kernel
theorem dX_foremost_39 : decode b_X_foremost 39 = .ok (.iload_n 1, 1) := by decide +kernel
theorem dX_foremost_40 : decode b_X_foremost 40 = .ok (.if_icmp .ne 28, 3) := by decide +kernel
theorem dX_foremost_43 : decode b_X_foremost 43 = .ok (.aload 7, 2) := by decide +kernel
theorem dX_foremost_45 : decode b_X_foremost 45 = .ok (.getfield 166, 3) := by decide +kernel
theorem dX_foremost_48 : decode b_X_foremost 48 = .ok (.iload_n 2, 1) := by decide +kernel
theorem dX_foremost_49 : decode b_X_foremost 49 = .ok (.if_icmp .ne 19, 3) := by decide +kernel
theorem dX_foremost_52 : decode b_X_foremost 52 = .ok (.aload_n 3, 1) := by decide +kernel
theorem dX_foremost_53 : decode b_X_foremost 53 = .ok (.ifnull 12, 3) := by decide +kernel
theorem dX_foremost_56 : decode b_X_foremost 56 = .ok (.aload 7, 2) := by decide +kernel
theorem dX_foremost_58 : decode b_X_foremost 58 = .ok (.aload_n 3, 1) := by decide +kernel
theorem dX_foremost_59 : decode b_X_foremost 59 = .ok (.invokevirtual 182, 3) := by decide +kernel
theorem dX_foremost_62 : decode b_X_foremost 62 = .ok (.ifCond .eq 6, 3) := by decide +kernel
theorem dX_foremost_65 : decode b_X_foremost 65 = .ok (.aload 7, 2) := by decide +kernel
theorem dX_foremost_67 : decode b_X_foremost 67 = .ok (.astore_n 3, 1) := by decide +kernel
theorem dX_foremost_68 : decode b_X_foremost 68 = .ok (.iinc 6 1, 3) := by decide +kernel
theorem dX_foremost_71 : decode b_X_foremost 71 = .ok (.goto (-51), 3) := by decide +kernel
theorem dX_foremost_74 : decode b_X_foremost 74 = .ok (.aload_n 3, 1) := by decide +kernel
theorem dX_foremost_75 : decode b_X_foremost 75 = .ok (.areturn, 1) := by decide +kernel
theorem dX_runner_0 : decode b_X_runner 0 = .ok (.aload_n 0, 1) := by decide +kernel
theorem dX_runner_1 : decode b_X_runner 1 = .ok (.iconst 1, 1) := by decide +kernel
theorem dX_runner_2 : decode b_X_runner 2 = .ok (.iconst 0, 1) := by decide +kernel
theorem dX_runner_3 : decode b_X_runner 3 = .ok (.invokevirtual 178, 3) := by decide +kernel
theorem dX_runner_6 : decode b_X_runner 6 = .ok (.areturn, 1) := by decide +kernel
theorem dX_firstWaiter_0 : decode b_X_firstWaiter 0 = .ok (.aload_n 0, 1) := by decide +kernel
theorem dX_firstWaiter_1 : decode b_X_firstWaiter 1 = .ok (.iconst 2, 1) := by decide +kernel
theorem dX_firstWaiter_2 : decode b_X_firstWaiter 2 = .ok (.iload_n 1, 1) := by decide +kernel
theorem dX_firstWaiter_3 : decode b_X_firstWaiter 3 = .ok (.invokevirtual 178, 3) := by decide +kernel
theorem dX_firstWaiter_6 : decode b_X_firstWaiter 6 = .ok (.areturn, 1) := by decide +kernel
theorem dX_startTurn_0 : decode b_X_startTurn 0 = .ok (.aload_n 1, 1) := by decide +kernel
theorem dX_startTurn_1 : decode b_X_startTurn 1 = .ok (.aload_n 0, 1) := by decide +kernel
theorem dX_startTurn_2 : decode b_X_startTurn 2 = .ok (.dup, 1) := by decide +kernel
theorem dX_startTurn_3 : decode b_X_startTurn 3 = .ok (.getfield 32, 3) := by decide +kernel
theorem dX_startTurn_6 : decode b_X_startTurn 6 = .ok (.lconst 1, 1) := by decide +kernel
theorem dX_startTurn_7 : decode b_X_startTurn 7 = .ok (.ladd, 1) := by decide +kernel
theorem dX_startTurn_8 : decode b_X_startTurn 8 = .ok (.dup2_x1, 1) := by decide +kernel
theorem dX_startTurn_9 : decode b_X_startTurn 9 = .ok (.putfield 32, 3) := by decide +kernel
theorem dX_startTurn_12 : decode b_X_startTurn 12 = .ok (.putfield 84, 3) := by decide +kernel
theorem dX_startTurn_15 : decode b_X_startTurn 15 = .ok (.aload_n 1, 1) := by decide +kernel
theorem dX_startTurn_16 : decode b_X_startTurn 16 = .ok (.iconst 0, 1) := by decide +kernel
theorem dX_startTurn_17 : decode b_X_startTurn 17 = .ok (.putfield 192, 3) := by decide +kernel
theorem dX_startTurn_20 : decode b_X_startTurn 20 = .ok (.return_, 1) := by decide +kernel
theorem dX_makeReady_0 : decode b_X_makeReady 0 = .ok (.aload_n 1, 1) := by decide +kernel
theorem dX_makeReady_1 : decode b_X_makeReady 1 = .ok (.iconst 1, 1) := by decide +kernel
theorem dX_makeReady_2 : decode b_X_makeReady 2 = .ok (.putfield 81, 3) := by decide +kernel
theorem dX_makeReady_5 : decode b_X_makeReady 5 = .ok (.aload_n 1, 1) := by decide +kernel
theorem dX_makeReady_6 : decode b_X_makeReady 6 = .ok (.iconst 0, 1) := by decide +kernel
theorem dX_makeReady_7 : decode b_X_makeReady 7 = .ok (.putfield 166, 3) := by decide +kernel
theorem dX_makeReady_10 : decode b_X_makeReady 10 = .ok (.aload_n 1, 1) := by decide +kernel
theorem dX_makeReady_11 : decode b_X_makeReady 11 = .ok (.ldc2_w 137, 3) := by decide +kernel
theorem dX_makeReady_14 : decode b_X_makeReady 14 = .ok (.putfield 169, 3) := by decide +kernel
theorem dX_makeReady_17 : decode b_X_makeReady 17 = .ok (.aload_n 1, 1) := by decide +kernel
theorem dX_makeReady_18 : decode b_X_makeReady 18 = .ok (.iload_n 2, 1) := by decide +kernel
theorem dX_makeReady_19 : decode b_X_makeReady 19 = .ok (.putfield 124, 3) := by decide +kernel
theorem dX_makeReady_22 : decode b_X_makeReady 22 = .ok (.aload_n 1, 1) := by decide +kernel
theorem dX_makeReady_23 : decode b_X_makeReady 23 = .ok (.aload_n 0, 1) := by decide +kernel
theorem dX_makeReady_24 : decode b_X_makeReady 24 = .ok (.dup, 1) := by decide +kernel
theorem dX_makeReady_25 : decode b_X_makeReady 25 = .ok (.getfield 32, 3) := by decide +kernel
theorem dX_makeReady_28 : decode b_X_makeReady 28 = .ok (.lconst 1, 1) := by decide +kernel
theorem dX_makeReady_29 : decode b_X_makeReady 29 = .ok (.ladd, 1) := by decide +kernel
theorem dX_makeReady_30 : decode b_X_makeReady 30 = .ok (.dup2_x1, 1) := by decide +kernel
theorem dX_makeReady_31 : decode b_X_makeReady 31 = .ok (.putfield 32, 3) := by decide +kernel
theorem dX_makeReady_34 : decode b_X_makeReady 34 = .ok (.putfield 84, 3) := by decide +kernel
theorem dX_makeReady_37 : decode b_X_makeReady 37 = .ok (.aload_n 1, 1) := by decide +kernel
theorem dX_makeReady_38 : decode b_X_makeReady 38 = .ok (.iconst 0, 1) := by decide +kernel
theorem dX_makeReady_39 : decode b_X_makeReady 39 = .ok (.putfield 192, 3) := by decide +kernel
theorem dX_makeReady_42 : decode b_X_makeReady 42 = .ok (.return_, 1) := by decide +kernel
theorem dX_block_0 : decode b_X_block 0 = .ok (.aload_n 1, 1) := by decide +kernel
theorem dX_block_1 : decode b_X_block 1 = .ok (.iconst 2, 1) := by decide +kernel
theorem dX_block_2 : decode b_X_block 2 = .ok (.putfield 81, 3) := by decide +kernel
theorem dX_block_5 : decode b_X_block 5 = .ok (.aload_n 1, 1) := by decide +kernel
theorem dX_block_6 : decode b_X_block 6 = .ok (.iload_n 2, 1) := by decide +kernel
theorem dX_block_7 : decode b_X_block 7 = .ok (.putfield 166, 3) := by decide +kernel
theorem dX_block_10 : decode b_X_block 10 = .ok (.aload_n 1, 1) := by decide +kernel
theorem dX_block_11 : decode b_X_block 11 = .ok (.lload_n 3, 1) := by decide +kernel
theorem dX_block_12 : decode b_X_block 12 = .ok (.putfield 169, 3) := by decide +kernel
theorem dX_block_15 : decode b_X_block 15 = .ok (.aload_n 1, 1) := by decide +kernel
theorem dX_block_16 : decode b_X_block 16 = .ok (.aload_n 0, 1) := by decide +kernel
theorem dX_block_17 : decode b_X_block 17 = .ok (.dup, 1) := by decide +kernel
theorem dX_block_18 : decode b_X_block 18 = .ok (.getfield 32, 3) := by decide +kernel
theorem dX_block_21 : decode b_X_block 21 = .ok (.lconst 1, 1) := by decide +kernel
theorem dX_block_22 : decode b_X_block 22 = .ok (.ladd, 1) := by decide +kernel
theorem dX_block_23 : decode b_X_block 23 = .ok (.dup2_x1, 1) := by decide +kernel
theorem dX_block_24 : decode b_X_block 24 = .ok (.putfield 32, 3) := by decide +kernel
theorem dX_block_27 : decode b_X_block 27 = .ok (.putfield 84, 3) := by decide +kernel
theorem dX_block_30 : decode b_X_block 30 = .ok (.return_, 1) := by decide +kernel
theorem dX_makeOwner_0 : decode b_X_makeOwner 0 = .ok (.aload_n 0, 1) := by decide +kernel
theorem dX_makeOwner_1 : decode b_X_makeOwner 1 = .ok (.getfield 15, 3) := by decide +kernel
theorem dX_makeOwner_4 : decode b_X_makeOwner 4 = .ok (.iload_n 2, 1) := by decide +kernel
theorem dX_makeOwner_5 : decode b_X_makeOwner 5 = .ok (.aload_n 1, 1) := by decide +kernel
theorem dX_makeOwner_6 : decode b_X_makeOwner 6 = .ok (.getfield 74, 3) := by decide +kernel
theorem dX_makeOwner_9 : decode b_X_makeOwner 9 = .ok (.iastore, 1) := by decide +kernel
theorem dX_makeOwner_10 : decode b_X_makeOwner 10 = .ok (.aload_n 1, 1) := by decide +kernel
theorem dX_makeOwner_11 : decode b_X_makeOwner 11 = .ok (.getfield 81, 3) := by decide +kernel
theorem dX_makeOwner_14 : decode b_X_makeOwner 14 = .ok (.iconst 1, 1) := by decide +kernel
theorem dX_makeOwner_15 : decode b_X_makeOwner 15 = .ok (.if_icmp .ne 14, 3) := by decide +kernel
theorem dX_makeOwner_18 : decode b_X_makeOwner 18 = .ok (.aload_n 1, 1) := by decide +kernel
theorem dX_makeOwner_19 : decode b_X_makeOwner 19 = .ok (.aload_n 1, 1) := by decide +kernel
theorem dX_makeOwner_20 : decode b_X_makeOwner 20 = .ok (.getfield 94, 3) := by decide +kernel
theorem dX_makeOwner_23 : decode b_X_makeOwner 23 = .ok (.putfield 124, 3) := by decide +kernel
theorem dX_makeOwner_26 : decode b_X_makeOwner 26 = .ok (.goto 12, 3) := by decide +kernel
theorem dX_makeOwner_29 : decode b_X_makeOwner 29 = .ok (.aload_n 0, 1) := by decide +kernel
theorem dX_makeOwner_30 : decode b_X_makeOwner 30 = .ok (.aload_n 1, 1) := by decide +kernel
theorem dX_makeOwner_31 : decode b_X_makeOwner 31 = .ok (.aload_n 1, 1) := by decide +kernel
theorem dX_makeOwner_32 : decode b_X_makeOwner 32 = .ok (.getfield 94, 3) := by decide +kernel
theorem dX_makeOwner_35 : decode b_X_makeOwner 35 = .ok (.invokevirtual 70, 3) := by decide +kernel
theorem dX_makeOwner_38 : decode b_X_makeOwner 38 = .ok (.return_, 1) := by decide +kernel
theorem dX_take_0 : decode b_X_take 0 = .ok (.aload_n 0, 1) := by decide +kernel
theorem dX_take_1 : decode b_X_take 1 = .ok (.getfield 15, 3) := by decide +kernel
theorem dX_take_4 : decode b_X_take 4 = .ok (.iload_n 2, 1) := by decide +kernel
theorem dX_take_5 : decode b_X_take 5 = .ok (.iaload, 1) := by decide +kernel
theorem dX_take_6 : decode b_X_take 6 = .ok (.iconst (-1), 1) := by decide +kernel
theorem dX_take_7 : decode b_X_take 7 = .ok (.if_icmp .ne 12, 3) := by decide +kernel
theorem dX_take_10 : decode b_X_take 10 = .ok (.aload_n 0, 1) := by decide +kernel
theorem dX_take_11 : decode b_X_take 11 = .ok (.aload_n 1, 1) := by decide +kernel
theorem dX_take_12 : decode b_X_take 12 = .ok (.iload_n 2, 1) := by decide +kernel
theorem dX_take_13 : decode b_X_take 13 = .ok (.invokevirtual 195, 3) := by decide +kernel
theorem dX_take_16 : decode b_X_take 16 = .ok (.goto 15, 3) := by decide +kernel
theorem dX_take_19 : decode b_X_take 19 = .ok (.aload_n 0, 1) := by decide +kernel
theorem dX_take_20 : decode b_X_take 20 = .ok (.aload_n 1, 1) := by decide +kernel
theorem dX_take_21 : decode b_X_take 21 = .ok (.bipush 10, 2) := by decide +kernel
theorem dX_take_23 : decode b_X_take 23 = .ok (.iload_n 2, 1) := by decide +kernel
theorem dX_take_24 : decode b_X_take 24 = .ok (.iadd, 1) := by decide +kernel
theorem dX_take_25 : decode b_X_take 25 = .ok (.ldc2_w 137, 3) := by decide +kernel
theorem dX_take_28 : decode b_X_take 28 = .ok (.invokevirtual 113, 3) := by decide +kernel
theorem dX_take_31 : decode b_X_take 31 = .ok (.return_, 1) := by decide +kernel
theorem dX_give_0 : decode b_X_give 0 = .ok (.aload_n 0, 1) := by decide +kernel
theorem dX_give_1 : decode b_X_give 1 = .ok (.getfield 15, 3) := by decide +kernel
theorem dX_give_4 : decode b_X_give 4 = .ok (.iload_n 1, 1) := by decide +kernel
theorem dX_give_5 : decode b_X_give 5 = .ok (.iconst (-1), 1) := by decide +kernel
theorem dX_give_6 : decode b_X_give 6 = .ok (.iastore, 1) := by decide +kernel
theorem dX_give_7 : decode b_X_give 7 = .ok (.aload_n 0, 1) := by decide +kernel
theorem dX_give_8 : decode b_X_give 8 = .ok (.bipush 10, 2) := by decide +kernel
theorem dX_give_10 : decode b_X_give 10 = .ok (.iload_n 1, 1) := by decide +kernel
theorem dX_give_11 : decode b_X_give 11 = .ok (.iadd, 1) := by decide +kernel
theorem dX_give_12 : decode b_X_give 12 = .ok (.invokevirtual 117, 3) := by decide +kernel
theorem dX_give_15 : decode b_X_give 15 = .ok (.astore_n 2, 1) := by decide +kernel
theorem dX_give_16 : decode b_X_give 16 = .ok (.aload_n 2, 1) := by decide +kernel
theorem dX_give_17 : decode b_X_give 17 = .ok (.ifnull 9, 3) := by decide +kernel
theorem dX_give_20 : decode b_X_give 20 = .ok (.aload_n 0, 1) := by decide +kernel
theorem dX_give_21 : decode b_X_give 21 = .ok (.aload_n 2, 1) := by decide +kernel
theorem dX_give_22 : decode b_X_give 22 = .ok (.iload_n 1, 1) := by decide +kernel
theorem dX_give_23 : decode b_X_give 23 = .ok (.invokevirtual 195, 3) := by decide +kernel
theorem dX_give_26 : decode b_X_give 26 = .ok (.return_, 1) := by decide +kernel
theorem dX_endAwait_0 : decode b_X_endAwait 0 = .ok (.aload_n 1, 1) := by decide +kernel
theorem dX_endAwait_1 : decode b_X_endAwait 1 = .ok (.iload_n 2, 1) := by decide +kernel
theorem dX_endAwait_2 : decode b_X_endAwait 2 = .ok (.putfield 124, 3) := by decide +kernel
theorem dX_endAwait_5 : decode b_X_endAwait 5 = .ok (.aload_n 1, 1) := by decide +kernel
theorem dX_endAwait_6 : decode b_X_endAwait 6 = .ok (.iload_n 2, 1) := by decide +kernel
theorem dX_endAwait_7 : decode b_X_endAwait 7 = .ok (.putfield 94, 3) := by decide +kernel
theorem dX_endAwait_10 : decode b_X_endAwait 10 = .ok (.aload_n 0, 1) := by decide +kernel
theorem dX_endAwait_11 : decode b_X_endAwait 11 = .ok (.aload_n 1, 1) := by decide +kernel
theorem dX_endAwait_12 : decode b_X_endAwait 12 = .ok (.aload_n 1, 1) := by decide +kernel
theorem dX_endAwait_13 : decode b_X_endAwait 13 = .ok (.getfield 106, 3) := by decide +kernel
theorem dX_endAwait_16 : decode b_X_endAwait 16 = .ok (.invokevirtual 97, 3) := by decide +kernel
theorem dX_endAwait_19 : decode b_X_endAwait 19 = .ok (.return_, 1) := by decide +kernel
theorem dX_arrive_0 : decode b_X_arrive 0 = .ok (.aload_n 0, 1) := by decide +kernel
theorem dX_arrive_1 : decode b_X_arrive 1 = .ok (.bipush 50, 2) := by decide +kernel
theorem dX_arrive_3 : decode b_X_arrive 3 = .ok (.iload_n 1, 1) := by decide +kernel
theorem dX_arrive_4 : decode b_X_arrive 4 = .ok (.iadd, 1) := by decide +kernel
theorem dX_arrive_5 : decode b_X_arrive 5 = .ok (.invokevirtual 117, 3) := by decide +kernel
theorem dX_arrive_8 : decode b_X_arrive 8 = .ok (.astore 4, 2) := by decide +kernel
theorem dX_arrive_10 : decode b_X_arrive 10 = .ok (.aload 4, 2) := by decide +kernel
theorem dX_arrive_12 : decode b_X_arrive 12 = .ok (.ifnull 13, 3) := by decide +kernel
theorem dX_arrive_15 : decode b_X_arrive 15 = .ok (.aload_n 0, 1) := by decide +kernel
theorem dX_arrive_16 : decode b_X_arrive 16 = .ok (.aload 4, 2) := by decide +kernel
theorem dX_arrive_18 : decode b_X_arrive 18 = .ok (.iload_n 3, 1) := by decide +kernel
theorem dX_arrive_19 : decode b_X_arrive 19 = .ok (.invokevirtual 70, 3) := by decide +kernel
theorem dX_arrive_22 : decode b_X_arrive 22 = .ok (.goto 14, 3) := by decide +kernel
theorem dX_arrive_25 : decode b_X_arrive 25 = .ok (.aload_n 0, 1) := by decide +kernel
theorem dX_arrive_26 : decode b_X_arrive 26 = .ok (.getfield 24, 3) := by decide +kernel
theorem dX_arrive_29 : decode b_X_arrive 29 = .ok (.iload_n 1, 1) := by decide +kernel
theorem dX_arrive_30 : decode b_X_arrive 30 = .ok (.aaload, 1) := by decide +kernel
theorem dX_arrive_31 : decode b_X_arrive 31 = .ok (.iload_n 2, 1) := by decide +kernel
theorem dX_arrive_32 : decode b_X_arrive 32 = .ok (.iload_n 3, 1) := by decide +kernel
theorem dX_arrive_33 : decode b_X_arrive 33 = .ok (.invokevirtual 198, 3) := by decide +kernel
theorem dX_arrive_36 : decode b_X_arrive 36 = .ok (.return_, 1) := by decide +kernel
theorem dX_useTick_0 : decode b_X_useTick 0 = .ok (.aload_n 1, 1) := by decide +kernel
theorem dX_useTick_1 : decode b_X_useTick 1 = .ok (.dup, 1) := by decide +kernel
theorem dX_useTick_2 : decode b_X_useTick 2 = .ok (.getfield 192, 3) := by decide +kernel
theorem dX_useTick_5 : decode b_X_useTick 5 = .ok (.iconst 1, 1) := by decide +kernel
theorem dX_useTick_6 : decode b_X_useTick 6 = .ok (.iadd, 1) := by decide +kernel
theorem dX_useTick_7 : decode b_X_useTick 7 = .ok (.putfield 192, 3) := by decide +kernel
theorem dX_useTick_10 : decode b_X_useTick 10 = .ok (.aload_n 1, 1) := by decide +kernel
theorem dX_useTick_11 : decode b_X_useTick 11 = .ok (.getfield 66, 3) := by decide +kernel
theorem dX_useTick_14 : decode b_X_useTick 14 = .ok (.ifCond .eq 19, 3) := by decide +kernel
theorem dX_useTick_17 : decode b_X_useTick 17 = .ok (.aload_n 1, 1) := by decide +kernel
theorem dX_useTick_18 : decode b_X_useTick 18 = .ok (.getfield 192, 3) := by decide +kernel
theorem dX_useTick_21 : decode b_X_useTick 21 = .ok (.aload_n 0, 1) := by decide +kernel
theorem dX_useTick_22 : decode b_X_useTick 22 = .ok (.getfield 45, 3) := by decide +kernel
theorem dX_useTick_25 : decode b_X_useTick 25 = .ok (.if_icmp .ne 8, 3) := by decide +kernel
theorem dX_useTick_28 : decode b_X_useTick 28 = .ok (.aload_n 0, 1) := by decide +kernel
theorem dX_useTick_29 : decode b_X_useTick 29 = .ok (.aload_n 1, 1) := by decide +kernel
theorem dX_useTick_30 : decode b_X_useTick 30 = .ok (.invokevirtual 90, 3) := by decide +kernel
theorem dX_useTick_33 : decode b_X_useTick 33 = .ok (.return_, 1) := by decide +kernel
theorem dX_endWait_0 : decode b_X_endWait 0 = .ok (.aload_n 1, 1) := by decide +kernel
theorem dX_endWait_1 : decode b_X_endWait 1 = .ok (.getfield 166, 3) := by decide +kernel
theorem dX_endWait_4 : decode b_X_endWait 4 = .ok (.bipush 60, 2) := by decide +kernel
theorem dX_endWait_6 : decode b_X_endWait 6 = .ok (.if_icmp .ne 12, 3) := by decide +kernel
theorem dX_endWait_9 : decode b_X_endWait 9 = .ok (.aload_n 0, 1) := by decide +kernel
theorem dX_endWait_10 : decode b_X_endWait 10 = .ok (.aload_n 1, 1) := by decide +kernel
theorem dX_endWait_11 : decode b_X_endWait 11 = .ok (.iconst 0, 1) := by decide +kernel
theorem dX_endWait_12 : decode b_X_endWait 12 = .ok (.invokevirtual 70, 3) := by decide +kernel
theorem dX_endWait_15 : decode b_X_endWait 15 = .ok (.goto 32, 3) := by decide +kernel
theorem dX_endWait_18 : decode b_X_endWait 18 = .ok (.aload_n 1, 1) := by decide +kernel
theorem dX_endWait_19 : decode b_X_endWait 19 = .ok (.getfield 166, 3) := by decide +kernel
theorem dX_endWait_22 : decode b_X_endWait 22 = .ok (.bipush 20, 2) := by decide +kernel
theorem dX_endWait_24 : decode b_X_endWait 24 = .ok (.isub, 1) := by decide +kernel
theorem dX_endWait_25 : decode b_X_endWait 25 = .ok (.iconst 2, 1) := by decide +kernel
theorem dX_endWait_26 : decode b_X_endWait 26 = .ok (.invokestatic 77, 3) := by decide +kernel
theorem dX_endWait_29 : decode b_X_endWait 29 = .ok (.ifCond .eq 12, 3) := by decide +kernel
theorem dX_endWait_32 : decode b_X_endWait 32 = .ok (.aload_n 0, 1) := by decide +kernel
theorem dX_endWait_33 : decode b_X_endWait 33 = .ok (.aload_n 1, 1) := by decide +kernel
theorem dX_endWait_34 : decode b_X_endWait 34 = .ok (.iconst 2, 1) := by decide +kernel
theorem dX_endWait_35 : decode b_X_endWait 35 = .ok (.invokevirtual 121, 3) := by decide +kernel
theorem dX_endWait_38 : decode b_X_endWait 38 = .ok (.goto 9, 3) := by decide +kernel
theorem dX_endWait_41 : decode b_X_endWait 41 = .ok (.aload_n 0, 1) := by decide +kernel
theorem dX_endWait_42 : decode b_X_endWait 42 = .ok (.aload_n 1, 1) := by decide +kernel
theorem dX_endWait_43 : decode b_X_endWait 43 = .ok (.iconst 2, 1) := by decide +kernel
theorem dX_endWait_44 : decode b_X_endWait 44 = .ok (.invokevirtual 70, 3) := by decide +kernel
theorem dX_endWait_47 : decode b_X_endWait 47 = .ok (.return_, 1) := by decide +kernel
theorem dX_tickOnce_0 : decode b_X_tickOnce 0 = .ok (.aload_n 0, 1) := by decide +kernel
theorem dX_tickOnce_1 : decode b_X_tickOnce 1 = .ok (.invokevirtual 87, 3) := by decide +kernel
theorem dX_tickOnce_4 : decode b_X_tickOnce 4 = .ok (.astore_n 1, 1) := by decide +kernel
theorem dX_tickOnce_5 : decode b_X_tickOnce 5 = .ok (.aload_n 0, 1) := by decide +kernel
theorem dX_tickOnce_6 : decode b_X_tickOnce 6 = .ok (.dup, 1) := by decide +kernel
theorem dX_tickOnce_7 : decode b_X_tickOnce 7 = .ok (.getfield 28, 3) := by decide +kernel
theorem dX_tickOnce_10 : decode b_X_tickOnce 10 = .ok (.iconst 1, 1) := by decide +kernel
theorem dX_tickOnce_11 : decode b_X_tickOnce 11 = .ok (.iadd, 1) := by decide +kernel
theorem dX_tickOnce_12 : decode b_X_tickOnce 12 = .ok (.putfield 28, 3) := by decide +kernel
theorem dX_tickOnce_15 : decode b_X_tickOnce 15 = .ok (.aload_n 1, 1) := by decide +kernel
theorem dX_tickOnce_16 : decode b_X_tickOnce 16 = .ok (.ifnull 8, 3) := by decide +kernel
theorem dX_tickOnce_19 : decode b_X_tickOnce 19 = .ok (.aload_n 0, 1) := by decide +kernel
theorem dX_tickOnce_20 : decode b_X_tickOnce 20 = .ok (.aload_n 1, 1) := by decide +kernel
theorem dX_tickOnce_21 : decode b_X_tickOnce 21 = .ok (.invokevirtual 202, 3) := by decide +kernel
theorem dX_tickOnce_24 : decode b_X_tickOnce 24 = .ok (.aload_n 0, 1) := by decide +kernel
theorem dX_tickOnce_25 : decode b_X_tickOnce 25 = .ok (.getfield 11, 3) := by decide +kernel
theorem dX_tickOnce_28 : decode b_X_tickOnce 28 = .ok (.astore_n 2, 1) := by decide +kernel
theorem dX_tickOnce_29 : decode b_X_tickOnce 29 = .ok (.aload_n 2, 1) := by decide +kernel
theorem dX_tickOnce_30 : decode b_X_tickOnce 30 = .ok (.arraylength, 1) := by decide +kernel
theorem dX_tickOnce_31 : decode b_X_tickOnce 31 = .ok (.istore_n 3, 1) := by decide +kernel
theorem dX_tickOnce_32 : decode b_X_tickOnce 32 = .ok (.iconst 0, 1) := by decide +kernel
theorem dX_tickOnce_33 : decode b_X_tickOnce 33 = .ok (.istore 4, 2) := by decide +kernel
theorem dX_tickOnce_35 : decode b_X_tickOnce 35 = .ok (.iload 4, 2) := by decide +kernel
theorem dX_tickOnce_37 : decode b_X_tickOnce 37 = .ok (.iload_n 3, 1) := by decide +kernel
theorem dX_tickOnce_38 : decode b_X_tickOnce 38 = .ok (.if_icmp .ge 35, 3) := by decide +kernel
theorem dX_tickOnce_41 : decode b_X_tickOnce 41 = .ok (.aload_n 2, 1) := by decide +kernel
theorem dX_tickOnce_42 : decode b_X_tickOnce 42 = .ok (.iload 4, 2) := by decide +kernel
theorem dX_tickOnce_44 : decode b_X_tickOnce 44 = .ok (.aaload, 1) := by decide +kernel
theorem dX_tickOnce_45 : decode b_X_tickOnce 45 = .ok (.astore 5, 2) := by decide +kernel
theorem dX_tickOnce_47 : decode b_X_tickOnce 47 = .ok (.aload 5, 2) := by decide +kernel
theorem dX_tickOnce_49 : decode b_X_tickOnce 49 = .ok (.getfield 169, 3) := by decide +kernel
theorem dX_tickOnce_52 : decode b_X_tickOnce 52 = .ok (.aload_n 0, 1) := by decide +kernel
theorem dX_tickOnce_53 : decode b_X_tickOnce 53 = .ok (.getfield 28, 3) := by decide +kernel
theorem dX_tickOnce_56 : decode b_X_tickOnce 56 = .ok (.i2l, 1) := by decide +kernel
theorem dX_tickOnce_57 : decode b_X_tickOnce 57 = .ok (.lcmp, 1) := by decide +kernel
theorem dX_tickOnce_58 : decode b_X_tickOnce 58 = .ok (.ifCond .ne 9, 3) := by decide +kernel
theorem dX_tickOnce_61 : decode b_X_tickOnce 61 = .ok (.aload_n 0, 1) := by decide +kernel
theorem dX_tickOnce_62 : decode b_X_tickOnce 62 = .ok (.aload 5, 2) := by decide +kernel
theorem dX_tickOnce_64 : decode b_X_tickOnce 64 = .ok (.invokevirtual 205, 3) := by decide +kernel
theorem dX_tickOnce_67 : decode b_X_tickOnce 67 = .ok (.iinc 4 1, 3) := by decide +kernel
theorem dX_tickOnce_70 : decode b_X_tickOnce 70 = .ok (.goto (-35), 3) := by decide +kernel
theorem dX_tickOnce_73 : decode b_X_tickOnce 73 = .ok (.return_, 1) := by decide +kernel
theorem dX_leastFree_0 : decode b_X_leastFree 0 = .ok (.aload_n 0, 1) := by decide +kernel
theorem dX_leastFree_1 : decode b_X_leastFree 1 = .ok (.getfield 11, 3) := by decide +kernel
theorem dX_leastFree_4 : decode b_X_leastFree 4 = .ok (.astore_n 1, 1) := by decide +kernel
theorem dX_leastFree_5 : decode b_X_leastFree 5 = .ok (.aload_n 1, 1) := by decide +kernel
theorem dX_leastFree_6 : decode b_X_leastFree 6 = .ok (.arraylength, 1) := by decide +kernel
theorem dX_leastFree_7 : decode b_X_leastFree 7 = .ok (.istore_n 2, 1) := by decide +kernel
theorem dX_leastFree_8 : decode b_X_leastFree 8 = .ok (.iconst 0, 1) := by decide +kernel
theorem dX_leastFree_9 : decode b_X_leastFree 9 = .ok (.istore_n 3, 1) := by decide +kernel
theorem dX_leastFree_10 : decode b_X_leastFree 10 = .ok (.iload_n 3, 1) := by decide +kernel
theorem dX_leastFree_11 : decode b_X_leastFree 11 = .ok (.iload_n 2, 1) := by decide +kernel
theorem dX_leastFree_12 : decode b_X_leastFree 12 = .ok (.if_icmp .ge 25, 3) := by decide +kernel
theorem dX_leastFree_15 : decode b_X_leastFree 15 = .ok (.aload_n 1, 1) := by decide +kernel
theorem dX_leastFree_16 : decode b_X_leastFree 16 = .ok (.iload_n 3, 1) := by decide +kernel
theorem dX_leastFree_17 : decode b_X_leastFree 17 = .ok (.aaload, 1) := by decide +kernel
theorem dX_leastFree_18 : decode b_X_leastFree 18 = .ok (.astore 4, 2) := by decide +kernel
theorem dX_leastFree_20 : decode b_X_leastFree 20 = .ok (.aload 4, 2) := by decide +kernel
theorem dX_leastFree_22 : decode b_X_leastFree 22 = .ok (.getfield 81, 3) := by decide +kernel
theorem dX_leastFree_25 : decode b_X_leastFree 25 = .ok (.ifCond .ne 6, 3) := by decide +kernel
theorem dX_leastFree_28 : decode b_X_leastFree 28 = .ok (.aload 4, 2) := by decide +kernel
theorem dX_leastFree_30 : decode b_X_leastFree 30 = .ok (.areturn, 1) := by decide +kernel
theorem dX_leastFree_31 : decode b_X_leastFree 31 = .ok (.iinc 3 1, 3) := by decide +kernel
theorem dX_leastFree_34 : decode b_X_leastFree 34 = .ok (.goto (-24), 3) := by decide +kernel
theorem dX_leastFree_37 : decode b_X_leastFree 37 = .ok (.aconst_null, 1) := by decide +kernel
theorem dX_leastFree_38 : decode b_X_leastFree 38 = .ok (.areturn, 1) := by decide +kernel
theorem dX_readyThreads_0 : decode b_X_readyThreads 0 = .ok (.iconst 0, 1) := by decide +kernel
theorem dX_readyThreads_1 : decode b_X_readyThreads 1 = .ok (.istore_n 1, 1) := by decide +kernel
theorem dX_readyThreads_2 : decode b_X_readyThreads 2 = .ok (.aload_n 0, 1) := by decide +kernel
theorem dX_readyThreads_3 : decode b_X_readyThreads 3 = .ok (.getfield 11, 3) := by decide +kernel
theorem dX_readyThreads_6 : decode b_X_readyThreads 6 = .ok (.astore_n 2, 1) := by decide +kernel
theorem dX_readyThreads_7 : decode b_X_readyThreads 7 = .ok (.aload_n 2, 1) := by decide +kernel
theorem dX_readyThreads_8 : decode b_X_readyThreads 8 = .ok (.arraylength, 1) := by decide +kernel
theorem dX_readyThreads_9 : decode b_X_readyThreads 9 = .ok (.istore_n 3, 1) := by decide +kernel
theorem dX_readyThreads_10 : decode b_X_readyThreads 10 = .ok (.iconst 0, 1) := by decide +kernel
theorem dX_readyThreads_11 : decode b_X_readyThreads 11 = .ok (.istore 4, 2) := by decide +kernel
theorem dX_readyThreads_13 : decode b_X_readyThreads 13 = .ok (.iload 4, 2) := by decide +kernel
theorem dX_readyThreads_15 : decode b_X_readyThreads 15 = .ok (.iload_n 3, 1) := by decide +kernel
theorem dX_readyThreads_16 : decode b_X_readyThreads 16 = .ok (.if_icmp .ge 27, 3) := by decide +kernel
theorem dX_readyThreads_19 : decode b_X_readyThreads 19 = .ok (.aload_n 2, 1) := by decide +kernel
theorem dX_readyThreads_20 : decode b_X_readyThreads 20 = .ok (.iload 4, 2) := by decide +kernel
theorem dX_readyThreads_22 : decode b_X_readyThreads 22 = .ok (.aaload, 1) := by decide +kernel
theorem dX_readyThreads_23 : decode b_X_readyThreads 23 = .ok (.astore 5, 2) := by decide +kernel
theorem dX_readyThreads_25 : decode b_X_readyThreads 25 = .ok (.aload 5, 2) := by decide +kernel
theorem dX_readyThreads_27 : decode b_X_readyThreads 27 = .ok (.getfield 81, 3) := by decide +kernel
theorem dX_readyThreads_30 : decode b_X_readyThreads 30 = .ok (.iconst 1, 1) := by decide +kernel
theorem dX_readyThreads_31 : decode b_X_readyThreads 31 = .ok (.if_icmp .ne 6, 3) := by decide +kernel
theorem dX_readyThreads_34 : decode b_X_readyThreads 34 = .ok (.iinc 1 1, 3) := by decide +kernel
theorem dX_readyThreads_37 : decode b_X_readyThreads 37 = .ok (.iinc 4 1, 3) := by decide +kernel
theorem dX_readyThreads_40 : decode b_X_readyThreads 40 = .ok (.goto (-27), 3) := by decide +kernel
theorem dX_readyThreads_43 : decode b_X_readyThreads 43 = .ok (.iload_n 1, 1) := by decide +kernel
theorem dX_readyThreads_44 : decode b_X_readyThreads 44 = .ok (.ireturn, 1) := by decide +kernel
theorem dX_ownsAny_0 : decode b_X_ownsAny 0 = .ok (.aload_n 0, 1) := by decide +kernel
theorem dX_ownsAny_1 : decode b_X_ownsAny 1 = .ok (.getfield 15, 3) := by decide +kernel
theorem dX_ownsAny_4 : decode b_X_ownsAny 4 = .ok (.astore_n 2, 1) := by decide +kernel
theorem dX_ownsAny_5 : decode b_X_ownsAny 5 = .ok (.aload_n 2, 1) := by decide +kernel
theorem dX_ownsAny_6 : decode b_X_ownsAny 6 = .ok (.arraylength, 1) := by decide +kernel
theorem dX_ownsAny_7 : decode b_X_ownsAny 7 = .ok (.istore_n 3, 1) := by decide +kernel
theorem dX_ownsAny_8 : decode b_X_ownsAny 8 = .ok (.iconst 0, 1) := by decide +kernel
theorem dX_ownsAny_9 : decode b_X_ownsAny 9 = .ok (.istore 4, 2) := by decide +kernel
theorem dX_ownsAny_11 : decode b_X_ownsAny 11 = .ok (.iload 4, 2) := by decide +kernel
theorem dX_ownsAny_13 : decode b_X_ownsAny 13 = .ok (.iload_n 3, 1) := by decide +kernel
theorem dX_ownsAny_14 : decode b_X_ownsAny 14 = .ok (.if_icmp .ge 26, 3) := by decide +kernel
theorem dX_ownsAny_17 : decode b_X_ownsAny 17 = .ok (.aload_n 2, 1) := by decide +kernel
theorem dX_ownsAny_18 : decode b_X_ownsAny 18 = .ok (.iload 4, 2) := by decide +kernel
theorem dX_ownsAny_20 : decode b_X_ownsAny 20 = .ok (.iaload, 1) := by decide +kernel
theorem dX_ownsAny_21 : decode b_X_ownsAny 21 = .ok (.istore 5, 2) := by decide +kernel
theorem dX_ownsAny_23 : decode b_X_ownsAny 23 = .ok (.iload 5, 2) := by decide +kernel
theorem dX_ownsAny_25 : decode b_X_ownsAny 25 = .ok (.aload_n 1, 1) := by decide +kernel
theorem dX_ownsAny_26 : decode b_X_ownsAny 26 = .ok (.getfield 74, 3) := by decide +kernel
theorem dX_ownsAny_29 : decode b_X_ownsAny 29 = .ok (.if_icmp .ne 5, 3) := by decide +kernel
theorem dX_ownsAny_32 : decode b_X_ownsAny 32 = .ok (.iconst 1, 1) := by decide +kernel
theorem dX_ownsAny_33 : decode b_X_ownsAny 33 = .ok (.ireturn, 1) := by decide +kernel
theorem dX_ownsAny_34 : decode b_X_ownsAny 34 = .ok (.iinc 4 1, 3) := by decide +kernel
theorem dX_ownsAny_37 : decode b_X_ownsAny 37 = .ok (.goto (-26), 3) := by decide +kernel
theorem dX_ownsAny_40 : decode b_X_ownsAny 40 = .ok (.iconst 0, 1) := by decide +kernel
theorem dX_ownsAny_41 : decode b_X_ownsAny 41 = .ok (.ireturn, 1) := by decide +kernel
theorem dX_spawn_0 : decode b_X_spawn 0 = .ok (.iload_n 1, 1) := by decide +kernel
theorem dX_spawn_1 : decode b_X_spawn 1 = .ok (.invokestatic 55, 3) := by decide +kernel
theorem dX_spawn_4 : decode b_X_spawn 4 = .ok (.ifCond .ne 5, 3) := by decide +kernel
theorem dX_spawn_7 : decode b_X_spawn 7 = .ok (.iconst (-1), 1) := by decide +kernel
theorem dX_spawn_8 : decode b_X_spawn 8 = .ok (.ireturn, 1) := by decide +kernel
theorem dX_spawn_9 : decode b_X_spawn 9 = .ok (.aload_n 0, 1) := by decide +kernel
theorem dX_spawn_10 : decode b_X_spawn 10 = .ok (.invokevirtual 59, 3) := by decide +kernel
theorem dX_spawn_13 : decode b_X_spawn 13 = .ok (.astore_n 3, 1) := by decide +kernel
theorem dX_spawn_14 : decode b_X_spawn 14 = .ok (.aload_n 3, 1) := by decide +kernel
theorem dX_spawn_15 : decode b_X_spawn 15 = .ok (.ifnonnull 5, 3) := by decide +kernel
theorem dX_spawn_18 : decode b_X_spawn 18 = .ok (.iconst (-1), 1) := by decide +kernel
theorem dX_spawn_19 : decode b_X_spawn 19 = .ok (.ireturn, 1) := by decide +kernel
theorem dX_spawn_20 : decode b_X_spawn 20 = .ok (.aload_n 3, 1) := by decide +kernel
theorem dX_spawn_21 : decode b_X_spawn 21 = .ok (.iload_n 1, 1) := by decide +kernel
theorem dX_spawn_22 : decode b_X_spawn 22 = .ok (.putfield 63, 3) := by decide +kernel
theorem dX_spawn_25 : decode b_X_spawn 25 = .ok (.aload_n 3, 1) := by decide +kernel
theorem dX_spawn_26 : decode b_X_spawn 26 = .ok (.iload_n 2, 1) := by decide +kernel
theorem dX_spawn_27 : decode b_X_spawn 27 = .ok (.putfield 66, 3) := by decide +kernel
theorem dX_spawn_30 : decode b_X_spawn 30 = .ok (.aload_n 0, 1) := by decide +kernel
theorem dX_spawn_31 : decode b_X_spawn 31 = .ok (.aload_n 3, 1) := by decide +kernel
theorem dX_spawn_32 : decode b_X_spawn 32 = .ok (.iconst 0, 1) := by decide +kernel
theorem dX_spawn_33 : decode b_X_spawn 33 = .ok (.invokevirtual 70, 3) := by decide +kernel
theorem dX_spawn_36 : decode b_X_spawn 36 = .ok (.aload_n 3, 1) := by decide +kernel
theorem dX_spawn_37 : decode b_X_spawn 37 = .ok (.getfield 74, 3) := by decide +kernel
theorem dX_spawn_40 : decode b_X_spawn 40 = .ok (.ireturn, 1) := by decide +kernel
theorem dX_priority_0 : decode b_X_priority 0 = .ok (.iload_n 1, 1) := by decide +kernel
theorem dX_priority_1 : decode b_X_priority 1 = .ok (.bipush 8, 2) := by decide +kernel
theorem dX_priority_3 : decode b_X_priority 3 = .ok (.invokestatic 77, 3) := by decide +kernel
theorem dX_priority_6 : decode b_X_priority 6 = .ok (.ifCond .eq 10, 3) := by decide +kernel
theorem dX_priority_9 : decode b_X_priority 9 = .ok (.iload_n 2, 1) := by decide +kernel
theorem dX_priority_10 : decode b_X_priority 10 = .ok (.invokestatic 55, 3) := by decide +kernel
theorem dX_priority_13 : decode b_X_priority 13 = .ok (.ifCond .ne 5, 3) := by decide +kernel
theorem dX_priority_16 : decode b_X_priority 16 = .ok (.iconst (-1), 1) := by decide +kernel
theorem dX_priority_17 : decode b_X_priority 17 = .ok (.ireturn, 1) := by decide +kernel
theorem dX_priority_18 : decode b_X_priority 18 = .ok (.aload_n 0, 1) := by decide +kernel
theorem dX_priority_19 : decode b_X_priority 19 = .ok (.getfield 11, 3) := by decide +kernel
theorem dX_priority_22 : decode b_X_priority 22 = .ok (.iload_n 1, 1) := by decide +kernel
theorem dX_priority_23 : decode b_X_priority 23 = .ok (.aaload, 1) := by decide +kernel
theorem dX_priority_24 : decode b_X_priority 24 = .ok (.astore_n 3, 1) := by decide +kernel
theorem dX_priority_25 : decode b_X_priority 25 = .ok (.aload_n 3, 1) := by decide +kernel
theorem dX_priority_26 : decode b_X_priority 26 = .ok (.getfield 81, 3) := by decide +kernel
theorem dX_priority_29 : decode b_X_priority 29 = .ok (.ifCond .eq 11, 3) := by decide +kernel
theorem dX_priority_32 : decode b_X_priority 32 = .ok (.aload_n 3, 1) := by decide +kernel
theorem dX_priority_33 : decode b_X_priority 33 = .ok (.getfield 81, 3) := by decide +kernel
theorem dX_priority_36 : decode b_X_priority 36 = .ok (.iconst 3, 1) := by decide +kernel
theorem dX_priority_37 : decode b_X_priority 37 = .ok (.if_icmp .ne 5, 3) := by decide +kernel
theorem dX_priority_40 : decode b_X_priority 40 = .ok (.iconst (-1), 1) := by decide +kernel
theorem dX_priority_41 : decode b_X_priority 41 = .ok (.ireturn, 1) := by decide +kernel
theorem dX_priority_42 : decode b_X_priority 42 = .ok (.aload_n 0, 1) := by decide +kernel
theorem dX_priority_43 : decode b_X_priority 43 = .ok (.getfield 15, 3) := by decide +kernel
theorem dX_priority_46 : decode b_X_priority 46 = .ok (.iconst 3, 1) := by decide +kernel
theorem dX_priority_47 : decode b_X_priority 47 = .ok (.iaload, 1) := by decide +kernel
theorem dX_priority_48 : decode b_X_priority 48 = .ok (.iload_n 1, 1) := by decide +kernel
theorem dX_priority_49 : decode b_X_priority 49 = .ok (.if_icmp .ne 13, 3) := by decide +kernel
theorem dX_priority_52 : decode b_X_priority 52 = .ok (.iload_n 2, 1) := by decide +kernel
theorem dX_priority_53 : decode b_X_priority 53 = .ok (.aload_n 0, 1) := by decide +kernel
theorem dX_priority_54 : decode b_X_priority 54 = .ok (.getfield 48, 3) := by decide +kernel
theorem dX_priority_57 : decode b_X_priority 57 = .ok (.if_icmp .le 5, 3) := by decide +kernel
theorem dX_priority_60 : decode b_X_priority 60 = .ok (.iconst (-1), 1) := by decide +kernel
theorem dX_priority_61 : decode b_X_priority 61 = .ok (.ireturn, 1) := by decide +kernel
theorem dX_priority_62 : decode b_X_priority 62 = .ok (.aload_n 3, 1) := by decide +kernel
theorem dX_priority_63 : decode b_X_priority 63 = .ok (.iload_n 2, 1) := by decide +kernel
theorem dX_priority_64 : decode b_X_priority 64 = .ok (.putfield 63, 3) := by decide +kernel
theorem dX_priority_67 : decode b_X_priority 67 = .ok (.aload_n 3, 1) := by decide +kernel
theorem dX_priority_68 : decode b_X_priority 68 = .ok (.getfield 81, 3) := by decide +kernel
theorem dX_priority_71 : decode b_X_priority 71 = .ok (.iconst 1, 1) := by decide +kernel
theorem dX_priority_72 : decode b_X_priority 72 = .ok (.if_icmp .ne 18, 3) := by decide +kernel
theorem dX_priority_75 : decode b_X_priority 75 = .ok (.aload_n 3, 1) := by decide +kernel
theorem dX_priority_76 : decode b_X_priority 76 = .ok (.aload_n 0, 1) := by decide +kernel
theorem dX_priority_77 : decode b_X_priority 77 = .ok (.dup, 1) := by decide +kernel
theorem dX_priority_78 : decode b_X_priority 78 = .ok (.getfield 32, 3) := by decide +kernel
theorem dX_priority_81 : decode b_X_priority 81 = .ok (.lconst 1, 1) := by decide +kernel
theorem dX_priority_82 : decode b_X_priority 82 = .ok (.ladd, 1) := by decide +kernel
theorem dX_priority_83 : decode b_X_priority 83 = .ok (.dup2_x1, 1) := by decide +kernel
theorem dX_priority_84 : decode b_X_priority 84 = .ok (.putfield 32, 3) := by decide +kernel
theorem dX_priority_87 : decode b_X_priority 87 = .ok (.putfield 84, 3) := by decide +kernel
theorem dX_priority_90 : decode b_X_priority 90 = .ok (.iconst 0, 1) := by decide +kernel
theorem dX_priority_91 : decode b_X_priority 91 = .ok (.ireturn, 1) := by decide +kernel
theorem dX_pass_0 : decode b_X_pass 0 = .ok (.aload_n 0, 1) := by decide +kernel
theorem dX_pass_1 : decode b_X_pass 1 = .ok (.invokevirtual 87, 3) := by decide +kernel
theorem dX_pass_4 : decode b_X_pass 4 = .ok (.astore_n 1, 1) := by decide +kernel
theorem dX_pass_5 : decode b_X_pass 5 = .ok (.aload_n 1, 1) := by decide +kernel
theorem dX_pass_6 : decode b_X_pass 6 = .ok (.ifnonnull 5, 3) := by decide +kernel
theorem dX_pass_9 : decode b_X_pass 9 = .ok (.iconst (-1), 1) := by decide +kernel
theorem dX_pass_10 : decode b_X_pass 10 = .ok (.ireturn, 1) := by decide +kernel
theorem dX_pass_11 : decode b_X_pass 11 = .ok (.aload_n 0, 1) := by decide +kernel
theorem dX_pass_12 : decode b_X_pass 12 = .ok (.aload_n 1, 1) := by decide +kernel
theorem dX_pass_13 : decode b_X_pass 13 = .ok (.invokevirtual 90, 3) := by decide +kernel
theorem dX_pass_16 : decode b_X_pass 16 = .ok (.iconst 0, 1) := by decide +kernel
theorem dX_pass_17 : decode b_X_pass 17 = .ok (.ireturn, 1) := by decide +kernel
theorem dX_lock_0 : decode b_X_lock 0 = .ok (.aload_n 0, 1) := by decide +kernel
theorem dX_lock_1 : decode b_X_lock 1 = .ok (.invokevirtual 87, 3) := by decide +kernel
theorem dX_lock_4 : decode b_X_lock 4 = .ok (.astore_n 2, 1) := by decide +kernel
theorem dX_lock_5 : decode b_X_lock 5 = .ok (.iload_n 1, 1) := by decide +kernel
theorem dX_lock_6 : decode b_X_lock 6 = .ok (.iconst 4, 1) := by decide +kernel
theorem dX_lock_7 : decode b_X_lock 7 = .ok (.invokestatic 77, 3) := by decide +kernel
theorem dX_lock_10 : decode b_X_lock 10 = .ok (.ifCond .eq 20, 3) := by decide +kernel
theorem dX_lock_13 : decode b_X_lock 13 = .ok (.aload_n 2, 1) := by decide +kernel
theorem dX_lock_14 : decode b_X_lock 14 = .ok (.ifnull 16, 3) := by decide +kernel
theorem dX_lock_17 : decode b_X_lock 17 = .ok (.aload_n 0, 1) := by decide +kernel
theorem dX_lock_18 : decode b_X_lock 18 = .ok (.getfield 15, 3) := by decide +kernel
theorem dX_lock_21 : decode b_X_lock 21 = .ok (.iload_n 1, 1) := by decide +kernel
theorem dX_lock_22 : decode b_X_lock 22 = .ok (.iaload, 1) := by decide +kernel
theorem dX_lock_23 : decode b_X_lock 23 = .ok (.aload_n 2, 1) := by decide +kernel
theorem dX_lock_24 : decode b_X_lock 24 = .ok (.getfield 74, 3) := by decide +kernel
theorem dX_lock_27 : decode b_X_lock 27 = .ok (.if_icmp .ne 5, 3) := by decide +kernel
theorem dX_lock_30 : decode b_X_lock 30 = .ok (.iconst (-1), 1) := by decide +kernel
theorem dX_lock_31 : decode b_X_lock 31 = .ok (.ireturn, 1) := by decide +kernel
theorem dX_lock_32 : decode b_X_lock 32 = .ok (.iload_n 1, 1) := by decide +kernel
theorem dX_lock_33 : decode b_X_lock 33 = .ok (.iconst 3, 1) := by decide +kernel
theorem dX_lock_34 : decode b_X_lock 34 = .ok (.if_icmp .ne 16, 3) := by decide +kernel
theorem dX_lock_37 : decode b_X_lock 37 = .ok (.aload_n 2, 1) := by decide +kernel
theorem dX_lock_38 : decode b_X_lock 38 = .ok (.getfield 63, 3) := by decide +kernel
theorem dX_lock_41 : decode b_X_lock 41 = .ok (.aload_n 0, 1) := by decide +kernel
theorem dX_lock_42 : decode b_X_lock 42 = .ok (.getfield 48, 3) := by decide +kernel
theorem dX_lock_45 : decode b_X_lock 45 = .ok (.if_icmp .le 5, 3) := by decide +kernel
theorem dX_lock_48 : decode b_X_lock 48 = .ok (.iconst (-1), 1) := by decide +kernel
theorem dX_lock_49 : decode b_X_lock 49 = .ok (.ireturn, 1) := by decide +kernel
theorem dX_lock_50 : decode b_X_lock 50 = .ok (.aload_n 2, 1) := by decide +kernel
theorem dX_lock_51 : decode b_X_lock 51 = .ok (.iconst 0, 1) := by decide +kernel
theorem dX_lock_52 : decode b_X_lock 52 = .ok (.putfield 94, 3) := by decide +kernel
theorem dX_lock_55 : decode b_X_lock 55 = .ok (.aload_n 0, 1) := by decide +kernel
theorem dX_lock_56 : decode b_X_lock 56 = .ok (.aload_n 2, 1) := by decide +kernel
theorem dX_lock_57 : decode b_X_lock 57 = .ok (.iload_n 1, 1) := by decide +kernel
theorem dX_lock_58 : decode b_X_lock 58 = .ok (.invokevirtual 97, 3) := by decide +kernel
theorem dX_lock_61 : decode b_X_lock 61 = .ok (.aload_n 2, 1) := by decide +kernel
theorem dX_lock_62 : decode b_X_lock 62 = .ok (.getfield 81, 3) := by decide +kernel
theorem dX_lock_65 : decode b_X_lock 65 = .ok (.iconst 1, 1) := by decide +kernel
theorem dX_lock_66 : decode b_X_lock 66 = .ok (.if_icmp .ne 7, 3) := by decide +kernel
theorem dX_lock_69 : decode b_X_lock 69 = .ok (.iconst 0, 1) := by decide +kernel
theorem dX_lock_70 : decode b_X_lock 70 = .ok (.goto 4, 3) := by decide +kernel
theorem dX_lock_73 : decode b_X_lock 73 = .ok (.iconst 1, 1) := by decide +kernel
theorem dX_lock_74 : decode b_X_lock 74 = .ok (.ireturn, 1) := by decide +kernel
theorem dX_unlock_0 : decode b_X_unlock 0 = .ok (.aload_n 0, 1) := by decide +kernel
theorem dX_unlock_1 : decode b_X_unlock 1 = .ok (.invokevirtual 87, 3) := by decide +kernel
theorem dX_unlock_4 : decode b_X_unlock 4 = .ok (.astore_n 2, 1) := by decide +kernel
theorem dX_unlock_5 : decode b_X_unlock 5 = .ok (.iload_n 1, 1) := by decide +kernel
theorem dX_unlock_6 : decode b_X_unlock 6 = .ok (.iconst 4, 1) := by decide +kernel
theorem dX_unlock_7 : decode b_X_unlock 7 = .ok (.invokestatic 77, 3) := by decide +kernel
theorem dX_unlock_10 : decode b_X_unlock 10 = .ok (.ifCond .eq 20, 3) := by decide +kernel
theorem dX_unlock_13 : decode b_X_unlock 13 = .ok (.aload_n 2, 1) := by decide +kernel
theorem dX_unlock_14 : decode b_X_unlock 14 = .ok (.ifnull 16, 3) := by decide +kernel
theorem dX_unlock_17 : decode b_X_unlock 17 = .ok (.aload_n 0, 1) := by decide +kernel
theorem dX_unlock_18 : decode b_X_unlock 18 = .ok (.getfield 15, 3) := by decide +kernel
theorem dX_unlock_21 : decode b_X_unlock 21 = .ok (.iload_n 1, 1) := by decide +kernel
theorem dX_unlock_22 : decode b_X_unlock 22 = .ok (.iaload, 1) := by decide +kernel
theorem dX_unlock_23 : decode b_X_unlock 23 = .ok (.aload_n 2, 1) := by decide +kernel
theorem dX_unlock_24 : decode b_X_unlock 24 = .ok (.getfield 74, 3) := by decide +kernel
theorem dX_unlock_27 : decode b_X_unlock 27 = .ok (.if_icmp .eq 5, 3) := by decide +kernel
theorem dX_unlock_30 : decode b_X_unlock 30 = .ok (.iconst (-1), 1) := by decide +kernel
theorem dX_unlock_31 : decode b_X_unlock 31 = .ok (.ireturn, 1) := by decide +kernel
theorem dX_unlock_32 : decode b_X_unlock 32 = .ok (.aload_n 0, 1) := by decide +kernel
theorem dX_unlock_33 : decode b_X_unlock 33 = .ok (.iload_n 1, 1) := by decide +kernel
theorem dX_unlock_34 : decode b_X_unlock 34 = .ok (.invokevirtual 100, 3) := by decide +kernel
theorem dX_unlock_37 : decode b_X_unlock 37 = .ok (.iconst 0, 1) := by decide +kernel
theorem dX_unlock_38 : decode b_X_unlock 38 = .ok (.ireturn, 1) := by decide +kernel
theorem dX_await_0 : decode b_X_await 0 = .ok (.iload_n 1, 1) := by decide +kernel
theorem dX_await_1 : decode b_X_await 1 = .ok (.iconst 2, 1) := by decide +kernel
theorem dX_await_2 : decode b_X_await 2 = .ok (.invokestatic 77, 3) := by decide +kernel
theorem dX_await_5 : decode b_X_await 5 = .ok (.ifCond .eq 18, 3) := by decide +kernel
theorem dX_await_8 : decode b_X_await 8 = .ok (.iload_n 2, 1) := by decide +kernel
theorem dX_await_9 : decode b_X_await 9 = .ok (.iconst 4, 1) := by decide +kernel
theorem dX_await_10 : decode b_X_await 10 = .ok (.invokestatic 77, 3) := by decide +kernel
theorem dX_await_13 : decode b_X_await 13 = .ok (.ifCond .eq 10, 3) := by decide +kernel
theorem dX_await_16 : decode b_X_await 16 = .ok (.iload_n 3, 1) := by decide +kernel
theorem dX_await_17 : decode b_X_await 17 = .ok (.invokestatic 103, 3) := by decide +kernel
theorem dX_await_20 : decode b_X_await 20 = .ok (.ifCond .ne 5, 3) := by decide +kernel
theorem dX_await_23 : decode b_X_await 23 = .ok (.iconst (-1), 1) := by decide +kernel
theorem dX_await_24 : decode b_X_await 24 = .ok (.ireturn, 1) := by decide +kernel
theorem dX_await_25 : decode b_X_await 25 = .ok (.aload_n 0, 1) := by decide +kernel
theorem dX_await_26 : decode b_X_await 26 = .ok (.invokevirtual 87, 3) := by decide +kernel
theorem dX_await_29 : decode b_X_await 29 = .ok (.astore 4, 2) := by decide +kernel
theorem dX_await_31 : decode b_X_await 31 = .ok (.aload 4, 2) := by decide +kernel
theorem dX_await_33 : decode b_X_await 33 = .ok (.ifnull 17, 3) := by decide +kernel
theorem dX_await_36 : decode b_X_await 36 = .ok (.aload_n 0, 1) := by decide +kernel
theorem dX_await_37 : decode b_X_await 37 = .ok (.getfield 15, 3) := by decide +kernel
theorem dX_await_40 : decode b_X_await 40 = .ok (.iload_n 2, 1) := by decide +kernel
theorem dX_await_41 : decode b_X_await 41 = .ok (.iaload, 1) := by decide +kernel
theorem dX_await_42 : decode b_X_await 42 = .ok (.aload 4, 2) := by decide +kernel
theorem dX_await_44 : decode b_X_await 44 = .ok (.getfield 74, 3) := by decide +kernel
theorem dX_await_47 : decode b_X_await 47 = .ok (.if_icmp .eq 5, 3) := by decide +kernel
theorem dX_await_50 : decode b_X_await 50 = .ok (.iconst (-1), 1) := by decide +kernel
theorem dX_await_51 : decode b_X_await 51 = .ok (.ireturn, 1) := by decide +kernel
theorem dX_await_52 : decode b_X_await 52 = .ok (.aload 4, 2) := by decide +kernel
theorem dX_await_54 : decode b_X_await 54 = .ok (.iload_n 2, 1) := by decide +kernel
theorem dX_await_55 : decode b_X_await 55 = .ok (.putfield 106, 3) := by decide +kernel
theorem dX_await_58 : decode b_X_await 58 = .ok (.aload_n 0, 1) := by decide +kernel
theorem dX_await_59 : decode b_X_await 59 = .ok (.aload 4, 2) := by decide +kernel
theorem dX_await_61 : decode b_X_await 61 = .ok (.bipush 20, 2) := by decide +kernel
theorem dX_await_63 : decode b_X_await 63 = .ok (.iload_n 1, 1) := by decide +kernel
theorem dX_await_64 : decode b_X_await 64 = .ok (.iadd, 1) := by decide +kernel
theorem dX_await_65 : decode b_X_await 65 = .ok (.aload_n 0, 1) := by decide +kernel
theorem dX_await_66 : decode b_X_await 66 = .ok (.iload_n 3, 1) := by decide +kernel
theorem dX_await_67 : decode b_X_await 67 = .ok (.invokevirtual 109, 3) := by decide +kernel
theorem dX_await_70 : decode b_X_await 70 = .ok (.invokevirtual 113, 3) := by decide +kernel
theorem dX_await_73 : decode b_X_await 73 = .ok (.aload_n 0, 1) := by decide +kernel
theorem dX_await_74 : decode b_X_await 74 = .ok (.iload_n 2, 1) := by decide +kernel
theorem dX_await_75 : decode b_X_await 75 = .ok (.invokevirtual 100, 3) := by decide +kernel
theorem dX_await_78 : decode b_X_await 78 = .ok (.iconst 1, 1) := by decide +kernel
theorem dX_await_79 : decode b_X_await 79 = .ok (.ireturn, 1) := by decide +kernel
theorem dX_signal_0 : decode b_X_signal 0 = .ok (.iload_n 1, 1) := by decide +kernel
theorem dX_signal_1 : decode b_X_signal 1 = .ok (.iconst 2, 1) := by decide +kernel
theorem dX_signal_2 : decode b_X_signal 2 = .ok (.invokestatic 77, 3) := by decide +kernel
theorem dX_signal_5 : decode b_X_signal 5 = .ok (.ifCond .ne 5, 3) := by decide +kernel
theorem dX_signal_8 : decode b_X_signal 8 = .ok (.iconst (-1), 1) := by decide +kernel
theorem dX_signal_9 : decode b_X_signal 9 = .ok (.ireturn, 1) := by decide +kernel
theorem dX_signal_10 : decode b_X_signal 10 = .ok (.iload_n 2, 1) := by decide +kernel
theorem dX_signal_11 : decode b_X_signal 11 = .ok (.ifCond .eq 8, 3) := by decide +kernel
theorem dX_signal_14 : decode b_X_signal 14 = .ok (.bipush 8, 2) := by decide +kernel
theorem dX_signal_16 : decode b_X_signal 16 = .ok (.goto 4, 3) := by decide +kernel
theorem dX_signal_19 : decode b_X_signal 19 = .ok (.iconst 1, 1) := by decide +kernel
theorem dX_signal_20 : decode b_X_signal 20 = .ok (.istore_n 3, 1) := by decide +kernel
theorem dX_signal_21 : decode b_X_signal 21 = .ok (.iconst 0, 1) := by decide +kernel
theorem dX_signal_22 : decode b_X_signal 22 = .ok (.istore 4, 2) := by decide +kernel
theorem dX_signal_24 : decode b_X_signal 24 = .ok (.iconst 0, 1) := by decide +kernel
theorem dX_signal_25 : decode b_X_signal 25 = .ok (.istore 5, 2) := by decide +kernel
theorem dX_signal_27 : decode b_X_signal 27 = .ok (.iload 5, 2) := by decide +kernel
theorem dX_signal_29 : decode b_X_signal 29 = .ok (.iload_n 3, 1) := by decide +kernel
theorem dX_signal_30 : decode b_X_signal 30 = .ok (.if_icmp .ge 37, 3) := by decide +kernel
theorem dX_signal_33 : decode b_X_signal 33 = .ok (.aload_n 0, 1) := by decide +kernel
theorem dX_signal_34 : decode b_X_signal 34 = .ok (.bipush 20, 2) := by decide +kernel
theorem dX_signal_36 : decode b_X_signal 36 = .ok (.iload_n 1, 1) := by decide +kernel
theorem dX_signal_37 : decode b_X_signal 37 = .ok (.iadd, 1) := by decide +kernel
theorem dX_signal_38 : decode b_X_signal 38 = .ok (.invokevirtual 117, 3) := by decide +kernel
theorem dX_signal_41 : decode b_X_signal 41 = .ok (.astore 6, 2) := by decide +kernel
theorem dX_signal_43 : decode b_X_signal 43 = .ok (.aload 6, 2) := by decide +kernel
theorem dX_signal_45 : decode b_X_signal 45 = .ok (.ifnonnull 6, 3) := by decide +kernel
theorem dX_signal_48 : decode b_X_signal 48 = .ok (.goto 19, 3) := by decide +kernel
theorem dX_signal_51 : decode b_X_signal 51 = .ok (.aload_n 0, 1) := by decide +kernel
theorem dX_signal_52 : decode b_X_signal 52 = .ok (.aload 6, 2) := by decide +kernel
theorem dX_signal_54 : decode b_X_signal 54 = .ok (.iconst 0, 1) := by decide +kernel
theorem dX_signal_55 : decode b_X_signal 55 = .ok (.invokevirtual 121, 3) := by decide +kernel
theorem dX_signal_58 : decode b_X_signal 58 = .ok (.iinc 4 1, 3) := by decide +kernel
theorem dX_signal_61 : decode b_X_signal 61 = .ok (.iinc 5 1, 3) := by decide +kernel
theorem dX_signal_64 : decode b_X_signal 64 = .ok (.goto (-37), 3) := by decide +kernel
theorem dX_signal_67 : decode b_X_signal 67 = .ok (.iload 4, 2) := by decide +kernel
theorem dX_signal_69 : decode b_X_signal 69 = .ok (.ireturn, 1) := by decide +kernel
theorem dX_down_0 : decode b_X_down 0 = .ok (.aload_n 0, 1) := by decide +kernel
theorem dX_down_1 : decode b_X_down 1 = .ok (.invokevirtual 87, 3) := by decide +kernel
theorem dX_down_4 : decode b_X_down 4 = .ok (.astore_n 3, 1) := by decide +kernel
theorem dX_down_5 : decode b_X_down 5 = .ok (.iload_n 1, 1) := by decide +kernel
theorem dX_down_6 : decode b_X_down 6 = .ok (.iconst 2, 1) := by decide +kernel
theorem dX_down_7 : decode b_X_down 7 = .ok (.invokestatic 77, 3) := by decide +kernel
theorem dX_down_10 : decode b_X_down 10 = .ok (.ifCond .eq 14, 3) := by decide +kernel
theorem dX_down_13 : decode b_X_down 13 = .ok (.iload_n 2, 1) := by decide +kernel
theorem dX_down_14 : decode b_X_down 14 = .ok (.invokestatic 103, 3) := by decide +kernel
theorem dX_down_17 : decode b_X_down 17 = .ok (.ifCond .eq 7, 3) := by decide +kernel
theorem dX_down_20 : decode b_X_down 20 = .ok (.aload_n 3, 1) := by decide +kernel
theorem dX_down_21 : decode b_X_down 21 = .ok (.ifnonnull 5, 3) := by decide +kernel
theorem dX_down_24 : decode b_X_down 24 = .ok (.iconst (-1), 1) := by decide +kernel
theorem dX_down_25 : decode b_X_down 25 = .ok (.ireturn, 1) := by decide +kernel
theorem dX_down_26 : decode b_X_down 26 = .ok (.aload_n 0, 1) := by decide +kernel
theorem dX_down_27 : decode b_X_down 27 = .ok (.getfield 19, 3) := by decide +kernel
theorem dX_down_30 : decode b_X_down 30 = .ok (.iload_n 1, 1) := by decide +kernel
theorem dX_down_31 : decode b_X_down 31 = .ok (.iaload, 1) := by decide +kernel
theorem dX_down_32 : decode b_X_down 32 = .ok (.ifCond .ne 19, 3) := by decide +kernel
theorem dX_down_35 : decode b_X_down 35 = .ok (.aload_n 0, 1) := by decide +kernel
theorem dX_down_36 : decode b_X_down 36 = .ok (.aload_n 3, 1) := by decide +kernel
theorem dX_down_37 : decode b_X_down 37 = .ok (.bipush 30, 2) := by decide +kernel
theorem dX_down_39 : decode b_X_down 39 = .ok (.iload_n 1, 1) := by decide +kernel
theorem dX_down_40 : decode b_X_down 40 = .ok (.iadd, 1) := by decide +kernel
theorem dX_down_41 : decode b_X_down 41 = .ok (.aload_n 0, 1) := by decide +kernel
theorem dX_down_42 : decode b_X_down 42 = .ok (.iload_n 2, 1) := by decide +kernel
theorem dX_down_43 : decode b_X_down 43 = .ok (.invokevirtual 109, 3) := by decide +kernel
theorem dX_down_46 : decode b_X_down 46 = .ok (.invokevirtual 113, 3) := by decide +kernel
theorem dX_down_49 : decode b_X_down 49 = .ok (.iconst 1, 1) := by decide +kernel
theorem dX_down_50 : decode b_X_down 50 = .ok (.ireturn, 1) := by decide +kernel
theorem dX_down_51 : decode b_X_down 51 = .ok (.aload_n 0, 1) := by decide +kernel
theorem dX_down_52 : decode b_X_down 52 = .ok (.getfield 19, 3) := by decide +kernel
theorem dX_down_55 : decode b_X_down 55 = .ok (.iload_n 1, 1) := by decide +kernel
theorem dX_down_56 : decode b_X_down 56 = .ok (.dup2, 1) := by decide +kernel
theorem dX_down_57 : decode b_X_down 57 = .ok (.iaload, 1) := by decide +kernel
theorem dX_down_58 : decode b_X_down 58 = .ok (.iconst 1, 1) := by decide +kernel
theorem dX_down_59 : decode b_X_down 59 = .ok (.isub, 1) := by decide +kernel
theorem dX_down_60 : decode b_X_down 60 = .ok (.iastore, 1) := by decide +kernel
theorem dX_down_61 : decode b_X_down 61 = .ok (.aload_n 3, 1) := by decide +kernel
theorem dX_down_62 : decode b_X_down 62 = .ok (.iconst 0, 1) := by decide +kernel
theorem dX_down_63 : decode b_X_down 63 = .ok (.putfield 124, 3) := by decide +kernel
theorem dX_down_66 : decode b_X_down 66 = .ok (.iconst 0, 1) := by decide +kernel
theorem dX_down_67 : decode b_X_down 67 = .ok (.ireturn, 1) := by decide +kernel
theorem dX_post_0 : decode b_X_post 0 = .ok (.iload_n 1, 1) := by decide +kernel
theorem dX_post_1 : decode b_X_post 1 = .ok (.iconst 2, 1) := by decide +kernel
theorem dX_post_2 : decode b_X_post 2 = .ok (.invokestatic 77, 3) := by decide +kernel
theorem dX_post_5 : decode b_X_post 5 = .ok (.ifCond .ne 5, 3) := by decide +kernel
theorem dX_post_8 : decode b_X_post 8 = .ok (.iconst (-1), 1) := by decide +kernel
theorem dX_post_9 : decode b_X_post 9 = .ok (.ireturn, 1) := by decide +kernel
theorem dX_post_10 : decode b_X_post 10 = .ok (.aload_n 0, 1) := by decide +kernel
theorem dX_post_11 : decode b_X_post 11 = .ok (.bipush 30, 2) := by decide +kernel
theorem dX_post_13 : decode b_X_post 13 = .ok (.iload_n 1, 1) := by decide +kernel
theorem dX_post_14 : decode b_X_post 14 = .ok (.iadd, 1) := by decide +kernel
theorem dX_post_15 : decode b_X_post 15 = .ok (.invokevirtual 117, 3) := by decide +kernel
theorem dX_post_18 : decode b_X_post 18 = .ok (.astore_n 2, 1) := by decide +kernel
theorem dX_post_19 : decode b_X_post 19 = .ok (.aload_n 2, 1) := by decide +kernel
theorem dX_post_20 : decode b_X_post 20 = .ok (.ifnull 11, 3) := by decide +kernel
theorem dX_post_23 : decode b_X_post 23 = .ok (.aload_n 0, 1) := by decide +kernel
theorem dX_post_24 : decode b_X_post 24 = .ok (.aload_n 2, 1) := by decide +kernel
theorem dX_post_25 : decode b_X_post 25 = .ok (.iconst 0, 1) := by decide +kernel
theorem dX_post_26 : decode b_X_post 26 = .ok (.invokevirtual 70, 3) := by decide +kernel
theorem dX_post_29 : decode b_X_post 29 = .ok (.iconst 0, 1) := by decide +kernel
theorem dX_post_30 : decode b_X_post 30 = .ok (.ireturn, 1) := by decide +kernel
theorem dX_post_31 : decode b_X_post 31 = .ok (.aload_n 0, 1) := by decide +kernel
theorem dX_post_32 : decode b_X_post 32 = .ok (.getfield 19, 3) := by decide +kernel
theorem dX_post_35 : decode b_X_post 35 = .ok (.iload_n 1, 1) := by decide +kernel
theorem dX_post_36 : decode b_X_post 36 = .ok (.iaload, 1) := by decide +kernel
theorem dX_post_37 : decode b_X_post 37 = .ok (.bipush 99, 2) := by decide +kernel
theorem dX_post_39 : decode b_X_post 39 = .ok (.if_icmp .lt 5, 3) := by decide +kernel
theorem dX_post_42 : decode b_X_post 42 = .ok (.iconst (-1), 1) := by decide +kernel
theorem dX_post_43 : decode b_X_post 43 = .ok (.ireturn, 1) := by decide +kernel
theorem dX_post_44 : decode b_X_post 44 = .ok (.aload_n 0, 1) := by decide +kernel
theorem dX_post_45 : decode b_X_post 45 = .ok (.getfield 19, 3) := by decide +kernel
theorem dX_post_48 : decode b_X_post 48 = .ok (.iload_n 1, 1) := by decide +kernel
theorem dX_post_49 : decode b_X_post 49 = .ok (.dup2, 1) := by decide +kernel
theorem dX_post_50 : decode b_X_post 50 = .ok (.iaload, 1) := by decide +kernel
theorem dX_post_51 : decode b_X_post 51 = .ok (.iconst 1, 1) := by decide +kernel
theorem dX_post_52 : decode b_X_post 52 = .ok (.iadd, 1) := by decide +kernel
theorem dX_post_53 : decode b_X_post 53 = .ok (.iastore, 1) := by decide +kernel
theorem dX_post_54 : decode b_X_post 54 = .ok (.iconst 0, 1) := by decide +kernel
theorem dX_post_55 : decode b_X_post 55 = .ok (.ireturn, 1) := by decide +kernel
theorem dX_send_0 : decode b_X_send 0 = .ok (.aload_n 0, 1) := by decide +kernel
theorem dX_send_1 : decode b_X_send 1 = .ok (.invokevirtual 87, 3) := by decide +kernel
theorem dX_send_4 : decode b_X_send 4 = .ok (.astore 4, 2) := by decide +kernel
theorem dX_send_6 : decode b_X_send 6 = .ok (.iload_n 1, 1) := by decide +kernel
theorem dX_send_7 : decode b_X_send 7 = .ok (.iconst 2, 1) := by decide +kernel
theorem dX_send_8 : decode b_X_send 8 = .ok (.invokestatic 77, 3) := by decide +kernel
theorem dX_send_11 : decode b_X_send 11 = .ok (.ifCond .eq 17, 3) := by decide +kernel
theorem dX_send_14 : decode b_X_send 14 = .ok (.iload_n 2, 1) := by decide +kernel
theorem dX_send_15 : decode b_X_send 15 = .ok (.bipush 10, 2) := by decide +kernel
theorem dX_send_17 : decode b_X_send 17 = .ok (.invokestatic 77, 3) := by decide +kernel
theorem dX_send_20 : decode b_X_send 20 = .ok (.ifCond .eq 8, 3) := by decide +kernel
theorem dX_send_23 : decode b_X_send 23 = .ok (.aload 4, 2) := by decide +kernel
theorem dX_send_25 : decode b_X_send 25 = .ok (.ifnonnull 5, 3) := by decide +kernel
theorem dX_send_28 : decode b_X_send 28 = .ok (.iconst (-1), 1) := by decide +kernel
theorem dX_send_29 : decode b_X_send 29 = .ok (.ireturn, 1) := by decide +kernel
theorem dX_send_30 : decode b_X_send 30 = .ok (.aload_n 0, 1) := by decide +kernel
theorem dX_send_31 : decode b_X_send 31 = .ok (.getfield 24, 3) := by decide +kernel
theorem dX_send_34 : decode b_X_send 34 = .ok (.iload_n 1, 1) := by decide +kernel
theorem dX_send_35 : decode b_X_send 35 = .ok (.aaload, 1) := by decide +kernel
theorem dX_send_36 : decode b_X_send 36 = .ok (.invokevirtual 127, 3) := by decide +kernel
theorem dX_send_39 : decode b_X_send 39 = .ok (.ifCond .eq 30, 3) := by decide +kernel
theorem dX_send_42 : decode b_X_send 42 = .ok (.aload 4, 2) := by decide +kernel
theorem dX_send_44 : decode b_X_send 44 = .ok (.iload_n 2, 1) := by decide +kernel
theorem dX_send_45 : decode b_X_send 45 = .ok (.putfield 131, 3) := by decide +kernel
theorem dX_send_48 : decode b_X_send 48 = .ok (.aload 4, 2) := by decide +kernel
theorem dX_send_50 : decode b_X_send 50 = .ok (.iload_n 3, 1) := by decide +kernel
theorem dX_send_51 : decode b_X_send 51 = .ok (.putfield 134, 3) := by decide +kernel
theorem dX_send_54 : decode b_X_send 54 = .ok (.aload_n 0, 1) := by decide +kernel
theorem dX_send_55 : decode b_X_send 55 = .ok (.aload 4, 2) := by decide +kernel
theorem dX_send_57 : decode b_X_send 57 = .ok (.bipush 40, 2) := by decide +kernel
theorem dX_send_59 : decode b_X_send 59 = .ok (.iload_n 1, 1) := by decide +kernel
theorem dX_send_60 : decode b_X_send 60 = .ok (.iadd, 1) := by decide +kernel
theorem dX_send_61 : decode b_X_send 61 = .ok (.ldc2_w 137, 3) := by decide +kernel
theorem dX_send_64 : decode b_X_send 64 = .ok (.invokevirtual 113, 3) := by decide +kernel
theorem dX_send_67 : decode b_X_send 67 = .ok (.iconst 1, 1) := by decide +kernel
theorem dX_send_68 : decode b_X_send 68 = .ok (.ireturn, 1) := by decide +kernel
theorem dX_send_69 : decode b_X_send 69 = .ok (.aload 4, 2) := by decide +kernel
theorem dX_send_71 : decode b_X_send 71 = .ok (.iconst 0, 1) := by decide +kernel
theorem dX_send_72 : decode b_X_send 72 = .ok (.putfield 124, 3) := by decide +kernel
theorem dX_send_75 : decode b_X_send 75 = .ok (.aload_n 0, 1) := by decide +kernel
theorem dX_send_76 : decode b_X_send 76 = .ok (.iload_n 1, 1) := by decide +kernel
theorem dX_send_77 : decode b_X_send 77 = .ok (.iload_n 2, 1) := by decide +kernel
theorem dX_send_78 : decode b_X_send 78 = .ok (.iload_n 3, 1) := by decide +kernel
theorem dX_send_79 : decode b_X_send 79 = .ok (.invokevirtual 139, 3) := by decide +kernel
theorem dX_send_82 : decode b_X_send 82 = .ok (.iconst 0, 1) := by decide +kernel
theorem dX_send_83 : decode b_X_send 83 = .ok (.ireturn, 1) := by decide +kernel
theorem dX_receive_0 : decode b_X_receive 0 = .ok (.aload_n 0, 1) := by decide +kernel
theorem dX_receive_1 : decode b_X_receive 1 = .ok (.invokevirtual 87, 3) := by decide +kernel
theorem dX_receive_4 : decode b_X_receive 4 = .ok (.astore_n 2, 1) := by decide +kernel
theorem dX_receive_5 : decode b_X_receive 5 = .ok (.iload_n 1, 1) := by decide +kernel
theorem dX_receive_6 : decode b_X_receive 6 = .ok (.iconst 2, 1) := by decide +kernel
theorem dX_receive_7 : decode b_X_receive 7 = .ok (.invokestatic 77, 3) := by decide +kernel
theorem dX_receive_10 : decode b_X_receive 10 = .ok (.ifCond .eq 7, 3) := by decide +kernel
theorem dX_receive_13 : decode b_X_receive 13 = .ok (.aload_n 2, 1) := by decide +kernel
theorem dX_receive_14 : decode b_X_receive 14 = .ok (.ifnonnull 5, 3) := by decide +kernel
theorem dX_receive_17 : decode b_X_receive 17 = .ok (.iconst (-1), 1) := by decide +kernel
theorem dX_receive_18 : decode b_X_receive 18 = .ok (.ireturn, 1) := by decide +kernel
theorem dX_receive_19 : decode b_X_receive 19 = .ok (.aload_n 0, 1) := by decide +kernel
theorem dX_receive_20 : decode b_X_receive 20 = .ok (.getfield 24, 3) := by decide +kernel
theorem dX_receive_23 : decode b_X_receive 23 = .ok (.iload_n 1, 1) := by decide +kernel
theorem dX_receive_24 : decode b_X_receive 24 = .ok (.aaload, 1) := by decide +kernel
theorem dX_receive_25 : decode b_X_receive 25 = .ok (.invokevirtual 143, 3) := by decide +kernel
theorem dX_receive_28 : decode b_X_receive 28 = .ok (.ifCond .eq 17, 3) := by decide +kernel
theorem dX_receive_31 : decode b_X_receive 31 = .ok (.aload_n 0, 1) := by decide +kernel
theorem dX_receive_32 : decode b_X_receive 32 = .ok (.aload_n 2, 1) := by decide +kernel
theorem dX_receive_33 : decode b_X_receive 33 = .ok (.bipush 50, 2) := by decide +kernel
theorem dX_receive_35 : decode b_X_receive 35 = .ok (.iload_n 1, 1) := by decide +kernel
theorem dX_receive_36 : decode b_X_receive 36 = .ok (.iadd, 1) := by decide +kernel
theorem dX_receive_37 : decode b_X_receive 37 = .ok (.ldc2_w 137, 3) := by decide +kernel
theorem dX_receive_40 : decode b_X_receive 40 = .ok (.invokevirtual 113, 3) := by decide +kernel
theorem dX_receive_43 : decode b_X_receive 43 = .ok (.iconst 1, 1) := by decide +kernel
theorem dX_receive_44 : decode b_X_receive 44 = .ok (.ireturn, 1) := by decide +kernel
theorem dX_receive_45 : decode b_X_receive 45 = .ok (.aload_n 2, 1) := by decide +kernel
theorem dX_receive_46 : decode b_X_receive 46 = .ok (.aload_n 0, 1) := by decide +kernel
theorem dX_receive_47 : decode b_X_receive 47 = .ok (.getfield 24, 3) := by decide +kernel
theorem dX_receive_50 : decode b_X_receive 50 = .ok (.iload_n 1, 1) := by decide +kernel
theorem dX_receive_51 : decode b_X_receive 51 = .ok (.aaload, 1) := by decide +kernel
theorem dX_receive_52 : decode b_X_receive 52 = .ok (.invokevirtual 146, 3) := by decide +kernel
theorem dX_receive_55 : decode b_X_receive 55 = .ok (.putfield 124, 3) := by decide +kernel
theorem dX_receive_58 : decode b_X_receive 58 = .ok (.aload_n 0, 1) := by decide +kernel
theorem dX_receive_59 : decode b_X_receive 59 = .ok (.bipush 40, 2) := by decide +kernel
theorem dX_receive_61 : decode b_X_receive 61 = .ok (.iload_n 1, 1) := by decide +kernel
theorem dX_receive_62 : decode b_X_receive 62 = .ok (.iadd, 1) := by decide +kernel
theorem dX_receive_63 : decode b_X_receive 63 = .ok (.invokevirtual 117, 3) := by decide +kernel
theorem dX_receive_66 : decode b_X_receive 66 = .ok (.astore_n 3, 1) := by decide +kernel
theorem dX_receive_67 : decode b_X_receive 67 = .ok (.aload_n 3, 1) := by decide +kernel
theorem dX_receive_68 : decode b_X_receive 68 = .ok (.ifnull 22, 3) := by decide +kernel
theorem dX_receive_71 : decode b_X_receive 71 = .ok (.aload_n 0, 1) := by decide +kernel
theorem dX_receive_72 : decode b_X_receive 72 = .ok (.iload_n 1, 1) := by decide +kernel
theorem dX_receive_73 : decode b_X_receive 73 = .ok (.aload_n 3, 1) := by decide +kernel
theorem dX_receive_74 : decode b_X_receive 74 = .ok (.getfield 131, 3) := by decide +kernel
theorem dX_receive_77 : decode b_X_receive 77 = .ok (.aload_n 3, 1) := by decide +kernel
theorem dX_receive_78 : decode b_X_receive 78 = .ok (.getfield 134, 3) := by decide +kernel
theorem dX_receive_81 : decode b_X_receive 81 = .ok (.invokevirtual 139, 3) := by decide +kernel
theorem dX_receive_84 : decode b_X_receive 84 = .ok (.aload_n 0, 1) := by decide +kernel
theorem dX_receive_85 : decode b_X_receive 85 = .ok (.aload_n 3, 1) := by decide +kernel
theorem dX_receive_86 : decode b_X_receive 86 = .ok (.iconst 0, 1) := by decide +kernel
theorem dX_receive_87 : decode b_X_receive 87 = .ok (.invokevirtual 70, 3) := by decide +kernel
theorem dX_receive_90 : decode b_X_receive 90 = .ok (.iconst 0, 1) := by decide +kernel
theorem dX_receive_91 : decode b_X_receive 91 = .ok (.ireturn, 1) := by decide +kernel
theorem dX_sleep_0 : decode b_X_sleep 0 = .ok (.aload_n 0, 1) := by decide +kernel
theorem dX_sleep_1 : decode b_X_sleep 1 = .ok (.invokevirtual 87, 3) := by decide +kernel
theorem dX_sleep_4 : decode b_X_sleep 4 = .ok (.astore_n 2, 1) := by decide +kernel
theorem dX_sleep_5 : decode b_X_sleep 5 = .ok (.iload_n 1, 1) := by decide +kernel
theorem dX_sleep_6 : decode b_X_sleep 6 = .ok (.iconst 1, 1) := by decide +kernel
theorem dX_sleep_7 : decode b_X_sleep 7 = .ok (.if_icmp .lt 14, 3) := by decide +kernel
theorem dX_sleep_10 : decode b_X_sleep 10 = .ok (.iload_n 1, 1) := by decide +kernel
theorem dX_sleep_11 : decode b_X_sleep 11 = .ok (.sipush 1000, 3) := by decide +kernel
theorem dX_sleep_14 : decode b_X_sleep 14 = .ok (.if_icmp .gt 7, 3) := by decide +kernel
theorem dX_sleep_17 : decode b_X_sleep 17 = .ok (.aload_n 2, 1) := by decide +kernel
theorem dX_sleep_18 : decode b_X_sleep 18 = .ok (.ifnonnull 5, 3) := by decide +kernel
theorem dX_sleep_21 : decode b_X_sleep 21 = .ok (.iconst (-1), 1) := by decide +kernel
theorem dX_sleep_22 : decode b_X_sleep 22 = .ok (.ireturn, 1) := by decide +kernel
theorem dX_sleep_23 : decode b_X_sleep 23 = .ok (.aload_n 0, 1) := by decide +kernel
theorem dX_sleep_24 : decode b_X_sleep 24 = .ok (.aload_n 2, 1) := by decide +kernel
theorem dX_sleep_25 : decode b_X_sleep 25 = .ok (.bipush 60, 2) := by decide +kernel
theorem dX_sleep_27 : decode b_X_sleep 27 = .ok (.aload_n 0, 1) := by decide +kernel
theorem dX_sleep_28 : decode b_X_sleep 28 = .ok (.iload_n 1, 1) := by decide +kernel
theorem dX_sleep_29 : decode b_X_sleep 29 = .ok (.invokevirtual 109, 3) := by decide +kernel
theorem dX_sleep_32 : decode b_X_sleep 32 = .ok (.invokevirtual 113, 3) := by decide +kernel
theorem dX_sleep_35 : decode b_X_sleep 35 = .ok (.iconst 1, 1) := by decide +kernel
theorem dX_sleep_36 : decode b_X_sleep 36 = .ok (.ireturn, 1) := by decide +kernel
theorem dX_join_0 : decode b_X_join 0 = .ok (.aload_n 0, 1) := by decide +kernel
theorem dX_join_1 : decode b_X_join 1 = .ok (.invokevirtual 87, 3) := by decide +kernel
theorem dX_join_4 : decode b_X_join 4 = .ok (.astore_n 2, 1) := by decide +kernel
theorem dX_join_5 : decode b_X_join 5 = .ok (.iload_n 1, 1) := by decide +kernel
theorem dX_join_6 : decode b_X_join 6 = .ok (.bipush 8, 2) := by decide +kernel
theorem dX_join_8 : decode b_X_join 8 = .ok (.invokestatic 77, 3) := by decide +kernel
theorem dX_join_11 : decode b_X_join 11 = .ok (.ifCond .eq 15, 3) := by decide +kernel
theorem dX_join_14 : decode b_X_join 14 = .ok (.aload_n 2, 1) := by decide +kernel
theorem dX_join_15 : decode b_X_join 15 = .ok (.ifnull 11, 3) := by decide +kernel
theorem dX_join_18 : decode b_X_join 18 = .ok (.aload_n 2, 1) := by decide +kernel
theorem dX_join_19 : decode b_X_join 19 = .ok (.getfield 74, 3) := by decide +kernel
theorem dX_join_22 : decode b_X_join 22 = .ok (.iload_n 1, 1) := by decide +kernel
theorem dX_join_23 : decode b_X_join 23 = .ok (.if_icmp .ne 5, 3) := by decide +kernel
theorem dX_join_26 : decode b_X_join 26 = .ok (.iconst (-1), 1) := by decide +kernel
theorem dX_join_27 : decode b_X_join 27 = .ok (.ireturn, 1) := by decide +kernel
theorem dX_join_28 : decode b_X_join 28 = .ok (.aload_n 0, 1) := by decide +kernel
theorem dX_join_29 : decode b_X_join 29 = .ok (.getfield 11, 3) := by decide +kernel
theorem dX_join_32 : decode b_X_join 32 = .ok (.iload_n 1, 1) := by decide +kernel
theorem dX_join_33 : decode b_X_join 33 = .ok (.aaload, 1) := by decide +kernel
theorem dX_join_34 : decode b_X_join 34 = .ok (.astore_n 3, 1) := by decide +kernel
theorem dX_join_35 : decode b_X_join 35 = .ok (.aload_n 3, 1) := by decide +kernel
theorem dX_join_36 : decode b_X_join 36 = .ok (.getfield 81, 3) := by decide +kernel
theorem dX_join_39 : decode b_X_join 39 = .ok (.iconst 3, 1) := by decide +kernel
theorem dX_join_40 : decode b_X_join 40 = .ok (.if_icmp .ne 18, 3) := by decide +kernel
theorem dX_join_43 : decode b_X_join 43 = .ok (.aload_n 2, 1) := by decide +kernel
theorem dX_join_44 : decode b_X_join 44 = .ok (.aload_n 3, 1) := by decide +kernel
theorem dX_join_45 : decode b_X_join 45 = .ok (.getfield 124, 3) := by decide +kernel
theorem dX_join_48 : decode b_X_join 48 = .ok (.putfield 124, 3) := by decide +kernel
theorem dX_join_51 : decode b_X_join 51 = .ok (.aload_n 3, 1) := by decide +kernel
theorem dX_join_52 : decode b_X_join 52 = .ok (.iconst 0, 1) := by decide +kernel
theorem dX_join_53 : decode b_X_join 53 = .ok (.putfield 81, 3) := by decide +kernel
theorem dX_join_56 : decode b_X_join 56 = .ok (.iconst 0, 1) := by decide +kernel
theorem dX_join_57 : decode b_X_join 57 = .ok (.ireturn, 1) := by decide +kernel
theorem dX_join_58 : decode b_X_join 58 = .ok (.aload_n 3, 1) := by decide +kernel
theorem dX_join_59 : decode b_X_join 59 = .ok (.getfield 81, 3) := by decide +kernel
theorem dX_join_62 : decode b_X_join 62 = .ok (.ifCond .eq 14, 3) := by decide +kernel
theorem dX_join_65 : decode b_X_join 65 = .ok (.aload_n 0, 1) := by decide +kernel
theorem dX_join_66 : decode b_X_join 66 = .ok (.bipush 70, 2) := by decide +kernel
theorem dX_join_68 : decode b_X_join 68 = .ok (.iload_n 1, 1) := by decide +kernel
theorem dX_join_69 : decode b_X_join 69 = .ok (.iadd, 1) := by decide +kernel
theorem dX_join_70 : decode b_X_join 70 = .ok (.invokevirtual 117, 3) := by decide +kernel
theorem dX_join_73 : decode b_X_join 73 = .ok (.ifnull 5, 3) := by decide +kernel
theorem dX_join_76 : decode b_X_join 76 = .ok (.iconst (-1), 1) := by decide +kernel
theorem dX_join_77 : decode b_X_join 77 = .ok (.ireturn, 1) := by decide +kernel
theorem dX_join_78 : decode b_X_join 78 = .ok (.aload_n 0, 1) := by decide +kernel
theorem dX_join_79 : decode b_X_join 79 = .ok (.aload_n 2, 1) := by decide +kernel
theorem dX_join_80 : decode b_X_join 80 = .ok (.bipush 70, 2) := by decide +kernel
theorem dX_join_82 : decode b_X_join 82 = .ok (.iload_n 1, 1) := by decide +kernel
theorem dX_join_83 : decode b_X_join 83 = .ok (.iadd, 1) := by decide +kernel
theorem dX_join_84 : decode b_X_join 84 = .ok (.ldc2_w 137, 3) := by decide +kernel
theorem dX_join_87 : decode b_X_join 87 = .ok (.invokevirtual 113, 3) := by decide +kernel
theorem dX_join_90 : decode b_X_join 90 = .ok (.iconst 1, 1) := by decide +kernel
theorem dX_join_91 : decode b_X_join 91 = .ok (.ireturn, 1) := by decide +kernel
theorem dX_exit_0 : decode b_X_exit 0 = .ok (.aload_n 0, 1) := by decide +kernel
theorem dX_exit_1 : decode b_X_exit 1 = .ok (.invokevirtual 87, 3) := by decide +kernel
theorem dX_exit_4 : decode b_X_exit 4 = .ok (.astore_n 2, 1) := by decide +kernel
theorem dX_exit_5 : decode b_X_exit 5 = .ok (.aload_n 2, 1) := by decide +kernel
theorem dX_exit_6 : decode b_X_exit 6 = .ok (.ifnull 11, 3) := by decide +kernel
theorem dX_exit_9 : decode b_X_exit 9 = .ok (.aload_n 0, 1) := by decide +kernel
theorem dX_exit_10 : decode b_X_exit 10 = .ok (.aload_n 2, 1) := by decide +kernel
theorem dX_exit_11 : decode b_X_exit 11 = .ok (.invokevirtual 150, 3) := by decide +kernel
theorem dX_exit_14 : decode b_X_exit 14 = .ok (.ifCond .eq 5, 3) := by decide +kernel
theorem dX_exit_17 : decode b_X_exit 17 = .ok (.iconst (-1), 1) := by decide +kernel
theorem dX_exit_18 : decode b_X_exit 18 = .ok (.ireturn, 1) := by decide +kernel
theorem dX_exit_19 : decode b_X_exit 19 = .ok (.aload_n 0, 1) := by decide +kernel
theorem dX_exit_20 : decode b_X_exit 20 = .ok (.bipush 70, 2) := by decide +kernel
theorem dX_exit_22 : decode b_X_exit 22 = .ok (.aload_n 2, 1) := by decide +kernel
theorem dX_exit_23 : decode b_X_exit 23 = .ok (.getfield 74, 3) := by decide +kernel
theorem dX_exit_26 : decode b_X_exit 26 = .ok (.iadd, 1) := by decide +kernel
theorem dX_exit_27 : decode b_X_exit 27 = .ok (.invokevirtual 117, 3) := by decide +kernel
theorem dX_exit_30 : decode b_X_exit 30 = .ok (.astore_n 3, 1) := by decide +kernel
theorem dX_exit_31 : decode b_X_exit 31 = .ok (.aload_n 3, 1) := by decide +kernel
theorem dX_exit_32 : decode b_X_exit 32 = .ok (.ifnull 17, 3) := by decide +kernel
theorem dX_exit_35 : decode b_X_exit 35 = .ok (.aload_n 0, 1) := by decide +kernel
theorem dX_exit_36 : decode b_X_exit 36 = .ok (.aload_n 3, 1) := by decide +kernel
theorem dX_exit_37 : decode b_X_exit 37 = .ok (.iload_n 1, 1) := by decide +kernel
theorem dX_exit_38 : decode b_X_exit 38 = .ok (.invokevirtual 70, 3) := by decide +kernel
theorem dX_exit_41 : decode b_X_exit 41 = .ok (.aload_n 2, 1) := by decide +kernel
theorem dX_exit_42 : decode b_X_exit 42 = .ok (.iconst 0, 1) := by decide +kernel
theorem dX_exit_43 : decode b_X_exit 43 = .ok (.putfield 81, 3) := by decide +kernel
theorem dX_exit_46 : decode b_X_exit 46 = .ok (.goto 13, 3) := by decide +kernel
theorem dX_exit_49 : decode b_X_exit 49 = .ok (.aload_n 2, 1) := by decide +kernel
theorem dX_exit_50 : decode b_X_exit 50 = .ok (.iload_n 1, 1) := by decide +kernel
theorem dX_exit_51 : decode b_X_exit 51 = .ok (.putfield 124, 3) := by decide +kernel
theorem dX_exit_54 : decode b_X_exit 54 = .ok (.aload_n 2, 1) := by decide +kernel
theorem dX_exit_55 : decode b_X_exit 55 = .ok (.iconst 3, 1) := by decide +kernel
theorem dX_exit_56 : decode b_X_exit 56 = .ok (.putfield 81, 3) := by decide +kernel
theorem dX_exit_59 : decode b_X_exit 59 = .ok (.iconst 0, 1) := by decide +kernel
theorem dX_exit_60 : decode b_X_exit 60 = .ok (.ireturn, 1) := by decide +kernel
theorem dX_running_0 : decode b_X_running 0 = .ok (.aload_n 0, 1) := by decide +kernel
theorem dX_running_1 : decode b_X_running 1 = .ok (.invokevirtual 87, 3) := by decide +kernel
theorem dX_running_4 : decode b_X_running 4 = .ok (.astore_n 1, 1) := by decide +kernel
theorem dX_running_5 : decode b_X_running 5 = .ok (.aload_n 1, 1) := by decide +kernel
theorem dX_running_6 : decode b_X_running 6 = .ok (.ifnonnull 7, 3) := by decide +kernel
theorem dX_running_9 : decode b_X_running 9 = .ok (.iconst (-1), 1) := by decide +kernel
theorem dX_running_10 : decode b_X_running 10 = .ok (.goto 7, 3) := by decide +kernel
theorem dX_running_13 : decode b_X_running 13 = .ok (.aload_n 1, 1) := by decide +kernel
theorem dX_running_14 : decode b_X_running 14 = .ok (.getfield 74, 3) := by decide +kernel
theorem dX_running_17 : decode b_X_running 17 = .ok (.ireturn, 1) := by decide +kernel
theorem dX_tick_0 : decode b_X_tick 0 = .ok (.iload_n 1, 1) := by decide +kernel
theorem dX_tick_1 : decode b_X_tick 1 = .ok (.iconst 1, 1) := by decide +kernel
theorem dX_tick_2 : decode b_X_tick 2 = .ok (.if_icmp .lt 9, 3) := by decide +kernel
theorem dX_tick_5 : decode b_X_tick 5 = .ok (.iload_n 1, 1) := by decide +kernel
theorem dX_tick_6 : decode b_X_tick 6 = .ok (.bipush 100, 2) := by decide +kernel
theorem dX_tick_8 : decode b_X_tick 8 = .ok (.if_icmp .le 5, 3) := by decide +kernel
theorem dX_tick_11 : decode b_X_tick 11 = .ok (.iconst (-1), 1) := by decide +kernel
theorem dX_tick_12 : decode b_X_tick 12 = .ok (.ireturn, 1) := by decide +kernel
theorem dX_tick_13 : decode b_X_tick 13 = .ok (.iconst 0, 1) := by decide +kernel
theorem dX_tick_14 : decode b_X_tick 14 = .ok (.istore_n 2, 1) := by decide +kernel
theorem dX_tick_15 : decode b_X_tick 15 = .ok (.iload_n 2, 1) := by decide +kernel
theorem dX_tick_16 : decode b_X_tick 16 = .ok (.iload_n 1, 1) := by decide +kernel
theorem dX_tick_17 : decode b_X_tick 17 = .ok (.if_icmp .ge 13, 3) := by decide +kernel
theorem dX_tick_20 : decode b_X_tick 20 = .ok (.aload_n 0, 1) := by decide +kernel
theorem dX_tick_21 : decode b_X_tick 21 = .ok (.invokevirtual 154, 3) := by decide +kernel
theorem dX_tick_24 : decode b_X_tick 24 = .ok (.iinc 2 1, 3) := by decide +kernel
theorem dX_tick_27 : decode b_X_tick 27 = .ok (.goto (-12), 3) := by decide +kernel
theorem dX_tick_30 : decode b_X_tick 30 = .ok (.aload_n 0, 1) := by decide +kernel
theorem dX_tick_31 : decode b_X_tick 31 = .ok (.invokevirtual 157, 3) := by decide +kernel
theorem dX_tick_34 : decode b_X_tick 34 = .ok (.ireturn, 1) := by decide +kernel
theorem dX_tell_0 : decode b_X_tell 0 = .ok (.iload_n 1, 1) := by decide +kernel
theorem dX_tell_1 : decode b_X_tell 1 = .ok (.bipush 8, 2) := by decide +kernel
theorem dX_tell_3 : decode b_X_tell 3 = .ok (.invokestatic 77, 3) := by decide +kernel
theorem dX_tell_6 : decode b_X_tell 6 = .ok (.ifCond .ne 7, 3) := by decide +kernel
theorem dX_tell_9 : decode b_X_tell 9 = .ok (.ldc2_w 137, 3) := by decide +kernel
theorem dX_tell_12 : decode b_X_tell 12 = .ok (.lreturn, 1) := by decide +kernel
theorem dX_tell_13 : decode b_X_tell 13 = .ok (.aload_n 0, 1) := by decide +kernel
theorem dX_tell_14 : decode b_X_tell 14 = .ok (.getfield 11, 3) := by decide +kernel
theorem dX_tell_17 : decode b_X_tell 17 = .ok (.iload_n 1, 1) := by decide +kernel
theorem dX_tell_18 : decode b_X_tell 18 = .ok (.aaload, 1) := by decide +kernel
theorem dX_tell_19 : decode b_X_tell 19 = .ok (.astore_n 3, 1) := by decide +kernel
theorem dX_tell_20 : decode b_X_tell 20 = .ok (.iload_n 2, 1) := by decide +kernel
theorem dX_tell_21 : decode b_X_tell 21 = .ok (.ifCond .ne 9, 3) := by decide +kernel
theorem dX_tell_24 : decode b_X_tell 24 = .ok (.aload_n 3, 1) := by decide +kernel
theorem dX_tell_25 : decode b_X_tell 25 = .ok (.getfield 81, 3) := by decide +kernel
theorem dX_tell_28 : decode b_X_tell 28 = .ok (.i2l, 1) := by decide +kernel
theorem dX_tell_29 : decode b_X_tell 29 = .ok (.lreturn, 1) := by decide +kernel
theorem dX_tell_30 : decode b_X_tell 30 = .ok (.aload_n 3, 1) := by decide +kernel
theorem dX_tell_31 : decode b_X_tell 31 = .ok (.getfield 81, 3) := by decide +kernel
theorem dX_tell_34 : decode b_X_tell 34 = .ok (.ifCond .ne 7, 3) := by decide +kernel
theorem dX_tell_37 : decode b_X_tell 37 = .ok (.ldc2_w 137, 3) := by decide +kernel
theorem dX_tell_40 : decode b_X_tell 40 = .ok (.lreturn, 1) := by decide +kernel
theorem dX_tell_41 : decode b_X_tell 41 = .ok (.iload_n 2, 1) := by decide +kernel
theorem dX_tell_42 : decode b_X_tell 42 = .ok (.tableswitch 67 1 5 #[34, 40, 50, 56, 62], 34) := by decide +kernel
theorem dX_tell_76 : decode b_X_tell 76 = .ok (.aload_n 3, 1) := by decide +kernel
theorem dX_tell_77 : decode b_X_tell 77 = .ok (.getfield 63, 3) := by decide +kernel
theorem dX_tell_80 : decode b_X_tell 80 = .ok (.i2l, 1) := by decide +kernel
theorem dX_tell_81 : decode b_X_tell 81 = .ok (.lreturn, 1) := by decide +kernel
theorem dX_tell_82 : decode b_X_tell 82 = .ok (.aload_n 0, 1) := by decide +kernel
theorem dX_tell_83 : decode b_X_tell 83 = .ok (.invokevirtual 160, 3) := by decide +kernel
theorem dX_tell_86 : decode b_X_tell 86 = .ok (.aload_n 3, 1) := by decide +kernel
theorem dX_tell_87 : decode b_X_tell 87 = .ok (.getfield 163, 3) := by decide +kernel
theorem dX_tell_90 : decode b_X_tell 90 = .ok (.i2l, 1) := by decide +kernel
theorem dX_tell_91 : decode b_X_tell 91 = .ok (.lreturn, 1) := by decide +kernel
theorem dX_tell_92 : decode b_X_tell 92 = .ok (.aload_n 3, 1) := by decide +kernel
theorem dX_tell_93 : decode b_X_tell 93 = .ok (.getfield 124, 3) := by decide +kernel
theorem dX_tell_96 : decode b_X_tell 96 = .ok (.i2l, 1) := by decide +kernel
theorem dX_tell_97 : decode b_X_tell 97 = .ok (.lreturn, 1) := by decide +kernel
theorem dX_tell_98 : decode b_X_tell 98 = .ok (.aload_n 3, 1) := by decide +kernel
theorem dX_tell_99 : decode b_X_tell 99 = .ok (.getfield 166, 3) := by decide +kernel
theorem dX_tell_102 : decode b_X_tell 102 = .ok (.i2l, 1) := by decide +kernel
theorem dX_tell_103 : decode b_X_tell 103 = .ok (.lreturn, 1) := by decide +kernel
theorem dX_tell_104 : decode b_X_tell 104 = .ok (.aload_n 3, 1) := by decide +kernel
theorem dX_tell_105 : decode b_X_tell 105 = .ok (.getfield 169, 3) := by decide +kernel
theorem dX_tell_108 : decode b_X_tell 108 = .ok (.lreturn, 1) := by decide +kernel
theorem dX_tell_109 : decode b_X_tell 109 = .ok (.ldc2_w 137, 3) := by decide +kernel
theorem dX_tell_112 : decode b_X_tell 112 = .ok (.lreturn, 1) := by decide +kernel
theorem dX_owner_0 : decode b_X_owner 0 = .ok (.iload_n 1, 1) := by decide +kernel
theorem dX_owner_1 : decode b_X_owner 1 = .ok (.iconst 4, 1) := by decide +kernel
theorem dX_owner_2 : decode b_X_owner 2 = .ok (.invokestatic 77, 3) := by decide +kernel
theorem dX_owner_5 : decode b_X_owner 5 = .ok (.ifCond .eq 12, 3) := by decide +kernel
theorem dX_owner_8 : decode b_X_owner 8 = .ok (.aload_n 0, 1) := by decide +kernel
theorem dX_owner_9 : decode b_X_owner 9 = .ok (.getfield 15, 3) := by decide +kernel
theorem dX_owner_12 : decode b_X_owner 12 = .ok (.iload_n 1, 1) := by decide +kernel
theorem dX_owner_13 : decode b_X_owner 13 = .ok (.iaload, 1) := by decide +kernel
theorem dX_owner_14 : decode b_X_owner 14 = .ok (.goto 4, 3) := by decide +kernel
theorem dX_owner_17 : decode b_X_owner 17 = .ok (.iconst (-1), 1) := by decide +kernel
theorem dX_owner_18 : decode b_X_owner 18 = .ok (.ireturn, 1) := by decide +kernel
theorem dX_count_0 : decode b_X_count 0 = .ok (.iload_n 1, 1) := by decide +kernel
theorem dX_count_1 : decode b_X_count 1 = .ok (.tableswitch 68 0 5 #[39, 39, 46, 46, 58, 63], 39) := by decide +kernel
theorem dX_count_40 : decode b_X_count 40 = .ok (.aload_n 0, 1) := by decide +kernel
theorem dX_count_41 : decode b_X_count 41 = .ok (.getfield 19, 3) := by decide +kernel
theorem dX_count_44 : decode b_X_count 44 = .ok (.iload_n 1, 1) := by decide +kernel
theorem dX_count_45 : decode b_X_count 45 = .ok (.iaload, 1) := by decide +kernel
theorem dX_count_46 : decode b_X_count 46 = .ok (.ireturn, 1) := by decide +kernel
theorem dX_count_47 : decode b_X_count 47 = .ok (.aload_n 0, 1) := by decide +kernel
theorem dX_count_48 : decode b_X_count 48 = .ok (.getfield 24, 3) := by decide +kernel
theorem dX_count_51 : decode b_X_count 51 = .ok (.iload_n 1, 1) := by decide +kernel
theorem dX_count_52 : decode b_X_count 52 = .ok (.iconst 2, 1) := by decide +kernel
theorem dX_count_53 : decode b_X_count 53 = .ok (.isub, 1) := by decide +kernel
theorem dX_count_54 : decode b_X_count 54 = .ok (.aaload, 1) := by decide +kernel
theorem dX_count_55 : decode b_X_count 55 = .ok (.getfield 172, 3) := by decide +kernel
theorem dX_count_58 : decode b_X_count 58 = .ok (.ireturn, 1) := by decide +kernel
theorem dX_count_59 : decode b_X_count 59 = .ok (.aload_n 0, 1) := by decide +kernel
theorem dX_count_60 : decode b_X_count 60 = .ok (.getfield 28, 3) := by decide +kernel
theorem dX_count_63 : decode b_X_count 63 = .ok (.ireturn, 1) := by decide +kernel
theorem dX_count_64 : decode b_X_count 64 = .ok (.aload_n 0, 1) := by decide +kernel
theorem dX_count_65 : decode b_X_count 65 = .ok (.invokevirtual 175, 3) := by decide +kernel
theorem dX_count_68 : decode b_X_count 68 = .ok (.ireturn, 1) := by decide +kernel
theorem dX_count_69 : decode b_X_count 69 = .ok (.iconst (-1), 1) := by decide +kernel
theorem dX_count_70 : decode b_X_count 70 = .ok (.ireturn, 1) := by decide +kernel
theorem dX_init_0 : decode b_X_init 0 = .ok (.aload_n 0, 1) := by decide +kernel
theorem dX_init_1 : decode b_X_init 1 = .ok (.invokespecial 1, 3) := by decide +kernel
theorem dX_init_4 : decode b_X_init 4 = .ok (.aload_n 0, 1) := by decide +kernel
theorem dX_init_5 : decode b_X_init 5 = .ok (.bipush 8, 2) := by decide +kernel
theorem dX_init_7 : decode b_X_init 7 = .ok (.anewarray 9, 3) := by decide +kernel
theorem dX_init_10 : decode b_X_init 10 = .ok (.putfield 11, 3) := by decide +kernel
theorem dX_init_13 : decode b_X_init 13 = .ok (.aload_n 0, 1) := by decide +kernel
theorem dX_init_14 : decode b_X_init 14 = .ok (.iconst 4, 1) := by decide +kernel
theorem dX_init_15 : decode b_X_init 15 = .ok (.newarray .int, 2) := by decide +kernel
theorem dX_init_17 : decode b_X_init 17 = .ok (.putfield 15, 3) := by decide +kernel
theorem dX_init_20 : decode b_X_init 20 = .ok (.aload_n 0, 1) := by decide +kernel
theorem dX_init_21 : decode b_X_init 21 = .ok (.iconst 2, 1) := by decide +kernel
theorem dX_init_22 : decode b_X_init 22 = .ok (.newarray .int, 2) := by decide +kernel
theorem dX_init_24 : decode b_X_init 24 = .ok (.putfield 19, 3) := by decide +kernel
theorem dX_init_27 : decode b_X_init 27 = .ok (.aload_n 0, 1) := by decide +kernel
theorem dX_init_28 : decode b_X_init 28 = .ok (.iconst 2, 1) := by decide +kernel
theorem dX_init_29 : decode b_X_init 29 = .ok (.anewarray 22, 3) := by decide +kernel
theorem dX_init_32 : decode b_X_init 32 = .ok (.putfield 24, 3) := by decide +kernel
theorem dX_init_35 : decode b_X_init 35 = .ok (.aload_n 0, 1) := by decide +kernel
theorem dX_init_36 : decode b_X_init 36 = .ok (.iconst 0, 1) := by decide +kernel
theorem dX_init_37 : decode b_X_init 37 = .ok (.putfield 28, 3) := by decide +kernel
theorem dX_init_40 : decode b_X_init 40 = .ok (.aload_n 0, 1) := by decide +kernel
theorem dX_init_41 : decode b_X_init 41 = .ok (.lconst 0, 1) := by decide +kernel
theorem dX_init_42 : decode b_X_init 42 = .ok (.putfield 32, 3) := by decide +kernel
theorem dX_init_45 : decode b_X_init 45 = .ok (.aload_n 0, 1) := by decide +kernel
theorem dX_init_46 : decode b_X_init 46 = .ok (.iconst 1, 1) := by decide +kernel
theorem dX_init_47 : decode b_X_init 47 = .ok (.bipush 20, 2) := by decide +kernel
theorem dX_init_49 : decode b_X_init 49 = .ok (.iload_n 1, 1) := by decide +kernel
theorem dX_init_50 : decode b_X_init 50 = .ok (.invokestatic 36, 3) := by decide +kernel
theorem dX_init_53 : decode b_X_init 53 = .ok (.invokestatic 42, 3) := by decide +kernel
theorem dX_init_56 : decode b_X_init 56 = .ok (.putfield 45, 3) := by decide +kernel
theorem dX_init_59 : decode b_X_init 59 = .ok (.aload_n 0, 1) := by decide +kernel
theorem dX_init_60 : decode b_X_init 60 = .ok (.iconst 1, 1) := by decide +kernel
theorem dX_init_61 : decode b_X_init 61 = .ok (.bipush 31, 2) := by decide +kernel
theorem dX_init_63 : decode b_X_init 63 = .ok (.iload_n 2, 1) := by decide +kernel
theorem dX_init_64 : decode b_X_init 64 = .ok (.invokestatic 36, 3) := by decide +kernel
theorem dX_init_67 : decode b_X_init 67 = .ok (.invokestatic 42, 3) := by decide +kernel
theorem dX_init_70 : decode b_X_init 70 = .ok (.putfield 48, 3) := by decide +kernel
theorem dX_init_73 : decode b_X_init 73 = .ok (.iconst 0, 1) := by decide +kernel
theorem dX_init_74 : decode b_X_init 74 = .ok (.istore_n 3, 1) := by decide +kernel
theorem dX_init_75 : decode b_X_init 75 = .ok (.iload_n 3, 1) := by decide +kernel
theorem dX_init_76 : decode b_X_init 76 = .ok (.bipush 8, 2) := by decide +kernel
theorem dX_init_78 : decode b_X_init 78 = .ok (.if_icmp .ge 23, 3) := by decide +kernel
theorem dX_init_81 : decode b_X_init 81 = .ok (.aload_n 0, 1) := by decide +kernel
theorem dX_init_82 : decode b_X_init 82 = .ok (.getfield 11, 3) := by decide +kernel
theorem dX_init_85 : decode b_X_init 85 = .ok (.iload_n 3, 1) := by decide +kernel
theorem dX_init_86 : decode b_X_init 86 = .ok (.new 9, 3) := by decide +kernel
theorem dX_init_89 : decode b_X_init 89 = .ok (.dup, 1) := by decide +kernel
theorem dX_init_90 : decode b_X_init 90 = .ok (.iload_n 3, 1) := by decide +kernel
theorem dX_init_91 : decode b_X_init 91 = .ok (.invokespecial 51, 3) := by decide +kernel
theorem dX_init_94 : decode b_X_init 94 = .ok (.aastore, 1) := by decide +kernel
theorem dX_init_95 : decode b_X_init 95 = .ok (.iinc 3 1, 3) := by decide +kernel
theorem dX_init_98 : decode b_X_init 98 = .ok (.goto (-23), 3) := by decide +kernel
theorem dX_init_101 : decode b_X_init 101 = .ok (.iconst 0, 1) := by decide +kernel
theorem dX_init_102 : decode b_X_init 102 = .ok (.istore_n 3, 1) := by decide +kernel
theorem dX_init_103 : decode b_X_init 103 = .ok (.iload_n 3, 1) := by decide +kernel
theorem dX_init_104 : decode b_X_init 104 = .ok (.iconst 4, 1) := by decide +kernel
theorem dX_init_105 : decode b_X_init 105 = .ok (.if_icmp .ge 16, 3) := by decide +kernel
theorem dX_init_108 : decode b_X_init 108 = .ok (.aload_n 0, 1) := by decide +kernel
theorem dX_init_109 : decode b_X_init 109 = .ok (.getfield 15, 3) := by decide +kernel
theorem dX_init_112 : decode b_X_init 112 = .ok (.iload_n 3, 1) := by decide +kernel
theorem dX_init_113 : decode b_X_init 113 = .ok (.iconst (-1), 1) := by decide +kernel
theorem dX_init_114 : decode b_X_init 114 = .ok (.iastore, 1) := by decide +kernel
theorem dX_init_115 : decode b_X_init 115 = .ok (.iinc 3 1, 3) := by decide +kernel
theorem dX_init_118 : decode b_X_init 118 = .ok (.goto (-15), 3) := by decide +kernel
theorem dX_init_121 : decode b_X_init 121 = .ok (.iconst 0, 1) := by decide +kernel
theorem dX_init_122 : decode b_X_init 122 = .ok (.istore_n 3, 1) := by decide +kernel
theorem dX_init_123 : decode b_X_init 123 = .ok (.iload_n 3, 1) := by decide +kernel
theorem dX_init_124 : decode b_X_init 124 = .ok (.iconst 2, 1) := by decide +kernel
theorem dX_init_125 : decode b_X_init 125 = .ok (.if_icmp .ge 22, 3) := by decide +kernel
theorem dX_init_128 : decode b_X_init 128 = .ok (.aload_n 0, 1) := by decide +kernel
theorem dX_init_129 : decode b_X_init 129 = .ok (.getfield 24, 3) := by decide +kernel
theorem dX_init_132 : decode b_X_init 132 = .ok (.iload_n 3, 1) := by decide +kernel
theorem dX_init_133 : decode b_X_init 133 = .ok (.new 22, 3) := by decide +kernel
theorem dX_init_136 : decode b_X_init 136 = .ok (.dup, 1) := by decide +kernel
theorem dX_init_137 : decode b_X_init 137 = .ok (.invokespecial 54, 3) := by decide +kernel
theorem dX_init_140 : decode b_X_init 140 = .ok (.aastore, 1) := by decide +kernel
theorem dX_init_141 : decode b_X_init 141 = .ok (.iinc 3 1, 3) := by decide +kernel
theorem dX_init_144 : decode b_X_init 144 = .ok (.goto (-21), 3) := by decide +kernel
theorem dX_init_147 : decode b_X_init 147 = .ok (.return_, 1) := by decide +kernel
theorem dT_init_0 : decode b_T_init 0 = .ok (.aload_n 0, 1) := by decide +kernel
theorem dT_init_1 : decode b_T_init 1 = .ok (.invokespecial 3, 3) := by decide +kernel
theorem dT_init_4 : decode b_T_init 4 = .ok (.aload_n 0, 1) := by decide +kernel
theorem dT_init_5 : decode b_T_init 5 = .ok (.iconst 0, 1) := by decide +kernel
theorem dT_init_6 : decode b_T_init 6 = .ok (.putfield 9, 3) := by decide +kernel
theorem dT_init_9 : decode b_T_init 9 = .ok (.aload_n 0, 1) := by decide +kernel
theorem dT_init_10 : decode b_T_init 10 = .ok (.iconst 1, 1) := by decide +kernel
theorem dT_init_11 : decode b_T_init 11 = .ok (.putfield 15, 3) := by decide +kernel
theorem dT_init_14 : decode b_T_init 14 = .ok (.aload_n 0, 1) := by decide +kernel
theorem dT_init_15 : decode b_T_init 15 = .ok (.iconst 1, 1) := by decide +kernel
theorem dT_init_16 : decode b_T_init 16 = .ok (.putfield 18, 3) := by decide +kernel
theorem dT_init_19 : decode b_T_init 19 = .ok (.aload_n 0, 1) := by decide +kernel
theorem dT_init_20 : decode b_T_init 20 = .ok (.iconst 0, 1) := by decide +kernel
theorem dT_init_21 : decode b_T_init 21 = .ok (.putfield 21, 3) := by decide +kernel
theorem dT_init_24 : decode b_T_init 24 = .ok (.aload_n 0, 1) := by decide +kernel
theorem dT_init_25 : decode b_T_init 25 = .ok (.iconst 0, 1) := by decide +kernel
theorem dT_init_26 : decode b_T_init 26 = .ok (.putfield 25, 3) := by decide +kernel
theorem dT_init_29 : decode b_T_init 29 = .ok (.aload_n 0, 1) := by decide +kernel
theorem dT_init_30 : decode b_T_init 30 = .ok (.iconst 0, 1) := by decide +kernel
theorem dT_init_31 : decode b_T_init 31 = .ok (.putfield 28, 3) := by decide +kernel
theorem dT_init_34 : decode b_T_init 34 = .ok (.aload_n 0, 1) := by decide +kernel
theorem dT_init_35 : decode b_T_init 35 = .ok (.lconst 0, 1) := by decide +kernel
theorem dT_init_36 : decode b_T_init 36 = .ok (.putfield 31, 3) := by decide +kernel
theorem dT_init_39 : decode b_T_init 39 = .ok (.aload_n 0, 1) := by decide +kernel
theorem dT_init_40 : decode b_T_init 40 = .ok (.iconst 0, 1) := by decide +kernel
theorem dT_init_41 : decode b_T_init 41 = .ok (.putfield 35, 3) := by decide +kernel
theorem dT_init_44 : decode b_T_init 44 = .ok (.aload_n 0, 1) := by decide +kernel
theorem dT_init_45 : decode b_T_init 45 = .ok (.ldc2_w 38, 3) := by decide +kernel
theorem dT_init_48 : decode b_T_init 48 = .ok (.putfield 40, 3) := by decide +kernel
theorem dT_init_51 : decode b_T_init 51 = .ok (.aload_n 0, 1) := by decide +kernel
theorem dT_init_52 : decode b_T_init 52 = .ok (.iconst 0, 1) := by decide +kernel
theorem dT_init_53 : decode b_T_init 53 = .ok (.putfield 43, 3) := by decide +kernel
theorem dT_init_56 : decode b_T_init 56 = .ok (.aload_n 0, 1) := by decide +kernel
theorem dT_init_57 : decode b_T_init 57 = .ok (.iconst 0, 1) := by decide +kernel
theorem dT_init_58 : decode b_T_init 58 = .ok (.putfield 46, 3) := by decide +kernel
theorem dT_init_61 : decode b_T_init 61 = .ok (.aload_n 0, 1) := by decide +kernel
theorem dT_init_62 : decode b_T_init 62 = .ok (.iconst 0, 1) := by decide +kernel
theorem dT_init_63 : decode b_T_init 63 = .ok (.putfield 49, 3) := by decide +kernel
theorem dT_init_66 : decode b_T_init 66 = .ok (.aload_n 0, 1) := by decide +kernel
theorem dT_init_67 : decode b_T_init 67 = .ok (.iconst 0, 1) := by decide +kernel
theorem dT_init_68 : decode b_T_init 68 = .ok (.putfield 52, 3) := by decide +kernel
theorem dT_init_71 : decode b_T_init 71 = .ok (.aload_n 0, 1) := by decide +kernel
theorem dT_init_72 : decode b_T_init 72 = .ok (.iload_n 1, 1) := by decide +kernel
theorem dT_init_73 : decode b_T_init 73 = .ok (.putfield 55, 3) := by decide +kernel
theorem dT_init_76 : decode b_T_init 76 = .ok (.return_, 1) := by decide +kernel
theorem dQ_init_0 : decode b_Q_init 0 = .ok (.aload_n 0, 1) := by decide +kernel
theorem dQ_init_1 : decode b_Q_init 1 = .ok (.invokespecial 3, 3) := by decide +kernel
theorem dQ_init_4 : decode b_Q_init 4 = .ok (.aload_n 0, 1) := by decide +kernel
theorem dQ_init_5 : decode b_Q_init 5 = .ok (.iconst 4, 1) := by decide +kernel
theorem dQ_init_6 : decode b_Q_init 6 = .ok (.newarray .int, 2) := by decide +kernel
theorem dQ_init_8 : decode b_Q_init 8 = .ok (.putfield 9, 3) := by decide +kernel
theorem dQ_init_11 : decode b_Q_init 11 = .ok (.aload_n 0, 1) := by decide +kernel
theorem dQ_init_12 : decode b_Q_init 12 = .ok (.iconst 4, 1) := by decide +kernel
theorem dQ_init_13 : decode b_Q_init 13 = .ok (.newarray .int, 2) := by decide +kernel
theorem dQ_init_15 : decode b_Q_init 15 = .ok (.putfield 15, 3) := by decide +kernel
theorem dQ_init_18 : decode b_Q_init 18 = .ok (.aload_n 0, 1) := by decide +kernel
theorem dQ_init_19 : decode b_Q_init 19 = .ok (.iconst 0, 1) := by decide +kernel
theorem dQ_init_20 : decode b_Q_init 20 = .ok (.putfield 18, 3) := by decide +kernel
theorem dQ_init_23 : decode b_Q_init 23 = .ok (.return_, 1) := by decide +kernel
