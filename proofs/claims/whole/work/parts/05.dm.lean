theorem dM_out_0 : decode b_M_out 0 = .ok (.iload_n 1, 1) := by decide +kernel
theorem dM_out_1 : decode b_M_out 1 = .ok (.ifCond .lt 8, 3) := by decide +kernel
theorem dM_out_4 : decode b_M_out 4 = .ok (.iload_n 1, 1) := by decide +kernel
theorem dM_out_5 : decode b_M_out 5 = .ok (.iload_n 2, 1) := by decide +kernel
theorem dM_out_6 : decode b_M_out 6 = .ok (.if_icmp .lt 7, 3) := by decide +kernel
theorem dM_out_9 : decode b_M_out 9 = .ok (.iconst 1, 1) := by decide +kernel
theorem dM_out_10 : decode b_M_out 10 = .ok (.goto 4, 3) := by decide +kernel
theorem dM_out_13 : decode b_M_out 13 = .ok (.iconst 0, 1) := by decide +kernel
theorem dM_out_14 : decode b_M_out 14 = .ok (.ireturn, 1) := by decide +kernel
theorem dM_newStamp_0 : decode b_M_newStamp 0 = .ok (.aload_n 0, 1) := by decide +kernel
theorem dM_newStamp_1 : decode b_M_newStamp 1 = .ok (.dup, 1) := by decide +kernel
theorem dM_newStamp_2 : decode b_M_newStamp 2 = .ok (.getfield 13, 3) := by decide +kernel
theorem dM_newStamp_5 : decode b_M_newStamp 5 = .ok (.iconst 1, 1) := by decide +kernel
theorem dM_newStamp_6 : decode b_M_newStamp 6 = .ok (.iadd, 1) := by decide +kernel
theorem dM_newStamp_7 : decode b_M_newStamp 7 = .ok (.putfield 13, 3) := by decide +kernel
theorem dM_newStamp_10 : decode b_M_newStamp 10 = .ok (.aload_n 0, 1) := by decide +kernel
theorem dM_newStamp_11 : decode b_M_newStamp 11 = .ok (.getfield 13, 3) := by decide +kernel
theorem dM_newStamp_14 : decode b_M_newStamp 14 = .ok (.ireturn, 1) := by decide +kernel
theorem dM_ready_0 : decode b_M_ready 0 = .ok (.aload_n 0, 1) := by decide +kernel
theorem dM_ready_1 : decode b_M_ready 1 = .ok (.getfield 16, 3) := by decide +kernel
theorem dM_ready_4 : decode b_M_ready 4 = .ok (.iload_n 1, 1) := by decide +kernel
theorem dM_ready_5 : decode b_M_ready 5 = .ok (.iconst 1, 1) := by decide +kernel
theorem dM_ready_6 : decode b_M_ready 6 = .ok (.iastore, 1) := by decide +kernel
theorem dM_ready_7 : decode b_M_ready 7 = .ok (.aload_n 0, 1) := by decide +kernel
theorem dM_ready_8 : decode b_M_ready 8 = .ok (.getfield 29, 3) := by decide +kernel
theorem dM_ready_11 : decode b_M_ready 11 = .ok (.iload_n 1, 1) := by decide +kernel
theorem dM_ready_12 : decode b_M_ready 12 = .ok (.iconst 0, 1) := by decide +kernel
theorem dM_ready_13 : decode b_M_ready 13 = .ok (.iastore, 1) := by decide +kernel
theorem dM_ready_14 : decode b_M_ready 14 = .ok (.aload_n 0, 1) := by decide +kernel
theorem dM_ready_15 : decode b_M_ready 15 = .ok (.getfield 35, 3) := by decide +kernel
theorem dM_ready_18 : decode b_M_ready 18 = .ok (.iload_n 1, 1) := by decide +kernel
theorem dM_ready_19 : decode b_M_ready 19 = .ok (.iconst 0, 1) := by decide +kernel
theorem dM_ready_20 : decode b_M_ready 20 = .ok (.iastore, 1) := by decide +kernel
theorem dM_ready_21 : decode b_M_ready 21 = .ok (.aload_n 0, 1) := by decide +kernel
theorem dM_ready_22 : decode b_M_ready 22 = .ok (.getfield 23, 3) := by decide +kernel
theorem dM_ready_25 : decode b_M_ready 25 = .ok (.iload_n 1, 1) := by decide +kernel
theorem dM_ready_26 : decode b_M_ready 26 = .ok (.aload_n 0, 1) := by decide +kernel
theorem dM_ready_27 : decode b_M_ready 27 = .ok (.invokevirtual 81, 3) := by decide +kernel
theorem dM_ready_30 : decode b_M_ready 30 = .ok (.iastore, 1) := by decide +kernel
theorem dM_ready_31 : decode b_M_ready 31 = .ok (.aload_n 0, 1) := by decide +kernel
theorem dM_ready_32 : decode b_M_ready 32 = .ok (.getfield 26, 3) := by decide +kernel
theorem dM_ready_35 : decode b_M_ready 35 = .ok (.iload_n 1, 1) := by decide +kernel
theorem dM_ready_36 : decode b_M_ready 36 = .ok (.iconst 0, 1) := by decide +kernel
theorem dM_ready_37 : decode b_M_ready 37 = .ok (.iastore, 1) := by decide +kernel
theorem dM_ready_38 : decode b_M_ready 38 = .ok (.return_, 1) := by decide +kernel
theorem dM_block_0 : decode b_M_block 0 = .ok (.aload_n 0, 1) := by decide +kernel
theorem dM_block_1 : decode b_M_block 1 = .ok (.getfield 16, 3) := by decide +kernel
theorem dM_block_4 : decode b_M_block 4 = .ok (.iload_n 1, 1) := by decide +kernel
theorem dM_block_5 : decode b_M_block 5 = .ok (.iconst 2, 1) := by decide +kernel
theorem dM_block_6 : decode b_M_block 6 = .ok (.iastore, 1) := by decide +kernel
theorem dM_block_7 : decode b_M_block 7 = .ok (.aload_n 0, 1) := by decide +kernel
theorem dM_block_8 : decode b_M_block 8 = .ok (.getfield 29, 3) := by decide +kernel
theorem dM_block_11 : decode b_M_block 11 = .ok (.iload_n 1, 1) := by decide +kernel
theorem dM_block_12 : decode b_M_block 12 = .ok (.iload_n 2, 1) := by decide +kernel
theorem dM_block_13 : decode b_M_block 13 = .ok (.iastore, 1) := by decide +kernel
theorem dM_block_14 : decode b_M_block 14 = .ok (.aload_n 0, 1) := by decide +kernel
theorem dM_block_15 : decode b_M_block 15 = .ok (.getfield 35, 3) := by decide +kernel
theorem dM_block_18 : decode b_M_block 18 = .ok (.iload_n 1, 1) := by decide +kernel
theorem dM_block_19 : decode b_M_block 19 = .ok (.iload_n 3, 1) := by decide +kernel
theorem dM_block_20 : decode b_M_block 20 = .ok (.iastore, 1) := by decide +kernel
theorem dM_block_21 : decode b_M_block 21 = .ok (.aload_n 0, 1) := by decide +kernel
theorem dM_block_22 : decode b_M_block 22 = .ok (.getfield 32, 3) := by decide +kernel
theorem dM_block_25 : decode b_M_block 25 = .ok (.iload_n 1, 1) := by decide +kernel
theorem dM_block_26 : decode b_M_block 26 = .ok (.aload_n 0, 1) := by decide +kernel
theorem dM_block_27 : decode b_M_block 27 = .ok (.invokevirtual 81, 3) := by decide +kernel
theorem dM_block_30 : decode b_M_block 30 = .ok (.iastore, 1) := by decide +kernel
theorem dM_block_31 : decode b_M_block 31 = .ok (.aload_n 0, 1) := by decide +kernel
theorem dM_block_32 : decode b_M_block 32 = .ok (.getfield 54, 3) := by decide +kernel
theorem dM_block_35 : decode b_M_block 35 = .ok (.iload_n 1, 1) := by decide +kernel
theorem dM_block_36 : decode b_M_block 36 = .ok (.iconst 0, 1) := by decide +kernel
theorem dM_block_37 : decode b_M_block 37 = .ok (.bastore, 1) := by decide +kernel
theorem dM_block_38 : decode b_M_block 38 = .ok (.return_, 1) := by decide +kernel
theorem dM_weigh_0 : decode b_M_weigh 0 = .ok (.iconst 0, 1) := by decide +kernel
theorem dM_weigh_1 : decode b_M_weigh 1 = .ok (.istore_n 1, 1) := by decide +kernel
theorem dM_weigh_2 : decode b_M_weigh 2 = .ok (.iload_n 1, 1) := by decide +kernel
theorem dM_weigh_3 : decode b_M_weigh 3 = .ok (.bipush 8, 2) := by decide +kernel
theorem dM_weigh_5 : decode b_M_weigh 5 = .ok (.if_icmp .ge 51, 3) := by decide +kernel
theorem dM_weigh_8 : decode b_M_weigh 8 = .ok (.aload_n 0, 1) := by decide +kernel
theorem dM_weigh_9 : decode b_M_weigh 9 = .ok (.getfield 72, 3) := by decide +kernel
theorem dM_weigh_12 : decode b_M_weigh 12 = .ok (.iload_n 1, 1) := by decide +kernel
theorem dM_weigh_13 : decode b_M_weigh 13 = .ok (.aload_n 0, 1) := by decide +kernel
theorem dM_weigh_14 : decode b_M_weigh 14 = .ok (.getfield 57, 3) := by decide +kernel
theorem dM_weigh_17 : decode b_M_weigh 17 = .ok (.iconst 3, 1) := by decide +kernel
theorem dM_weigh_18 : decode b_M_weigh 18 = .ok (.iaload, 1) := by decide +kernel
theorem dM_weigh_19 : decode b_M_weigh 19 = .ok (.iload_n 1, 1) := by decide +kernel
theorem dM_weigh_20 : decode b_M_weigh 20 = .ok (.if_icmp .ne 23, 3) := by decide +kernel
theorem dM_weigh_23 : decode b_M_weigh 23 = .ok (.aload_n 0, 1) := by decide +kernel
theorem dM_weigh_24 : decode b_M_weigh 24 = .ok (.getfield 20, 3) := by decide +kernel
theorem dM_weigh_27 : decode b_M_weigh 27 = .ok (.iload_n 1, 1) := by decide +kernel
theorem dM_weigh_28 : decode b_M_weigh 28 = .ok (.iaload, 1) := by decide +kernel
theorem dM_weigh_29 : decode b_M_weigh 29 = .ok (.aload_n 0, 1) := by decide +kernel
theorem dM_weigh_30 : decode b_M_weigh 30 = .ok (.getfield 78, 3) := by decide +kernel
theorem dM_weigh_33 : decode b_M_weigh 33 = .ok (.if_icmp .ge 10, 3) := by decide +kernel
theorem dM_weigh_36 : decode b_M_weigh 36 = .ok (.aload_n 0, 1) := by decide +kernel
theorem dM_weigh_37 : decode b_M_weigh 37 = .ok (.getfield 78, 3) := by decide +kernel
theorem dM_weigh_40 : decode b_M_weigh 40 = .ok (.goto 9, 3) := by decide +kernel
theorem dM_weigh_43 : decode b_M_weigh 43 = .ok (.aload_n 0, 1) := by decide +kernel
theorem dM_weigh_44 : decode b_M_weigh 44 = .ok (.getfield 20, 3) := by decide +kernel
theorem dM_weigh_47 : decode b_M_weigh 47 = .ok (.iload_n 1, 1) := by decide +kernel
theorem dM_weigh_48 : decode b_M_weigh 48 = .ok (.iaload, 1) := by decide +kernel
theorem dM_weigh_49 : decode b_M_weigh 49 = .ok (.iastore, 1) := by decide +kernel
theorem dM_weigh_50 : decode b_M_weigh 50 = .ok (.iinc 1 1, 3) := by decide +kernel
theorem dM_weigh_53 : decode b_M_weigh 53 = .ok (.goto (-51), 3) := by decide +kernel
theorem dM_weigh_56 : decode b_M_weigh 56 = .ok (.iconst 0, 1) := by decide +kernel
theorem dM_weigh_57 : decode b_M_weigh 57 = .ok (.istore_n 1, 1) := by decide +kernel
theorem dM_weigh_58 : decode b_M_weigh 58 = .ok (.iload_n 1, 1) := by decide +kernel
theorem dM_weigh_59 : decode b_M_weigh 59 = .ok (.bipush 8, 2) := by decide +kernel
theorem dM_weigh_61 : decode b_M_weigh 61 = .ok (.if_icmp .ge 99, 3) := by decide +kernel
theorem dM_weigh_64 : decode b_M_weigh 64 = .ok (.iconst 0, 1) := by decide +kernel
theorem dM_weigh_65 : decode b_M_weigh 65 = .ok (.istore_n 2, 1) := by decide +kernel
theorem dM_weigh_66 : decode b_M_weigh 66 = .ok (.iload_n 2, 1) := by decide +kernel
theorem dM_weigh_67 : decode b_M_weigh 67 = .ok (.bipush 8, 2) := by decide +kernel
theorem dM_weigh_69 : decode b_M_weigh 69 = .ok (.if_icmp .ge 85, 3) := by decide +kernel
theorem dM_weigh_72 : decode b_M_weigh 72 = .ok (.aload_n 0, 1) := by decide +kernel
theorem dM_weigh_73 : decode b_M_weigh 73 = .ok (.getfield 29, 3) := by decide +kernel
theorem dM_weigh_76 : decode b_M_weigh 76 = .ok (.iload_n 2, 1) := by decide +kernel
theorem dM_weigh_77 : decode b_M_weigh 77 = .ok (.iaload, 1) := by decide +kernel
theorem dM_weigh_78 : decode b_M_weigh 78 = .ok (.bipush 10, 2) := by decide +kernel
theorem dM_weigh_80 : decode b_M_weigh 80 = .ok (.isub, 1) := by decide +kernel
theorem dM_weigh_81 : decode b_M_weigh 81 = .ok (.istore_n 3, 1) := by decide +kernel
theorem dM_weigh_82 : decode b_M_weigh 82 = .ok (.aload_n 0, 1) := by decide +kernel
theorem dM_weigh_83 : decode b_M_weigh 83 = .ok (.getfield 16, 3) := by decide +kernel
theorem dM_weigh_86 : decode b_M_weigh 86 = .ok (.iload_n 2, 1) := by decide +kernel
theorem dM_weigh_87 : decode b_M_weigh 87 = .ok (.iaload, 1) := by decide +kernel
theorem dM_weigh_88 : decode b_M_weigh 88 = .ok (.iconst 2, 1) := by decide +kernel
theorem dM_weigh_89 : decode b_M_weigh 89 = .ok (.if_icmp .ne 59, 3) := by decide +kernel
theorem dM_weigh_92 : decode b_M_weigh 92 = .ok (.iload_n 3, 1) := by decide +kernel
theorem dM_weigh_93 : decode b_M_weigh 93 = .ok (.iconst 1, 1) := by decide +kernel
theorem dM_weigh_94 : decode b_M_weigh 94 = .ok (.if_icmp .eq 8, 3) := by decide +kernel
theorem dM_weigh_97 : decode b_M_weigh 97 = .ok (.iload_n 3, 1) := by decide +kernel
theorem dM_weigh_98 : decode b_M_weigh 98 = .ok (.iconst 2, 1) := by decide +kernel
theorem dM_weigh_99 : decode b_M_weigh 99 = .ok (.if_icmp .ne 49, 3) := by decide +kernel
theorem dM_weigh_102 : decode b_M_weigh 102 = .ok (.aload_n 0, 1) := by decide +kernel
theorem dM_weigh_103 : decode b_M_weigh 103 = .ok (.getfield 57, 3) := by decide +kernel
theorem dM_weigh_106 : decode b_M_weigh 106 = .ok (.iload_n 3, 1) := by decide +kernel
theorem dM_weigh_107 : decode b_M_weigh 107 = .ok (.iaload, 1) := by decide +kernel
theorem dM_weigh_108 : decode b_M_weigh 108 = .ok (.ifCond .lt 40, 3) := by decide +kernel
theorem dM_weigh_111 : decode b_M_weigh 111 = .ok (.aload_n 0, 1) := by decide +kernel
theorem dM_weigh_112 : decode b_M_weigh 112 = .ok (.getfield 72, 3) := by decide +kernel
theorem dM_weigh_115 : decode b_M_weigh 115 = .ok (.aload_n 0, 1) := by decide +kernel
theorem dM_weigh_116 : decode b_M_weigh 116 = .ok (.getfield 57, 3) := by decide +kernel
theorem dM_weigh_119 : decode b_M_weigh 119 = .ok (.iload_n 3, 1) := by decide +kernel
theorem dM_weigh_120 : decode b_M_weigh 120 = .ok (.iaload, 1) := by decide +kernel
theorem dM_weigh_121 : decode b_M_weigh 121 = .ok (.iaload, 1) := by decide +kernel
theorem dM_weigh_122 : decode b_M_weigh 122 = .ok (.aload_n 0, 1) := by decide +kernel
theorem dM_weigh_123 : decode b_M_weigh 123 = .ok (.getfield 72, 3) := by decide +kernel
theorem dM_weigh_126 : decode b_M_weigh 126 = .ok (.iload_n 2, 1) := by decide +kernel
theorem dM_weigh_127 : decode b_M_weigh 127 = .ok (.iaload, 1) := by decide +kernel
theorem dM_weigh_128 : decode b_M_weigh 128 = .ok (.if_icmp .ge 20, 3) := by decide +kernel
theorem dM_weigh_131 : decode b_M_weigh 131 = .ok (.aload_n 0, 1) := by decide +kernel
theorem dM_weigh_132 : decode b_M_weigh 132 = .ok (.getfield 72, 3) := by decide +kernel
theorem dM_weigh_135 : decode b_M_weigh 135 = .ok (.aload_n 0, 1) := by decide +kernel
theorem dM_weigh_136 : decode b_M_weigh 136 = .ok (.getfield 57, 3) := by decide +kernel
theorem dM_weigh_139 : decode b_M_weigh 139 = .ok (.iload_n 3, 1) := by decide +kernel
theorem dM_weigh_140 : decode b_M_weigh 140 = .ok (.iaload, 1) := by decide +kernel
theorem dM_weigh_141 : decode b_M_weigh 141 = .ok (.aload_n 0, 1) := by decide +kernel
theorem dM_weigh_142 : decode b_M_weigh 142 = .ok (.getfield 72, 3) := by decide +kernel
theorem dM_weigh_145 : decode b_M_weigh 145 = .ok (.iload_n 2, 1) := by decide +kernel
theorem dM_weigh_146 : decode b_M_weigh 146 = .ok (.iaload, 1) := by decide +kernel
theorem dM_weigh_147 : decode b_M_weigh 147 = .ok (.iastore, 1) := by decide +kernel
theorem dM_weigh_148 : decode b_M_weigh 148 = .ok (.iinc 2 1, 3) := by decide +kernel
theorem dM_weigh_151 : decode b_M_weigh 151 = .ok (.goto (-85), 3) := by decide +kernel
theorem dM_weigh_154 : decode b_M_weigh 154 = .ok (.iinc 1 1, 3) := by decide +kernel
theorem dM_weigh_157 : decode b_M_weigh 157 = .ok (.goto (-99), 3) := by decide +kernel
theorem dM_weigh_160 : decode b_M_weigh 160 = .ok (.return_, 1) := by decide +kernel
theorem dM_running_0 : decode b_M_running 0 = .ok (.iconst (-1), 1) := by decide +kernel
theorem dM_running_1 : decode b_M_running 1 = .ok (.istore_n 1, 1) := by decide +kernel
theorem dM_running_2 : decode b_M_running 2 = .ok (.aload_n 0, 1) := by decide +kernel
theorem dM_running_3 : decode b_M_running 3 = .ok (.invokevirtual 85, 3) := by decide +kernel
theorem dM_running_6 : decode b_M_running 6 = .ok (.iconst 0, 1) := by decide +kernel
theorem dM_running_7 : decode b_M_running 7 = .ok (.istore_n 2, 1) := by decide +kernel
theorem dM_running_8 : decode b_M_running 8 = .ok (.iload_n 2, 1) := by decide +kernel
theorem dM_running_9 : decode b_M_running 9 = .ok (.bipush 8, 2) := by decide +kernel
theorem dM_running_11 : decode b_M_running 11 = .ok (.if_icmp .ge 73, 3) := by decide +kernel
theorem dM_running_14 : decode b_M_running 14 = .ok (.aload_n 0, 1) := by decide +kernel
theorem dM_running_15 : decode b_M_running 15 = .ok (.getfield 16, 3) := by decide +kernel
theorem dM_running_18 : decode b_M_running 18 = .ok (.iload_n 2, 1) := by decide +kernel
theorem dM_running_19 : decode b_M_running 19 = .ok (.iaload, 1) := by decide +kernel
theorem dM_running_20 : decode b_M_running 20 = .ok (.iconst 1, 1) := by decide +kernel
theorem dM_running_21 : decode b_M_running 21 = .ok (.if_icmp .eq 6, 3) := by decide +kernel
theorem dM_running_24 : decode b_M_running 24 = .ok (.goto 54, 3) := by decide +kernel
theorem dM_running_27 : decode b_M_running 27 = .ok (.iload_n 1, 1) := by decide +kernel
theorem dM_running_28 : decode b_M_running 28 = .ok (.ifCond .lt 48, 3) := by decide +kernel
theorem dM_running_31 : decode b_M_running 31 = .ok (.aload_n 0, 1) := by decide +kernel
theorem dM_running_32 : decode b_M_running 32 = .ok (.getfield 72, 3) := by decide +kernel
theorem dM_running_35 : decode b_M_running 35 = .ok (.iload_n 2, 1) := by decide +kernel
theorem dM_running_36 : decode b_M_running 36 = .ok (.iaload, 1) := by decide +kernel
theorem dM_running_37 : decode b_M_running 37 = .ok (.aload_n 0, 1) := by decide +kernel
theorem dM_running_38 : decode b_M_running 38 = .ok (.getfield 72, 3) := by decide +kernel
theorem dM_running_41 : decode b_M_running 41 = .ok (.iload_n 1, 1) := by decide +kernel
theorem dM_running_42 : decode b_M_running 42 = .ok (.iaload, 1) := by decide +kernel
theorem dM_running_43 : decode b_M_running 43 = .ok (.if_icmp .gt 33, 3) := by decide +kernel
theorem dM_running_46 : decode b_M_running 46 = .ok (.aload_n 0, 1) := by decide +kernel
theorem dM_running_47 : decode b_M_running 47 = .ok (.getfield 72, 3) := by decide +kernel
theorem dM_running_50 : decode b_M_running 50 = .ok (.iload_n 2, 1) := by decide +kernel
theorem dM_running_51 : decode b_M_running 51 = .ok (.iaload, 1) := by decide +kernel
theorem dM_running_52 : decode b_M_running 52 = .ok (.aload_n 0, 1) := by decide +kernel
theorem dM_running_53 : decode b_M_running 53 = .ok (.getfield 72, 3) := by decide +kernel
theorem dM_running_56 : decode b_M_running 56 = .ok (.iload_n 1, 1) := by decide +kernel
theorem dM_running_57 : decode b_M_running 57 = .ok (.iaload, 1) := by decide +kernel
theorem dM_running_58 : decode b_M_running 58 = .ok (.if_icmp .ne 20, 3) := by decide +kernel
theorem dM_running_61 : decode b_M_running 61 = .ok (.aload_n 0, 1) := by decide +kernel
theorem dM_running_62 : decode b_M_running 62 = .ok (.getfield 23, 3) := by decide +kernel
theorem dM_running_65 : decode b_M_running 65 = .ok (.iload_n 2, 1) := by decide +kernel
theorem dM_running_66 : decode b_M_running 66 = .ok (.iaload, 1) := by decide +kernel
theorem dM_running_67 : decode b_M_running 67 = .ok (.aload_n 0, 1) := by decide +kernel
theorem dM_running_68 : decode b_M_running 68 = .ok (.getfield 23, 3) := by decide +kernel
theorem dM_running_71 : decode b_M_running 71 = .ok (.iload_n 1, 1) := by decide +kernel
theorem dM_running_72 : decode b_M_running 72 = .ok (.iaload, 1) := by decide +kernel
theorem dM_running_73 : decode b_M_running 73 = .ok (.if_icmp .ge 5, 3) := by decide +kernel
theorem dM_running_76 : decode b_M_running 76 = .ok (.iload_n 2, 1) := by decide +kernel
theorem dM_running_77 : decode b_M_running 77 = .ok (.istore_n 1, 1) := by decide +kernel
theorem dM_running_78 : decode b_M_running 78 = .ok (.iinc 2 1, 3) := by decide +kernel
theorem dM_running_81 : decode b_M_running 81 = .ok (.goto (-73), 3) := by decide +kernel
theorem dM_running_84 : decode b_M_running 84 = .ok (.iload_n 1, 1) := by decide +kernel
theorem dM_running_85 : decode b_M_running 85 = .ok (.ireturn, 1) := by decide +kernel
theorem dM_firstWaiter_0 : decode b_M_firstWaiter 0 = .ok (.iconst (-1), 1) := by decide +kernel
theorem dM_firstWaiter_1 : decode b_M_firstWaiter 1 = .ok (.istore_n 2, 1) := by decide +kernel
theorem dM_firstWaiter_2 : decode b_M_firstWaiter 2 = .ok (.aload_n 0, 1) := by decide +kernel
theorem dM_firstWaiter_3 : decode b_M_firstWaiter 3 = .ok (.invokevirtual 85, 3) := by decide +kernel
theorem dM_firstWaiter_6 : decode b_M_firstWaiter 6 = .ok (.iconst 0, 1) := by decide +kernel
theorem dM_firstWaiter_7 : decode b_M_firstWaiter 7 = .ok (.istore_n 3, 1) := by decide +kernel
theorem dM_firstWaiter_8 : decode b_M_firstWaiter 8 = .ok (.iload_n 3, 1) := by decide +kernel
theorem dM_firstWaiter_9 : decode b_M_firstWaiter 9 = .ok (.bipush 8, 2) := by decide +kernel
theorem dM_firstWaiter_11 : decode b_M_firstWaiter 11 = .ok (.if_icmp .ge 83, 3) := by decide +kernel
theorem dM_firstWaiter_14 : decode b_M_firstWaiter 14 = .ok (.aload_n 0, 1) := by decide +kernel
theorem dM_firstWaiter_15 : decode b_M_firstWaiter 15 = .ok (.getfield 16, 3) := by decide +kernel
theorem dM_firstWaiter_18 : decode b_M_firstWaiter 18 = .ok (.iload_n 3, 1) := by decide +kernel
theorem dM_firstWaiter_19 : decode b_M_firstWaiter 19 = .ok (.iaload, 1) := by decide +kernel
theorem dM_firstWaiter_20 : decode b_M_firstWaiter 20 = .ok (.iconst 2, 1) := by decide +kernel
theorem dM_firstWaiter_21 : decode b_M_firstWaiter 21 = .ok (.if_icmp .ne 67, 3) := by decide +kernel
theorem dM_firstWaiter_24 : decode b_M_firstWaiter 24 = .ok (.aload_n 0, 1) := by decide +kernel
theorem dM_firstWaiter_25 : decode b_M_firstWaiter 25 = .ok (.getfield 29, 3) := by decide +kernel
theorem dM_firstWaiter_28 : decode b_M_firstWaiter 28 = .ok (.iload_n 3, 1) := by decide +kernel
theorem dM_firstWaiter_29 : decode b_M_firstWaiter 29 = .ok (.iaload, 1) := by decide +kernel
theorem dM_firstWaiter_30 : decode b_M_firstWaiter 30 = .ok (.iload_n 1, 1) := by decide +kernel
theorem dM_firstWaiter_31 : decode b_M_firstWaiter 31 = .ok (.if_icmp .eq 6, 3) := by decide +kernel
theorem dM_firstWaiter_34 : decode b_M_firstWaiter 34 = .ok (.goto 54, 3) := by decide +kernel
theorem dM_firstWaiter_37 : decode b_M_firstWaiter 37 = .ok (.iload_n 2, 1) := by decide +kernel
theorem dM_firstWaiter_38 : decode b_M_firstWaiter 38 = .ok (.ifCond .lt 48, 3) := by decide +kernel
theorem dM_firstWaiter_41 : decode b_M_firstWaiter 41 = .ok (.aload_n 0, 1) := by decide +kernel
theorem dM_firstWaiter_42 : decode b_M_firstWaiter 42 = .ok (.getfield 72, 3) := by decide +kernel
theorem dM_firstWaiter_45 : decode b_M_firstWaiter 45 = .ok (.iload_n 3, 1) := by decide +kernel
theorem dM_firstWaiter_46 : decode b_M_firstWaiter 46 = .ok (.iaload, 1) := by decide +kernel
theorem dM_firstWaiter_47 : decode b_M_firstWaiter 47 = .ok (.aload_n 0, 1) := by decide +kernel
theorem dM_firstWaiter_48 : decode b_M_firstWaiter 48 = .ok (.getfield 72, 3) := by decide +kernel
theorem dM_firstWaiter_51 : decode b_M_firstWaiter 51 = .ok (.iload_n 2, 1) := by decide +kernel
theorem dM_firstWaiter_52 : decode b_M_firstWaiter 52 = .ok (.iaload, 1) := by decide +kernel
theorem dM_firstWaiter_53 : decode b_M_firstWaiter 53 = .ok (.if_icmp .gt 33, 3) := by decide +kernel
theorem dM_firstWaiter_56 : decode b_M_firstWaiter 56 = .ok (.aload_n 0, 1) := by decide +kernel
theorem dM_firstWaiter_57 : decode b_M_firstWaiter 57 = .ok (.getfield 72, 3) := by decide +kernel
theorem dM_firstWaiter_60 : decode b_M_firstWaiter 60 = .ok (.iload_n 3, 1) := by decide +kernel
theorem dM_firstWaiter_61 : decode b_M_firstWaiter 61 = .ok (.iaload, 1) := by decide +kernel
theorem dM_firstWaiter_62 : decode b_M_firstWaiter 62 = .ok (.aload_n 0, 1) := by decide +kernel
theorem dM_firstWaiter_63 : decode b_M_firstWaiter 63 = .ok (.getfield 72, 3) := by decide +kernel
theorem dM_firstWaiter_66 : decode b_M_firstWaiter 66 = .ok (.iload_n 2, 1) := by decide +kernel
theorem dM_firstWaiter_67 : decode b_M_firstWaiter 67 = .ok (.iaload, 1) := by decide +kernel
theorem dM_firstWaiter_68 : decode b_M_firstWaiter 68 = .ok (.if_icmp .ne 20, 3) := by decide +kernel
theorem dM_firstWaiter_71 : decode b_M_firstWaiter 71 = .ok (.aload_n 0, 1) := by decide +kernel
theorem dM_firstWaiter_72 : decode b_M_firstWaiter 72 = .ok (.getfield 32, 3) := by decide +kernel
theorem dM_firstWaiter_75 : decode b_M_firstWaiter 75 = .ok (.iload_n 3, 1) := by decide +kernel
theorem dM_firstWaiter_76 : decode b_M_firstWaiter 76 = .ok (.iaload, 1) := by decide +kernel
theorem dM_firstWaiter_77 : decode b_M_firstWaiter 77 = .ok (.aload_n 0, 1) := by decide +kernel
theorem dM_firstWaiter_78 : decode b_M_firstWaiter 78 = .ok (.getfield 32, 3) := by decide +kernel
theorem dM_firstWaiter_81 : decode b_M_firstWaiter 81 = .ok (.iload_n 2, 1) := by decide +kernel
theorem dM_firstWaiter_82 : decode b_M_firstWaiter 82 = .ok (.iaload, 1) := by decide +kernel
theorem dM_firstWaiter_83 : decode b_M_firstWaiter 83 = .ok (.if_icmp .ge 5, 3) := by decide +kernel
theorem dM_firstWaiter_86 : decode b_M_firstWaiter 86 = .ok (.iload_n 3, 1) := by decide +kernel
theorem dM_firstWaiter_87 : decode b_M_firstWaiter 87 = .ok (.istore_n 2, 1) := by decide +kernel
theorem dM_firstWaiter_88 : decode b_M_firstWaiter 88 = .ok (.iinc 3 1, 3) := by decide +kernel
theorem dM_firstWaiter_91 : decode b_M_firstWaiter 91 = .ok (.goto (-83), 3) := by decide +kernel
theorem dM_firstWaiter_94 : decode b_M_firstWaiter 94 = .ok (.iload_n 2, 1) := by decide +kernel
theorem dM_firstWaiter_95 : decode b_M_firstWaiter 95 = .ok (.ireturn, 1) := by decide +kernel
theorem dM_give_0 : decode b_M_give 0 = .ok (.aload_n 0, 1) := by decide +kernel
theorem dM_give_1 : decode b_M_give 1 = .ok (.getfield 57, 3) := by decide +kernel
theorem dM_give_4 : decode b_M_give 4 = .ok (.iload_n 1, 1) := by decide +kernel
theorem dM_give_5 : decode b_M_give 5 = .ok (.iconst (-1), 1) := by decide +kernel
theorem dM_give_6 : decode b_M_give 6 = .ok (.iastore, 1) := by decide +kernel
theorem dM_give_7 : decode b_M_give 7 = .ok (.aload_n 0, 1) := by decide +kernel
theorem dM_give_8 : decode b_M_give 8 = .ok (.bipush 10, 2) := by decide +kernel
theorem dM_give_10 : decode b_M_give 10 = .ok (.iload_n 1, 1) := by decide +kernel
theorem dM_give_11 : decode b_M_give 11 = .ok (.iadd, 1) := by decide +kernel
theorem dM_give_12 : decode b_M_give 12 = .ok (.invokevirtual 88, 3) := by decide +kernel
theorem dM_give_15 : decode b_M_give 15 = .ok (.istore_n 2, 1) := by decide +kernel
theorem dM_give_16 : decode b_M_give 16 = .ok (.iload_n 2, 1) := by decide +kernel
theorem dM_give_17 : decode b_M_give 17 = .ok (.ifCond .ge 4, 3) := by decide +kernel
theorem dM_give_20 : decode b_M_give 20 = .ok (.return_, 1) := by decide +kernel
theorem dM_give_21 : decode b_M_give 21 = .ok (.aload_n 0, 1) := by decide +kernel
theorem dM_give_22 : decode b_M_give 22 = .ok (.getfield 57, 3) := by decide +kernel
theorem dM_give_25 : decode b_M_give 25 = .ok (.iload_n 1, 1) := by decide +kernel
theorem dM_give_26 : decode b_M_give 26 = .ok (.iload_n 2, 1) := by decide +kernel
theorem dM_give_27 : decode b_M_give 27 = .ok (.iastore, 1) := by decide +kernel
theorem dM_give_28 : decode b_M_give 28 = .ok (.aload_n 0, 1) := by decide +kernel
theorem dM_give_29 : decode b_M_give 29 = .ok (.getfield 54, 3) := by decide +kernel
theorem dM_give_32 : decode b_M_give 32 = .ok (.iload_n 2, 1) := by decide +kernel
theorem dM_give_33 : decode b_M_give 33 = .ok (.baload, 1) := by decide +kernel
theorem dM_give_34 : decode b_M_give 34 = .ok (.ifCond .ne 10, 3) := by decide +kernel
theorem dM_give_37 : decode b_M_give 37 = .ok (.aload_n 0, 1) := by decide +kernel
theorem dM_give_38 : decode b_M_give 38 = .ok (.getfield 38, 3) := by decide +kernel
theorem dM_give_41 : decode b_M_give 41 = .ok (.iload_n 2, 1) := by decide +kernel
theorem dM_give_42 : decode b_M_give 42 = .ok (.iconst 0, 1) := by decide +kernel
theorem dM_give_43 : decode b_M_give 43 = .ok (.iastore, 1) := by decide +kernel
theorem dM_give_44 : decode b_M_give 44 = .ok (.aload_n 0, 1) := by decide +kernel
theorem dM_give_45 : decode b_M_give 45 = .ok (.iload_n 2, 1) := by decide +kernel
theorem dM_give_46 : decode b_M_give 46 = .ok (.invokevirtual 92, 3) := by decide +kernel
theorem dM_give_49 : decode b_M_give 49 = .ok (.return_, 1) := by decide +kernel
theorem dM_retake_0 : decode b_M_retake 0 = .ok (.aload_n 0, 1) := by decide +kernel
theorem dM_retake_1 : decode b_M_retake 1 = .ok (.getfield 41, 3) := by decide +kernel
theorem dM_retake_4 : decode b_M_retake 4 = .ok (.iload_n 1, 1) := by decide +kernel
theorem dM_retake_5 : decode b_M_retake 5 = .ok (.iaload, 1) := by decide +kernel
theorem dM_retake_6 : decode b_M_retake 6 = .ok (.istore_n 3, 1) := by decide +kernel
theorem dM_retake_7 : decode b_M_retake 7 = .ok (.aload_n 0, 1) := by decide +kernel
theorem dM_retake_8 : decode b_M_retake 8 = .ok (.getfield 38, 3) := by decide +kernel
theorem dM_retake_11 : decode b_M_retake 11 = .ok (.iload_n 1, 1) := by decide +kernel
theorem dM_retake_12 : decode b_M_retake 12 = .ok (.iload_n 2, 1) := by decide +kernel
theorem dM_retake_13 : decode b_M_retake 13 = .ok (.iastore, 1) := by decide +kernel
theorem dM_retake_14 : decode b_M_retake 14 = .ok (.aload_n 0, 1) := by decide +kernel
theorem dM_retake_15 : decode b_M_retake 15 = .ok (.getfield 57, 3) := by decide +kernel
theorem dM_retake_18 : decode b_M_retake 18 = .ok (.iload_n 3, 1) := by decide +kernel
theorem dM_retake_19 : decode b_M_retake 19 = .ok (.iaload, 1) := by decide +kernel
theorem dM_retake_20 : decode b_M_retake 20 = .ok (.ifCond .ge 16, 3) := by decide +kernel
theorem dM_retake_23 : decode b_M_retake 23 = .ok (.aload_n 0, 1) := by decide +kernel
theorem dM_retake_24 : decode b_M_retake 24 = .ok (.getfield 57, 3) := by decide +kernel
theorem dM_retake_27 : decode b_M_retake 27 = .ok (.iload_n 3, 1) := by decide +kernel
theorem dM_retake_28 : decode b_M_retake 28 = .ok (.iload_n 1, 1) := by decide +kernel
theorem dM_retake_29 : decode b_M_retake 29 = .ok (.iastore, 1) := by decide +kernel
theorem dM_retake_30 : decode b_M_retake 30 = .ok (.aload_n 0, 1) := by decide +kernel
theorem dM_retake_31 : decode b_M_retake 31 = .ok (.iload_n 1, 1) := by decide +kernel
theorem dM_retake_32 : decode b_M_retake 32 = .ok (.invokevirtual 92, 3) := by decide +kernel
theorem dM_retake_35 : decode b_M_retake 35 = .ok (.return_, 1) := by decide +kernel
theorem dM_retake_36 : decode b_M_retake 36 = .ok (.aload_n 0, 1) := by decide +kernel
theorem dM_retake_37 : decode b_M_retake 37 = .ok (.iload_n 1, 1) := by decide +kernel
theorem dM_retake_38 : decode b_M_retake 38 = .ok (.bipush 10, 2) := by decide +kernel
theorem dM_retake_40 : decode b_M_retake 40 = .ok (.iload_n 3, 1) := by decide +kernel
theorem dM_retake_41 : decode b_M_retake 41 = .ok (.iadd, 1) := by decide +kernel
theorem dM_retake_42 : decode b_M_retake 42 = .ok (.iconst 0, 1) := by decide +kernel
theorem dM_retake_43 : decode b_M_retake 43 = .ok (.invokevirtual 96, 3) := by decide +kernel
theorem dM_retake_46 : decode b_M_retake 46 = .ok (.aload_n 0, 1) := by decide +kernel
theorem dM_retake_47 : decode b_M_retake 47 = .ok (.getfield 54, 3) := by decide +kernel
theorem dM_retake_50 : decode b_M_retake 50 = .ok (.iload_n 1, 1) := by decide +kernel
theorem dM_retake_51 : decode b_M_retake 51 = .ok (.iconst 1, 1) := by decide +kernel
theorem dM_retake_52 : decode b_M_retake 52 = .ok (.bastore, 1) := by decide +kernel
theorem dM_retake_53 : decode b_M_retake 53 = .ok (.return_, 1) := by decide +kernel
theorem dM_spawn_0 : decode b_M_spawn 0 = .ok (.iload_n 1, 1) := by decide +kernel
theorem dM_spawn_1 : decode b_M_spawn 1 = .ok (.iconst 1, 1) := by decide +kernel
theorem dM_spawn_2 : decode b_M_spawn 2 = .ok (.if_icmp .lt 9, 3) := by decide +kernel
theorem dM_spawn_5 : decode b_M_spawn 5 = .ok (.iload_n 1, 1) := by decide +kernel
theorem dM_spawn_6 : decode b_M_spawn 6 = .ok (.bipush 31, 2) := by decide +kernel
theorem dM_spawn_8 : decode b_M_spawn 8 = .ok (.if_icmp .le 5, 3) := by decide +kernel
theorem dM_spawn_11 : decode b_M_spawn 11 = .ok (.iconst (-1), 1) := by decide +kernel
theorem dM_spawn_12 : decode b_M_spawn 12 = .ok (.ireturn, 1) := by decide +kernel
theorem dM_spawn_13 : decode b_M_spawn 13 = .ok (.iconst 0, 1) := by decide +kernel
theorem dM_spawn_14 : decode b_M_spawn 14 = .ok (.istore_n 3, 1) := by decide +kernel
theorem dM_spawn_15 : decode b_M_spawn 15 = .ok (.iload_n 3, 1) := by decide +kernel
theorem dM_spawn_16 : decode b_M_spawn 16 = .ok (.bipush 8, 2) := by decide +kernel
theorem dM_spawn_18 : decode b_M_spawn 18 = .ok (.if_icmp .ge 18, 3) := by decide +kernel
theorem dM_spawn_21 : decode b_M_spawn 21 = .ok (.aload_n 0, 1) := by decide +kernel
theorem dM_spawn_22 : decode b_M_spawn 22 = .ok (.getfield 16, 3) := by decide +kernel
theorem dM_spawn_25 : decode b_M_spawn 25 = .ok (.iload_n 3, 1) := by decide +kernel
theorem dM_spawn_26 : decode b_M_spawn 26 = .ok (.iaload, 1) := by decide +kernel
theorem dM_spawn_27 : decode b_M_spawn 27 = .ok (.ifCond .eq 9, 3) := by decide +kernel
theorem dM_spawn_30 : decode b_M_spawn 30 = .ok (.iinc 3 1, 3) := by decide +kernel
theorem dM_spawn_33 : decode b_M_spawn 33 = .ok (.goto (-18), 3) := by decide +kernel
theorem dM_spawn_36 : decode b_M_spawn 36 = .ok (.iload_n 3, 1) := by decide +kernel
theorem dM_spawn_37 : decode b_M_spawn 37 = .ok (.bipush 8, 2) := by decide +kernel
theorem dM_spawn_39 : decode b_M_spawn 39 = .ok (.if_icmp .ne 5, 3) := by decide +kernel
theorem dM_spawn_42 : decode b_M_spawn 42 = .ok (.iconst (-1), 1) := by decide +kernel
theorem dM_spawn_43 : decode b_M_spawn 43 = .ok (.ireturn, 1) := by decide +kernel
theorem dM_spawn_44 : decode b_M_spawn 44 = .ok (.aload_n 0, 1) := by decide +kernel
theorem dM_spawn_45 : decode b_M_spawn 45 = .ok (.getfield 20, 3) := by decide +kernel
theorem dM_spawn_48 : decode b_M_spawn 48 = .ok (.iload_n 3, 1) := by decide +kernel
theorem dM_spawn_49 : decode b_M_spawn 49 = .ok (.iload_n 1, 1) := by decide +kernel
theorem dM_spawn_50 : decode b_M_spawn 50 = .ok (.iastore, 1) := by decide +kernel
theorem dM_spawn_51 : decode b_M_spawn 51 = .ok (.aload_n 0, 1) := by decide +kernel
theorem dM_spawn_52 : decode b_M_spawn 52 = .ok (.getfield 50, 3) := by decide +kernel
theorem dM_spawn_55 : decode b_M_spawn 55 = .ok (.iload_n 3, 1) := by decide +kernel
theorem dM_spawn_56 : decode b_M_spawn 56 = .ok (.iload_n 2, 1) := by decide +kernel
theorem dM_spawn_57 : decode b_M_spawn 57 = .ok (.bastore, 1) := by decide +kernel
theorem dM_spawn_58 : decode b_M_spawn 58 = .ok (.aload_n 0, 1) := by decide +kernel
theorem dM_spawn_59 : decode b_M_spawn 59 = .ok (.getfield 38, 3) := by decide +kernel
theorem dM_spawn_62 : decode b_M_spawn 62 = .ok (.iload_n 3, 1) := by decide +kernel
theorem dM_spawn_63 : decode b_M_spawn 63 = .ok (.iconst 0, 1) := by decide +kernel
theorem dM_spawn_64 : decode b_M_spawn 64 = .ok (.iastore, 1) := by decide +kernel
theorem dM_spawn_65 : decode b_M_spawn 65 = .ok (.aload_n 0, 1) := by decide +kernel
theorem dM_spawn_66 : decode b_M_spawn 66 = .ok (.iload_n 3, 1) := by decide +kernel
theorem dM_spawn_67 : decode b_M_spawn 67 = .ok (.invokevirtual 92, 3) := by decide +kernel
theorem dM_spawn_70 : decode b_M_spawn 70 = .ok (.iload_n 3, 1) := by decide +kernel
theorem dM_spawn_71 : decode b_M_spawn 71 = .ok (.ireturn, 1) := by decide +kernel
theorem dM_priority_0 : decode b_M_priority 0 = .ok (.aload_n 0, 1) := by decide +kernel
theorem dM_priority_1 : decode b_M_priority 1 = .ok (.iload_n 1, 1) := by decide +kernel
theorem dM_priority_2 : decode b_M_priority 2 = .ok (.bipush 8, 2) := by decide +kernel
theorem dM_priority_4 : decode b_M_priority 4 = .ok (.invokevirtual 100, 3) := by decide +kernel
theorem dM_priority_7 : decode b_M_priority 7 = .ok (.ifCond .ne 33, 3) := by decide +kernel
theorem dM_priority_10 : decode b_M_priority 10 = .ok (.iload_n 2, 1) := by decide +kernel
theorem dM_priority_11 : decode b_M_priority 11 = .ok (.iconst 1, 1) := by decide +kernel
theorem dM_priority_12 : decode b_M_priority 12 = .ok (.if_icmp .lt 28, 3) := by decide +kernel
theorem dM_priority_15 : decode b_M_priority 15 = .ok (.iload_n 2, 1) := by decide +kernel
theorem dM_priority_16 : decode b_M_priority 16 = .ok (.bipush 31, 2) := by decide +kernel
theorem dM_priority_18 : decode b_M_priority 18 = .ok (.if_icmp .gt 22, 3) := by decide +kernel
theorem dM_priority_21 : decode b_M_priority 21 = .ok (.aload_n 0, 1) := by decide +kernel
theorem dM_priority_22 : decode b_M_priority 22 = .ok (.getfield 16, 3) := by decide +kernel
theorem dM_priority_25 : decode b_M_priority 25 = .ok (.iload_n 1, 1) := by decide +kernel
theorem dM_priority_26 : decode b_M_priority 26 = .ok (.iaload, 1) := by decide +kernel
theorem dM_priority_27 : decode b_M_priority 27 = .ok (.ifCond .eq 13, 3) := by decide +kernel
theorem dM_priority_30 : decode b_M_priority 30 = .ok (.aload_n 0, 1) := by decide +kernel
theorem dM_priority_31 : decode b_M_priority 31 = .ok (.getfield 16, 3) := by decide +kernel
theorem dM_priority_34 : decode b_M_priority 34 = .ok (.iload_n 1, 1) := by decide +kernel
theorem dM_priority_35 : decode b_M_priority 35 = .ok (.iaload, 1) := by decide +kernel
theorem dM_priority_36 : decode b_M_priority 36 = .ok (.iconst 3, 1) := by decide +kernel
theorem dM_priority_37 : decode b_M_priority 37 = .ok (.if_icmp .ne 5, 3) := by decide +kernel
theorem dM_priority_40 : decode b_M_priority 40 = .ok (.iconst (-1), 1) := by decide +kernel
theorem dM_priority_41 : decode b_M_priority 41 = .ok (.ireturn, 1) := by decide +kernel
theorem dM_priority_42 : decode b_M_priority 42 = .ok (.aload_n 0, 1) := by decide +kernel
theorem dM_priority_43 : decode b_M_priority 43 = .ok (.getfield 57, 3) := by decide +kernel
theorem dM_priority_46 : decode b_M_priority 46 = .ok (.iconst 3, 1) := by decide +kernel
theorem dM_priority_47 : decode b_M_priority 47 = .ok (.iaload, 1) := by decide +kernel
theorem dM_priority_48 : decode b_M_priority 48 = .ok (.iload_n 1, 1) := by decide +kernel
theorem dM_priority_49 : decode b_M_priority 49 = .ok (.if_icmp .ne 13, 3) := by decide +kernel
theorem dM_priority_52 : decode b_M_priority 52 = .ok (.iload_n 2, 1) := by decide +kernel
theorem dM_priority_53 : decode b_M_priority 53 = .ok (.aload_n 0, 1) := by decide +kernel
theorem dM_priority_54 : decode b_M_priority 54 = .ok (.getfield 78, 3) := by decide +kernel
theorem dM_priority_57 : decode b_M_priority 57 = .ok (.if_icmp .le 5, 3) := by decide +kernel
theorem dM_priority_60 : decode b_M_priority 60 = .ok (.iconst (-1), 1) := by decide +kernel
theorem dM_priority_61 : decode b_M_priority 61 = .ok (.ireturn, 1) := by decide +kernel
theorem dM_priority_62 : decode b_M_priority 62 = .ok (.aload_n 0, 1) := by decide +kernel
theorem dM_priority_63 : decode b_M_priority 63 = .ok (.getfield 20, 3) := by decide +kernel
theorem dM_priority_66 : decode b_M_priority 66 = .ok (.iload_n 1, 1) := by decide +kernel
theorem dM_priority_67 : decode b_M_priority 67 = .ok (.iload_n 2, 1) := by decide +kernel
theorem dM_priority_68 : decode b_M_priority 68 = .ok (.iastore, 1) := by decide +kernel
theorem dM_priority_69 : decode b_M_priority 69 = .ok (.aload_n 0, 1) := by decide +kernel
theorem dM_priority_70 : decode b_M_priority 70 = .ok (.getfield 16, 3) := by decide +kernel
theorem dM_priority_73 : decode b_M_priority 73 = .ok (.iload_n 1, 1) := by decide +kernel
theorem dM_priority_74 : decode b_M_priority 74 = .ok (.iaload, 1) := by decide +kernel
theorem dM_priority_75 : decode b_M_priority 75 = .ok (.iconst 1, 1) := by decide +kernel
theorem dM_priority_76 : decode b_M_priority 76 = .ok (.if_icmp .ne 13, 3) := by decide +kernel
theorem dM_priority_79 : decode b_M_priority 79 = .ok (.aload_n 0, 1) := by decide +kernel
theorem dM_priority_80 : decode b_M_priority 80 = .ok (.getfield 23, 3) := by decide +kernel
theorem dM_priority_83 : decode b_M_priority 83 = .ok (.iload_n 1, 1) := by decide +kernel
theorem dM_priority_84 : decode b_M_priority 84 = .ok (.aload_n 0, 1) := by decide +kernel
theorem dM_priority_85 : decode b_M_priority 85 = .ok (.invokevirtual 81, 3) := by decide +kernel
theorem dM_priority_88 : decode b_M_priority 88 = .ok (.iastore, 1) := by decide +kernel
theorem dM_priority_89 : decode b_M_priority 89 = .ok (.iconst 0, 1) := by decide +kernel
theorem dM_priority_90 : decode b_M_priority 90 = .ok (.ireturn, 1) := by decide +kernel
theorem dM_pass_0 : decode b_M_pass 0 = .ok (.aload_n 0, 1) := by decide +kernel
theorem dM_pass_1 : decode b_M_pass 1 = .ok (.invokevirtual 104, 3) := by decide +kernel
theorem dM_pass_4 : decode b_M_pass 4 = .ok (.istore_n 1, 1) := by decide +kernel
theorem dM_pass_5 : decode b_M_pass 5 = .ok (.iload_n 1, 1) := by decide +kernel
theorem dM_pass_6 : decode b_M_pass 6 = .ok (.ifCond .ge 5, 3) := by decide +kernel
theorem dM_pass_9 : decode b_M_pass 9 = .ok (.iconst (-1), 1) := by decide +kernel
theorem dM_pass_10 : decode b_M_pass 10 = .ok (.ireturn, 1) := by decide +kernel
theorem dM_pass_11 : decode b_M_pass 11 = .ok (.aload_n 0, 1) := by decide +kernel
theorem dM_pass_12 : decode b_M_pass 12 = .ok (.iload_n 1, 1) := by decide +kernel
theorem dM_pass_13 : decode b_M_pass 13 = .ok (.invokevirtual 92, 3) := by decide +kernel
theorem dM_pass_16 : decode b_M_pass 16 = .ok (.iconst 0, 1) := by decide +kernel
theorem dM_pass_17 : decode b_M_pass 17 = .ok (.ireturn, 1) := by decide +kernel
theorem dM_lock_0 : decode b_M_lock 0 = .ok (.aload_n 0, 1) := by decide +kernel
theorem dM_lock_1 : decode b_M_lock 1 = .ok (.invokevirtual 104, 3) := by decide +kernel
theorem dM_lock_4 : decode b_M_lock 4 = .ok (.istore_n 2, 1) := by decide +kernel
theorem dM_lock_5 : decode b_M_lock 5 = .ok (.aload_n 0, 1) := by decide +kernel
theorem dM_lock_6 : decode b_M_lock 6 = .ok (.iload_n 1, 1) := by decide +kernel
theorem dM_lock_7 : decode b_M_lock 7 = .ok (.iconst 4, 1) := by decide +kernel
theorem dM_lock_8 : decode b_M_lock 8 = .ok (.invokevirtual 100, 3) := by decide +kernel
theorem dM_lock_11 : decode b_M_lock 11 = .ok (.ifCond .ne 35, 3) := by decide +kernel
theorem dM_lock_14 : decode b_M_lock 14 = .ok (.iload_n 2, 1) := by decide +kernel
theorem dM_lock_15 : decode b_M_lock 15 = .ok (.ifCond .lt 31, 3) := by decide +kernel
theorem dM_lock_18 : decode b_M_lock 18 = .ok (.aload_n 0, 1) := by decide +kernel
theorem dM_lock_19 : decode b_M_lock 19 = .ok (.getfield 57, 3) := by decide +kernel
theorem dM_lock_22 : decode b_M_lock 22 = .ok (.iload_n 1, 1) := by decide +kernel
theorem dM_lock_23 : decode b_M_lock 23 = .ok (.iaload, 1) := by decide +kernel
theorem dM_lock_24 : decode b_M_lock 24 = .ok (.iload_n 2, 1) := by decide +kernel
theorem dM_lock_25 : decode b_M_lock 25 = .ok (.if_icmp .eq 21, 3) := by decide +kernel
theorem dM_lock_28 : decode b_M_lock 28 = .ok (.iload_n 1, 1) := by decide +kernel
theorem dM_lock_29 : decode b_M_lock 29 = .ok (.iconst 3, 1) := by decide +kernel
theorem dM_lock_30 : decode b_M_lock 30 = .ok (.if_icmp .ne 18, 3) := by decide +kernel
theorem dM_lock_33 : decode b_M_lock 33 = .ok (.aload_n 0, 1) := by decide +kernel
theorem dM_lock_34 : decode b_M_lock 34 = .ok (.getfield 20, 3) := by decide +kernel
theorem dM_lock_37 : decode b_M_lock 37 = .ok (.iload_n 2, 1) := by decide +kernel
theorem dM_lock_38 : decode b_M_lock 38 = .ok (.iaload, 1) := by decide +kernel
theorem dM_lock_39 : decode b_M_lock 39 = .ok (.aload_n 0, 1) := by decide +kernel
theorem dM_lock_40 : decode b_M_lock 40 = .ok (.getfield 78, 3) := by decide +kernel
theorem dM_lock_43 : decode b_M_lock 43 = .ok (.if_icmp .le 5, 3) := by decide +kernel
theorem dM_lock_46 : decode b_M_lock 46 = .ok (.iconst (-1), 1) := by decide +kernel
theorem dM_lock_47 : decode b_M_lock 47 = .ok (.ireturn, 1) := by decide +kernel
theorem dM_lock_48 : decode b_M_lock 48 = .ok (.aload_n 0, 1) := by decide +kernel
theorem dM_lock_49 : decode b_M_lock 49 = .ok (.getfield 57, 3) := by decide +kernel
theorem dM_lock_52 : decode b_M_lock 52 = .ok (.iload_n 1, 1) := by decide +kernel
theorem dM_lock_53 : decode b_M_lock 53 = .ok (.iaload, 1) := by decide +kernel
theorem dM_lock_54 : decode b_M_lock 54 = .ok (.ifCond .ge 19, 3) := by decide +kernel
theorem dM_lock_57 : decode b_M_lock 57 = .ok (.aload_n 0, 1) := by decide +kernel
theorem dM_lock_58 : decode b_M_lock 58 = .ok (.getfield 57, 3) := by decide +kernel
theorem dM_lock_61 : decode b_M_lock 61 = .ok (.iload_n 1, 1) := by decide +kernel
theorem dM_lock_62 : decode b_M_lock 62 = .ok (.iload_n 2, 1) := by decide +kernel
theorem dM_lock_63 : decode b_M_lock 63 = .ok (.iastore, 1) := by decide +kernel
theorem dM_lock_64 : decode b_M_lock 64 = .ok (.aload_n 0, 1) := by decide +kernel
theorem dM_lock_65 : decode b_M_lock 65 = .ok (.getfield 38, 3) := by decide +kernel
theorem dM_lock_68 : decode b_M_lock 68 = .ok (.iload_n 2, 1) := by decide +kernel
theorem dM_lock_69 : decode b_M_lock 69 = .ok (.iconst 0, 1) := by decide +kernel
theorem dM_lock_70 : decode b_M_lock 70 = .ok (.iastore, 1) := by decide +kernel
theorem dM_lock_71 : decode b_M_lock 71 = .ok (.iconst 0, 1) := by decide +kernel
theorem dM_lock_72 : decode b_M_lock 72 = .ok (.ireturn, 1) := by decide +kernel
theorem dM_lock_73 : decode b_M_lock 73 = .ok (.aload_n 0, 1) := by decide +kernel
theorem dM_lock_74 : decode b_M_lock 74 = .ok (.iload_n 2, 1) := by decide +kernel
theorem dM_lock_75 : decode b_M_lock 75 = .ok (.bipush 10, 2) := by decide +kernel
theorem dM_lock_77 : decode b_M_lock 77 = .ok (.iload_n 1, 1) := by decide +kernel
theorem dM_lock_78 : decode b_M_lock 78 = .ok (.iadd, 1) := by decide +kernel
theorem dM_lock_79 : decode b_M_lock 79 = .ok (.iconst 0, 1) := by decide +kernel
theorem dM_lock_80 : decode b_M_lock 80 = .ok (.invokevirtual 96, 3) := by decide +kernel
theorem dM_lock_83 : decode b_M_lock 83 = .ok (.iconst 1, 1) := by decide +kernel
theorem dM_lock_84 : decode b_M_lock 84 = .ok (.ireturn, 1) := by decide +kernel
theorem dM_unlock_0 : decode b_M_unlock 0 = .ok (.aload_n 0, 1) := by decide +kernel
theorem dM_unlock_1 : decode b_M_unlock 1 = .ok (.invokevirtual 104, 3) := by decide +kernel
theorem dM_unlock_4 : decode b_M_unlock 4 = .ok (.istore_n 2, 1) := by decide +kernel
theorem dM_unlock_5 : decode b_M_unlock 5 = .ok (.aload_n 0, 1) := by decide +kernel
theorem dM_unlock_6 : decode b_M_unlock 6 = .ok (.iload_n 1, 1) := by decide +kernel
theorem dM_unlock_7 : decode b_M_unlock 7 = .ok (.iconst 4, 1) := by decide +kernel
theorem dM_unlock_8 : decode b_M_unlock 8 = .ok (.invokevirtual 100, 3) := by decide +kernel
theorem dM_unlock_11 : decode b_M_unlock 11 = .ok (.ifCond .ne 17, 3) := by decide +kernel
theorem dM_unlock_14 : decode b_M_unlock 14 = .ok (.iload_n 2, 1) := by decide +kernel
theorem dM_unlock_15 : decode b_M_unlock 15 = .ok (.ifCond .lt 13, 3) := by decide +kernel
theorem dM_unlock_18 : decode b_M_unlock 18 = .ok (.aload_n 0, 1) := by decide +kernel
theorem dM_unlock_19 : decode b_M_unlock 19 = .ok (.getfield 57, 3) := by decide +kernel
theorem dM_unlock_22 : decode b_M_unlock 22 = .ok (.iload_n 1, 1) := by decide +kernel
theorem dM_unlock_23 : decode b_M_unlock 23 = .ok (.iaload, 1) := by decide +kernel
theorem dM_unlock_24 : decode b_M_unlock 24 = .ok (.iload_n 2, 1) := by decide +kernel
theorem dM_unlock_25 : decode b_M_unlock 25 = .ok (.if_icmp .eq 5, 3) := by decide +kernel
theorem dM_unlock_28 : decode b_M_unlock 28 = .ok (.iconst (-1), 1) := by decide +kernel
theorem dM_unlock_29 : decode b_M_unlock 29 = .ok (.ireturn, 1) := by decide +kernel
theorem dM_unlock_30 : decode b_M_unlock 30 = .ok (.aload_n 0, 1) := by decide +kernel
theorem dM_unlock_31 : decode b_M_unlock 31 = .ok (.iload_n 1, 1) := by decide +kernel
theorem dM_unlock_32 : decode b_M_unlock 32 = .ok (.invokevirtual 107, 3) := by decide +kernel
theorem dM_unlock_35 : decode b_M_unlock 35 = .ok (.iconst 0, 1) := by decide +kernel
theorem dM_unlock_36 : decode b_M_unlock 36 = .ok (.ireturn, 1) := by decide +kernel
theorem dM_await_0 : decode b_M_await 0 = .ok (.aload_n 0, 1) := by decide +kernel
theorem dM_await_1 : decode b_M_await 1 = .ok (.invokevirtual 104, 3) := by decide +kernel
theorem dM_await_4 : decode b_M_await 4 = .ok (.istore 4, 2) := by decide +kernel
theorem dM_await_6 : decode b_M_await 6 = .ok (.aload_n 0, 1) := by decide +kernel
theorem dM_await_7 : decode b_M_await 7 = .ok (.iload_n 1, 1) := by decide +kernel
theorem dM_await_8 : decode b_M_await 8 = .ok (.iconst 2, 1) := by decide +kernel
theorem dM_await_9 : decode b_M_await 9 = .ok (.invokevirtual 100, 3) := by decide +kernel
theorem dM_await_12 : decode b_M_await 12 = .ok (.ifCond .ne 39, 3) := by decide +kernel
theorem dM_await_15 : decode b_M_await 15 = .ok (.aload_n 0, 1) := by decide +kernel
theorem dM_await_16 : decode b_M_await 16 = .ok (.iload_n 2, 1) := by decide +kernel
theorem dM_await_17 : decode b_M_await 17 = .ok (.iconst 4, 1) := by decide +kernel
theorem dM_await_18 : decode b_M_await 18 = .ok (.invokevirtual 100, 3) := by decide +kernel
theorem dM_await_21 : decode b_M_await 21 = .ok (.ifCond .ne 30, 3) := by decide +kernel
theorem dM_await_24 : decode b_M_await 24 = .ok (.aload_n 0, 1) := by decide +kernel
theorem dM_await_25 : decode b_M_await 25 = .ok (.iload_n 3, 1) := by decide +kernel
theorem dM_await_26 : decode b_M_await 26 = .ok (.sipush 1001, 3) := by decide +kernel
theorem dM_await_29 : decode b_M_await 29 = .ok (.invokevirtual 100, 3) := by decide +kernel
theorem dM_await_32 : decode b_M_await 32 = .ok (.ifCond .ne 19, 3) := by decide +kernel
theorem dM_await_35 : decode b_M_await 35 = .ok (.iload 4, 2) := by decide +kernel
theorem dM_await_37 : decode b_M_await 37 = .ok (.ifCond .lt 14, 3) := by decide +kernel
theorem dM_await_40 : decode b_M_await 40 = .ok (.aload_n 0, 1) := by decide +kernel
theorem dM_await_41 : decode b_M_await 41 = .ok (.getfield 57, 3) := by decide +kernel
theorem dM_await_44 : decode b_M_await 44 = .ok (.iload_n 2, 1) := by decide +kernel
theorem dM_await_45 : decode b_M_await 45 = .ok (.iaload, 1) := by decide +kernel
theorem dM_await_46 : decode b_M_await 46 = .ok (.iload 4, 2) := by decide +kernel
theorem dM_await_48 : decode b_M_await 48 = .ok (.if_icmp .eq 5, 3) := by decide +kernel
theorem dM_await_51 : decode b_M_await 51 = .ok (.iconst (-1), 1) := by decide +kernel
theorem dM_await_52 : decode b_M_await 52 = .ok (.ireturn, 1) := by decide +kernel
theorem dM_await_53 : decode b_M_await 53 = .ok (.aload_n 0, 1) := by decide +kernel
theorem dM_await_54 : decode b_M_await 54 = .ok (.iload 4, 2) := by decide +kernel
theorem dM_await_56 : decode b_M_await 56 = .ok (.bipush 20, 2) := by decide +kernel
theorem dM_await_58 : decode b_M_await 58 = .ok (.iload_n 1, 1) := by decide +kernel
theorem dM_await_59 : decode b_M_await 59 = .ok (.iadd, 1) := by decide +kernel
theorem dM_await_60 : decode b_M_await 60 = .ok (.iload_n 3, 1) := by decide +kernel
theorem dM_await_61 : decode b_M_await 61 = .ok (.ifCond .ne 7, 3) := by decide +kernel
theorem dM_await_64 : decode b_M_await 64 = .ok (.iconst 0, 1) := by decide +kernel
theorem dM_await_65 : decode b_M_await 65 = .ok (.goto 9, 3) := by decide +kernel
theorem dM_await_68 : decode b_M_await 68 = .ok (.aload_n 0, 1) := by decide +kernel
theorem dM_await_69 : decode b_M_await 69 = .ok (.getfield 7, 3) := by decide +kernel
theorem dM_await_72 : decode b_M_await 72 = .ok (.iload_n 3, 1) := by decide +kernel
theorem dM_await_73 : decode b_M_await 73 = .ok (.iadd, 1) := by decide +kernel
theorem dM_await_74 : decode b_M_await 74 = .ok (.invokevirtual 96, 3) := by decide +kernel
theorem dM_await_77 : decode b_M_await 77 = .ok (.aload_n 0, 1) := by decide +kernel
theorem dM_await_78 : decode b_M_await 78 = .ok (.getfield 41, 3) := by decide +kernel
theorem dM_await_81 : decode b_M_await 81 = .ok (.iload 4, 2) := by decide +kernel
theorem dM_await_83 : decode b_M_await 83 = .ok (.iload_n 2, 1) := by decide +kernel
theorem dM_await_84 : decode b_M_await 84 = .ok (.iastore, 1) := by decide +kernel
theorem dM_await_85 : decode b_M_await 85 = .ok (.aload_n 0, 1) := by decide +kernel
theorem dM_await_86 : decode b_M_await 86 = .ok (.iload_n 2, 1) := by decide +kernel
theorem dM_await_87 : decode b_M_await 87 = .ok (.invokevirtual 107, 3) := by decide +kernel
theorem dM_await_90 : decode b_M_await 90 = .ok (.iconst 1, 1) := by decide +kernel
theorem dM_await_91 : decode b_M_await 91 = .ok (.ireturn, 1) := by decide +kernel
theorem dM_signal_0 : decode b_M_signal 0 = .ok (.aload_n 0, 1) := by decide +kernel
theorem dM_signal_1 : decode b_M_signal 1 = .ok (.iload_n 1, 1) := by decide +kernel
theorem dM_signal_2 : decode b_M_signal 2 = .ok (.iconst 2, 1) := by decide +kernel
theorem dM_signal_3 : decode b_M_signal 3 = .ok (.invokevirtual 100, 3) := by decide +kernel
theorem dM_signal_6 : decode b_M_signal 6 = .ok (.ifCond .eq 5, 3) := by decide +kernel
theorem dM_signal_9 : decode b_M_signal 9 = .ok (.iconst (-1), 1) := by decide +kernel
theorem dM_signal_10 : decode b_M_signal 10 = .ok (.ireturn, 1) := by decide +kernel
theorem dM_signal_11 : decode b_M_signal 11 = .ok (.iconst 0, 1) := by decide +kernel
theorem dM_signal_12 : decode b_M_signal 12 = .ok (.istore_n 3, 1) := by decide +kernel
theorem dM_signal_13 : decode b_M_signal 13 = .ok (.iconst 0, 1) := by decide +kernel
theorem dM_signal_14 : decode b_M_signal 14 = .ok (.istore 4, 2) := by decide +kernel
theorem dM_signal_16 : decode b_M_signal 16 = .ok (.iload 4, 2) := by decide +kernel
theorem dM_signal_18 : decode b_M_signal 18 = .ok (.iload_n 2, 1) := by decide +kernel
theorem dM_signal_19 : decode b_M_signal 19 = .ok (.ifCond .eq 8, 3) := by decide +kernel
theorem dM_signal_22 : decode b_M_signal 22 = .ok (.bipush 8, 2) := by decide +kernel
theorem dM_signal_24 : decode b_M_signal 24 = .ok (.goto 4, 3) := by decide +kernel
theorem dM_signal_27 : decode b_M_signal 27 = .ok (.iconst 1, 1) := by decide +kernel
theorem dM_signal_28 : decode b_M_signal 28 = .ok (.if_icmp .ge 36, 3) := by decide +kernel
theorem dM_signal_31 : decode b_M_signal 31 = .ok (.aload_n 0, 1) := by decide +kernel
theorem dM_signal_32 : decode b_M_signal 32 = .ok (.bipush 20, 2) := by decide +kernel
theorem dM_signal_34 : decode b_M_signal 34 = .ok (.iload_n 1, 1) := by decide +kernel
theorem dM_signal_35 : decode b_M_signal 35 = .ok (.iadd, 1) := by decide +kernel
theorem dM_signal_36 : decode b_M_signal 36 = .ok (.invokevirtual 88, 3) := by decide +kernel
theorem dM_signal_39 : decode b_M_signal 39 = .ok (.istore 5, 2) := by decide +kernel
theorem dM_signal_41 : decode b_M_signal 41 = .ok (.iload 5, 2) := by decide +kernel
theorem dM_signal_43 : decode b_M_signal 43 = .ok (.ifCond .ge 5, 3) := by decide +kernel
theorem dM_signal_46 : decode b_M_signal 46 = .ok (.iload_n 3, 1) := by decide +kernel
theorem dM_signal_47 : decode b_M_signal 47 = .ok (.ireturn, 1) := by decide +kernel
theorem dM_signal_48 : decode b_M_signal 48 = .ok (.aload_n 0, 1) := by decide +kernel
theorem dM_signal_49 : decode b_M_signal 49 = .ok (.iload 5, 2) := by decide +kernel
theorem dM_signal_51 : decode b_M_signal 51 = .ok (.iconst 0, 1) := by decide +kernel
theorem dM_signal_52 : decode b_M_signal 52 = .ok (.invokevirtual 110, 3) := by decide +kernel
theorem dM_signal_55 : decode b_M_signal 55 = .ok (.iinc 3 1, 3) := by decide +kernel
theorem dM_signal_58 : decode b_M_signal 58 = .ok (.iinc 4 1, 3) := by decide +kernel
theorem dM_signal_61 : decode b_M_signal 61 = .ok (.goto (-45), 3) := by decide +kernel
theorem dM_signal_64 : decode b_M_signal 64 = .ok (.iload_n 3, 1) := by decide +kernel
theorem dM_signal_65 : decode b_M_signal 65 = .ok (.ireturn, 1) := by decide +kernel
theorem dM_down_0 : decode b_M_down 0 = .ok (.aload_n 0, 1) := by decide +kernel
theorem dM_down_1 : decode b_M_down 1 = .ok (.invokevirtual 104, 3) := by decide +kernel
theorem dM_down_4 : decode b_M_down 4 = .ok (.istore_n 3, 1) := by decide +kernel
theorem dM_down_5 : decode b_M_down 5 = .ok (.aload_n 0, 1) := by decide +kernel
theorem dM_down_6 : decode b_M_down 6 = .ok (.iload_n 1, 1) := by decide +kernel
theorem dM_down_7 : decode b_M_down 7 = .ok (.iconst 2, 1) := by decide +kernel
theorem dM_down_8 : decode b_M_down 8 = .ok (.invokevirtual 100, 3) := by decide +kernel
theorem dM_down_11 : decode b_M_down 11 = .ok (.ifCond .ne 18, 3) := by decide +kernel
theorem dM_down_14 : decode b_M_down 14 = .ok (.aload_n 0, 1) := by decide +kernel
theorem dM_down_15 : decode b_M_down 15 = .ok (.iload_n 2, 1) := by decide +kernel
theorem dM_down_16 : decode b_M_down 16 = .ok (.sipush 1001, 3) := by decide +kernel
theorem dM_down_19 : decode b_M_down 19 = .ok (.invokevirtual 100, 3) := by decide +kernel
theorem dM_down_22 : decode b_M_down 22 = .ok (.ifCond .ne 7, 3) := by decide +kernel
theorem dM_down_25 : decode b_M_down 25 = .ok (.iload_n 3, 1) := by decide +kernel
theorem dM_down_26 : decode b_M_down 26 = .ok (.ifCond .ge 5, 3) := by decide +kernel
theorem dM_down_29 : decode b_M_down 29 = .ok (.iconst (-1), 1) := by decide +kernel
theorem dM_down_30 : decode b_M_down 30 = .ok (.ireturn, 1) := by decide +kernel
theorem dM_down_31 : decode b_M_down 31 = .ok (.aload_n 0, 1) := by decide +kernel
theorem dM_down_32 : decode b_M_down 32 = .ok (.getfield 60, 3) := by decide +kernel
theorem dM_down_35 : decode b_M_down 35 = .ok (.iload_n 1, 1) := by decide +kernel
theorem dM_down_36 : decode b_M_down 36 = .ok (.iaload, 1) := by decide +kernel
theorem dM_down_37 : decode b_M_down 37 = .ok (.ifCond .le 22, 3) := by decide +kernel
theorem dM_down_40 : decode b_M_down 40 = .ok (.aload_n 0, 1) := by decide +kernel
theorem dM_down_41 : decode b_M_down 41 = .ok (.getfield 60, 3) := by decide +kernel
theorem dM_down_44 : decode b_M_down 44 = .ok (.iload_n 1, 1) := by decide +kernel
theorem dM_down_45 : decode b_M_down 45 = .ok (.dup2, 1) := by decide +kernel
theorem dM_down_46 : decode b_M_down 46 = .ok (.iaload, 1) := by decide +kernel
theorem dM_down_47 : decode b_M_down 47 = .ok (.iconst 1, 1) := by decide +kernel
theorem dM_down_48 : decode b_M_down 48 = .ok (.isub, 1) := by decide +kernel
theorem dM_down_49 : decode b_M_down 49 = .ok (.iastore, 1) := by decide +kernel
theorem dM_down_50 : decode b_M_down 50 = .ok (.aload_n 0, 1) := by decide +kernel
theorem dM_down_51 : decode b_M_down 51 = .ok (.getfield 38, 3) := by decide +kernel
theorem dM_down_54 : decode b_M_down 54 = .ok (.iload_n 3, 1) := by decide +kernel
theorem dM_down_55 : decode b_M_down 55 = .ok (.iconst 0, 1) := by decide +kernel
theorem dM_down_56 : decode b_M_down 56 = .ok (.iastore, 1) := by decide +kernel
theorem dM_down_57 : decode b_M_down 57 = .ok (.iconst 0, 1) := by decide +kernel
theorem dM_down_58 : decode b_M_down 58 = .ok (.ireturn, 1) := by decide +kernel
theorem dM_down_59 : decode b_M_down 59 = .ok (.aload_n 0, 1) := by decide +kernel
theorem dM_down_60 : decode b_M_down 60 = .ok (.iload_n 3, 1) := by decide +kernel
theorem dM_down_61 : decode b_M_down 61 = .ok (.bipush 30, 2) := by decide +kernel
theorem dM_down_63 : decode b_M_down 63 = .ok (.iload_n 1, 1) := by decide +kernel
theorem dM_down_64 : decode b_M_down 64 = .ok (.iadd, 1) := by decide +kernel
theorem dM_down_65 : decode b_M_down 65 = .ok (.iload_n 2, 1) := by decide +kernel
theorem dM_down_66 : decode b_M_down 66 = .ok (.ifCond .ne 7, 3) := by decide +kernel
theorem dM_down_69 : decode b_M_down 69 = .ok (.iconst 0, 1) := by decide +kernel
theorem dM_down_70 : decode b_M_down 70 = .ok (.goto 9, 3) := by decide +kernel
theorem dM_down_73 : decode b_M_down 73 = .ok (.aload_n 0, 1) := by decide +kernel
theorem dM_down_74 : decode b_M_down 74 = .ok (.getfield 7, 3) := by decide +kernel
theorem dM_down_77 : decode b_M_down 77 = .ok (.iload_n 2, 1) := by decide +kernel
theorem dM_down_78 : decode b_M_down 78 = .ok (.iadd, 1) := by decide +kernel
theorem dM_down_79 : decode b_M_down 79 = .ok (.invokevirtual 96, 3) := by decide +kernel
theorem dM_down_82 : decode b_M_down 82 = .ok (.iconst 1, 1) := by decide +kernel
theorem dM_down_83 : decode b_M_down 83 = .ok (.ireturn, 1) := by decide +kernel
theorem dM_post_0 : decode b_M_post 0 = .ok (.aload_n 0, 1) := by decide +kernel
theorem dM_post_1 : decode b_M_post 1 = .ok (.iload_n 1, 1) := by decide +kernel
theorem dM_post_2 : decode b_M_post 2 = .ok (.iconst 2, 1) := by decide +kernel
theorem dM_post_3 : decode b_M_post 3 = .ok (.invokevirtual 100, 3) := by decide +kernel
theorem dM_post_6 : decode b_M_post 6 = .ok (.ifCond .eq 5, 3) := by decide +kernel
theorem dM_post_9 : decode b_M_post 9 = .ok (.iconst (-1), 1) := by decide +kernel
theorem dM_post_10 : decode b_M_post 10 = .ok (.ireturn, 1) := by decide +kernel
theorem dM_post_11 : decode b_M_post 11 = .ok (.aload_n 0, 1) := by decide +kernel
theorem dM_post_12 : decode b_M_post 12 = .ok (.bipush 30, 2) := by decide +kernel
theorem dM_post_14 : decode b_M_post 14 = .ok (.iload_n 1, 1) := by decide +kernel
theorem dM_post_15 : decode b_M_post 15 = .ok (.iadd, 1) := by decide +kernel
theorem dM_post_16 : decode b_M_post 16 = .ok (.invokevirtual 88, 3) := by decide +kernel
theorem dM_post_19 : decode b_M_post 19 = .ok (.istore_n 2, 1) := by decide +kernel
theorem dM_post_20 : decode b_M_post 20 = .ok (.iload_n 2, 1) := by decide +kernel
theorem dM_post_21 : decode b_M_post 21 = .ok (.ifCond .lt 17, 3) := by decide +kernel
theorem dM_post_24 : decode b_M_post 24 = .ok (.aload_n 0, 1) := by decide +kernel
theorem dM_post_25 : decode b_M_post 25 = .ok (.getfield 38, 3) := by decide +kernel
theorem dM_post_28 : decode b_M_post 28 = .ok (.iload_n 2, 1) := by decide +kernel
theorem dM_post_29 : decode b_M_post 29 = .ok (.iconst 0, 1) := by decide +kernel
theorem dM_post_30 : decode b_M_post 30 = .ok (.iastore, 1) := by decide +kernel
theorem dM_post_31 : decode b_M_post 31 = .ok (.aload_n 0, 1) := by decide +kernel
theorem dM_post_32 : decode b_M_post 32 = .ok (.iload_n 2, 1) := by decide +kernel
theorem dM_post_33 : decode b_M_post 33 = .ok (.invokevirtual 92, 3) := by decide +kernel
theorem dM_post_36 : decode b_M_post 36 = .ok (.iconst 0, 1) := by decide +kernel
theorem dM_post_37 : decode b_M_post 37 = .ok (.ireturn, 1) := by decide +kernel
theorem dM_post_38 : decode b_M_post 38 = .ok (.aload_n 0, 1) := by decide +kernel
theorem dM_post_39 : decode b_M_post 39 = .ok (.getfield 60, 3) := by decide +kernel
theorem dM_post_42 : decode b_M_post 42 = .ok (.iload_n 1, 1) := by decide +kernel
theorem dM_post_43 : decode b_M_post 43 = .ok (.iaload, 1) := by decide +kernel
theorem dM_post_44 : decode b_M_post 44 = .ok (.bipush 99, 2) := by decide +kernel
theorem dM_post_46 : decode b_M_post 46 = .ok (.if_icmp .ne 5, 3) := by decide +kernel
theorem dM_post_49 : decode b_M_post 49 = .ok (.iconst (-1), 1) := by decide +kernel
theorem dM_post_50 : decode b_M_post 50 = .ok (.ireturn, 1) := by decide +kernel
theorem dM_post_51 : decode b_M_post 51 = .ok (.aload_n 0, 1) := by decide +kernel
theorem dM_post_52 : decode b_M_post 52 = .ok (.getfield 60, 3) := by decide +kernel
theorem dM_post_55 : decode b_M_post 55 = .ok (.iload_n 1, 1) := by decide +kernel
theorem dM_post_56 : decode b_M_post 56 = .ok (.dup2, 1) := by decide +kernel
theorem dM_post_57 : decode b_M_post 57 = .ok (.iaload, 1) := by decide +kernel
theorem dM_post_58 : decode b_M_post 58 = .ok (.iconst 1, 1) := by decide +kernel
theorem dM_post_59 : decode b_M_post 59 = .ok (.iadd, 1) := by decide +kernel
theorem dM_post_60 : decode b_M_post 60 = .ok (.iastore, 1) := by decide +kernel
theorem dM_post_61 : decode b_M_post 61 = .ok (.iconst 0, 1) := by decide +kernel
theorem dM_post_62 : decode b_M_post 62 = .ok (.ireturn, 1) := by decide +kernel
theorem dM_comeIn_0 : decode b_M_comeIn 0 = .ok (.iload_n 1, 1) := by decide +kernel
theorem dM_comeIn_1 : decode b_M_comeIn 1 = .ok (.iconst 4, 1) := by decide +kernel
theorem dM_comeIn_2 : decode b_M_comeIn 2 = .ok (.imul, 1) := by decide +kernel
theorem dM_comeIn_3 : decode b_M_comeIn 3 = .ok (.aload_n 0, 1) := by decide +kernel
theorem dM_comeIn_4 : decode b_M_comeIn 4 = .ok (.getfield 63, 3) := by decide +kernel
theorem dM_comeIn_7 : decode b_M_comeIn 7 = .ok (.iload_n 1, 1) := by decide +kernel
theorem dM_comeIn_8 : decode b_M_comeIn 8 = .ok (.iaload, 1) := by decide +kernel
theorem dM_comeIn_9 : decode b_M_comeIn 9 = .ok (.iadd, 1) := by decide +kernel
theorem dM_comeIn_10 : decode b_M_comeIn 10 = .ok (.istore 4, 2) := by decide +kernel
theorem dM_comeIn_12 : decode b_M_comeIn 12 = .ok (.iload 4, 2) := by decide +kernel
theorem dM_comeIn_14 : decode b_M_comeIn 14 = .ok (.iload_n 1, 1) := by decide +kernel
theorem dM_comeIn_15 : decode b_M_comeIn 15 = .ok (.iconst 4, 1) := by decide +kernel
theorem dM_comeIn_16 : decode b_M_comeIn 16 = .ok (.imul, 1) := by decide +kernel
theorem dM_comeIn_17 : decode b_M_comeIn 17 = .ok (.if_icmp .le 54, 3) := by decide +kernel
theorem dM_comeIn_20 : decode b_M_comeIn 20 = .ok (.aload_n 0, 1) := by decide +kernel
theorem dM_comeIn_21 : decode b_M_comeIn 21 = .ok (.getfield 66, 3) := by decide +kernel
theorem dM_comeIn_24 : decode b_M_comeIn 24 = .ok (.iload 4, 2) := by decide +kernel
theorem dM_comeIn_26 : decode b_M_comeIn 26 = .ok (.iconst 1, 1) := by decide +kernel
theorem dM_comeIn_27 : decode b_M_comeIn 27 = .ok (.isub, 1) := by decide +kernel
theorem dM_comeIn_28 : decode b_M_comeIn 28 = .ok (.iaload, 1) := by decide +kernel
theorem dM_comeIn_29 : decode b_M_comeIn 29 = .ok (.iload_n 2, 1) := by decide +kernel
theorem dM_comeIn_30 : decode b_M_comeIn 30 = .ok (.if_icmp .ge 41, 3) := by decide +kernel
theorem dM_comeIn_33 : decode b_M_comeIn 33 = .ok (.aload_n 0, 1) := by decide +kernel
theorem dM_comeIn_34 : decode b_M_comeIn 34 = .ok (.getfield 66, 3) := by decide +kernel
theorem dM_comeIn_37 : decode b_M_comeIn 37 = .ok (.iload 4, 2) := by decide +kernel
theorem dM_comeIn_39 : decode b_M_comeIn 39 = .ok (.aload_n 0, 1) := by decide +kernel
theorem dM_comeIn_40 : decode b_M_comeIn 40 = .ok (.getfield 66, 3) := by decide +kernel
theorem dM_comeIn_43 : decode b_M_comeIn 43 = .ok (.iload 4, 2) := by decide +kernel
theorem dM_comeIn_45 : decode b_M_comeIn 45 = .ok (.iconst 1, 1) := by decide +kernel
theorem dM_comeIn_46 : decode b_M_comeIn 46 = .ok (.isub, 1) := by decide +kernel
theorem dM_comeIn_47 : decode b_M_comeIn 47 = .ok (.iaload, 1) := by decide +kernel
theorem dM_comeIn_48 : decode b_M_comeIn 48 = .ok (.iastore, 1) := by decide +kernel
theorem dM_comeIn_49 : decode b_M_comeIn 49 = .ok (.aload_n 0, 1) := by decide +kernel
theorem dM_comeIn_50 : decode b_M_comeIn 50 = .ok (.getfield 69, 3) := by decide +kernel
theorem dM_comeIn_53 : decode b_M_comeIn 53 = .ok (.iload 4, 2) := by decide +kernel
theorem dM_comeIn_55 : decode b_M_comeIn 55 = .ok (.aload_n 0, 1) := by decide +kernel
theorem dM_comeIn_56 : decode b_M_comeIn 56 = .ok (.getfield 69, 3) := by decide +kernel
theorem dM_comeIn_59 : decode b_M_comeIn 59 = .ok (.iload 4, 2) := by decide +kernel
theorem dM_comeIn_61 : decode b_M_comeIn 61 = .ok (.iconst 1, 1) := by decide +kernel
theorem dM_comeIn_62 : decode b_M_comeIn 62 = .ok (.isub, 1) := by decide +kernel
theorem dM_comeIn_63 : decode b_M_comeIn 63 = .ok (.iaload, 1) := by decide +kernel
theorem dM_comeIn_64 : decode b_M_comeIn 64 = .ok (.iastore, 1) := by decide +kernel
theorem dM_comeIn_65 : decode b_M_comeIn 65 = .ok (.iinc 4 (-1), 3) := by decide +kernel
theorem dM_comeIn_68 : decode b_M_comeIn 68 = .ok (.goto (-56), 3) := by decide +kernel
theorem dM_comeIn_71 : decode b_M_comeIn 71 = .ok (.aload_n 0, 1) := by decide +kernel
theorem dM_comeIn_72 : decode b_M_comeIn 72 = .ok (.getfield 66, 3) := by decide +kernel
theorem dM_comeIn_75 : decode b_M_comeIn 75 = .ok (.iload 4, 2) := by decide +kernel
theorem dM_comeIn_77 : decode b_M_comeIn 77 = .ok (.iload_n 2, 1) := by decide +kernel
theorem dM_comeIn_78 : decode b_M_comeIn 78 = .ok (.iastore, 1) := by decide +kernel
theorem dM_comeIn_79 : decode b_M_comeIn 79 = .ok (.aload_n 0, 1) := by decide +kernel
theorem dM_comeIn_80 : decode b_M_comeIn 80 = .ok (.getfield 69, 3) := by decide +kernel
theorem dM_comeIn_83 : decode b_M_comeIn 83 = .ok (.iload 4, 2) := by decide +kernel
theorem dM_comeIn_85 : decode b_M_comeIn 85 = .ok (.iload_n 3, 1) := by decide +kernel
theorem dM_comeIn_86 : decode b_M_comeIn 86 = .ok (.iastore, 1) := by decide +kernel
theorem dM_comeIn_87 : decode b_M_comeIn 87 = .ok (.aload_n 0, 1) := by decide +kernel
theorem dM_comeIn_88 : decode b_M_comeIn 88 = .ok (.getfield 63, 3) := by decide +kernel
theorem dM_comeIn_91 : decode b_M_comeIn 91 = .ok (.iload_n 1, 1) := by decide +kernel
theorem dM_comeIn_92 : decode b_M_comeIn 92 = .ok (.dup2, 1) := by decide +kernel
theorem dM_comeIn_93 : decode b_M_comeIn 93 = .ok (.iaload, 1) := by decide +kernel
theorem dM_comeIn_94 : decode b_M_comeIn 94 = .ok (.iconst 1, 1) := by decide +kernel
theorem dM_comeIn_95 : decode b_M_comeIn 95 = .ok (.iadd, 1) := by decide +kernel
theorem dM_comeIn_96 : decode b_M_comeIn 96 = .ok (.iastore, 1) := by decide +kernel
theorem dM_comeIn_97 : decode b_M_comeIn 97 = .ok (.return_, 1) := by decide +kernel
theorem dM_send_0 : decode b_M_send 0 = .ok (.aload_n 0, 1) := by decide +kernel
theorem dM_send_1 : decode b_M_send 1 = .ok (.invokevirtual 104, 3) := by decide +kernel
theorem dM_send_4 : decode b_M_send 4 = .ok (.istore 4, 2) := by decide +kernel
theorem dM_send_6 : decode b_M_send 6 = .ok (.aload_n 0, 1) := by decide +kernel
theorem dM_send_7 : decode b_M_send 7 = .ok (.iload_n 1, 1) := by decide +kernel
theorem dM_send_8 : decode b_M_send 8 = .ok (.iconst 2, 1) := by decide +kernel
theorem dM_send_9 : decode b_M_send 9 = .ok (.invokevirtual 100, 3) := by decide +kernel
theorem dM_send_12 : decode b_M_send 12 = .ok (.ifCond .ne 18, 3) := by decide +kernel
theorem dM_send_15 : decode b_M_send 15 = .ok (.aload_n 0, 1) := by decide +kernel
theorem dM_send_16 : decode b_M_send 16 = .ok (.iload_n 2, 1) := by decide +kernel
theorem dM_send_17 : decode b_M_send 17 = .ok (.bipush 10, 2) := by decide +kernel
theorem dM_send_19 : decode b_M_send 19 = .ok (.invokevirtual 100, 3) := by decide +kernel
theorem dM_send_22 : decode b_M_send 22 = .ok (.ifCond .ne 8, 3) := by decide +kernel
theorem dM_send_25 : decode b_M_send 25 = .ok (.iload 4, 2) := by decide +kernel
theorem dM_send_27 : decode b_M_send 27 = .ok (.ifCond .ge 5, 3) := by decide +kernel
theorem dM_send_30 : decode b_M_send 30 = .ok (.iconst (-1), 1) := by decide +kernel
theorem dM_send_31 : decode b_M_send 31 = .ok (.ireturn, 1) := by decide +kernel
theorem dM_send_32 : decode b_M_send 32 = .ok (.aload_n 0, 1) := by decide +kernel
theorem dM_send_33 : decode b_M_send 33 = .ok (.getfield 63, 3) := by decide +kernel
theorem dM_send_36 : decode b_M_send 36 = .ok (.iload_n 1, 1) := by decide +kernel
theorem dM_send_37 : decode b_M_send 37 = .ok (.iaload, 1) := by decide +kernel
theorem dM_send_38 : decode b_M_send 38 = .ok (.iconst 4, 1) := by decide +kernel
theorem dM_send_39 : decode b_M_send 39 = .ok (.if_icmp .ne 32, 3) := by decide +kernel
theorem dM_send_42 : decode b_M_send 42 = .ok (.aload_n 0, 1) := by decide +kernel
theorem dM_send_43 : decode b_M_send 43 = .ok (.iload 4, 2) := by decide +kernel
theorem dM_send_45 : decode b_M_send 45 = .ok (.bipush 40, 2) := by decide +kernel
theorem dM_send_47 : decode b_M_send 47 = .ok (.iload_n 1, 1) := by decide +kernel
theorem dM_send_48 : decode b_M_send 48 = .ok (.iadd, 1) := by decide +kernel
theorem dM_send_49 : decode b_M_send 49 = .ok (.iconst 0, 1) := by decide +kernel
theorem dM_send_50 : decode b_M_send 50 = .ok (.invokevirtual 96, 3) := by decide +kernel
theorem dM_send_53 : decode b_M_send 53 = .ok (.aload_n 0, 1) := by decide +kernel
theorem dM_send_54 : decode b_M_send 54 = .ok (.getfield 44, 3) := by decide +kernel
theorem dM_send_57 : decode b_M_send 57 = .ok (.iload 4, 2) := by decide +kernel
theorem dM_send_59 : decode b_M_send 59 = .ok (.iload_n 2, 1) := by decide +kernel
theorem dM_send_60 : decode b_M_send 60 = .ok (.iastore, 1) := by decide +kernel
theorem dM_send_61 : decode b_M_send 61 = .ok (.aload_n 0, 1) := by decide +kernel
theorem dM_send_62 : decode b_M_send 62 = .ok (.getfield 47, 3) := by decide +kernel
theorem dM_send_65 : decode b_M_send 65 = .ok (.iload 4, 2) := by decide +kernel
theorem dM_send_67 : decode b_M_send 67 = .ok (.iload_n 3, 1) := by decide +kernel
theorem dM_send_68 : decode b_M_send 68 = .ok (.iastore, 1) := by decide +kernel
theorem dM_send_69 : decode b_M_send 69 = .ok (.iconst 1, 1) := by decide +kernel
theorem dM_send_70 : decode b_M_send 70 = .ok (.ireturn, 1) := by decide +kernel
theorem dM_send_71 : decode b_M_send 71 = .ok (.aload_n 0, 1) := by decide +kernel
theorem dM_send_72 : decode b_M_send 72 = .ok (.getfield 38, 3) := by decide +kernel
theorem dM_send_75 : decode b_M_send 75 = .ok (.iload 4, 2) := by decide +kernel
theorem dM_send_77 : decode b_M_send 77 = .ok (.iconst 0, 1) := by decide +kernel
theorem dM_send_78 : decode b_M_send 78 = .ok (.iastore, 1) := by decide +kernel
theorem dM_send_79 : decode b_M_send 79 = .ok (.aload_n 0, 1) := by decide +kernel
theorem dM_send_80 : decode b_M_send 80 = .ok (.bipush 50, 2) := by decide +kernel
theorem dM_send_82 : decode b_M_send 82 = .ok (.iload_n 1, 1) := by decide +kernel
theorem dM_send_83 : decode b_M_send 83 = .ok (.iadd, 1) := by decide +kernel
theorem dM_send_84 : decode b_M_send 84 = .ok (.invokevirtual 88, 3) := by decide +kernel
theorem dM_send_87 : decode b_M_send 87 = .ok (.istore 5, 2) := by decide +kernel
theorem dM_send_89 : decode b_M_send 89 = .ok (.iload 5, 2) := by decide +kernel
theorem dM_send_91 : decode b_M_send 91 = .ok (.ifCond .ge 12, 3) := by decide +kernel
theorem dM_send_94 : decode b_M_send 94 = .ok (.aload_n 0, 1) := by decide +kernel
theorem dM_send_95 : decode b_M_send 95 = .ok (.iload_n 1, 1) := by decide +kernel
theorem dM_send_96 : decode b_M_send 96 = .ok (.iload_n 2, 1) := by decide +kernel
theorem dM_send_97 : decode b_M_send 97 = .ok (.iload_n 3, 1) := by decide +kernel
theorem dM_send_98 : decode b_M_send 98 = .ok (.invokevirtual 114, 3) := by decide +kernel
theorem dM_send_101 : decode b_M_send 101 = .ok (.iconst 0, 1) := by decide +kernel
theorem dM_send_102 : decode b_M_send 102 = .ok (.ireturn, 1) := by decide +kernel
theorem dM_send_103 : decode b_M_send 103 = .ok (.aload_n 0, 1) := by decide +kernel
theorem dM_send_104 : decode b_M_send 104 = .ok (.getfield 38, 3) := by decide +kernel
theorem dM_send_107 : decode b_M_send 107 = .ok (.iload 5, 2) := by decide +kernel
theorem dM_send_109 : decode b_M_send 109 = .ok (.iload_n 3, 1) := by decide +kernel
theorem dM_send_110 : decode b_M_send 110 = .ok (.iastore, 1) := by decide +kernel
theorem dM_send_111 : decode b_M_send 111 = .ok (.aload_n 0, 1) := by decide +kernel
theorem dM_send_112 : decode b_M_send 112 = .ok (.iload 5, 2) := by decide +kernel
theorem dM_send_114 : decode b_M_send 114 = .ok (.invokevirtual 92, 3) := by decide +kernel
theorem dM_send_117 : decode b_M_send 117 = .ok (.iconst 0, 1) := by decide +kernel
theorem dM_send_118 : decode b_M_send 118 = .ok (.ireturn, 1) := by decide +kernel
theorem dM_receive_0 : decode b_M_receive 0 = .ok (.aload_n 0, 1) := by decide +kernel
theorem dM_receive_1 : decode b_M_receive 1 = .ok (.invokevirtual 104, 3) := by decide +kernel
theorem dM_receive_4 : decode b_M_receive 4 = .ok (.istore_n 2, 1) := by decide +kernel
theorem dM_receive_5 : decode b_M_receive 5 = .ok (.aload_n 0, 1) := by decide +kernel
theorem dM_receive_6 : decode b_M_receive 6 = .ok (.iload_n 1, 1) := by decide +kernel
theorem dM_receive_7 : decode b_M_receive 7 = .ok (.iconst 2, 1) := by decide +kernel
theorem dM_receive_8 : decode b_M_receive 8 = .ok (.invokevirtual 100, 3) := by decide +kernel
theorem dM_receive_11 : decode b_M_receive 11 = .ok (.ifCond .ne 7, 3) := by decide +kernel
theorem dM_receive_14 : decode b_M_receive 14 = .ok (.iload_n 2, 1) := by decide +kernel
theorem dM_receive_15 : decode b_M_receive 15 = .ok (.ifCond .ge 5, 3) := by decide +kernel
theorem dM_receive_18 : decode b_M_receive 18 = .ok (.iconst (-1), 1) := by decide +kernel
theorem dM_receive_19 : decode b_M_receive 19 = .ok (.ireturn, 1) := by decide +kernel
theorem dM_receive_20 : decode b_M_receive 20 = .ok (.aload_n 0, 1) := by decide +kernel
theorem dM_receive_21 : decode b_M_receive 21 = .ok (.getfield 63, 3) := by decide +kernel
theorem dM_receive_24 : decode b_M_receive 24 = .ok (.iload_n 1, 1) := by decide +kernel
theorem dM_receive_25 : decode b_M_receive 25 = .ok (.iaload, 1) := by decide +kernel
theorem dM_receive_26 : decode b_M_receive 26 = .ok (.ifCond .ne 15, 3) := by decide +kernel
theorem dM_receive_29 : decode b_M_receive 29 = .ok (.aload_n 0, 1) := by decide +kernel
theorem dM_receive_30 : decode b_M_receive 30 = .ok (.iload_n 2, 1) := by decide +kernel
theorem dM_receive_31 : decode b_M_receive 31 = .ok (.bipush 50, 2) := by decide +kernel
theorem dM_receive_33 : decode b_M_receive 33 = .ok (.iload_n 1, 1) := by decide +kernel
theorem dM_receive_34 : decode b_M_receive 34 = .ok (.iadd, 1) := by decide +kernel
theorem dM_receive_35 : decode b_M_receive 35 = .ok (.iconst 0, 1) := by decide +kernel
theorem dM_receive_36 : decode b_M_receive 36 = .ok (.invokevirtual 96, 3) := by decide +kernel
theorem dM_receive_39 : decode b_M_receive 39 = .ok (.iconst 1, 1) := by decide +kernel
theorem dM_receive_40 : decode b_M_receive 40 = .ok (.ireturn, 1) := by decide +kernel
theorem dM_receive_41 : decode b_M_receive 41 = .ok (.aload_n 0, 1) := by decide +kernel
theorem dM_receive_42 : decode b_M_receive 42 = .ok (.getfield 38, 3) := by decide +kernel
theorem dM_receive_45 : decode b_M_receive 45 = .ok (.iload_n 2, 1) := by decide +kernel
theorem dM_receive_46 : decode b_M_receive 46 = .ok (.aload_n 0, 1) := by decide +kernel
theorem dM_receive_47 : decode b_M_receive 47 = .ok (.getfield 69, 3) := by decide +kernel
theorem dM_receive_50 : decode b_M_receive 50 = .ok (.iload_n 1, 1) := by decide +kernel
theorem dM_receive_51 : decode b_M_receive 51 = .ok (.iconst 4, 1) := by decide +kernel
theorem dM_receive_52 : decode b_M_receive 52 = .ok (.imul, 1) := by decide +kernel
theorem dM_receive_53 : decode b_M_receive 53 = .ok (.iaload, 1) := by decide +kernel
theorem dM_receive_54 : decode b_M_receive 54 = .ok (.iastore, 1) := by decide +kernel
theorem dM_receive_55 : decode b_M_receive 55 = .ok (.iload_n 1, 1) := by decide +kernel
theorem dM_receive_56 : decode b_M_receive 56 = .ok (.iconst 4, 1) := by decide +kernel
theorem dM_receive_57 : decode b_M_receive 57 = .ok (.imul, 1) := by decide +kernel
theorem dM_receive_58 : decode b_M_receive 58 = .ok (.istore_n 3, 1) := by decide +kernel
theorem dM_receive_59 : decode b_M_receive 59 = .ok (.iload_n 3, 1) := by decide +kernel
theorem dM_receive_60 : decode b_M_receive 60 = .ok (.iload_n 1, 1) := by decide +kernel
theorem dM_receive_61 : decode b_M_receive 61 = .ok (.iconst 4, 1) := by decide +kernel
theorem dM_receive_62 : decode b_M_receive 62 = .ok (.imul, 1) := by decide +kernel
theorem dM_receive_63 : decode b_M_receive 63 = .ok (.iconst 3, 1) := by decide +kernel
theorem dM_receive_64 : decode b_M_receive 64 = .ok (.iadd, 1) := by decide +kernel
theorem dM_receive_65 : decode b_M_receive 65 = .ok (.if_icmp .ge 37, 3) := by decide +kernel
theorem dM_receive_68 : decode b_M_receive 68 = .ok (.aload_n 0, 1) := by decide +kernel
theorem dM_receive_69 : decode b_M_receive 69 = .ok (.getfield 66, 3) := by decide +kernel
theorem dM_receive_72 : decode b_M_receive 72 = .ok (.iload_n 3, 1) := by decide +kernel
theorem dM_receive_73 : decode b_M_receive 73 = .ok (.aload_n 0, 1) := by decide +kernel
theorem dM_receive_74 : decode b_M_receive 74 = .ok (.getfield 66, 3) := by decide +kernel
theorem dM_receive_77 : decode b_M_receive 77 = .ok (.iload_n 3, 1) := by decide +kernel
theorem dM_receive_78 : decode b_M_receive 78 = .ok (.iconst 1, 1) := by decide +kernel
theorem dM_receive_79 : decode b_M_receive 79 = .ok (.iadd, 1) := by decide +kernel
theorem dM_receive_80 : decode b_M_receive 80 = .ok (.iaload, 1) := by decide +kernel
theorem dM_receive_81 : decode b_M_receive 81 = .ok (.iastore, 1) := by decide +kernel
theorem dM_receive_82 : decode b_M_receive 82 = .ok (.aload_n 0, 1) := by decide +kernel
theorem dM_receive_83 : decode b_M_receive 83 = .ok (.getfield 69, 3) := by decide +kernel
theorem dM_receive_86 : decode b_M_receive 86 = .ok (.iload_n 3, 1) := by decide +kernel
theorem dM_receive_87 : decode b_M_receive 87 = .ok (.aload_n 0, 1) := by decide +kernel
theorem dM_receive_88 : decode b_M_receive 88 = .ok (.getfield 69, 3) := by decide +kernel
theorem dM_receive_91 : decode b_M_receive 91 = .ok (.iload_n 3, 1) := by decide +kernel
theorem dM_receive_92 : decode b_M_receive 92 = .ok (.iconst 1, 1) := by decide +kernel
theorem dM_receive_93 : decode b_M_receive 93 = .ok (.iadd, 1) := by decide +kernel
theorem dM_receive_94 : decode b_M_receive 94 = .ok (.iaload, 1) := by decide +kernel
theorem dM_receive_95 : decode b_M_receive 95 = .ok (.iastore, 1) := by decide +kernel
theorem dM_receive_96 : decode b_M_receive 96 = .ok (.iinc 3 1, 3) := by decide +kernel
theorem dM_receive_99 : decode b_M_receive 99 = .ok (.goto (-40), 3) := by decide +kernel
theorem dM_receive_102 : decode b_M_receive 102 = .ok (.aload_n 0, 1) := by decide +kernel
theorem dM_receive_103 : decode b_M_receive 103 = .ok (.getfield 63, 3) := by decide +kernel
theorem dM_receive_106 : decode b_M_receive 106 = .ok (.iload_n 1, 1) := by decide +kernel
theorem dM_receive_107 : decode b_M_receive 107 = .ok (.dup2, 1) := by decide +kernel
theorem dM_receive_108 : decode b_M_receive 108 = .ok (.iaload, 1) := by decide +kernel
theorem dM_receive_109 : decode b_M_receive 109 = .ok (.iconst 1, 1) := by decide +kernel
theorem dM_receive_110 : decode b_M_receive 110 = .ok (.isub, 1) := by decide +kernel
theorem dM_receive_111 : decode b_M_receive 111 = .ok (.iastore, 1) := by decide +kernel
theorem dM_receive_112 : decode b_M_receive 112 = .ok (.aload_n 0, 1) := by decide +kernel
theorem dM_receive_113 : decode b_M_receive 113 = .ok (.bipush 40, 2) := by decide +kernel
theorem dM_receive_115 : decode b_M_receive 115 = .ok (.iload_n 1, 1) := by decide +kernel
theorem dM_receive_116 : decode b_M_receive 116 = .ok (.iadd, 1) := by decide +kernel
theorem dM_receive_117 : decode b_M_receive 117 = .ok (.invokevirtual 88, 3) := by decide +kernel
theorem dM_receive_120 : decode b_M_receive 120 = .ok (.istore_n 3, 1) := by decide +kernel
theorem dM_receive_121 : decode b_M_receive 121 = .ok (.iload_n 3, 1) := by decide +kernel
theorem dM_receive_122 : decode b_M_receive 122 = .ok (.ifCond .ge 5, 3) := by decide +kernel
theorem dM_receive_125 : decode b_M_receive 125 = .ok (.iconst 0, 1) := by decide +kernel
theorem dM_receive_126 : decode b_M_receive 126 = .ok (.ireturn, 1) := by decide +kernel
theorem dM_receive_127 : decode b_M_receive 127 = .ok (.aload_n 0, 1) := by decide +kernel
theorem dM_receive_128 : decode b_M_receive 128 = .ok (.iload_n 1, 1) := by decide +kernel
theorem dM_receive_129 : decode b_M_receive 129 = .ok (.aload_n 0, 1) := by decide +kernel
theorem dM_receive_130 : decode b_M_receive 130 = .ok (.getfield 44, 3) := by decide +kernel
theorem dM_receive_133 : decode b_M_receive 133 = .ok (.iload_n 3, 1) := by decide +kernel
theorem dM_receive_134 : decode b_M_receive 134 = .ok (.iaload, 1) := by decide +kernel
theorem dM_receive_135 : decode b_M_receive 135 = .ok (.aload_n 0, 1) := by decide +kernel
theorem dM_receive_136 : decode b_M_receive 136 = .ok (.getfield 47, 3) := by decide +kernel
theorem dM_receive_139 : decode b_M_receive 139 = .ok (.iload_n 3, 1) := by decide +kernel
theorem dM_receive_140 : decode b_M_receive 140 = .ok (.iaload, 1) := by decide +kernel
theorem dM_receive_141 : decode b_M_receive 141 = .ok (.invokevirtual 114, 3) := by decide +kernel
theorem dM_receive_144 : decode b_M_receive 144 = .ok (.aload_n 0, 1) := by decide +kernel
theorem dM_receive_145 : decode b_M_receive 145 = .ok (.getfield 38, 3) := by decide +kernel
theorem dM_receive_148 : decode b_M_receive 148 = .ok (.iload_n 3, 1) := by decide +kernel
theorem dM_receive_149 : decode b_M_receive 149 = .ok (.iconst 0, 1) := by decide +kernel
theorem dM_receive_150 : decode b_M_receive 150 = .ok (.iastore, 1) := by decide +kernel
theorem dM_receive_151 : decode b_M_receive 151 = .ok (.aload_n 0, 1) := by decide +kernel
theorem dM_receive_152 : decode b_M_receive 152 = .ok (.iload_n 3, 1) := by decide +kernel
theorem dM_receive_153 : decode b_M_receive 153 = .ok (.invokevirtual 92, 3) := by decide +kernel
theorem dM_receive_156 : decode b_M_receive 156 = .ok (.iconst 0, 1) := by decide +kernel
theorem dM_receive_157 : decode b_M_receive 157 = .ok (.ireturn, 1) := by decide +kernel
theorem dM_sleep_0 : decode b_M_sleep 0 = .ok (.aload_n 0, 1) := by decide +kernel
theorem dM_sleep_1 : decode b_M_sleep 1 = .ok (.invokevirtual 104, 3) := by decide +kernel
theorem dM_sleep_4 : decode b_M_sleep 4 = .ok (.istore_n 2, 1) := by decide +kernel
theorem dM_sleep_5 : decode b_M_sleep 5 = .ok (.iload_n 1, 1) := by decide +kernel
theorem dM_sleep_6 : decode b_M_sleep 6 = .ok (.iconst 1, 1) := by decide +kernel
theorem dM_sleep_7 : decode b_M_sleep 7 = .ok (.if_icmp .lt 14, 3) := by decide +kernel
theorem dM_sleep_10 : decode b_M_sleep 10 = .ok (.iload_n 1, 1) := by decide +kernel
theorem dM_sleep_11 : decode b_M_sleep 11 = .ok (.sipush 1000, 3) := by decide +kernel
theorem dM_sleep_14 : decode b_M_sleep 14 = .ok (.if_icmp .gt 7, 3) := by decide +kernel
theorem dM_sleep_17 : decode b_M_sleep 17 = .ok (.iload_n 2, 1) := by decide +kernel
theorem dM_sleep_18 : decode b_M_sleep 18 = .ok (.ifCond .ge 5, 3) := by decide +kernel
theorem dM_sleep_21 : decode b_M_sleep 21 = .ok (.iconst (-1), 1) := by decide +kernel
theorem dM_sleep_22 : decode b_M_sleep 22 = .ok (.ireturn, 1) := by decide +kernel
theorem dM_sleep_23 : decode b_M_sleep 23 = .ok (.aload_n 0, 1) := by decide +kernel
theorem dM_sleep_24 : decode b_M_sleep 24 = .ok (.iload_n 2, 1) := by decide +kernel
theorem dM_sleep_25 : decode b_M_sleep 25 = .ok (.bipush 60, 2) := by decide +kernel
theorem dM_sleep_27 : decode b_M_sleep 27 = .ok (.aload_n 0, 1) := by decide +kernel
theorem dM_sleep_28 : decode b_M_sleep 28 = .ok (.getfield 7, 3) := by decide +kernel
theorem dM_sleep_31 : decode b_M_sleep 31 = .ok (.iload_n 1, 1) := by decide +kernel
theorem dM_sleep_32 : decode b_M_sleep 32 = .ok (.iadd, 1) := by decide +kernel
theorem dM_sleep_33 : decode b_M_sleep 33 = .ok (.invokevirtual 96, 3) := by decide +kernel
theorem dM_sleep_36 : decode b_M_sleep 36 = .ok (.iconst 1, 1) := by decide +kernel
theorem dM_sleep_37 : decode b_M_sleep 37 = .ok (.ireturn, 1) := by decide +kernel
theorem dM_join_0 : decode b_M_join 0 = .ok (.aload_n 0, 1) := by decide +kernel
theorem dM_join_1 : decode b_M_join 1 = .ok (.invokevirtual 104, 3) := by decide +kernel
theorem dM_join_4 : decode b_M_join 4 = .ok (.istore_n 2, 1) := by decide +kernel
theorem dM_join_5 : decode b_M_join 5 = .ok (.aload_n 0, 1) := by decide +kernel
theorem dM_join_6 : decode b_M_join 6 = .ok (.iload_n 1, 1) := by decide +kernel
theorem dM_join_7 : decode b_M_join 7 = .ok (.bipush 8, 2) := by decide +kernel
theorem dM_join_9 : decode b_M_join 9 = .ok (.invokevirtual 100, 3) := by decide +kernel
theorem dM_join_12 : decode b_M_join 12 = .ok (.ifCond .ne 7, 3) := by decide +kernel
theorem dM_join_15 : decode b_M_join 15 = .ok (.iload_n 2, 1) := by decide +kernel
theorem dM_join_16 : decode b_M_join 16 = .ok (.ifCond .ge 5, 3) := by decide +kernel
theorem dM_join_19 : decode b_M_join 19 = .ok (.iconst (-1), 1) := by decide +kernel
theorem dM_join_20 : decode b_M_join 20 = .ok (.ireturn, 1) := by decide +kernel
theorem dM_join_21 : decode b_M_join 21 = .ok (.aload_n 0, 1) := by decide +kernel
theorem dM_join_22 : decode b_M_join 22 = .ok (.getfield 16, 3) := by decide +kernel
theorem dM_join_25 : decode b_M_join 25 = .ok (.iload_n 1, 1) := by decide +kernel
theorem dM_join_26 : decode b_M_join 26 = .ok (.iaload, 1) := by decide +kernel
theorem dM_join_27 : decode b_M_join 27 = .ok (.iconst 3, 1) := by decide +kernel
theorem dM_join_28 : decode b_M_join 28 = .ok (.if_icmp .ne 24, 3) := by decide +kernel
theorem dM_join_31 : decode b_M_join 31 = .ok (.aload_n 0, 1) := by decide +kernel
theorem dM_join_32 : decode b_M_join 32 = .ok (.getfield 16, 3) := by decide +kernel
theorem dM_join_35 : decode b_M_join 35 = .ok (.iload_n 1, 1) := by decide +kernel
theorem dM_join_36 : decode b_M_join 36 = .ok (.iconst 0, 1) := by decide +kernel
theorem dM_join_37 : decode b_M_join 37 = .ok (.iastore, 1) := by decide +kernel
theorem dM_join_38 : decode b_M_join 38 = .ok (.aload_n 0, 1) := by decide +kernel
theorem dM_join_39 : decode b_M_join 39 = .ok (.getfield 38, 3) := by decide +kernel
theorem dM_join_42 : decode b_M_join 42 = .ok (.iload_n 2, 1) := by decide +kernel
theorem dM_join_43 : decode b_M_join 43 = .ok (.aload_n 0, 1) := by decide +kernel
theorem dM_join_44 : decode b_M_join 44 = .ok (.getfield 38, 3) := by decide +kernel
theorem dM_join_47 : decode b_M_join 47 = .ok (.iload_n 1, 1) := by decide +kernel
theorem dM_join_48 : decode b_M_join 48 = .ok (.iaload, 1) := by decide +kernel
theorem dM_join_49 : decode b_M_join 49 = .ok (.iastore, 1) := by decide +kernel
theorem dM_join_50 : decode b_M_join 50 = .ok (.iconst 0, 1) := by decide +kernel
theorem dM_join_51 : decode b_M_join 51 = .ok (.ireturn, 1) := by decide +kernel
theorem dM_join_52 : decode b_M_join 52 = .ok (.aload_n 0, 1) := by decide +kernel
theorem dM_join_53 : decode b_M_join 53 = .ok (.getfield 16, 3) := by decide +kernel
theorem dM_join_56 : decode b_M_join 56 = .ok (.iload_n 1, 1) := by decide +kernel
theorem dM_join_57 : decode b_M_join 57 = .ok (.iaload, 1) := by decide +kernel
theorem dM_join_58 : decode b_M_join 58 = .ok (.ifCond .eq 19, 3) := by decide +kernel
theorem dM_join_61 : decode b_M_join 61 = .ok (.iload_n 1, 1) := by decide +kernel
theorem dM_join_62 : decode b_M_join 62 = .ok (.iload_n 2, 1) := by decide +kernel
theorem dM_join_63 : decode b_M_join 63 = .ok (.if_icmp .eq 14, 3) := by decide +kernel
theorem dM_join_66 : decode b_M_join 66 = .ok (.aload_n 0, 1) := by decide +kernel
theorem dM_join_67 : decode b_M_join 67 = .ok (.bipush 70, 2) := by decide +kernel
theorem dM_join_69 : decode b_M_join 69 = .ok (.iload_n 1, 1) := by decide +kernel
theorem dM_join_70 : decode b_M_join 70 = .ok (.iadd, 1) := by decide +kernel
theorem dM_join_71 : decode b_M_join 71 = .ok (.invokevirtual 88, 3) := by decide +kernel
theorem dM_join_74 : decode b_M_join 74 = .ok (.ifCond .lt 5, 3) := by decide +kernel
theorem dM_join_77 : decode b_M_join 77 = .ok (.iconst (-1), 1) := by decide +kernel
theorem dM_join_78 : decode b_M_join 78 = .ok (.ireturn, 1) := by decide +kernel
theorem dM_join_79 : decode b_M_join 79 = .ok (.aload_n 0, 1) := by decide +kernel
theorem dM_join_80 : decode b_M_join 80 = .ok (.iload_n 2, 1) := by decide +kernel
theorem dM_join_81 : decode b_M_join 81 = .ok (.bipush 70, 2) := by decide +kernel
theorem dM_join_83 : decode b_M_join 83 = .ok (.iload_n 1, 1) := by decide +kernel
theorem dM_join_84 : decode b_M_join 84 = .ok (.iadd, 1) := by decide +kernel
theorem dM_join_85 : decode b_M_join 85 = .ok (.iconst 0, 1) := by decide +kernel
theorem dM_join_86 : decode b_M_join 86 = .ok (.invokevirtual 96, 3) := by decide +kernel
theorem dM_join_89 : decode b_M_join 89 = .ok (.iconst 1, 1) := by decide +kernel
theorem dM_join_90 : decode b_M_join 90 = .ok (.ireturn, 1) := by decide +kernel
theorem dM_exit_0 : decode b_M_exit 0 = .ok (.aload_n 0, 1) := by decide +kernel
theorem dM_exit_1 : decode b_M_exit 1 = .ok (.invokevirtual 104, 3) := by decide +kernel
theorem dM_exit_4 : decode b_M_exit 4 = .ok (.istore_n 2, 1) := by decide +kernel
theorem dM_exit_5 : decode b_M_exit 5 = .ok (.iload_n 2, 1) := by decide +kernel
theorem dM_exit_6 : decode b_M_exit 6 = .ok (.ifCond .ge 5, 3) := by decide +kernel
theorem dM_exit_9 : decode b_M_exit 9 = .ok (.iconst (-1), 1) := by decide +kernel
theorem dM_exit_10 : decode b_M_exit 10 = .ok (.ireturn, 1) := by decide +kernel
theorem dM_exit_11 : decode b_M_exit 11 = .ok (.iconst 0, 1) := by decide +kernel
theorem dM_exit_12 : decode b_M_exit 12 = .ok (.istore_n 3, 1) := by decide +kernel
theorem dM_exit_13 : decode b_M_exit 13 = .ok (.iload_n 3, 1) := by decide +kernel
theorem dM_exit_14 : decode b_M_exit 14 = .ok (.iconst 4, 1) := by decide +kernel
theorem dM_exit_15 : decode b_M_exit 15 = .ok (.if_icmp .ge 21, 3) := by decide +kernel
theorem dM_exit_18 : decode b_M_exit 18 = .ok (.aload_n 0, 1) := by decide +kernel
theorem dM_exit_19 : decode b_M_exit 19 = .ok (.getfield 57, 3) := by decide +kernel
theorem dM_exit_22 : decode b_M_exit 22 = .ok (.iload_n 3, 1) := by decide +kernel
theorem dM_exit_23 : decode b_M_exit 23 = .ok (.iaload, 1) := by decide +kernel
theorem dM_exit_24 : decode b_M_exit 24 = .ok (.iload_n 2, 1) := by decide +kernel
theorem dM_exit_25 : decode b_M_exit 25 = .ok (.if_icmp .ne 5, 3) := by decide +kernel
theorem dM_exit_28 : decode b_M_exit 28 = .ok (.iconst (-1), 1) := by decide +kernel
theorem dM_exit_29 : decode b_M_exit 29 = .ok (.ireturn, 1) := by decide +kernel
theorem dM_exit_30 : decode b_M_exit 30 = .ok (.iinc 3 1, 3) := by decide +kernel
theorem dM_exit_33 : decode b_M_exit 33 = .ok (.goto (-20), 3) := by decide +kernel
theorem dM_exit_36 : decode b_M_exit 36 = .ok (.aload_n 0, 1) := by decide +kernel
theorem dM_exit_37 : decode b_M_exit 37 = .ok (.getfield 38, 3) := by decide +kernel
theorem dM_exit_40 : decode b_M_exit 40 = .ok (.iload_n 2, 1) := by decide +kernel
theorem dM_exit_41 : decode b_M_exit 41 = .ok (.iload_n 1, 1) := by decide +kernel
theorem dM_exit_42 : decode b_M_exit 42 = .ok (.iastore, 1) := by decide +kernel
theorem dM_exit_43 : decode b_M_exit 43 = .ok (.aload_n 0, 1) := by decide +kernel
theorem dM_exit_44 : decode b_M_exit 44 = .ok (.getfield 16, 3) := by decide +kernel
theorem dM_exit_47 : decode b_M_exit 47 = .ok (.iload_n 2, 1) := by decide +kernel
theorem dM_exit_48 : decode b_M_exit 48 = .ok (.iconst 3, 1) := by decide +kernel
theorem dM_exit_49 : decode b_M_exit 49 = .ok (.iastore, 1) := by decide +kernel
theorem dM_exit_50 : decode b_M_exit 50 = .ok (.aload_n 0, 1) := by decide +kernel
theorem dM_exit_51 : decode b_M_exit 51 = .ok (.bipush 70, 2) := by decide +kernel
theorem dM_exit_53 : decode b_M_exit 53 = .ok (.iload_n 2, 1) := by decide +kernel
theorem dM_exit_54 : decode b_M_exit 54 = .ok (.iadd, 1) := by decide +kernel
theorem dM_exit_55 : decode b_M_exit 55 = .ok (.invokevirtual 88, 3) := by decide +kernel
theorem dM_exit_58 : decode b_M_exit 58 = .ok (.istore_n 3, 1) := by decide +kernel
theorem dM_exit_59 : decode b_M_exit 59 = .ok (.iload_n 3, 1) := by decide +kernel
theorem dM_exit_60 : decode b_M_exit 60 = .ok (.ifCond .lt 22, 3) := by decide +kernel
theorem dM_exit_63 : decode b_M_exit 63 = .ok (.aload_n 0, 1) := by decide +kernel
theorem dM_exit_64 : decode b_M_exit 64 = .ok (.getfield 16, 3) := by decide +kernel
theorem dM_exit_67 : decode b_M_exit 67 = .ok (.iload_n 2, 1) := by decide +kernel
theorem dM_exit_68 : decode b_M_exit 68 = .ok (.iconst 0, 1) := by decide +kernel
theorem dM_exit_69 : decode b_M_exit 69 = .ok (.iastore, 1) := by decide +kernel
theorem dM_exit_70 : decode b_M_exit 70 = .ok (.aload_n 0, 1) := by decide +kernel
theorem dM_exit_71 : decode b_M_exit 71 = .ok (.getfield 38, 3) := by decide +kernel
theorem dM_exit_74 : decode b_M_exit 74 = .ok (.iload_n 3, 1) := by decide +kernel
theorem dM_exit_75 : decode b_M_exit 75 = .ok (.iload_n 1, 1) := by decide +kernel
theorem dM_exit_76 : decode b_M_exit 76 = .ok (.iastore, 1) := by decide +kernel
theorem dM_exit_77 : decode b_M_exit 77 = .ok (.aload_n 0, 1) := by decide +kernel
theorem dM_exit_78 : decode b_M_exit 78 = .ok (.iload_n 3, 1) := by decide +kernel
theorem dM_exit_79 : decode b_M_exit 79 = .ok (.invokevirtual 92, 3) := by decide +kernel
theorem dM_exit_82 : decode b_M_exit 82 = .ok (.iconst 0, 1) := by decide +kernel
theorem dM_exit_83 : decode b_M_exit 83 = .ok (.ireturn, 1) := by decide +kernel
theorem dM_deadlineComes_0 : decode b_M_deadlineComes 0 = .ok (.aload_n 0, 1) := by decide +kernel
theorem dM_deadlineComes_1 : decode b_M_deadlineComes 1 = .ok (.getfield 29, 3) := by decide +kernel
theorem dM_deadlineComes_4 : decode b_M_deadlineComes 4 = .ok (.iload_n 1, 1) := by decide +kernel
theorem dM_deadlineComes_5 : decode b_M_deadlineComes 5 = .ok (.iaload, 1) := by decide +kernel
theorem dM_deadlineComes_6 : decode b_M_deadlineComes 6 = .ok (.bipush 20, 2) := by decide +kernel
theorem dM_deadlineComes_8 : decode b_M_deadlineComes 8 = .ok (.if_icmp .eq 14, 3) := by decide +kernel
theorem dM_deadlineComes_11 : decode b_M_deadlineComes 11 = .ok (.aload_n 0, 1) := by decide +kernel
theorem dM_deadlineComes_12 : decode b_M_deadlineComes 12 = .ok (.getfield 29, 3) := by decide +kernel
theorem dM_deadlineComes_15 : decode b_M_deadlineComes 15 = .ok (.iload_n 1, 1) := by decide +kernel
theorem dM_deadlineComes_16 : decode b_M_deadlineComes 16 = .ok (.iaload, 1) := by decide +kernel
theorem dM_deadlineComes_17 : decode b_M_deadlineComes 17 = .ok (.bipush 21, 2) := by decide +kernel
theorem dM_deadlineComes_19 : decode b_M_deadlineComes 19 = .ok (.if_icmp .ne 12, 3) := by decide +kernel
theorem dM_deadlineComes_22 : decode b_M_deadlineComes 22 = .ok (.aload_n 0, 1) := by decide +kernel
theorem dM_deadlineComes_23 : decode b_M_deadlineComes 23 = .ok (.iload_n 1, 1) := by decide +kernel
theorem dM_deadlineComes_24 : decode b_M_deadlineComes 24 = .ok (.iconst 2, 1) := by decide +kernel
theorem dM_deadlineComes_25 : decode b_M_deadlineComes 25 = .ok (.invokevirtual 110, 3) := by decide +kernel
theorem dM_deadlineComes_28 : decode b_M_deadlineComes 28 = .ok (.goto 30, 3) := by decide +kernel
theorem dM_deadlineComes_31 : decode b_M_deadlineComes 31 = .ok (.aload_n 0, 1) := by decide +kernel
theorem dM_deadlineComes_32 : decode b_M_deadlineComes 32 = .ok (.getfield 38, 3) := by decide +kernel
theorem dM_deadlineComes_35 : decode b_M_deadlineComes 35 = .ok (.iload_n 1, 1) := by decide +kernel
theorem dM_deadlineComes_36 : decode b_M_deadlineComes 36 = .ok (.aload_n 0, 1) := by decide +kernel
theorem dM_deadlineComes_37 : decode b_M_deadlineComes 37 = .ok (.getfield 29, 3) := by decide +kernel
theorem dM_deadlineComes_40 : decode b_M_deadlineComes 40 = .ok (.iload_n 1, 1) := by decide +kernel
theorem dM_deadlineComes_41 : decode b_M_deadlineComes 41 = .ok (.iaload, 1) := by decide +kernel
theorem dM_deadlineComes_42 : decode b_M_deadlineComes 42 = .ok (.bipush 60, 2) := by decide +kernel
theorem dM_deadlineComes_44 : decode b_M_deadlineComes 44 = .ok (.if_icmp .ne 7, 3) := by decide +kernel
theorem dM_deadlineComes_47 : decode b_M_deadlineComes 47 = .ok (.iconst 0, 1) := by decide +kernel
theorem dM_deadlineComes_48 : decode b_M_deadlineComes 48 = .ok (.goto 4, 3) := by decide +kernel
theorem dM_deadlineComes_51 : decode b_M_deadlineComes 51 = .ok (.iconst 2, 1) := by decide +kernel
theorem dM_deadlineComes_52 : decode b_M_deadlineComes 52 = .ok (.iastore, 1) := by decide +kernel
theorem dM_deadlineComes_53 : decode b_M_deadlineComes 53 = .ok (.aload_n 0, 1) := by decide +kernel
theorem dM_deadlineComes_54 : decode b_M_deadlineComes 54 = .ok (.iload_n 1, 1) := by decide +kernel
theorem dM_deadlineComes_55 : decode b_M_deadlineComes 55 = .ok (.invokevirtual 92, 3) := by decide +kernel
theorem dM_deadlineComes_58 : decode b_M_deadlineComes 58 = .ok (.return_, 1) := by decide +kernel
theorem dM_tick_0 : decode b_M_tick 0 = .ok (.iload_n 1, 1) := by decide +kernel
theorem dM_tick_1 : decode b_M_tick 1 = .ok (.iconst 1, 1) := by decide +kernel
theorem dM_tick_2 : decode b_M_tick 2 = .ok (.if_icmp .lt 9, 3) := by decide +kernel
theorem dM_tick_5 : decode b_M_tick 5 = .ok (.iload_n 1, 1) := by decide +kernel
theorem dM_tick_6 : decode b_M_tick 6 = .ok (.bipush 100, 2) := by decide +kernel
theorem dM_tick_8 : decode b_M_tick 8 = .ok (.if_icmp .le 5, 3) := by decide +kernel
theorem dM_tick_11 : decode b_M_tick 11 = .ok (.iconst (-1), 1) := by decide +kernel
theorem dM_tick_12 : decode b_M_tick 12 = .ok (.ireturn, 1) := by decide +kernel
theorem dM_tick_13 : decode b_M_tick 13 = .ok (.iconst 0, 1) := by decide +kernel
theorem dM_tick_14 : decode b_M_tick 14 = .ok (.istore_n 2, 1) := by decide +kernel
theorem dM_tick_15 : decode b_M_tick 15 = .ok (.iload_n 2, 1) := by decide +kernel
theorem dM_tick_16 : decode b_M_tick 16 = .ok (.iload_n 1, 1) := by decide +kernel
theorem dM_tick_17 : decode b_M_tick 17 = .ok (.if_icmp .ge 116, 3) := by decide +kernel
theorem dM_tick_20 : decode b_M_tick 20 = .ok (.aload_n 0, 1) := by decide +kernel
theorem dM_tick_21 : decode b_M_tick 21 = .ok (.invokevirtual 104, 3) := by decide +kernel
theorem dM_tick_24 : decode b_M_tick 24 = .ok (.istore_n 3, 1) := by decide +kernel
theorem dM_tick_25 : decode b_M_tick 25 = .ok (.aload_n 0, 1) := by decide +kernel
theorem dM_tick_26 : decode b_M_tick 26 = .ok (.dup, 1) := by decide +kernel
theorem dM_tick_27 : decode b_M_tick 27 = .ok (.getfield 7, 3) := by decide +kernel
theorem dM_tick_30 : decode b_M_tick 30 = .ok (.iconst 1, 1) := by decide +kernel
theorem dM_tick_31 : decode b_M_tick 31 = .ok (.iadd, 1) := by decide +kernel
theorem dM_tick_32 : decode b_M_tick 32 = .ok (.putfield 7, 3) := by decide +kernel
theorem dM_tick_35 : decode b_M_tick 35 = .ok (.iload_n 3, 1) := by decide +kernel
theorem dM_tick_36 : decode b_M_tick 36 = .ok (.ifCond .lt 13, 3) := by decide +kernel
theorem dM_tick_39 : decode b_M_tick 39 = .ok (.aload_n 0, 1) := by decide +kernel
theorem dM_tick_40 : decode b_M_tick 40 = .ok (.getfield 26, 3) := by decide +kernel
theorem dM_tick_43 : decode b_M_tick 43 = .ok (.iload_n 3, 1) := by decide +kernel
theorem dM_tick_44 : decode b_M_tick 44 = .ok (.dup2, 1) := by decide +kernel
theorem dM_tick_45 : decode b_M_tick 45 = .ok (.iaload, 1) := by decide +kernel
theorem dM_tick_46 : decode b_M_tick 46 = .ok (.iconst 1, 1) := by decide +kernel
theorem dM_tick_47 : decode b_M_tick 47 = .ok (.iadd, 1) := by decide +kernel
theorem dM_tick_48 : decode b_M_tick 48 = .ok (.iastore, 1) := by decide +kernel
theorem dM_tick_49 : decode b_M_tick 49 = .ok (.iload_n 3, 1) := by decide +kernel
theorem dM_tick_50 : decode b_M_tick 50 = .ok (.ifCond .lt 30, 3) := by decide +kernel
theorem dM_tick_53 : decode b_M_tick 53 = .ok (.aload_n 0, 1) := by decide +kernel
theorem dM_tick_54 : decode b_M_tick 54 = .ok (.getfield 50, 3) := by decide +kernel
theorem dM_tick_57 : decode b_M_tick 57 = .ok (.iload_n 3, 1) := by decide +kernel
theorem dM_tick_58 : decode b_M_tick 58 = .ok (.baload, 1) := by decide +kernel
theorem dM_tick_59 : decode b_M_tick 59 = .ok (.ifCond .eq 21, 3) := by decide +kernel
theorem dM_tick_62 : decode b_M_tick 62 = .ok (.aload_n 0, 1) := by decide +kernel
theorem dM_tick_63 : decode b_M_tick 63 = .ok (.getfield 26, 3) := by decide +kernel
theorem dM_tick_66 : decode b_M_tick 66 = .ok (.iload_n 3, 1) := by decide +kernel
theorem dM_tick_67 : decode b_M_tick 67 = .ok (.iaload, 1) := by decide +kernel
theorem dM_tick_68 : decode b_M_tick 68 = .ok (.aload_n 0, 1) := by decide +kernel
theorem dM_tick_69 : decode b_M_tick 69 = .ok (.getfield 75, 3) := by decide +kernel
theorem dM_tick_72 : decode b_M_tick 72 = .ok (.if_icmp .ne 8, 3) := by decide +kernel
theorem dM_tick_75 : decode b_M_tick 75 = .ok (.aload_n 0, 1) := by decide +kernel
theorem dM_tick_76 : decode b_M_tick 76 = .ok (.iload_n 3, 1) := by decide +kernel
theorem dM_tick_77 : decode b_M_tick 77 = .ok (.invokevirtual 92, 3) := by decide +kernel
theorem dM_tick_80 : decode b_M_tick 80 = .ok (.iconst 0, 1) := by decide +kernel
theorem dM_tick_81 : decode b_M_tick 81 = .ok (.istore 4, 2) := by decide +kernel
theorem dM_tick_83 : decode b_M_tick 83 = .ok (.iload 4, 2) := by decide +kernel
theorem dM_tick_85 : decode b_M_tick 85 = .ok (.bipush 8, 2) := by decide +kernel
theorem dM_tick_87 : decode b_M_tick 87 = .ok (.if_icmp .ge 40, 3) := by decide +kernel
theorem dM_tick_90 : decode b_M_tick 90 = .ok (.aload_n 0, 1) := by decide +kernel
theorem dM_tick_91 : decode b_M_tick 91 = .ok (.getfield 16, 3) := by decide +kernel
theorem dM_tick_94 : decode b_M_tick 94 = .ok (.iload 4, 2) := by decide +kernel
theorem dM_tick_96 : decode b_M_tick 96 = .ok (.iaload, 1) := by decide +kernel
theorem dM_tick_97 : decode b_M_tick 97 = .ok (.iconst 2, 1) := by decide +kernel
theorem dM_tick_98 : decode b_M_tick 98 = .ok (.if_icmp .ne 23, 3) := by decide +kernel
theorem dM_tick_101 : decode b_M_tick 101 = .ok (.aload_n 0, 1) := by decide +kernel
theorem dM_tick_102 : decode b_M_tick 102 = .ok (.getfield 35, 3) := by decide +kernel
theorem dM_tick_105 : decode b_M_tick 105 = .ok (.iload 4, 2) := by decide +kernel
theorem dM_tick_107 : decode b_M_tick 107 = .ok (.iaload, 1) := by decide +kernel
theorem dM_tick_108 : decode b_M_tick 108 = .ok (.aload_n 0, 1) := by decide +kernel
theorem dM_tick_109 : decode b_M_tick 109 = .ok (.getfield 7, 3) := by decide +kernel
theorem dM_tick_112 : decode b_M_tick 112 = .ok (.if_icmp .ne 9, 3) := by decide +kernel
theorem dM_tick_115 : decode b_M_tick 115 = .ok (.aload_n 0, 1) := by decide +kernel
theorem dM_tick_116 : decode b_M_tick 116 = .ok (.iload 4, 2) := by decide +kernel
theorem dM_tick_118 : decode b_M_tick 118 = .ok (.invokevirtual 117, 3) := by decide +kernel
theorem dM_tick_121 : decode b_M_tick 121 = .ok (.iinc 4 1, 3) := by decide +kernel
theorem dM_tick_124 : decode b_M_tick 124 = .ok (.goto (-41), 3) := by decide +kernel
theorem dM_tick_127 : decode b_M_tick 127 = .ok (.iinc 2 1, 3) := by decide +kernel
theorem dM_tick_130 : decode b_M_tick 130 = .ok (.goto (-115), 3) := by decide +kernel
theorem dM_tick_133 : decode b_M_tick 133 = .ok (.aload_n 0, 1) := by decide +kernel
theorem dM_tick_134 : decode b_M_tick 134 = .ok (.invokevirtual 104, 3) := by decide +kernel
theorem dM_tick_137 : decode b_M_tick 137 = .ok (.ireturn, 1) := by decide +kernel
theorem dM_tell_0 : decode b_M_tell 0 = .ok (.aload_n 0, 1) := by decide +kernel
theorem dM_tell_1 : decode b_M_tell 1 = .ok (.iload_n 1, 1) := by decide +kernel
theorem dM_tell_2 : decode b_M_tell 2 = .ok (.bipush 8, 2) := by decide +kernel
theorem dM_tell_4 : decode b_M_tell 4 = .ok (.invokevirtual 100, 3) := by decide +kernel
theorem dM_tell_7 : decode b_M_tell 7 = .ok (.ifCond .ne 25, 3) := by decide +kernel
theorem dM_tell_10 : decode b_M_tell 10 = .ok (.iload_n 2, 1) := by decide +kernel
theorem dM_tell_11 : decode b_M_tell 11 = .ok (.ifCond .lt 21, 3) := by decide +kernel
theorem dM_tell_14 : decode b_M_tell 14 = .ok (.iload_n 2, 1) := by decide +kernel
theorem dM_tell_15 : decode b_M_tell 15 = .ok (.iconst 5, 1) := by decide +kernel
theorem dM_tell_16 : decode b_M_tell 16 = .ok (.if_icmp .gt 16, 3) := by decide +kernel
theorem dM_tell_19 : decode b_M_tell 19 = .ok (.aload_n 0, 1) := by decide +kernel
theorem dM_tell_20 : decode b_M_tell 20 = .ok (.getfield 16, 3) := by decide +kernel
theorem dM_tell_23 : decode b_M_tell 23 = .ok (.iload_n 1, 1) := by decide +kernel
theorem dM_tell_24 : decode b_M_tell 24 = .ok (.iaload, 1) := by decide +kernel
theorem dM_tell_25 : decode b_M_tell 25 = .ok (.ifCond .ne 11, 3) := by decide +kernel
theorem dM_tell_28 : decode b_M_tell 28 = .ok (.iload_n 2, 1) := by decide +kernel
theorem dM_tell_29 : decode b_M_tell 29 = .ok (.ifCond .le 7, 3) := by decide +kernel
theorem dM_tell_32 : decode b_M_tell 32 = .ok (.ldc2_w 120, 3) := by decide +kernel
theorem dM_tell_35 : decode b_M_tell 35 = .ok (.lreturn, 1) := by decide +kernel
theorem dM_tell_36 : decode b_M_tell 36 = .ok (.aload_n 0, 1) := by decide +kernel
theorem dM_tell_37 : decode b_M_tell 37 = .ok (.invokevirtual 85, 3) := by decide +kernel
theorem dM_tell_40 : decode b_M_tell 40 = .ok (.iload_n 2, 1) := by decide +kernel
theorem dM_tell_41 : decode b_M_tell 41 = .ok (.ifCond .ne 11, 3) := by decide +kernel
theorem dM_tell_44 : decode b_M_tell 44 = .ok (.aload_n 0, 1) := by decide +kernel
theorem dM_tell_45 : decode b_M_tell 45 = .ok (.getfield 16, 3) := by decide +kernel
theorem dM_tell_48 : decode b_M_tell 48 = .ok (.iload_n 1, 1) := by decide +kernel
theorem dM_tell_49 : decode b_M_tell 49 = .ok (.iaload, 1) := by decide +kernel
theorem dM_tell_50 : decode b_M_tell 50 = .ok (.i2l, 1) := by decide +kernel
theorem dM_tell_51 : decode b_M_tell 51 = .ok (.lreturn, 1) := by decide +kernel
theorem dM_tell_52 : decode b_M_tell 52 = .ok (.iload_n 2, 1) := by decide +kernel
theorem dM_tell_53 : decode b_M_tell 53 = .ok (.iconst 1, 1) := by decide +kernel
theorem dM_tell_54 : decode b_M_tell 54 = .ok (.if_icmp .ne 11, 3) := by decide +kernel
theorem dM_tell_57 : decode b_M_tell 57 = .ok (.aload_n 0, 1) := by decide +kernel
theorem dM_tell_58 : decode b_M_tell 58 = .ok (.getfield 20, 3) := by decide +kernel
theorem dM_tell_61 : decode b_M_tell 61 = .ok (.iload_n 1, 1) := by decide +kernel
theorem dM_tell_62 : decode b_M_tell 62 = .ok (.iaload, 1) := by decide +kernel
theorem dM_tell_63 : decode b_M_tell 63 = .ok (.i2l, 1) := by decide +kernel
theorem dM_tell_64 : decode b_M_tell 64 = .ok (.lreturn, 1) := by decide +kernel
theorem dM_tell_65 : decode b_M_tell 65 = .ok (.iload_n 2, 1) := by decide +kernel
theorem dM_tell_66 : decode b_M_tell 66 = .ok (.iconst 2, 1) := by decide +kernel
theorem dM_tell_67 : decode b_M_tell 67 = .ok (.if_icmp .ne 11, 3) := by decide +kernel
theorem dM_tell_70 : decode b_M_tell 70 = .ok (.aload_n 0, 1) := by decide +kernel
theorem dM_tell_71 : decode b_M_tell 71 = .ok (.getfield 72, 3) := by decide +kernel
theorem dM_tell_74 : decode b_M_tell 74 = .ok (.iload_n 1, 1) := by decide +kernel
theorem dM_tell_75 : decode b_M_tell 75 = .ok (.iaload, 1) := by decide +kernel
theorem dM_tell_76 : decode b_M_tell 76 = .ok (.i2l, 1) := by decide +kernel
theorem dM_tell_77 : decode b_M_tell 77 = .ok (.lreturn, 1) := by decide +kernel
theorem dM_tell_78 : decode b_M_tell 78 = .ok (.iload_n 2, 1) := by decide +kernel
theorem dM_tell_79 : decode b_M_tell 79 = .ok (.iconst 3, 1) := by decide +kernel
theorem dM_tell_80 : decode b_M_tell 80 = .ok (.if_icmp .ne 11, 3) := by decide +kernel
theorem dM_tell_83 : decode b_M_tell 83 = .ok (.aload_n 0, 1) := by decide +kernel
theorem dM_tell_84 : decode b_M_tell 84 = .ok (.getfield 38, 3) := by decide +kernel
theorem dM_tell_87 : decode b_M_tell 87 = .ok (.iload_n 1, 1) := by decide +kernel
theorem dM_tell_88 : decode b_M_tell 88 = .ok (.iaload, 1) := by decide +kernel
theorem dM_tell_89 : decode b_M_tell 89 = .ok (.i2l, 1) := by decide +kernel
theorem dM_tell_90 : decode b_M_tell 90 = .ok (.lreturn, 1) := by decide +kernel
theorem dM_tell_91 : decode b_M_tell 91 = .ok (.iload_n 2, 1) := by decide +kernel
theorem dM_tell_92 : decode b_M_tell 92 = .ok (.iconst 4, 1) := by decide +kernel
theorem dM_tell_93 : decode b_M_tell 93 = .ok (.if_icmp .ne 25, 3) := by decide +kernel
theorem dM_tell_96 : decode b_M_tell 96 = .ok (.aload_n 0, 1) := by decide +kernel
theorem dM_tell_97 : decode b_M_tell 97 = .ok (.getfield 16, 3) := by decide +kernel
theorem dM_tell_100 : decode b_M_tell 100 = .ok (.iload_n 1, 1) := by decide +kernel
theorem dM_tell_101 : decode b_M_tell 101 = .ok (.iaload, 1) := by decide +kernel
theorem dM_tell_102 : decode b_M_tell 102 = .ok (.iconst 2, 1) := by decide +kernel
theorem dM_tell_103 : decode b_M_tell 103 = .ok (.if_icmp .ne 13, 3) := by decide +kernel
theorem dM_tell_106 : decode b_M_tell 106 = .ok (.aload_n 0, 1) := by decide +kernel
theorem dM_tell_107 : decode b_M_tell 107 = .ok (.getfield 29, 3) := by decide +kernel
theorem dM_tell_110 : decode b_M_tell 110 = .ok (.iload_n 1, 1) := by decide +kernel
theorem dM_tell_111 : decode b_M_tell 111 = .ok (.iaload, 1) := by decide +kernel
theorem dM_tell_112 : decode b_M_tell 112 = .ok (.i2l, 1) := by decide +kernel
theorem dM_tell_113 : decode b_M_tell 113 = .ok (.goto 4, 3) := by decide +kernel
theorem dM_tell_116 : decode b_M_tell 116 = .ok (.lconst 0, 1) := by decide +kernel
theorem dM_tell_117 : decode b_M_tell 117 = .ok (.lreturn, 1) := by decide +kernel
theorem dM_tell_118 : decode b_M_tell 118 = .ok (.aload_n 0, 1) := by decide +kernel
theorem dM_tell_119 : decode b_M_tell 119 = .ok (.getfield 16, 3) := by decide +kernel
theorem dM_tell_122 : decode b_M_tell 122 = .ok (.iload_n 1, 1) := by decide +kernel
theorem dM_tell_123 : decode b_M_tell 123 = .ok (.iaload, 1) := by decide +kernel
theorem dM_tell_124 : decode b_M_tell 124 = .ok (.iconst 2, 1) := by decide +kernel
theorem dM_tell_125 : decode b_M_tell 125 = .ok (.if_icmp .ne 22, 3) := by decide +kernel
theorem dM_tell_128 : decode b_M_tell 128 = .ok (.aload_n 0, 1) := by decide +kernel
theorem dM_tell_129 : decode b_M_tell 129 = .ok (.getfield 35, 3) := by decide +kernel
theorem dM_tell_132 : decode b_M_tell 132 = .ok (.iload_n 1, 1) := by decide +kernel
theorem dM_tell_133 : decode b_M_tell 133 = .ok (.iaload, 1) := by decide +kernel
theorem dM_tell_134 : decode b_M_tell 134 = .ok (.ifCond .le 13, 3) := by decide +kernel
theorem dM_tell_137 : decode b_M_tell 137 = .ok (.aload_n 0, 1) := by decide +kernel
theorem dM_tell_138 : decode b_M_tell 138 = .ok (.getfield 35, 3) := by decide +kernel
theorem dM_tell_141 : decode b_M_tell 141 = .ok (.iload_n 1, 1) := by decide +kernel
theorem dM_tell_142 : decode b_M_tell 142 = .ok (.iaload, 1) := by decide +kernel
theorem dM_tell_143 : decode b_M_tell 143 = .ok (.i2l, 1) := by decide +kernel
theorem dM_tell_144 : decode b_M_tell 144 = .ok (.goto 6, 3) := by decide +kernel
theorem dM_tell_147 : decode b_M_tell 147 = .ok (.ldc2_w 120, 3) := by decide +kernel
theorem dM_tell_150 : decode b_M_tell 150 = .ok (.lreturn, 1) := by decide +kernel
theorem dM_owner_0 : decode b_M_owner 0 = .ok (.aload_n 0, 1) := by decide +kernel
theorem dM_owner_1 : decode b_M_owner 1 = .ok (.iload_n 1, 1) := by decide +kernel
theorem dM_owner_2 : decode b_M_owner 2 = .ok (.iconst 4, 1) := by decide +kernel
theorem dM_owner_3 : decode b_M_owner 3 = .ok (.invokevirtual 100, 3) := by decide +kernel
theorem dM_owner_6 : decode b_M_owner 6 = .ok (.ifCond .eq 7, 3) := by decide +kernel
theorem dM_owner_9 : decode b_M_owner 9 = .ok (.iconst (-1), 1) := by decide +kernel
theorem dM_owner_10 : decode b_M_owner 10 = .ok (.goto 9, 3) := by decide +kernel
theorem dM_owner_13 : decode b_M_owner 13 = .ok (.aload_n 0, 1) := by decide +kernel
theorem dM_owner_14 : decode b_M_owner 14 = .ok (.getfield 57, 3) := by decide +kernel
theorem dM_owner_17 : decode b_M_owner 17 = .ok (.iload_n 1, 1) := by decide +kernel
theorem dM_owner_18 : decode b_M_owner 18 = .ok (.iaload, 1) := by decide +kernel
theorem dM_owner_19 : decode b_M_owner 19 = .ok (.ireturn, 1) := by decide +kernel
theorem dM_count_0 : decode b_M_count 0 = .ok (.iconst 0, 1) := by decide +kernel
theorem dM_count_1 : decode b_M_count 1 = .ok (.istore_n 2, 1) := by decide +kernel
theorem dM_count_2 : decode b_M_count 2 = .ok (.iconst 0, 1) := by decide +kernel
theorem dM_count_3 : decode b_M_count 3 = .ok (.istore_n 3, 1) := by decide +kernel
theorem dM_count_4 : decode b_M_count 4 = .ok (.iload_n 3, 1) := by decide +kernel
theorem dM_count_5 : decode b_M_count 5 = .ok (.bipush 8, 2) := by decide +kernel
theorem dM_count_7 : decode b_M_count 7 = .ok (.if_icmp .ge 22, 3) := by decide +kernel
theorem dM_count_10 : decode b_M_count 10 = .ok (.aload_n 0, 1) := by decide +kernel
theorem dM_count_11 : decode b_M_count 11 = .ok (.getfield 16, 3) := by decide +kernel
theorem dM_count_14 : decode b_M_count 14 = .ok (.iload_n 3, 1) := by decide +kernel
theorem dM_count_15 : decode b_M_count 15 = .ok (.iaload, 1) := by decide +kernel
theorem dM_count_16 : decode b_M_count 16 = .ok (.iconst 1, 1) := by decide +kernel
theorem dM_count_17 : decode b_M_count 17 = .ok (.if_icmp .ne 6, 3) := by decide +kernel
theorem dM_count_20 : decode b_M_count 20 = .ok (.iinc 2 1, 3) := by decide +kernel
theorem dM_count_23 : decode b_M_count 23 = .ok (.iinc 3 1, 3) := by decide +kernel
theorem dM_count_26 : decode b_M_count 26 = .ok (.goto (-22), 3) := by decide +kernel
theorem dM_count_29 : decode b_M_count 29 = .ok (.iload_n 1, 1) := by decide +kernel
theorem dM_count_30 : decode b_M_count 30 = .ok (.ifCond .eq 8, 3) := by decide +kernel
theorem dM_count_33 : decode b_M_count 33 = .ok (.iload_n 1, 1) := by decide +kernel
theorem dM_count_34 : decode b_M_count 34 = .ok (.iconst 1, 1) := by decide +kernel
theorem dM_count_35 : decode b_M_count 35 = .ok (.if_icmp .ne 12, 3) := by decide +kernel
theorem dM_count_38 : decode b_M_count 38 = .ok (.aload_n 0, 1) := by decide +kernel
theorem dM_count_39 : decode b_M_count 39 = .ok (.getfield 60, 3) := by decide +kernel
theorem dM_count_42 : decode b_M_count 42 = .ok (.iload_n 1, 1) := by decide +kernel
theorem dM_count_43 : decode b_M_count 43 = .ok (.iaload, 1) := by decide +kernel
theorem dM_count_44 : decode b_M_count 44 = .ok (.goto 46, 3) := by decide +kernel
theorem dM_count_47 : decode b_M_count 47 = .ok (.iload_n 1, 1) := by decide +kernel
theorem dM_count_48 : decode b_M_count 48 = .ok (.iconst 2, 1) := by decide +kernel
theorem dM_count_49 : decode b_M_count 49 = .ok (.if_icmp .eq 8, 3) := by decide +kernel
theorem dM_count_52 : decode b_M_count 52 = .ok (.iload_n 1, 1) := by decide +kernel
theorem dM_count_53 : decode b_M_count 53 = .ok (.iconst 3, 1) := by decide +kernel
theorem dM_count_54 : decode b_M_count 54 = .ok (.if_icmp .ne 14, 3) := by decide +kernel
theorem dM_count_57 : decode b_M_count 57 = .ok (.aload_n 0, 1) := by decide +kernel
theorem dM_count_58 : decode b_M_count 58 = .ok (.getfield 63, 3) := by decide +kernel
theorem dM_count_61 : decode b_M_count 61 = .ok (.iload_n 1, 1) := by decide +kernel
theorem dM_count_62 : decode b_M_count 62 = .ok (.iconst 2, 1) := by decide +kernel
theorem dM_count_63 : decode b_M_count 63 = .ok (.isub, 1) := by decide +kernel
theorem dM_count_64 : decode b_M_count 64 = .ok (.iaload, 1) := by decide +kernel
theorem dM_count_65 : decode b_M_count 65 = .ok (.goto 25, 3) := by decide +kernel
theorem dM_count_68 : decode b_M_count 68 = .ok (.iload_n 1, 1) := by decide +kernel
theorem dM_count_69 : decode b_M_count 69 = .ok (.iconst 4, 1) := by decide +kernel
theorem dM_count_70 : decode b_M_count 70 = .ok (.if_icmp .ne 10, 3) := by decide +kernel
theorem dM_count_73 : decode b_M_count 73 = .ok (.aload_n 0, 1) := by decide +kernel
theorem dM_count_74 : decode b_M_count 74 = .ok (.getfield 7, 3) := by decide +kernel
theorem dM_count_77 : decode b_M_count 77 = .ok (.goto 13, 3) := by decide +kernel
theorem dM_count_80 : decode b_M_count 80 = .ok (.iload_n 1, 1) := by decide +kernel
theorem dM_count_81 : decode b_M_count 81 = .ok (.iconst 5, 1) := by decide +kernel
theorem dM_count_82 : decode b_M_count 82 = .ok (.if_icmp .ne 7, 3) := by decide +kernel
theorem dM_count_85 : decode b_M_count 85 = .ok (.iload_n 2, 1) := by decide +kernel
theorem dM_count_86 : decode b_M_count 86 = .ok (.goto 4, 3) := by decide +kernel
theorem dM_count_89 : decode b_M_count 89 = .ok (.iconst (-1), 1) := by decide +kernel
theorem dM_count_90 : decode b_M_count 90 = .ok (.ireturn, 1) := by decide +kernel
theorem dM_init_0 : decode b_M_init 0 = .ok (.aload_n 0, 1) := by decide +kernel
theorem dM_init_1 : decode b_M_init 1 = .ok (.invokespecial 1, 3) := by decide +kernel
theorem dM_init_4 : decode b_M_init 4 = .ok (.aload_n 0, 1) := by decide +kernel
theorem dM_init_5 : decode b_M_init 5 = .ok (.iconst 0, 1) := by decide +kernel
theorem dM_init_6 : decode b_M_init 6 = .ok (.putfield 7, 3) := by decide +kernel
theorem dM_init_9 : decode b_M_init 9 = .ok (.aload_n 0, 1) := by decide +kernel
theorem dM_init_10 : decode b_M_init 10 = .ok (.iconst 0, 1) := by decide +kernel
theorem dM_init_11 : decode b_M_init 11 = .ok (.putfield 13, 3) := by decide +kernel
theorem dM_init_14 : decode b_M_init 14 = .ok (.aload_n 0, 1) := by decide +kernel
theorem dM_init_15 : decode b_M_init 15 = .ok (.bipush 8, 2) := by decide +kernel
theorem dM_init_17 : decode b_M_init 17 = .ok (.newarray .int, 2) := by decide +kernel
theorem dM_init_19 : decode b_M_init 19 = .ok (.putfield 16, 3) := by decide +kernel
theorem dM_init_22 : decode b_M_init 22 = .ok (.aload_n 0, 1) := by decide +kernel
theorem dM_init_23 : decode b_M_init 23 = .ok (.bipush 8, 2) := by decide +kernel
theorem dM_init_25 : decode b_M_init 25 = .ok (.newarray .int, 2) := by decide +kernel
theorem dM_init_27 : decode b_M_init 27 = .ok (.putfield 20, 3) := by decide +kernel
theorem dM_init_30 : decode b_M_init 30 = .ok (.aload_n 0, 1) := by decide +kernel
theorem dM_init_31 : decode b_M_init 31 = .ok (.bipush 8, 2) := by decide +kernel
theorem dM_init_33 : decode b_M_init 33 = .ok (.newarray .int, 2) := by decide +kernel
theorem dM_init_35 : decode b_M_init 35 = .ok (.putfield 23, 3) := by decide +kernel
theorem dM_init_38 : decode b_M_init 38 = .ok (.aload_n 0, 1) := by decide +kernel
theorem dM_init_39 : decode b_M_init 39 = .ok (.bipush 8, 2) := by decide +kernel
theorem dM_init_41 : decode b_M_init 41 = .ok (.newarray .int, 2) := by decide +kernel
theorem dM_init_43 : decode b_M_init 43 = .ok (.putfield 26, 3) := by decide +kernel
theorem dM_init_46 : decode b_M_init 46 = .ok (.aload_n 0, 1) := by decide +kernel
theorem dM_init_47 : decode b_M_init 47 = .ok (.bipush 8, 2) := by decide +kernel
theorem dM_init_49 : decode b_M_init 49 = .ok (.newarray .int, 2) := by decide +kernel
theorem dM_init_51 : decode b_M_init 51 = .ok (.putfield 29, 3) := by decide +kernel
theorem dM_init_54 : decode b_M_init 54 = .ok (.aload_n 0, 1) := by decide +kernel
theorem dM_init_55 : decode b_M_init 55 = .ok (.bipush 8, 2) := by decide +kernel
theorem dM_init_57 : decode b_M_init 57 = .ok (.newarray .int, 2) := by decide +kernel
theorem dM_init_59 : decode b_M_init 59 = .ok (.putfield 32, 3) := by decide +kernel
theorem dM_init_62 : decode b_M_init 62 = .ok (.aload_n 0, 1) := by decide +kernel
theorem dM_init_63 : decode b_M_init 63 = .ok (.bipush 8, 2) := by decide +kernel
theorem dM_init_65 : decode b_M_init 65 = .ok (.newarray .int, 2) := by decide +kernel
theorem dM_init_67 : decode b_M_init 67 = .ok (.putfield 35, 3) := by decide +kernel
theorem dM_init_70 : decode b_M_init 70 = .ok (.aload_n 0, 1) := by decide +kernel
theorem dM_init_71 : decode b_M_init 71 = .ok (.bipush 8, 2) := by decide +kernel
theorem dM_init_73 : decode b_M_init 73 = .ok (.newarray .int, 2) := by decide +kernel
theorem dM_init_75 : decode b_M_init 75 = .ok (.putfield 38, 3) := by decide +kernel
theorem dM_init_78 : decode b_M_init 78 = .ok (.aload_n 0, 1) := by decide +kernel
theorem dM_init_79 : decode b_M_init 79 = .ok (.bipush 8, 2) := by decide +kernel
theorem dM_init_81 : decode b_M_init 81 = .ok (.newarray .int, 2) := by decide +kernel
theorem dM_init_83 : decode b_M_init 83 = .ok (.putfield 41, 3) := by decide +kernel
theorem dM_init_86 : decode b_M_init 86 = .ok (.aload_n 0, 1) := by decide +kernel
theorem dM_init_87 : decode b_M_init 87 = .ok (.bipush 8, 2) := by decide +kernel
theorem dM_init_89 : decode b_M_init 89 = .ok (.newarray .int, 2) := by decide +kernel
theorem dM_init_91 : decode b_M_init 91 = .ok (.putfield 44, 3) := by decide +kernel
theorem dM_init_94 : decode b_M_init 94 = .ok (.aload_n 0, 1) := by decide +kernel
theorem dM_init_95 : decode b_M_init 95 = .ok (.bipush 8, 2) := by decide +kernel
theorem dM_init_97 : decode b_M_init 97 = .ok (.newarray .int, 2) := by decide +kernel
theorem dM_init_99 : decode b_M_init 99 = .ok (.putfield 47, 3) := by decide +kernel
theorem dM_init_102 : decode b_M_init 102 = .ok (.aload_n 0, 1) := by decide +kernel
theorem dM_init_103 : decode b_M_init 103 = .ok (.bipush 8, 2) := by decide +kernel
theorem dM_init_105 : decode b_M_init 105 = .ok (.newarray .boolean, 2) := by decide +kernel
theorem dM_init_107 : decode b_M_init 107 = .ok (.putfield 50, 3) := by decide +kernel
theorem dM_init_110 : decode b_M_init 110 = .ok (.aload_n 0, 1) := by decide +kernel
theorem dM_init_111 : decode b_M_init 111 = .ok (.bipush 8, 2) := by decide +kernel
theorem dM_init_113 : decode b_M_init 113 = .ok (.newarray .boolean, 2) := by decide +kernel
theorem dM_init_115 : decode b_M_init 115 = .ok (.putfield 54, 3) := by decide +kernel
theorem dM_init_118 : decode b_M_init 118 = .ok (.aload_n 0, 1) := by decide +kernel
theorem dM_init_119 : decode b_M_init 119 = .ok (.iconst 4, 1) := by decide +kernel
theorem dM_init_120 : decode b_M_init 120 = .ok (.newarray .int, 2) := by decide +kernel
theorem dM_init_122 : decode b_M_init 122 = .ok (.putfield 57, 3) := by decide +kernel
theorem dM_init_125 : decode b_M_init 125 = .ok (.aload_n 0, 1) := by decide +kernel
theorem dM_init_126 : decode b_M_init 126 = .ok (.iconst 2, 1) := by decide +kernel
theorem dM_init_127 : decode b_M_init 127 = .ok (.newarray .int, 2) := by decide +kernel
theorem dM_init_129 : decode b_M_init 129 = .ok (.putfield 60, 3) := by decide +kernel
theorem dM_init_132 : decode b_M_init 132 = .ok (.aload_n 0, 1) := by decide +kernel
theorem dM_init_133 : decode b_M_init 133 = .ok (.iconst 2, 1) := by decide +kernel
theorem dM_init_134 : decode b_M_init 134 = .ok (.newarray .int, 2) := by decide +kernel
theorem dM_init_136 : decode b_M_init 136 = .ok (.putfield 63, 3) := by decide +kernel
theorem dM_init_139 : decode b_M_init 139 = .ok (.aload_n 0, 1) := by decide +kernel
theorem dM_init_140 : decode b_M_init 140 = .ok (.bipush 8, 2) := by decide +kernel
theorem dM_init_142 : decode b_M_init 142 = .ok (.newarray .int, 2) := by decide +kernel
theorem dM_init_144 : decode b_M_init 144 = .ok (.putfield 66, 3) := by decide +kernel
theorem dM_init_147 : decode b_M_init 147 = .ok (.aload_n 0, 1) := by decide +kernel
theorem dM_init_148 : decode b_M_init 148 = .ok (.bipush 8, 2) := by decide +kernel
theorem dM_init_150 : decode b_M_init 150 = .ok (.newarray .int, 2) := by decide +kernel
theorem dM_init_152 : decode b_M_init 152 = .ok (.putfield 69, 3) := by decide +kernel
theorem dM_init_155 : decode b_M_init 155 = .ok (.aload_n 0, 1) := by decide +kernel
theorem dM_init_156 : decode b_M_init 156 = .ok (.bipush 8, 2) := by decide +kernel
theorem dM_init_158 : decode b_M_init 158 = .ok (.newarray .int, 2) := by decide +kernel
theorem dM_init_160 : decode b_M_init 160 = .ok (.putfield 72, 3) := by decide +kernel
theorem dM_init_163 : decode b_M_init 163 = .ok (.aload_n 0, 1) := by decide +kernel
theorem dM_init_164 : decode b_M_init 164 = .ok (.iload_n 1, 1) := by decide +kernel
theorem dM_init_165 : decode b_M_init 165 = .ok (.iconst 1, 1) := by decide +kernel
theorem dM_init_166 : decode b_M_init 166 = .ok (.if_icmp .ge 7, 3) := by decide +kernel
theorem dM_init_169 : decode b_M_init 169 = .ok (.iconst 1, 1) := by decide +kernel
theorem dM_init_170 : decode b_M_init 170 = .ok (.goto 15, 3) := by decide +kernel
theorem dM_init_173 : decode b_M_init 173 = .ok (.iload_n 1, 1) := by decide +kernel
theorem dM_init_174 : decode b_M_init 174 = .ok (.bipush 20, 2) := by decide +kernel
theorem dM_init_176 : decode b_M_init 176 = .ok (.if_icmp .le 8, 3) := by decide +kernel
theorem dM_init_179 : decode b_M_init 179 = .ok (.bipush 20, 2) := by decide +kernel
theorem dM_init_181 : decode b_M_init 181 = .ok (.goto 4, 3) := by decide +kernel
theorem dM_init_184 : decode b_M_init 184 = .ok (.iload_n 1, 1) := by decide +kernel
theorem dM_init_185 : decode b_M_init 185 = .ok (.putfield 75, 3) := by decide +kernel
theorem dM_init_188 : decode b_M_init 188 = .ok (.aload_n 0, 1) := by decide +kernel
theorem dM_init_189 : decode b_M_init 189 = .ok (.iload_n 2, 1) := by decide +kernel
theorem dM_init_190 : decode b_M_init 190 = .ok (.iconst 1, 1) := by decide +kernel
theorem dM_init_191 : decode b_M_init 191 = .ok (.if_icmp .ge 7, 3) := by decide +kernel
theorem dM_init_194 : decode b_M_init 194 = .ok (.iconst 1, 1) := by decide +kernel
theorem dM_init_195 : decode b_M_init 195 = .ok (.goto 15, 3) := by decide +kernel
theorem dM_init_198 : decode b_M_init 198 = .ok (.iload_n 2, 1) := by decide +kernel
theorem dM_init_199 : decode b_M_init 199 = .ok (.bipush 31, 2) := by decide +kernel
theorem dM_init_201 : decode b_M_init 201 = .ok (.if_icmp .le 8, 3) := by decide +kernel
theorem dM_init_204 : decode b_M_init 204 = .ok (.bipush 31, 2) := by decide +kernel
theorem dM_init_206 : decode b_M_init 206 = .ok (.goto 4, 3) := by decide +kernel
theorem dM_init_209 : decode b_M_init 209 = .ok (.iload_n 2, 1) := by decide +kernel
theorem dM_init_210 : decode b_M_init 210 = .ok (.putfield 78, 3) := by decide +kernel
theorem dM_init_213 : decode b_M_init 213 = .ok (.iconst 0, 1) := by decide +kernel
theorem dM_init_214 : decode b_M_init 214 = .ok (.istore_n 3, 1) := by decide +kernel
theorem dM_init_215 : decode b_M_init 215 = .ok (.iload_n 3, 1) := by decide +kernel
theorem dM_init_216 : decode b_M_init 216 = .ok (.iconst 4, 1) := by decide +kernel
theorem dM_init_217 : decode b_M_init 217 = .ok (.if_icmp .ge 16, 3) := by decide +kernel
theorem dM_init_220 : decode b_M_init 220 = .ok (.aload_n 0, 1) := by decide +kernel
theorem dM_init_221 : decode b_M_init 221 = .ok (.getfield 57, 3) := by decide +kernel
theorem dM_init_224 : decode b_M_init 224 = .ok (.iload_n 3, 1) := by decide +kernel
theorem dM_init_225 : decode b_M_init 225 = .ok (.iconst (-1), 1) := by decide +kernel
theorem dM_init_226 : decode b_M_init 226 = .ok (.iastore, 1) := by decide +kernel
theorem dM_init_227 : decode b_M_init 227 = .ok (.iinc 3 1, 3) := by decide +kernel
theorem dM_init_230 : decode b_M_init 230 = .ok (.goto (-15), 3) := by decide +kernel
theorem dM_init_233 : decode b_M_init 233 = .ok (.return_, 1) := by decide +kernel
