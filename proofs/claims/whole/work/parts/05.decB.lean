theorem dX7_init_0 : decode cX7_init 0 = .ok (.aload_n 0, 1) := by decide +kernel
theorem dX7_init_1 : decode cX7_init 1 = .ok (.invokespecial 1, 3) := by decide +kernel
theorem dX7_init_4 : decode cX7_init 4 = .ok (.aload_n 0, 1) := by decide +kernel
theorem dX7_init_5 : decode cX7_init 5 = .ok (.sipush 770, 3) := by decide +kernel
theorem dX7_init_8 : decode cX7_init 8 = .ok (.newarray .int, 2) := by decide +kernel
theorem dX7_init_10 : decode cX7_init 10 = .ok (.putfield 9, 3) := by decide +kernel
theorem dX7_init_13 : decode cX7_init 13 = .ok (.aload_n 0, 1) := by decide +kernel
theorem dX7_init_14 : decode cX7_init 14 = .ok (.sipush 200, 3) := by decide +kernel
theorem dX7_init_17 : decode cX7_init 17 = .ok (.newarray .char, 2) := by decide +kernel
theorem dX7_init_19 : decode cX7_init 19 = .ok (.putfield 13, 3) := by decide +kernel
theorem dX7_init_22 : decode cX7_init 22 = .ok (.aload_n 0, 1) := by decide +kernel
theorem dX7_init_23 : decode cX7_init 23 = .ok (.bipush 60, 2) := by decide +kernel
theorem dX7_init_25 : decode cX7_init 25 = .ok (.newarray .char, 2) := by decide +kernel
theorem dX7_init_27 : decode cX7_init 27 = .ok (.putfield 17, 3) := by decide +kernel
theorem dX7_init_30 : decode cX7_init 30 = .ok (.aload_n 0, 1) := by decide +kernel
theorem dX7_init_31 : decode cX7_init 31 = .ok (.iconst (-1), 1) := by decide +kernel
theorem dX7_init_32 : decode cX7_init 32 = .ok (.putfield 20, 3) := by decide +kernel
theorem dX7_init_35 : decode cX7_init 35 = .ok (.aload_n 0, 1) := by decide +kernel
theorem dX7_init_36 : decode cX7_init 36 = .ok (.sipush 366, 3) := by decide +kernel
theorem dX7_init_39 : decode cX7_init 39 = .ok (.newarray .int, 2) := by decide +kernel
theorem dX7_init_41 : decode cX7_init 41 = .ok (.putfield 24, 3) := by decide +kernel
theorem dX7_init_44 : decode cX7_init 44 = .ok (.return_, 1) := by decide +kernel
theorem dX7_thrown_0 : decode cX7_thrown 0 = .ok (.aload_n 0, 1) := by decide +kernel
theorem dX7_thrown_1 : decode cX7_thrown 1 = .ok (.getfield 27, 3) := by decide +kernel
theorem dX7_thrown_4 : decode cX7_thrown 4 = .ok (.ireturn, 1) := by decide +kernel
theorem dX7_in_0 : decode cX7_in 0 = .ok (.iload_n 0, 1) := by decide +kernel
theorem dX7_in_1 : decode cX7_in 1 = .ok (.iload_n 1, 1) := by decide +kernel
theorem dX7_in_2 : decode cX7_in 2 = .ok (.if_icmp .lt 12, 3) := by decide +kernel
theorem dX7_in_5 : decode cX7_in 5 = .ok (.iload_n 0, 1) := by decide +kernel
theorem dX7_in_6 : decode cX7_in 6 = .ok (.iload_n 2, 1) := by decide +kernel
theorem dX7_in_7 : decode cX7_in 7 = .ok (.if_icmp .gt 7, 3) := by decide +kernel
theorem dX7_in_10 : decode cX7_in 10 = .ok (.iconst 1, 1) := by decide +kernel
theorem dX7_in_11 : decode cX7_in 11 = .ok (.goto 4, 3) := by decide +kernel
theorem dX7_in_14 : decode cX7_in 14 = .ok (.iconst 0, 1) := by decide +kernel
theorem dX7_in_15 : decode cX7_in 15 = .ok (.ireturn, 1) := by decide +kernel
theorem dX7_isNumber_0 : decode cX7_isNumber 0 = .ok (.iload_n 0, 1) := by decide +kernel
theorem dX7_isNumber_1 : decode cX7_isNumber 1 = .ok (.iconst 0, 1) := by decide +kernel
theorem dX7_isNumber_2 : decode cX7_isNumber 2 = .ok (.bipush 99, 2) := by decide +kernel
theorem dX7_isNumber_4 : decode cX7_isNumber 4 = .ok (.invokestatic 30, 3) := by decide +kernel
theorem dX7_isNumber_7 : decode cX7_isNumber 7 = .ok (.ireturn, 1) := by decide +kernel
theorem dX7_copies_0 : decode cX7_copies 0 = .ok (.iconst 0, 1) := by decide +kernel
theorem dX7_copies_1 : decode cX7_copies 1 = .ok (.istore_n 3, 1) := by decide +kernel
theorem dX7_copies_2 : decode cX7_copies 2 = .ok (.iload_n 3, 1) := by decide +kernel
theorem dX7_copies_3 : decode cX7_copies 3 = .ok (.bipush 70, 2) := by decide +kernel
theorem dX7_copies_5 : decode cX7_copies 5 = .ok (.if_icmp .ge 31, 3) := by decide +kernel
theorem dX7_copies_8 : decode cX7_copies 8 = .ok (.aload_n 0, 1) := by decide +kernel
theorem dX7_copies_9 : decode cX7_copies 9 = .ok (.getfield 9, 3) := by decide +kernel
theorem dX7_copies_12 : decode cX7_copies 12 = .ok (.bipush 70, 2) := by decide +kernel
theorem dX7_copies_14 : decode cX7_copies 14 = .ok (.iload_n 2, 1) := by decide +kernel
theorem dX7_copies_15 : decode cX7_copies 15 = .ok (.imul, 1) := by decide +kernel
theorem dX7_copies_16 : decode cX7_copies 16 = .ok (.iload_n 3, 1) := by decide +kernel
theorem dX7_copies_17 : decode cX7_copies 17 = .ok (.iadd, 1) := by decide +kernel
theorem dX7_copies_18 : decode cX7_copies 18 = .ok (.aload_n 0, 1) := by decide +kernel
theorem dX7_copies_19 : decode cX7_copies 19 = .ok (.getfield 9, 3) := by decide +kernel
theorem dX7_copies_22 : decode cX7_copies 22 = .ok (.bipush 70, 2) := by decide +kernel
theorem dX7_copies_24 : decode cX7_copies 24 = .ok (.iload_n 1, 1) := by decide +kernel
theorem dX7_copies_25 : decode cX7_copies 25 = .ok (.imul, 1) := by decide +kernel
theorem dX7_copies_26 : decode cX7_copies 26 = .ok (.iload_n 3, 1) := by decide +kernel
theorem dX7_copies_27 : decode cX7_copies 27 = .ok (.iadd, 1) := by decide +kernel
theorem dX7_copies_28 : decode cX7_copies 28 = .ok (.iaload, 1) := by decide +kernel
theorem dX7_copies_29 : decode cX7_copies 29 = .ok (.iastore, 1) := by decide +kernel
theorem dX7_copies_30 : decode cX7_copies 30 = .ok (.iinc 3 1, 3) := by decide +kernel
theorem dX7_copies_33 : decode cX7_copies 33 = .ok (.goto (-31), 3) := by decide +kernel
theorem dX7_copies_36 : decode cX7_copies 36 = .ok (.return_, 1) := by decide +kernel
theorem dX7_begins_0 : decode cX7_begins 0 = .ok (.aload_n 0, 1) := by decide +kernel
theorem dX7_begins_1 : decode cX7_begins 1 = .ok (.iconst 0, 1) := by decide +kernel
theorem dX7_begins_2 : decode cX7_begins 2 = .ok (.bipush 10, 2) := by decide +kernel
theorem dX7_begins_4 : decode cX7_begins 4 = .ok (.invokevirtual 34, 3) := by decide +kernel
theorem dX7_begins_7 : decode cX7_begins 7 = .ok (.return_, 1) := by decide +kernel
theorem dX7_ends_0 : decode cX7_ends 0 = .ok (.aload_n 0, 1) := by decide +kernel
theorem dX7_ends_1 : decode cX7_ends 1 = .ok (.iload_n 1, 1) := by decide +kernel
theorem dX7_ends_2 : decode cX7_ends 2 = .ok (.iconst 1, 1) := by decide +kernel
theorem dX7_ends_3 : decode cX7_ends 3 = .ok (.if_icmp .ne 7, 3) := by decide +kernel
theorem dX7_ends_6 : decode cX7_ends 6 = .ok (.iload_n 2, 1) := by decide +kernel
theorem dX7_ends_7 : decode cX7_ends 7 = .ok (.goto 33, 3) := by decide +kernel
theorem dX7_ends_10 : decode cX7_ends 10 = .ok (.iload_n 1, 1) := by decide +kernel
theorem dX7_ends_11 : decode cX7_ends 11 = .ok (.iconst 2, 1) := by decide +kernel
theorem dX7_ends_12 : decode cX7_ends 12 = .ok (.if_icmp .ne 7, 3) := by decide +kernel
theorem dX7_ends_15 : decode cX7_ends 15 = .ok (.iload_n 3, 1) := by decide +kernel
theorem dX7_ends_16 : decode cX7_ends 16 = .ok (.goto 24, 3) := by decide +kernel
theorem dX7_ends_19 : decode cX7_ends 19 = .ok (.iload_n 1, 1) := by decide +kernel
theorem dX7_ends_20 : decode cX7_ends 20 = .ok (.iconst 3, 1) := by decide +kernel
theorem dX7_ends_21 : decode cX7_ends 21 = .ok (.if_icmp .ne 8, 3) := by decide +kernel
theorem dX7_ends_24 : decode cX7_ends 24 = .ok (.iload 4, 2) := by decide +kernel
theorem dX7_ends_26 : decode cX7_ends 26 = .ok (.goto 14, 3) := by decide +kernel
theorem dX7_ends_29 : decode cX7_ends 29 = .ok (.iload_n 1, 1) := by decide +kernel
theorem dX7_ends_30 : decode cX7_ends 30 = .ok (.iconst 4, 1) := by decide +kernel
theorem dX7_ends_31 : decode cX7_ends 31 = .ok (.if_icmp .ne 8, 3) := by decide +kernel
theorem dX7_ends_34 : decode cX7_ends 34 = .ok (.iload 5, 2) := by decide +kernel
theorem dX7_ends_36 : decode cX7_ends 36 = .ok (.goto 4, 3) := by decide +kernel
theorem dX7_ends_39 : decode cX7_ends 39 = .ok (.iconst 0, 1) := by decide +kernel
theorem dX7_ends_40 : decode cX7_ends 40 = .ok (.putfield 27, 3) := by decide +kernel
theorem dX7_ends_43 : decode cX7_ends 43 = .ok (.aload_n 0, 1) := by decide +kernel
theorem dX7_ends_44 : decode cX7_ends 44 = .ok (.getfield 27, 3) := by decide +kernel
theorem dX7_ends_47 : decode cX7_ends 47 = .ok (.ifCond .eq 12, 3) := by decide +kernel
theorem dX7_ends_50 : decode cX7_ends 50 = .ok (.aload_n 0, 1) := by decide +kernel
theorem dX7_ends_51 : decode cX7_ends 51 = .ok (.bipush 10, 2) := by decide +kernel
theorem dX7_ends_53 : decode cX7_ends 53 = .ok (.iconst 0, 1) := by decide +kernel
theorem dX7_ends_54 : decode cX7_ends 54 = .ok (.invokevirtual 34, 3) := by decide +kernel
theorem dX7_ends_57 : decode cX7_ends 57 = .ok (.iconst 0, 1) := by decide +kernel
theorem dX7_ends_58 : decode cX7_ends 58 = .ok (.ireturn, 1) := by decide +kernel
theorem dX7_ends_59 : decode cX7_ends 59 = .ok (.aload_n 0, 1) := by decide +kernel
theorem dX7_ends_60 : decode cX7_ends 60 = .ok (.getfield 38, 3) := by decide +kernel
theorem dX7_ends_63 : decode cX7_ends 63 = .ok (.bipush 8, 2) := by decide +kernel
theorem dX7_ends_65 : decode cX7_ends 65 = .ok (.if_icmp .ne 39, 3) := by decide +kernel
theorem dX7_ends_68 : decode cX7_ends 68 = .ok (.iconst 1, 1) := by decide +kernel
theorem dX7_ends_69 : decode cX7_ends 69 = .ok (.istore 6, 2) := by decide +kernel
theorem dX7_ends_71 : decode cX7_ends 71 = .ok (.iload 6, 2) := by decide +kernel
theorem dX7_ends_73 : decode cX7_ends 73 = .ok (.bipush 8, 2) := by decide +kernel
theorem dX7_ends_75 : decode cX7_ends 75 = .ok (.if_icmp .ge 19, 3) := by decide +kernel
theorem dX7_ends_78 : decode cX7_ends 78 = .ok (.aload_n 0, 1) := by decide +kernel
theorem dX7_ends_79 : decode cX7_ends 79 = .ok (.iload 6, 2) := by decide +kernel
theorem dX7_ends_81 : decode cX7_ends 81 = .ok (.iconst 1, 1) := by decide +kernel
theorem dX7_ends_82 : decode cX7_ends 82 = .ok (.iadd, 1) := by decide +kernel
theorem dX7_ends_83 : decode cX7_ends 83 = .ok (.iload 6, 2) := by decide +kernel
theorem dX7_ends_85 : decode cX7_ends 85 = .ok (.invokevirtual 34, 3) := by decide +kernel
theorem dX7_ends_88 : decode cX7_ends 88 = .ok (.iinc 6 1, 3) := by decide +kernel
theorem dX7_ends_91 : decode cX7_ends 91 = .ok (.goto (-20), 3) := by decide +kernel
theorem dX7_ends_94 : decode cX7_ends 94 = .ok (.aload_n 0, 1) := by decide +kernel
theorem dX7_ends_95 : decode cX7_ends 95 = .ok (.dup, 1) := by decide +kernel
theorem dX7_ends_96 : decode cX7_ends 96 = .ok (.getfield 38, 3) := by decide +kernel
theorem dX7_ends_99 : decode cX7_ends 99 = .ok (.iconst 1, 1) := by decide +kernel
theorem dX7_ends_100 : decode cX7_ends 100 = .ok (.isub, 1) := by decide +kernel
theorem dX7_ends_101 : decode cX7_ends 101 = .ok (.putfield 38, 3) := by decide +kernel
theorem dX7_ends_104 : decode cX7_ends 104 = .ok (.aload_n 0, 1) := by decide +kernel
theorem dX7_ends_105 : decode cX7_ends 105 = .ok (.dup, 1) := by decide +kernel
theorem dX7_ends_106 : decode cX7_ends 106 = .ok (.getfield 38, 3) := by decide +kernel
theorem dX7_ends_109 : decode cX7_ends 109 = .ok (.iconst 1, 1) := by decide +kernel
theorem dX7_ends_110 : decode cX7_ends 110 = .ok (.iadd, 1) := by decide +kernel
theorem dX7_ends_111 : decode cX7_ends 111 = .ok (.putfield 38, 3) := by decide +kernel
theorem dX7_ends_114 : decode cX7_ends 114 = .ok (.aload_n 0, 1) := by decide +kernel
theorem dX7_ends_115 : decode cX7_ends 115 = .ok (.bipush 10, 2) := by decide +kernel
theorem dX7_ends_117 : decode cX7_ends 117 = .ok (.aload_n 0, 1) := by decide +kernel
theorem dX7_ends_118 : decode cX7_ends 118 = .ok (.getfield 38, 3) := by decide +kernel
theorem dX7_ends_121 : decode cX7_ends 121 = .ok (.invokevirtual 34, 3) := by decide +kernel
theorem dX7_ends_124 : decode cX7_ends 124 = .ok (.aload_n 0, 1) := by decide +kernel
theorem dX7_ends_125 : decode cX7_ends 125 = .ok (.getfield 41, 3) := by decide +kernel
theorem dX7_ends_128 : decode cX7_ends 128 = .ok (.ireturn, 1) := by decide +kernel
theorem dX7_isFine_0 : decode cX7_isFine 0 = .ok (.aload_n 0, 1) := by decide +kernel
theorem dX7_isFine_1 : decode cX7_isFine 1 = .ok (.iload_n 1, 1) := by decide +kernel
theorem dX7_isFine_2 : decode cX7_isFine 2 = .ok (.ifCond .eq 7, 3) := by decide +kernel
theorem dX7_isFine_5 : decode cX7_isFine 5 = .ok (.iconst 0, 1) := by decide +kernel
theorem dX7_isFine_6 : decode cX7_isFine 6 = .ok (.goto 4, 3) := by decide +kernel
theorem dX7_isFine_9 : decode cX7_isFine 9 = .ok (.iconst 1, 1) := by decide +kernel
theorem dX7_isFine_10 : decode cX7_isFine 10 = .ok (.putfield 27, 3) := by decide +kernel
theorem dX7_isFine_13 : decode cX7_isFine 13 = .ok (.iload_n 1, 1) := by decide +kernel
theorem dX7_isFine_14 : decode cX7_isFine 14 = .ok (.ireturn, 1) := by decide +kernel
theorem dX7_rejects_0 : decode cX7_rejects 0 = .ok (.iload_n 1, 1) := by decide +kernel
theorem dX7_rejects_1 : decode cX7_rejects 1 = .ok (.ifCond .eq 18, 3) := by decide +kernel
theorem dX7_rejects_4 : decode cX7_rejects 4 = .ok (.aload_n 0, 1) := by decide +kernel
theorem dX7_rejects_5 : decode cX7_rejects 5 = .ok (.iload_n 2, 1) := by decide +kernel
theorem dX7_rejects_6 : decode cX7_rejects 6 = .ok (.putfield 44, 3) := by decide +kernel
theorem dX7_rejects_9 : decode cX7_rejects 9 = .ok (.aload_n 0, 1) := by decide +kernel
theorem dX7_rejects_10 : decode cX7_rejects 10 = .ok (.iload_n 3, 1) := by decide +kernel
theorem dX7_rejects_11 : decode cX7_rejects 11 = .ok (.putfield 47, 3) := by decide +kernel
theorem dX7_rejects_14 : decode cX7_rejects 14 = .ok (.aload_n 0, 1) := by decide +kernel
theorem dX7_rejects_15 : decode cX7_rejects 15 = .ok (.iconst 0, 1) := by decide +kernel
theorem dX7_rejects_16 : decode cX7_rejects 16 = .ok (.putfield 50, 3) := by decide +kernel
theorem dX7_rejects_19 : decode cX7_rejects 19 = .ok (.iload_n 1, 1) := by decide +kernel
theorem dX7_rejects_20 : decode cX7_rejects 20 = .ok (.ireturn, 1) := by decide +kernel
theorem dX7_rejectionReason_0 : decode cX7_rejectionReason 0 = .ok (.aload_n 0, 1) := by decide +kernel
theorem dX7_rejectionReason_1 : decode cX7_rejectionReason 1 = .ok (.aload_n 0, 1) := by decide +kernel
theorem dX7_rejectionReason_2 : decode cX7_rejectionReason 2 = .ok (.getfield 44, 3) := by decide +kernel
theorem dX7_rejectionReason_5 : decode cX7_rejectionReason 5 = .ok (.ifCond .eq 7, 3) := by decide +kernel
theorem dX7_rejectionReason_8 : decode cX7_rejectionReason 8 = .ok (.iconst 1, 1) := by decide +kernel
theorem dX7_rejectionReason_9 : decode cX7_rejectionReason 9 = .ok (.goto 4, 3) := by decide +kernel
theorem dX7_rejectionReason_12 : decode cX7_rejectionReason 12 = .ok (.iconst 0, 1) := by decide +kernel
theorem dX7_rejectionReason_13 : decode cX7_rejectionReason 13 = .ok (.invokevirtual 53, 3) := by decide +kernel
theorem dX7_rejectionReason_16 : decode cX7_rejectionReason 16 = .ok (.ifCond .eq 10, 3) := by decide +kernel
theorem dX7_rejectionReason_19 : decode cX7_rejectionReason 19 = .ok (.aload_n 0, 1) := by decide +kernel
theorem dX7_rejectionReason_20 : decode cX7_rejectionReason 20 = .ok (.getfield 44, 3) := by decide +kernel
theorem dX7_rejectionReason_23 : decode cX7_rejectionReason 23 = .ok (.goto 4, 3) := by decide +kernel
theorem dX7_rejectionReason_26 : decode cX7_rejectionReason 26 = .ok (.iconst 0, 1) := by decide +kernel
theorem dX7_rejectionReason_27 : decode cX7_rejectionReason 27 = .ok (.ireturn, 1) := by decide +kernel
theorem dX7_rejectionDetail_0 : decode cX7_rejectionDetail 0 = .ok (.aload_n 0, 1) := by decide +kernel
theorem dX7_rejectionDetail_1 : decode cX7_rejectionDetail 1 = .ok (.aload_n 0, 1) := by decide +kernel
theorem dX7_rejectionDetail_2 : decode cX7_rejectionDetail 2 = .ok (.getfield 44, 3) := by decide +kernel
theorem dX7_rejectionDetail_5 : decode cX7_rejectionDetail 5 = .ok (.ifCond .eq 7, 3) := by decide +kernel
theorem dX7_rejectionDetail_8 : decode cX7_rejectionDetail 8 = .ok (.iconst 1, 1) := by decide +kernel
theorem dX7_rejectionDetail_9 : decode cX7_rejectionDetail 9 = .ok (.goto 4, 3) := by decide +kernel
theorem dX7_rejectionDetail_12 : decode cX7_rejectionDetail 12 = .ok (.iconst 0, 1) := by decide +kernel
theorem dX7_rejectionDetail_13 : decode cX7_rejectionDetail 13 = .ok (.invokevirtual 53, 3) := by decide +kernel
theorem dX7_rejectionDetail_16 : decode cX7_rejectionDetail 16 = .ok (.ifCond .eq 10, 3) := by decide +kernel
theorem dX7_rejectionDetail_19 : decode cX7_rejectionDetail 19 = .ok (.aload_n 0, 1) := by decide +kernel
theorem dX7_rejectionDetail_20 : decode cX7_rejectionDetail 20 = .ok (.getfield 47, 3) := by decide +kernel
theorem dX7_rejectionDetail_23 : decode cX7_rejectionDetail 23 = .ok (.goto 4, 3) := by decide +kernel
theorem dX7_rejectionDetail_26 : decode cX7_rejectionDetail 26 = .ok (.iconst 0, 1) := by decide +kernel
theorem dX7_rejectionDetail_27 : decode cX7_rejectionDetail 27 = .ok (.ireturn, 1) := by decide +kernel
theorem dX7_causeReason_0 : decode cX7_causeReason 0 = .ok (.aload_n 0, 1) := by decide +kernel
theorem dX7_causeReason_1 : decode cX7_causeReason 1 = .ok (.aload_n 0, 1) := by decide +kernel
theorem dX7_causeReason_2 : decode cX7_causeReason 2 = .ok (.getfield 50, 3) := by decide +kernel
theorem dX7_causeReason_5 : decode cX7_causeReason 5 = .ok (.ifCond .eq 7, 3) := by decide +kernel
theorem dX7_causeReason_8 : decode cX7_causeReason 8 = .ok (.iconst 1, 1) := by decide +kernel
theorem dX7_causeReason_9 : decode cX7_causeReason 9 = .ok (.goto 4, 3) := by decide +kernel
theorem dX7_causeReason_12 : decode cX7_causeReason 12 = .ok (.iconst 0, 1) := by decide +kernel
theorem dX7_causeReason_13 : decode cX7_causeReason 13 = .ok (.invokevirtual 53, 3) := by decide +kernel
theorem dX7_causeReason_16 : decode cX7_causeReason 16 = .ok (.ifCond .eq 10, 3) := by decide +kernel
theorem dX7_causeReason_19 : decode cX7_causeReason 19 = .ok (.aload_n 0, 1) := by decide +kernel
theorem dX7_causeReason_20 : decode cX7_causeReason 20 = .ok (.getfield 50, 3) := by decide +kernel
theorem dX7_causeReason_23 : decode cX7_causeReason 23 = .ok (.goto 4, 3) := by decide +kernel
theorem dX7_causeReason_26 : decode cX7_causeReason 26 = .ok (.iconst 0, 1) := by decide +kernel
theorem dX7_causeReason_27 : decode cX7_causeReason 27 = .ok (.ireturn, 1) := by decide +kernel
theorem dX7_key_0 : decode cX7_key 0 = .ok (.aload_n 0, 1) := by decide +kernel
theorem dX7_key_1 : decode cX7_key 1 = .ok (.getfield 9, 3) := by decide +kernel
theorem dX7_key_4 : decode cX7_key 4 = .ok (.iconst 2, 1) := by decide +kernel
theorem dX7_key_5 : decode cX7_key 5 = .ok (.iconst 2, 1) := by decide +kernel
theorem dX7_key_6 : decode cX7_key 6 = .ok (.iload_n 1, 1) := by decide +kernel
theorem dX7_key_7 : decode cX7_key 7 = .ok (.imul, 1) := by decide +kernel
theorem dX7_key_8 : decode cX7_key 8 = .ok (.iadd, 1) := by decide +kernel
theorem dX7_key_9 : decode cX7_key 9 = .ok (.iaload, 1) := by decide +kernel
theorem dX7_key_10 : decode cX7_key 10 = .ok (.ireturn, 1) := by decide +kernel
theorem dX7_priority_0 : decode cX7_priority 0 = .ok (.aload_n 0, 1) := by decide +kernel
theorem dX7_priority_1 : decode cX7_priority 1 = .ok (.getfield 9, 3) := by decide +kernel
theorem dX7_priority_4 : decode cX7_priority 4 = .ok (.iconst 2, 1) := by decide +kernel
theorem dX7_priority_5 : decode cX7_priority 5 = .ok (.iconst 2, 1) := by decide +kernel
theorem dX7_priority_6 : decode cX7_priority 6 = .ok (.iload_n 1, 1) := by decide +kernel
theorem dX7_priority_7 : decode cX7_priority 7 = .ok (.imul, 1) := by decide +kernel
theorem dX7_priority_8 : decode cX7_priority 8 = .ok (.iadd, 1) := by decide +kernel
theorem dX7_priority_9 : decode cX7_priority 9 = .ok (.iconst 1, 1) := by decide +kernel
theorem dX7_priority_10 : decode cX7_priority 10 = .ok (.iadd, 1) := by decide +kernel
theorem dX7_priority_11 : decode cX7_priority 11 = .ok (.iaload, 1) := by decide +kernel
theorem dX7_priority_12 : decode cX7_priority 12 = .ok (.ireturn, 1) := by decide +kernel
theorem dX7_below_0 : decode cX7_below 0 = .ok (.iconst 0, 1) := by decide +kernel
theorem dX7_below_1 : decode cX7_below 1 = .ok (.istore_n 2, 1) := by decide +kernel
theorem dX7_below_2 : decode cX7_below 2 = .ok (.iconst 0, 1) := by decide +kernel
theorem dX7_below_3 : decode cX7_below 3 = .ok (.istore_n 3, 1) := by decide +kernel
theorem dX7_below_4 : decode cX7_below 4 = .ok (.iload_n 3, 1) := by decide +kernel
theorem dX7_below_5 : decode cX7_below 5 = .ok (.aload_n 0, 1) := by decide +kernel
theorem dX7_below_6 : decode cX7_below 6 = .ok (.getfield 9, 3) := by decide +kernel
theorem dX7_below_9 : decode cX7_below 9 = .ok (.iconst 0, 1) := by decide +kernel
theorem dX7_below_10 : decode cX7_below 10 = .ok (.iaload, 1) := by decide +kernel
theorem dX7_below_11 : decode cX7_below 11 = .ok (.if_icmp .ge 26, 3) := by decide +kernel
theorem dX7_below_14 : decode cX7_below 14 = .ok (.iload_n 2, 1) := by decide +kernel
theorem dX7_below_15 : decode cX7_below 15 = .ok (.aload_n 0, 1) := by decide +kernel
theorem dX7_below_16 : decode cX7_below 16 = .ok (.iload_n 3, 1) := by decide +kernel
theorem dX7_below_17 : decode cX7_below 17 = .ok (.invokevirtual 57, 3) := by decide +kernel
theorem dX7_below_20 : decode cX7_below 20 = .ok (.iload_n 1, 1) := by decide +kernel
theorem dX7_below_21 : decode cX7_below 21 = .ok (.if_icmp .ge 7, 3) := by decide +kernel
theorem dX7_below_24 : decode cX7_below 24 = .ok (.iconst 1, 1) := by decide +kernel
theorem dX7_below_25 : decode cX7_below 25 = .ok (.goto 4, 3) := by decide +kernel
theorem dX7_below_28 : decode cX7_below 28 = .ok (.iconst 0, 1) := by decide +kernel
theorem dX7_below_29 : decode cX7_below 29 = .ok (.iadd, 1) := by decide +kernel
theorem dX7_below_30 : decode cX7_below 30 = .ok (.istore_n 2, 1) := by decide +kernel
theorem dX7_below_31 : decode cX7_below 31 = .ok (.iinc 3 1, 3) := by decide +kernel
theorem dX7_below_34 : decode cX7_below 34 = .ok (.goto (-30), 3) := by decide +kernel
theorem dX7_below_37 : decode cX7_below 37 = .ok (.iload_n 2, 1) := by decide +kernel
theorem dX7_below_38 : decode cX7_below 38 = .ok (.ireturn, 1) := by decide +kernel
theorem dX7_find_0 : decode cX7_find 0 = .ok (.aload_n 0, 1) := by decide +kernel
theorem dX7_find_1 : decode cX7_find 1 = .ok (.iload_n 1, 1) := by decide +kernel
theorem dX7_find_2 : decode cX7_find 2 = .ok (.invokevirtual 61, 3) := by decide +kernel
theorem dX7_find_5 : decode cX7_find 5 = .ok (.istore_n 2, 1) := by decide +kernel
theorem dX7_find_6 : decode cX7_find 6 = .ok (.iload_n 2, 1) := by decide +kernel
theorem dX7_find_7 : decode cX7_find 7 = .ok (.aload_n 0, 1) := by decide +kernel
theorem dX7_find_8 : decode cX7_find 8 = .ok (.getfield 9, 3) := by decide +kernel
theorem dX7_find_11 : decode cX7_find 11 = .ok (.iconst 0, 1) := by decide +kernel
theorem dX7_find_12 : decode cX7_find 12 = .ok (.iaload, 1) := by decide +kernel
theorem dX7_find_13 : decode cX7_find 13 = .ok (.if_icmp .ge 16, 3) := by decide +kernel
theorem dX7_find_16 : decode cX7_find 16 = .ok (.aload_n 0, 1) := by decide +kernel
theorem dX7_find_17 : decode cX7_find 17 = .ok (.iload_n 2, 1) := by decide +kernel
theorem dX7_find_18 : decode cX7_find 18 = .ok (.invokevirtual 57, 3) := by decide +kernel
theorem dX7_find_21 : decode cX7_find 21 = .ok (.iload_n 1, 1) := by decide +kernel
theorem dX7_find_22 : decode cX7_find 22 = .ok (.if_icmp .ne 7, 3) := by decide +kernel
theorem dX7_find_25 : decode cX7_find 25 = .ok (.iload_n 2, 1) := by decide +kernel
theorem dX7_find_26 : decode cX7_find 26 = .ok (.goto 4, 3) := by decide +kernel
theorem dX7_find_29 : decode cX7_find 29 = .ok (.iconst (-1), 1) := by decide +kernel
theorem dX7_find_30 : decode cX7_find 30 = .ok (.ireturn, 1) := by decide +kernel
theorem dX7_isAbove_0 : decode cX7_isAbove 0 = .ok (.aload_n 0, 1) := by decide +kernel
theorem dX7_isAbove_1 : decode cX7_isAbove 1 = .ok (.iload_n 1, 1) := by decide +kernel
theorem dX7_isAbove_2 : decode cX7_isAbove 2 = .ok (.invokevirtual 64, 3) := by decide +kernel
theorem dX7_isAbove_5 : decode cX7_isAbove 5 = .ok (.aload_n 0, 1) := by decide +kernel
theorem dX7_isAbove_6 : decode cX7_isAbove 6 = .ok (.iload_n 2, 1) := by decide +kernel
theorem dX7_isAbove_7 : decode cX7_isAbove 7 = .ok (.invokevirtual 64, 3) := by decide +kernel
theorem dX7_isAbove_10 : decode cX7_isAbove 10 = .ok (.if_icmp .gt 21, 3) := by decide +kernel
theorem dX7_isAbove_13 : decode cX7_isAbove 13 = .ok (.aload_n 0, 1) := by decide +kernel
theorem dX7_isAbove_14 : decode cX7_isAbove 14 = .ok (.iload_n 1, 1) := by decide +kernel
theorem dX7_isAbove_15 : decode cX7_isAbove 15 = .ok (.invokevirtual 64, 3) := by decide +kernel
theorem dX7_isAbove_18 : decode cX7_isAbove 18 = .ok (.aload_n 0, 1) := by decide +kernel
theorem dX7_isAbove_19 : decode cX7_isAbove 19 = .ok (.iload_n 2, 1) := by decide +kernel
theorem dX7_isAbove_20 : decode cX7_isAbove 20 = .ok (.invokevirtual 64, 3) := by decide +kernel
theorem dX7_isAbove_23 : decode cX7_isAbove 23 = .ok (.if_icmp .ne 12, 3) := by decide +kernel
theorem dX7_isAbove_26 : decode cX7_isAbove 26 = .ok (.iload_n 1, 1) := by decide +kernel
theorem dX7_isAbove_27 : decode cX7_isAbove 27 = .ok (.iload_n 2, 1) := by decide +kernel
theorem dX7_isAbove_28 : decode cX7_isAbove 28 = .ok (.if_icmp .ge 7, 3) := by decide +kernel
theorem dX7_isAbove_31 : decode cX7_isAbove 31 = .ok (.iconst 1, 1) := by decide +kernel
theorem dX7_isAbove_32 : decode cX7_isAbove 32 = .ok (.goto 4, 3) := by decide +kernel
theorem dX7_isAbove_35 : decode cX7_isAbove 35 = .ok (.iconst 0, 1) := by decide +kernel
theorem dX7_isAbove_36 : decode cX7_isAbove 36 = .ok (.ireturn, 1) := by decide +kernel
theorem dX7_top_0 : decode cX7_top 0 = .ok (.iload_n 1, 1) := by decide +kernel
theorem dX7_top_1 : decode cX7_top 1 = .ok (.iload_n 2, 1) := by decide +kernel
theorem dX7_top_2 : decode cX7_top 2 = .ok (.if_icmp .gt 7, 3) := by decide +kernel
theorem dX7_top_5 : decode cX7_top 5 = .ok (.iload_n 1, 1) := by decide +kernel
theorem dX7_top_6 : decode cX7_top 6 = .ok (.goto 4, 3) := by decide +kernel
theorem dX7_top_9 : decode cX7_top 9 = .ok (.iconst (-1), 1) := by decide +kernel
theorem dX7_top_10 : decode cX7_top 10 = .ok (.istore_n 3, 1) := by decide +kernel
theorem dX7_top_11 : decode cX7_top 11 = .ok (.iload_n 1, 1) := by decide +kernel
theorem dX7_top_12 : decode cX7_top 12 = .ok (.iconst 1, 1) := by decide +kernel
theorem dX7_top_13 : decode cX7_top 13 = .ok (.iadd, 1) := by decide +kernel
theorem dX7_top_14 : decode cX7_top 14 = .ok (.istore 4, 2) := by decide +kernel
theorem dX7_top_16 : decode cX7_top 16 = .ok (.iload 4, 2) := by decide +kernel
theorem dX7_top_18 : decode cX7_top 18 = .ok (.iload_n 2, 1) := by decide +kernel
theorem dX7_top_19 : decode cX7_top 19 = .ok (.if_icmp .gt 26, 3) := by decide +kernel
theorem dX7_top_22 : decode cX7_top 22 = .ok (.aload_n 0, 1) := by decide +kernel
theorem dX7_top_23 : decode cX7_top 23 = .ok (.iload 4, 2) := by decide +kernel
theorem dX7_top_25 : decode cX7_top 25 = .ok (.iload_n 3, 1) := by decide +kernel
theorem dX7_top_26 : decode cX7_top 26 = .ok (.invokevirtual 67, 3) := by decide +kernel
theorem dX7_top_29 : decode cX7_top 29 = .ok (.ifCond .eq 8, 3) := by decide +kernel
theorem dX7_top_32 : decode cX7_top 32 = .ok (.iload 4, 2) := by decide +kernel
theorem dX7_top_34 : decode cX7_top 34 = .ok (.goto 4, 3) := by decide +kernel
theorem dX7_top_37 : decode cX7_top 37 = .ok (.iload_n 3, 1) := by decide +kernel
theorem dX7_top_38 : decode cX7_top 38 = .ok (.istore_n 3, 1) := by decide +kernel
theorem dX7_top_39 : decode cX7_top 39 = .ok (.iinc 4 1, 3) := by decide +kernel
theorem dX7_top_42 : decode cX7_top 42 = .ok (.goto (-26), 3) := by decide +kernel
theorem dX7_top_45 : decode cX7_top 45 = .ok (.iload_n 3, 1) := by decide +kernel
theorem dX7_top_46 : decode cX7_top 46 = .ok (.ireturn, 1) := by decide +kernel
theorem dX7_first_0 : decode cX7_first 0 = .ok (.iload_n 1, 1) := by decide +kernel
theorem dX7_first_1 : decode cX7_first 1 = .ok (.istore_n 2, 1) := by decide +kernel
theorem dX7_first_2 : decode cX7_first 2 = .ok (.iload_n 2, 1) := by decide +kernel
theorem dX7_first_3 : decode cX7_first 3 = .ok (.ifCond .le 20, 3) := by decide +kernel
theorem dX7_first_6 : decode cX7_first 6 = .ok (.aload_n 0, 1) := by decide +kernel
theorem dX7_first_7 : decode cX7_first 7 = .ok (.iload_n 1, 1) := by decide +kernel
theorem dX7_first_8 : decode cX7_first 8 = .ok (.iload_n 2, 1) := by decide +kernel
theorem dX7_first_9 : decode cX7_first 9 = .ok (.iconst 1, 1) := by decide +kernel
theorem dX7_first_10 : decode cX7_first 10 = .ok (.isub, 1) := by decide +kernel
theorem dX7_first_11 : decode cX7_first 11 = .ok (.invokevirtual 67, 3) := by decide +kernel
theorem dX7_first_14 : decode cX7_first 14 = .ok (.ifCond .eq 9, 3) := by decide +kernel
theorem dX7_first_17 : decode cX7_first 17 = .ok (.iinc 2 (-1), 3) := by decide +kernel
theorem dX7_first_20 : decode cX7_first 20 = .ok (.goto (-18), 3) := by decide +kernel
theorem dX7_first_23 : decode cX7_first 23 = .ok (.iload_n 2, 1) := by decide +kernel
theorem dX7_first_24 : decode cX7_first 24 = .ok (.ireturn, 1) := by decide +kernel
theorem dX7_last_0 : decode cX7_last 0 = .ok (.iload_n 1, 1) := by decide +kernel
theorem dX7_last_1 : decode cX7_last 1 = .ok (.istore_n 2, 1) := by decide +kernel
theorem dX7_last_2 : decode cX7_last 2 = .ok (.iload_n 2, 1) := by decide +kernel
theorem dX7_last_3 : decode cX7_last 3 = .ok (.aload_n 0, 1) := by decide +kernel
theorem dX7_last_4 : decode cX7_last 4 = .ok (.getfield 9, 3) := by decide +kernel
theorem dX7_last_7 : decode cX7_last 7 = .ok (.iconst 0, 1) := by decide +kernel
theorem dX7_last_8 : decode cX7_last 8 = .ok (.iaload, 1) := by decide +kernel
theorem dX7_last_9 : decode cX7_last 9 = .ok (.iconst 1, 1) := by decide +kernel
theorem dX7_last_10 : decode cX7_last 10 = .ok (.isub, 1) := by decide +kernel
theorem dX7_last_11 : decode cX7_last 11 = .ok (.if_icmp .ge 20, 3) := by decide +kernel
theorem dX7_last_14 : decode cX7_last 14 = .ok (.aload_n 0, 1) := by decide +kernel
theorem dX7_last_15 : decode cX7_last 15 = .ok (.iload_n 1, 1) := by decide +kernel
theorem dX7_last_16 : decode cX7_last 16 = .ok (.iload_n 2, 1) := by decide +kernel
theorem dX7_last_17 : decode cX7_last 17 = .ok (.iconst 1, 1) := by decide +kernel
theorem dX7_last_18 : decode cX7_last 18 = .ok (.iadd, 1) := by decide +kernel
theorem dX7_last_19 : decode cX7_last 19 = .ok (.invokevirtual 67, 3) := by decide +kernel
theorem dX7_last_22 : decode cX7_last 22 = .ok (.ifCond .eq 9, 3) := by decide +kernel
theorem dX7_last_25 : decode cX7_last 25 = .ok (.iinc 2 1, 3) := by decide +kernel
theorem dX7_last_28 : decode cX7_last 28 = .ok (.goto (-26), 3) := by decide +kernel
theorem dX7_last_31 : decode cX7_last 31 = .ok (.iload_n 2, 1) := by decide +kernel
theorem dX7_last_32 : decode cX7_last 32 = .ok (.ireturn, 1) := by decide +kernel
theorem dX7_depth_0 : decode cX7_depth 0 = .ok (.iconst 0, 1) := by decide +kernel
theorem dX7_depth_1 : decode cX7_depth 1 = .ok (.istore_n 2, 1) := by decide +kernel
theorem dX7_depth_2 : decode cX7_depth 2 = .ok (.iconst 0, 1) := by decide +kernel
theorem dX7_depth_3 : decode cX7_depth 3 = .ok (.istore_n 3, 1) := by decide +kernel
theorem dX7_depth_4 : decode cX7_depth 4 = .ok (.iload_n 3, 1) := by decide +kernel
theorem dX7_depth_5 : decode cX7_depth 5 = .ok (.aload_n 0, 1) := by decide +kernel
theorem dX7_depth_6 : decode cX7_depth 6 = .ok (.getfield 9, 3) := by decide +kernel
theorem dX7_depth_9 : decode cX7_depth 9 = .ok (.iconst 0, 1) := by decide +kernel
theorem dX7_depth_10 : decode cX7_depth 10 = .ok (.iaload, 1) := by decide +kernel
theorem dX7_depth_11 : decode cX7_depth 11 = .ok (.if_icmp .ge 40, 3) := by decide +kernel
theorem dX7_depth_14 : decode cX7_depth 14 = .ok (.iload_n 2, 1) := by decide +kernel
theorem dX7_depth_15 : decode cX7_depth 15 = .ok (.iload_n 3, 1) := by decide +kernel
theorem dX7_depth_16 : decode cX7_depth 16 = .ok (.iload_n 1, 1) := by decide +kernel
theorem dX7_depth_17 : decode cX7_depth 17 = .ok (.if_icmp .eq 25, 3) := by decide +kernel
theorem dX7_depth_20 : decode cX7_depth 20 = .ok (.aload_n 0, 1) := by decide +kernel
theorem dX7_depth_21 : decode cX7_depth 21 = .ok (.iload_n 3, 1) := by decide +kernel
theorem dX7_depth_22 : decode cX7_depth 22 = .ok (.invokevirtual 71, 3) := by decide +kernel
theorem dX7_depth_25 : decode cX7_depth 25 = .ok (.iload_n 1, 1) := by decide +kernel
theorem dX7_depth_26 : decode cX7_depth 26 = .ok (.if_icmp .gt 16, 3) := by decide +kernel
theorem dX7_depth_29 : decode cX7_depth 29 = .ok (.aload_n 0, 1) := by decide +kernel
theorem dX7_depth_30 : decode cX7_depth 30 = .ok (.iload_n 3, 1) := by decide +kernel
theorem dX7_depth_31 : decode cX7_depth 31 = .ok (.invokevirtual 74, 3) := by decide +kernel
theorem dX7_depth_34 : decode cX7_depth 34 = .ok (.iload_n 1, 1) := by decide +kernel
theorem dX7_depth_35 : decode cX7_depth 35 = .ok (.if_icmp .lt 7, 3) := by decide +kernel
theorem dX7_depth_38 : decode cX7_depth 38 = .ok (.iconst 1, 1) := by decide +kernel
theorem dX7_depth_39 : decode cX7_depth 39 = .ok (.goto 4, 3) := by decide +kernel
theorem dX7_depth_42 : decode cX7_depth 42 = .ok (.iconst 0, 1) := by decide +kernel
theorem dX7_depth_43 : decode cX7_depth 43 = .ok (.iadd, 1) := by decide +kernel
theorem dX7_depth_44 : decode cX7_depth 44 = .ok (.istore_n 2, 1) := by decide +kernel
theorem dX7_depth_45 : decode cX7_depth 45 = .ok (.iinc 3 1, 3) := by decide +kernel
theorem dX7_depth_48 : decode cX7_depth 48 = .ok (.goto (-44), 3) := by decide +kernel
theorem dX7_depth_51 : decode cX7_depth 51 = .ok (.iload_n 2, 1) := by decide +kernel
theorem dX7_depth_52 : decode cX7_depth 52 = .ok (.ireturn, 1) := by decide +kernel
theorem dX7_path_0 : decode cX7_path 0 = .ok (.iconst 0, 1) := by decide +kernel
theorem dX7_path_1 : decode cX7_path 1 = .ok (.istore_n 2, 1) := by decide +kernel
theorem dX7_path_2 : decode cX7_path 2 = .ok (.aload_n 0, 1) := by decide +kernel
theorem dX7_path_3 : decode cX7_path 3 = .ok (.iload_n 1, 1) := by decide +kernel
theorem dX7_path_4 : decode cX7_path 4 = .ok (.invokevirtual 61, 3) := by decide +kernel
theorem dX7_path_7 : decode cX7_path 7 = .ok (.istore_n 3, 1) := by decide +kernel
theorem dX7_path_8 : decode cX7_path 8 = .ok (.iconst 0, 1) := by decide +kernel
theorem dX7_path_9 : decode cX7_path 9 = .ok (.istore 4, 2) := by decide +kernel
theorem dX7_path_11 : decode cX7_path 11 = .ok (.iload 4, 2) := by decide +kernel
theorem dX7_path_13 : decode cX7_path 13 = .ok (.aload_n 0, 1) := by decide +kernel
theorem dX7_path_14 : decode cX7_path 14 = .ok (.getfield 9, 3) := by decide +kernel
theorem dX7_path_17 : decode cX7_path 17 = .ok (.iconst 0, 1) := by decide +kernel
theorem dX7_path_18 : decode cX7_path 18 = .ok (.iaload, 1) := by decide +kernel
theorem dX7_path_19 : decode cX7_path 19 = .ok (.if_icmp .ge 53, 3) := by decide +kernel
theorem dX7_path_22 : decode cX7_path 22 = .ok (.iload_n 2, 1) := by decide +kernel
theorem dX7_path_23 : decode cX7_path 23 = .ok (.iload 4, 2) := by decide +kernel
theorem dX7_path_25 : decode cX7_path 25 = .ok (.iload_n 3, 1) := by decide +kernel
theorem dX7_path_26 : decode cX7_path 26 = .ok (.if_icmp .ge 23, 3) := by decide +kernel
theorem dX7_path_29 : decode cX7_path 29 = .ok (.aload_n 0, 1) := by decide +kernel
theorem dX7_path_30 : decode cX7_path 30 = .ok (.iload 4, 2) := by decide +kernel
theorem dX7_path_32 : decode cX7_path 32 = .ok (.invokevirtual 74, 3) := by decide +kernel
theorem dX7_path_35 : decode cX7_path 35 = .ok (.iload_n 3, 1) := by decide +kernel
theorem dX7_path_36 : decode cX7_path 36 = .ok (.iconst 1, 1) := by decide +kernel
theorem dX7_path_37 : decode cX7_path 37 = .ok (.isub, 1) := by decide +kernel
theorem dX7_path_38 : decode cX7_path 38 = .ok (.if_icmp .lt 7, 3) := by decide +kernel
theorem dX7_path_41 : decode cX7_path 41 = .ok (.iconst 1, 1) := by decide +kernel
theorem dX7_path_42 : decode cX7_path 42 = .ok (.goto 22, 3) := by decide +kernel
theorem dX7_path_45 : decode cX7_path 45 = .ok (.iconst 0, 1) := by decide +kernel
theorem dX7_path_46 : decode cX7_path 46 = .ok (.goto 18, 3) := by decide +kernel
theorem dX7_path_49 : decode cX7_path 49 = .ok (.aload_n 0, 1) := by decide +kernel
theorem dX7_path_50 : decode cX7_path 50 = .ok (.iload 4, 2) := by decide +kernel
theorem dX7_path_52 : decode cX7_path 52 = .ok (.invokevirtual 71, 3) := by decide +kernel
theorem dX7_path_55 : decode cX7_path 55 = .ok (.iload_n 3, 1) := by decide +kernel
theorem dX7_path_56 : decode cX7_path 56 = .ok (.if_icmp .gt 7, 3) := by decide +kernel
theorem dX7_path_59 : decode cX7_path 59 = .ok (.iconst 1, 1) := by decide +kernel
theorem dX7_path_60 : decode cX7_path 60 = .ok (.goto 4, 3) := by decide +kernel
theorem dX7_path_63 : decode cX7_path 63 = .ok (.iconst 0, 1) := by decide +kernel
theorem dX7_path_64 : decode cX7_path 64 = .ok (.iadd, 1) := by decide +kernel
theorem dX7_path_65 : decode cX7_path 65 = .ok (.istore_n 2, 1) := by decide +kernel
theorem dX7_path_66 : decode cX7_path 66 = .ok (.iinc 4 1, 3) := by decide +kernel
theorem dX7_path_69 : decode cX7_path 69 = .ok (.goto (-58), 3) := by decide +kernel
theorem dX7_path_72 : decode cX7_path 72 = .ok (.iload_n 2, 1) := by decide +kernel
theorem dX7_path_73 : decode cX7_path 73 = .ok (.ireturn, 1) := by decide +kernel
theorem dX7_opens_0 : decode cX7_opens 0 = .ok (.aload_n 0, 1) := by decide +kernel
theorem dX7_opens_1 : decode cX7_opens 1 = .ok (.iload_n 1, 1) := by decide +kernel
theorem dX7_opens_2 : decode cX7_opens 2 = .ok (.invokevirtual 61, 3) := by decide +kernel
theorem dX7_opens_5 : decode cX7_opens 5 = .ok (.istore_n 3, 1) := by decide +kernel
theorem dX7_opens_6 : decode cX7_opens 6 = .ok (.iconst 2, 1) := by decide +kernel
theorem dX7_opens_7 : decode cX7_opens 7 = .ok (.aload_n 0, 1) := by decide +kernel
theorem dX7_opens_8 : decode cX7_opens 8 = .ok (.getfield 9, 3) := by decide +kernel
theorem dX7_opens_11 : decode cX7_opens 11 = .ok (.iconst 0, 1) := by decide +kernel
theorem dX7_opens_12 : decode cX7_opens 12 = .ok (.iaload, 1) := by decide +kernel
theorem dX7_opens_13 : decode cX7_opens 13 = .ok (.imul, 1) := by decide +kernel
theorem dX7_opens_14 : decode cX7_opens 14 = .ok (.iconst 1, 1) := by decide +kernel
theorem dX7_opens_15 : decode cX7_opens 15 = .ok (.isub, 1) := by decide +kernel
theorem dX7_opens_16 : decode cX7_opens 16 = .ok (.istore 4, 2) := by decide +kernel
theorem dX7_opens_18 : decode cX7_opens 18 = .ok (.iload 4, 2) := by decide +kernel
theorem dX7_opens_20 : decode cX7_opens 20 = .ok (.iconst 2, 1) := by decide +kernel
theorem dX7_opens_21 : decode cX7_opens 21 = .ok (.iload_n 3, 1) := by decide +kernel
theorem dX7_opens_22 : decode cX7_opens 22 = .ok (.imul, 1) := by decide +kernel
theorem dX7_opens_23 : decode cX7_opens 23 = .ok (.if_icmp .lt 29, 3) := by decide +kernel
theorem dX7_opens_26 : decode cX7_opens 26 = .ok (.aload_n 0, 1) := by decide +kernel
theorem dX7_opens_27 : decode cX7_opens 27 = .ok (.getfield 9, 3) := by decide +kernel
theorem dX7_opens_30 : decode cX7_opens 30 = .ok (.iconst 2, 1) := by decide +kernel
theorem dX7_opens_31 : decode cX7_opens 31 = .ok (.iload 4, 2) := by decide +kernel
theorem dX7_opens_33 : decode cX7_opens 33 = .ok (.iadd, 1) := by decide +kernel
theorem dX7_opens_34 : decode cX7_opens 34 = .ok (.iconst 2, 1) := by decide +kernel
theorem dX7_opens_35 : decode cX7_opens 35 = .ok (.iadd, 1) := by decide +kernel
theorem dX7_opens_36 : decode cX7_opens 36 = .ok (.aload_n 0, 1) := by decide +kernel
theorem dX7_opens_37 : decode cX7_opens 37 = .ok (.getfield 9, 3) := by decide +kernel
theorem dX7_opens_40 : decode cX7_opens 40 = .ok (.iconst 2, 1) := by decide +kernel
theorem dX7_opens_41 : decode cX7_opens 41 = .ok (.iload 4, 2) := by decide +kernel
theorem dX7_opens_43 : decode cX7_opens 43 = .ok (.iadd, 1) := by decide +kernel
theorem dX7_opens_44 : decode cX7_opens 44 = .ok (.iaload, 1) := by decide +kernel
theorem dX7_opens_45 : decode cX7_opens 45 = .ok (.iastore, 1) := by decide +kernel
theorem dX7_opens_46 : decode cX7_opens 46 = .ok (.iinc 4 (-1), 3) := by decide +kernel
theorem dX7_opens_49 : decode cX7_opens 49 = .ok (.goto (-31), 3) := by decide +kernel
theorem dX7_opens_52 : decode cX7_opens 52 = .ok (.aload_n 0, 1) := by decide +kernel
theorem dX7_opens_53 : decode cX7_opens 53 = .ok (.getfield 9, 3) := by decide +kernel
theorem dX7_opens_56 : decode cX7_opens 56 = .ok (.iconst 2, 1) := by decide +kernel
theorem dX7_opens_57 : decode cX7_opens 57 = .ok (.iconst 2, 1) := by decide +kernel
theorem dX7_opens_58 : decode cX7_opens 58 = .ok (.iload_n 3, 1) := by decide +kernel
theorem dX7_opens_59 : decode cX7_opens 59 = .ok (.imul, 1) := by decide +kernel
theorem dX7_opens_60 : decode cX7_opens 60 = .ok (.iadd, 1) := by decide +kernel
theorem dX7_opens_61 : decode cX7_opens 61 = .ok (.iload_n 1, 1) := by decide +kernel
theorem dX7_opens_62 : decode cX7_opens 62 = .ok (.iastore, 1) := by decide +kernel
theorem dX7_opens_63 : decode cX7_opens 63 = .ok (.aload_n 0, 1) := by decide +kernel
theorem dX7_opens_64 : decode cX7_opens 64 = .ok (.getfield 9, 3) := by decide +kernel
theorem dX7_opens_67 : decode cX7_opens 67 = .ok (.iconst 2, 1) := by decide +kernel
theorem dX7_opens_68 : decode cX7_opens 68 = .ok (.iconst 2, 1) := by decide +kernel
theorem dX7_opens_69 : decode cX7_opens 69 = .ok (.iload_n 3, 1) := by decide +kernel
theorem dX7_opens_70 : decode cX7_opens 70 = .ok (.imul, 1) := by decide +kernel
theorem dX7_opens_71 : decode cX7_opens 71 = .ok (.iadd, 1) := by decide +kernel
theorem dX7_opens_72 : decode cX7_opens 72 = .ok (.iconst 1, 1) := by decide +kernel
theorem dX7_opens_73 : decode cX7_opens 73 = .ok (.iadd, 1) := by decide +kernel
theorem dX7_opens_74 : decode cX7_opens 74 = .ok (.iload_n 2, 1) := by decide +kernel
theorem dX7_opens_75 : decode cX7_opens 75 = .ok (.iastore, 1) := by decide +kernel
theorem dX7_opens_76 : decode cX7_opens 76 = .ok (.aload_n 0, 1) := by decide +kernel
theorem dX7_opens_77 : decode cX7_opens 77 = .ok (.getfield 9, 3) := by decide +kernel
theorem dX7_opens_80 : decode cX7_opens 80 = .ok (.iconst 0, 1) := by decide +kernel
theorem dX7_opens_81 : decode cX7_opens 81 = .ok (.dup2, 1) := by decide +kernel
theorem dX7_opens_82 : decode cX7_opens 82 = .ok (.iaload, 1) := by decide +kernel
theorem dX7_opens_83 : decode cX7_opens 83 = .ok (.iconst 1, 1) := by decide +kernel
theorem dX7_opens_84 : decode cX7_opens 84 = .ok (.iadd, 1) := by decide +kernel
theorem dX7_opens_85 : decode cX7_opens 85 = .ok (.iastore, 1) := by decide +kernel
theorem dX7_opens_86 : decode cX7_opens 86 = .ok (.return_, 1) := by decide +kernel
theorem dX7_shuts_0 : decode cX7_shuts 0 = .ok (.aload_n 0, 1) := by decide +kernel
theorem dX7_shuts_1 : decode cX7_shuts 1 = .ok (.getfield 9, 3) := by decide +kernel
theorem dX7_shuts_4 : decode cX7_shuts 4 = .ok (.iconst 0, 1) := by decide +kernel
theorem dX7_shuts_5 : decode cX7_shuts 5 = .ok (.iaload, 1) := by decide +kernel
theorem dX7_shuts_6 : decode cX7_shuts 6 = .ok (.iconst 1, 1) := by decide +kernel
theorem dX7_shuts_7 : decode cX7_shuts 7 = .ok (.isub, 1) := by decide +kernel
theorem dX7_shuts_8 : decode cX7_shuts 8 = .ok (.istore_n 2, 1) := by decide +kernel
theorem dX7_shuts_9 : decode cX7_shuts 9 = .ok (.iconst 2, 1) := by decide +kernel
theorem dX7_shuts_10 : decode cX7_shuts 10 = .ok (.iload_n 1, 1) := by decide +kernel
theorem dX7_shuts_11 : decode cX7_shuts 11 = .ok (.imul, 1) := by decide +kernel
theorem dX7_shuts_12 : decode cX7_shuts 12 = .ok (.istore_n 3, 1) := by decide +kernel
theorem dX7_shuts_13 : decode cX7_shuts 13 = .ok (.iload_n 3, 1) := by decide +kernel
theorem dX7_shuts_14 : decode cX7_shuts 14 = .ok (.iconst 2, 1) := by decide +kernel
theorem dX7_shuts_15 : decode cX7_shuts 15 = .ok (.iload_n 2, 1) := by decide +kernel
theorem dX7_shuts_16 : decode cX7_shuts 16 = .ok (.imul, 1) := by decide +kernel
theorem dX7_shuts_17 : decode cX7_shuts 17 = .ok (.if_icmp .ge 27, 3) := by decide +kernel
theorem dX7_shuts_20 : decode cX7_shuts 20 = .ok (.aload_n 0, 1) := by decide +kernel
theorem dX7_shuts_21 : decode cX7_shuts 21 = .ok (.getfield 9, 3) := by decide +kernel
theorem dX7_shuts_24 : decode cX7_shuts 24 = .ok (.iconst 2, 1) := by decide +kernel
theorem dX7_shuts_25 : decode cX7_shuts 25 = .ok (.iload_n 3, 1) := by decide +kernel
theorem dX7_shuts_26 : decode cX7_shuts 26 = .ok (.iadd, 1) := by decide +kernel
theorem dX7_shuts_27 : decode cX7_shuts 27 = .ok (.aload_n 0, 1) := by decide +kernel
theorem dX7_shuts_28 : decode cX7_shuts 28 = .ok (.getfield 9, 3) := by decide +kernel
theorem dX7_shuts_31 : decode cX7_shuts 31 = .ok (.iconst 2, 1) := by decide +kernel
theorem dX7_shuts_32 : decode cX7_shuts 32 = .ok (.iload_n 3, 1) := by decide +kernel
theorem dX7_shuts_33 : decode cX7_shuts 33 = .ok (.iadd, 1) := by decide +kernel
theorem dX7_shuts_34 : decode cX7_shuts 34 = .ok (.iconst 2, 1) := by decide +kernel
theorem dX7_shuts_35 : decode cX7_shuts 35 = .ok (.iadd, 1) := by decide +kernel
theorem dX7_shuts_36 : decode cX7_shuts 36 = .ok (.iaload, 1) := by decide +kernel
theorem dX7_shuts_37 : decode cX7_shuts 37 = .ok (.iastore, 1) := by decide +kernel
theorem dX7_shuts_38 : decode cX7_shuts 38 = .ok (.iinc 3 1, 3) := by decide +kernel
theorem dX7_shuts_41 : decode cX7_shuts 41 = .ok (.goto (-28), 3) := by decide +kernel
theorem dX7_shuts_44 : decode cX7_shuts 44 = .ok (.aload_n 0, 1) := by decide +kernel
theorem dX7_shuts_45 : decode cX7_shuts 45 = .ok (.getfield 9, 3) := by decide +kernel
theorem dX7_shuts_48 : decode cX7_shuts 48 = .ok (.iconst 2, 1) := by decide +kernel
theorem dX7_shuts_49 : decode cX7_shuts 49 = .ok (.iconst 2, 1) := by decide +kernel
theorem dX7_shuts_50 : decode cX7_shuts 50 = .ok (.iload_n 2, 1) := by decide +kernel
theorem dX7_shuts_51 : decode cX7_shuts 51 = .ok (.imul, 1) := by decide +kernel
theorem dX7_shuts_52 : decode cX7_shuts 52 = .ok (.iadd, 1) := by decide +kernel
theorem dX7_shuts_53 : decode cX7_shuts 53 = .ok (.iconst 0, 1) := by decide +kernel
theorem dX7_shuts_54 : decode cX7_shuts 54 = .ok (.iastore, 1) := by decide +kernel
theorem dX7_shuts_55 : decode cX7_shuts 55 = .ok (.aload_n 0, 1) := by decide +kernel
theorem dX7_shuts_56 : decode cX7_shuts 56 = .ok (.getfield 9, 3) := by decide +kernel
theorem dX7_shuts_59 : decode cX7_shuts 59 = .ok (.iconst 2, 1) := by decide +kernel
theorem dX7_shuts_60 : decode cX7_shuts 60 = .ok (.iconst 2, 1) := by decide +kernel
theorem dX7_shuts_61 : decode cX7_shuts 61 = .ok (.iload_n 2, 1) := by decide +kernel
theorem dX7_shuts_62 : decode cX7_shuts 62 = .ok (.imul, 1) := by decide +kernel
theorem dX7_shuts_63 : decode cX7_shuts 63 = .ok (.iadd, 1) := by decide +kernel
theorem dX7_shuts_64 : decode cX7_shuts 64 = .ok (.iconst 1, 1) := by decide +kernel
theorem dX7_shuts_65 : decode cX7_shuts 65 = .ok (.iadd, 1) := by decide +kernel
theorem dX7_shuts_66 : decode cX7_shuts 66 = .ok (.iconst 0, 1) := by decide +kernel
theorem dX7_shuts_67 : decode cX7_shuts 67 = .ok (.iastore, 1) := by decide +kernel
theorem dX7_shuts_68 : decode cX7_shuts 68 = .ok (.aload_n 0, 1) := by decide +kernel
theorem dX7_shuts_69 : decode cX7_shuts 69 = .ok (.getfield 9, 3) := by decide +kernel
theorem dX7_shuts_72 : decode cX7_shuts 72 = .ok (.iconst 0, 1) := by decide +kernel
theorem dX7_shuts_73 : decode cX7_shuts 73 = .ok (.iload_n 2, 1) := by decide +kernel
theorem dX7_shuts_74 : decode cX7_shuts 74 = .ok (.iastore, 1) := by decide +kernel
theorem dX7_shuts_75 : decode cX7_shuts 75 = .ok (.return_, 1) := by decide +kernel
theorem dX7_putsIn_0 : decode cX7_putsIn 0 = .ok (.aload_n 0, 1) := by decide +kernel
theorem dX7_putsIn_1 : decode cX7_putsIn 1 = .ok (.iload_n 1, 1) := by decide +kernel
theorem dX7_putsIn_2 : decode cX7_putsIn 2 = .ok (.invokevirtual 77, 3) := by decide +kernel
theorem dX7_putsIn_5 : decode cX7_putsIn 5 = .ok (.istore_n 3, 1) := by decide +kernel
theorem dX7_putsIn_6 : decode cX7_putsIn 6 = .ok (.aload_n 0, 1) := by decide +kernel
theorem dX7_putsIn_7 : decode cX7_putsIn 7 = .ok (.iload_n 1, 1) := by decide +kernel
theorem dX7_putsIn_8 : decode cX7_putsIn 8 = .ok (.iload_n 2, 1) := by decide +kernel
theorem dX7_putsIn_9 : decode cX7_putsIn 9 = .ok (.invokevirtual 80, 3) := by decide +kernel
theorem dX7_putsIn_12 : decode cX7_putsIn 12 = .ok (.iload_n 3, 1) := by decide +kernel
theorem dX7_putsIn_13 : decode cX7_putsIn 13 = .ok (.aload_n 0, 1) := by decide +kernel
theorem dX7_putsIn_14 : decode cX7_putsIn 14 = .ok (.aload_n 0, 1) := by decide +kernel
theorem dX7_putsIn_15 : decode cX7_putsIn 15 = .ok (.iload_n 1, 1) := by decide +kernel
theorem dX7_putsIn_16 : decode cX7_putsIn 16 = .ok (.invokevirtual 61, 3) := by decide +kernel
theorem dX7_putsIn_19 : decode cX7_putsIn 19 = .ok (.invokevirtual 83, 3) := by decide +kernel
theorem dX7_putsIn_22 : decode cX7_putsIn 22 = .ok (.isub, 1) := by decide +kernel
theorem dX7_putsIn_23 : decode cX7_putsIn 23 = .ok (.ireturn, 1) := by decide +kernel
theorem dX7_takesOut_0 : decode cX7_takesOut 0 = .ok (.aload_n 0, 1) := by decide +kernel
theorem dX7_takesOut_1 : decode cX7_takesOut 1 = .ok (.iload_n 1, 1) := by decide +kernel
theorem dX7_takesOut_2 : decode cX7_takesOut 2 = .ok (.invokevirtual 83, 3) := by decide +kernel
theorem dX7_takesOut_5 : decode cX7_takesOut 5 = .ok (.istore_n 2, 1) := by decide +kernel
theorem dX7_takesOut_6 : decode cX7_takesOut 6 = .ok (.aload_n 0, 1) := by decide +kernel
theorem dX7_takesOut_7 : decode cX7_takesOut 7 = .ok (.iload_n 1, 1) := by decide +kernel
theorem dX7_takesOut_8 : decode cX7_takesOut 8 = .ok (.invokevirtual 57, 3) := by decide +kernel
theorem dX7_takesOut_11 : decode cX7_takesOut 11 = .ok (.istore_n 3, 1) := by decide +kernel
theorem dX7_takesOut_12 : decode cX7_takesOut 12 = .ok (.aload_n 0, 1) := by decide +kernel
theorem dX7_takesOut_13 : decode cX7_takesOut 13 = .ok (.iload_n 1, 1) := by decide +kernel
theorem dX7_takesOut_14 : decode cX7_takesOut 14 = .ok (.invokevirtual 86, 3) := by decide +kernel
theorem dX7_takesOut_17 : decode cX7_takesOut 17 = .ok (.aload_n 0, 1) := by decide +kernel
theorem dX7_takesOut_18 : decode cX7_takesOut 18 = .ok (.iload_n 3, 1) := by decide +kernel
theorem dX7_takesOut_19 : decode cX7_takesOut 19 = .ok (.invokevirtual 77, 3) := by decide +kernel
theorem dX7_takesOut_22 : decode cX7_takesOut 22 = .ok (.iload_n 2, 1) := by decide +kernel
theorem dX7_takesOut_23 : decode cX7_takesOut 23 = .ok (.isub, 1) := by decide +kernel
theorem dX7_takesOut_24 : decode cX7_takesOut 24 = .ok (.ireturn, 1) := by decide +kernel
theorem dX7_w_0 : decode cX7_w 0 = .ok (.aload_n 0, 1) := by decide +kernel
theorem dX7_w_1 : decode cX7_w 1 = .ok (.getfield 9, 3) := by decide +kernel
theorem dX7_w_4 : decode cX7_w 4 = .ok (.bipush 50, 2) := by decide +kernel
theorem dX7_w_6 : decode cX7_w 6 = .ok (.iconst 5, 1) := by decide +kernel
theorem dX7_w_7 : decode cX7_w 7 = .ok (.iload_n 1, 1) := by decide +kernel
theorem dX7_w_8 : decode cX7_w 8 = .ok (.imul, 1) := by decide +kernel
theorem dX7_w_9 : decode cX7_w 9 = .ok (.iadd, 1) := by decide +kernel
theorem dX7_w_10 : decode cX7_w 10 = .ok (.iload_n 2, 1) := by decide +kernel
theorem dX7_w_11 : decode cX7_w 11 = .ok (.iadd, 1) := by decide +kernel
theorem dX7_w_12 : decode cX7_w 12 = .ok (.iaload, 1) := by decide +kernel
theorem dX7_w_13 : decode cX7_w 13 = .ok (.ireturn, 1) := by decide +kernel
theorem dX7_isWithin_0 : decode cX7_isWithin 0 = .ok (.aload_n 0, 1) := by decide +kernel
theorem dX7_isWithin_1 : decode cX7_isWithin 1 = .ok (.iload_n 1, 1) := by decide +kernel
theorem dX7_isWithin_2 : decode cX7_isWithin 2 = .ok (.iconst 0, 1) := by decide +kernel
theorem dX7_isWithin_3 : decode cX7_isWithin 3 = .ok (.invokevirtual 90, 3) := by decide +kernel
theorem dX7_isWithin_6 : decode cX7_isWithin 6 = .ok (.iconst 1, 1) := by decide +kernel
theorem dX7_isWithin_7 : decode cX7_isWithin 7 = .ok (.if_icmp .ne 36, 3) := by decide +kernel
theorem dX7_isWithin_10 : decode cX7_isWithin 10 = .ok (.iload_n 2, 1) := by decide +kernel
theorem dX7_isWithin_11 : decode cX7_isWithin 11 = .ok (.aload_n 0, 1) := by decide +kernel
theorem dX7_isWithin_12 : decode cX7_isWithin 12 = .ok (.iload_n 1, 1) := by decide +kernel
theorem dX7_isWithin_13 : decode cX7_isWithin 13 = .ok (.iconst 1, 1) := by decide +kernel
theorem dX7_isWithin_14 : decode cX7_isWithin 14 = .ok (.invokevirtual 90, 3) := by decide +kernel
theorem dX7_isWithin_17 : decode cX7_isWithin 17 = .ok (.aload_n 0, 1) := by decide +kernel
theorem dX7_isWithin_18 : decode cX7_isWithin 18 = .ok (.iload_n 1, 1) := by decide +kernel
theorem dX7_isWithin_19 : decode cX7_isWithin 19 = .ok (.iconst 2, 1) := by decide +kernel
theorem dX7_isWithin_20 : decode cX7_isWithin 20 = .ok (.invokevirtual 90, 3) := by decide +kernel
theorem dX7_isWithin_23 : decode cX7_isWithin 23 = .ok (.invokestatic 30, 3) := by decide +kernel
theorem dX7_isWithin_26 : decode cX7_isWithin 26 = .ok (.ifCond .eq 17, 3) := by decide +kernel
theorem dX7_isWithin_29 : decode cX7_isWithin 29 = .ok (.iload_n 3, 1) := by decide +kernel
theorem dX7_isWithin_30 : decode cX7_isWithin 30 = .ok (.aload_n 0, 1) := by decide +kernel
theorem dX7_isWithin_31 : decode cX7_isWithin 31 = .ok (.iload_n 1, 1) := by decide +kernel
theorem dX7_isWithin_32 : decode cX7_isWithin 32 = .ok (.iconst 3, 1) := by decide +kernel
theorem dX7_isWithin_33 : decode cX7_isWithin 33 = .ok (.invokevirtual 90, 3) := by decide +kernel
theorem dX7_isWithin_36 : decode cX7_isWithin 36 = .ok (.if_icmp .lt 7, 3) := by decide +kernel
theorem dX7_isWithin_39 : decode cX7_isWithin 39 = .ok (.iconst 1, 1) := by decide +kernel
theorem dX7_isWithin_40 : decode cX7_isWithin 40 = .ok (.goto 4, 3) := by decide +kernel
theorem dX7_isWithin_43 : decode cX7_isWithin 43 = .ok (.iconst 0, 1) := by decide +kernel
theorem dX7_isWithin_44 : decode cX7_isWithin 44 = .ok (.ireturn, 1) := by decide +kernel
theorem dX7_inWindow_0 : decode cX7_inWindow 0 = .ok (.iconst 0, 1) := by decide +kernel
theorem dX7_inWindow_1 : decode cX7_inWindow 1 = .ok (.istore_n 2, 1) := by decide +kernel
theorem dX7_inWindow_2 : decode cX7_inWindow 2 = .ok (.iconst 0, 1) := by decide +kernel
theorem dX7_inWindow_3 : decode cX7_inWindow 3 = .ok (.istore_n 3, 1) := by decide +kernel
theorem dX7_inWindow_4 : decode cX7_inWindow 4 = .ok (.iload_n 3, 1) := by decide +kernel
theorem dX7_inWindow_5 : decode cX7_inWindow 5 = .ok (.aload_n 0, 1) := by decide +kernel
theorem dX7_inWindow_6 : decode cX7_inWindow 6 = .ok (.getfield 9, 3) := by decide +kernel
theorem dX7_inWindow_9 : decode cX7_inWindow 9 = .ok (.iconst 0, 1) := by decide +kernel
theorem dX7_inWindow_10 : decode cX7_inWindow 10 = .ok (.iaload, 1) := by decide +kernel
theorem dX7_inWindow_11 : decode cX7_inWindow 11 = .ok (.if_icmp .ge 35, 3) := by decide +kernel
theorem dX7_inWindow_14 : decode cX7_inWindow 14 = .ok (.iload_n 2, 1) := by decide +kernel
theorem dX7_inWindow_15 : decode cX7_inWindow 15 = .ok (.aload_n 0, 1) := by decide +kernel
theorem dX7_inWindow_16 : decode cX7_inWindow 16 = .ok (.iload_n 1, 1) := by decide +kernel
theorem dX7_inWindow_17 : decode cX7_inWindow 17 = .ok (.aload_n 0, 1) := by decide +kernel
theorem dX7_inWindow_18 : decode cX7_inWindow 18 = .ok (.iload_n 3, 1) := by decide +kernel
theorem dX7_inWindow_19 : decode cX7_inWindow 19 = .ok (.invokevirtual 57, 3) := by decide +kernel
theorem dX7_inWindow_22 : decode cX7_inWindow 22 = .ok (.aload_n 0, 1) := by decide +kernel
theorem dX7_inWindow_23 : decode cX7_inWindow 23 = .ok (.iload_n 3, 1) := by decide +kernel
theorem dX7_inWindow_24 : decode cX7_inWindow 24 = .ok (.invokevirtual 64, 3) := by decide +kernel
theorem dX7_inWindow_27 : decode cX7_inWindow 27 = .ok (.invokevirtual 94, 3) := by decide +kernel
theorem dX7_inWindow_30 : decode cX7_inWindow 30 = .ok (.ifCond .eq 7, 3) := by decide +kernel
theorem dX7_inWindow_33 : decode cX7_inWindow 33 = .ok (.iconst 1, 1) := by decide +kernel
theorem dX7_inWindow_34 : decode cX7_inWindow 34 = .ok (.goto 4, 3) := by decide +kernel
theorem dX7_inWindow_37 : decode cX7_inWindow 37 = .ok (.iconst 0, 1) := by decide +kernel
theorem dX7_inWindow_38 : decode cX7_inWindow 38 = .ok (.iadd, 1) := by decide +kernel
theorem dX7_inWindow_39 : decode cX7_inWindow 39 = .ok (.istore_n 2, 1) := by decide +kernel
theorem dX7_inWindow_40 : decode cX7_inWindow 40 = .ok (.iinc 3 1, 3) := by decide +kernel
theorem dX7_inWindow_43 : decode cX7_inWindow 43 = .ok (.goto (-39), 3) := by decide +kernel
theorem dX7_inWindow_46 : decode cX7_inWindow 46 = .ok (.iload_n 2, 1) := by decide +kernel
theorem dX7_inWindow_47 : decode cX7_inWindow 47 = .ok (.ireturn, 1) := by decide +kernel
theorem dX7_overfull_0 : decode cX7_overfull 0 = .ok (.iconst 0, 1) := by decide +kernel
theorem dX7_overfull_1 : decode cX7_overfull 1 = .ok (.istore_n 1, 1) := by decide +kernel
theorem dX7_overfull_2 : decode cX7_overfull 2 = .ok (.iload_n 1, 1) := by decide +kernel
theorem dX7_overfull_3 : decode cX7_overfull 3 = .ok (.iconst 4, 1) := by decide +kernel
theorem dX7_overfull_4 : decode cX7_overfull 4 = .ok (.if_icmp .ge 35, 3) := by decide +kernel
theorem dX7_overfull_7 : decode cX7_overfull 7 = .ok (.aload_n 0, 1) := by decide +kernel
theorem dX7_overfull_8 : decode cX7_overfull 8 = .ok (.iload_n 1, 1) := by decide +kernel
theorem dX7_overfull_9 : decode cX7_overfull 9 = .ok (.iconst 0, 1) := by decide +kernel
theorem dX7_overfull_10 : decode cX7_overfull 10 = .ok (.invokevirtual 90, 3) := by decide +kernel
theorem dX7_overfull_13 : decode cX7_overfull 13 = .ok (.iconst 1, 1) := by decide +kernel
theorem dX7_overfull_14 : decode cX7_overfull 14 = .ok (.if_icmp .ne 19, 3) := by decide +kernel
theorem dX7_overfull_17 : decode cX7_overfull 17 = .ok (.aload_n 0, 1) := by decide +kernel
theorem dX7_overfull_18 : decode cX7_overfull 18 = .ok (.iload_n 1, 1) := by decide +kernel
theorem dX7_overfull_19 : decode cX7_overfull 19 = .ok (.invokevirtual 97, 3) := by decide +kernel
theorem dX7_overfull_22 : decode cX7_overfull 22 = .ok (.aload_n 0, 1) := by decide +kernel
theorem dX7_overfull_23 : decode cX7_overfull 23 = .ok (.iload_n 1, 1) := by decide +kernel
theorem dX7_overfull_24 : decode cX7_overfull 24 = .ok (.iconst 4, 1) := by decide +kernel
theorem dX7_overfull_25 : decode cX7_overfull 25 = .ok (.invokevirtual 90, 3) := by decide +kernel
theorem dX7_overfull_28 : decode cX7_overfull 28 = .ok (.if_icmp .le 5, 3) := by decide +kernel
theorem dX7_overfull_31 : decode cX7_overfull 31 = .ok (.iload_n 1, 1) := by decide +kernel
theorem dX7_overfull_32 : decode cX7_overfull 32 = .ok (.ireturn, 1) := by decide +kernel
theorem dX7_overfull_33 : decode cX7_overfull 33 = .ok (.iinc 1 1, 3) := by decide +kernel
theorem dX7_overfull_36 : decode cX7_overfull 36 = .ok (.goto (-34), 3) := by decide +kernel
theorem dX7_overfull_39 : decode cX7_overfull 39 = .ok (.iconst (-1), 1) := by decide +kernel
theorem dX7_overfull_40 : decode cX7_overfull 40 = .ok (.ireturn, 1) := by decide +kernel
theorem dX7_counts_0 : decode cX7_counts 0 = .ok (.aload_n 0, 1) := by decide +kernel
theorem dX7_counts_1 : decode cX7_counts 1 = .ok (.iload_n 1, 1) := by decide +kernel
theorem dX7_counts_2 : decode cX7_counts 2 = .ok (.putfield 41, 3) := by decide +kernel
theorem dX7_counts_5 : decode cX7_counts 5 = .ok (.aload_n 0, 1) := by decide +kernel
theorem dX7_counts_6 : decode cX7_counts 6 = .ok (.getfield 9, 3) := by decide +kernel
theorem dX7_counts_9 : decode cX7_counts 9 = .ok (.iconst 1, 1) := by decide +kernel
theorem dX7_counts_10 : decode cX7_counts 10 = .ok (.dup2, 1) := by decide +kernel
theorem dX7_counts_11 : decode cX7_counts 11 = .ok (.iaload, 1) := by decide +kernel
theorem dX7_counts_12 : decode cX7_counts 12 = .ok (.iload_n 1, 1) := by decide +kernel
theorem dX7_counts_13 : decode cX7_counts 13 = .ok (.iadd, 1) := by decide +kernel
theorem dX7_counts_14 : decode cX7_counts 14 = .ok (.iastore, 1) := by decide +kernel
theorem dX7_counts_15 : decode cX7_counts 15 = .ok (.aload_n 0, 1) := by decide +kernel
theorem dX7_counts_16 : decode cX7_counts 16 = .ok (.aload_n 0, 1) := by decide +kernel
theorem dX7_counts_17 : decode cX7_counts 17 = .ok (.invokevirtual 100, 3) := by decide +kernel
theorem dX7_counts_20 : decode cX7_counts 20 = .ok (.ifCond .lt 7, 3) := by decide +kernel
theorem dX7_counts_23 : decode cX7_counts 23 = .ok (.iconst 1, 1) := by decide +kernel
theorem dX7_counts_24 : decode cX7_counts 24 = .ok (.goto 4, 3) := by decide +kernel
theorem dX7_counts_27 : decode cX7_counts 27 = .ok (.iconst 0, 1) := by decide +kernel
theorem dX7_counts_28 : decode cX7_counts 28 = .ok (.iconst 3, 1) := by decide +kernel
theorem dX7_counts_29 : decode cX7_counts 29 = .ok (.aload_n 0, 1) := by decide +kernel
theorem dX7_counts_30 : decode cX7_counts 30 = .ok (.invokevirtual 100, 3) := by decide +kernel
theorem dX7_counts_33 : decode cX7_counts 33 = .ok (.invokevirtual 104, 3) := by decide +kernel
theorem dX7_counts_36 : decode cX7_counts 36 = .ok (.ifCond .eq 7, 3) := by decide +kernel
theorem dX7_counts_39 : decode cX7_counts 39 = .ok (.iconst 3, 1) := by decide +kernel
theorem dX7_counts_40 : decode cX7_counts 40 = .ok (.goto 4, 3) := by decide +kernel
theorem dX7_counts_43 : decode cX7_counts 43 = .ok (.iconst 0, 1) := by decide +kernel
theorem dX7_counts_44 : decode cX7_counts 44 = .ok (.ireturn, 1) := by decide +kernel
theorem dX7_inserts_0 : decode cX7_inserts 0 = .ok (.iload_n 1, 1) := by decide +kernel
theorem dX7_inserts_1 : decode cX7_inserts 1 = .ok (.invokestatic 108, 3) := by decide +kernel
theorem dX7_inserts_4 : decode cX7_inserts 4 = .ok (.ifCond .eq 10, 3) := by decide +kernel
theorem dX7_inserts_7 : decode cX7_inserts 7 = .ok (.iload_n 2, 1) := by decide +kernel
theorem dX7_inserts_8 : decode cX7_inserts 8 = .ok (.invokestatic 108, 3) := by decide +kernel
theorem dX7_inserts_11 : decode cX7_inserts 11 = .ok (.ifCond .ne 5, 3) := by decide +kernel
theorem dX7_inserts_14 : decode cX7_inserts 14 = .ok (.iconst 2, 1) := by decide +kernel
theorem dX7_inserts_15 : decode cX7_inserts 15 = .ok (.ireturn, 1) := by decide +kernel
theorem dX7_inserts_16 : decode cX7_inserts 16 = .ok (.aload_n 0, 1) := by decide +kernel
theorem dX7_inserts_17 : decode cX7_inserts 17 = .ok (.iload_n 1, 1) := by decide +kernel
theorem dX7_inserts_18 : decode cX7_inserts 18 = .ok (.invokevirtual 112, 3) := by decide +kernel
theorem dX7_inserts_21 : decode cX7_inserts 21 = .ok (.istore_n 3, 1) := by decide +kernel
theorem dX7_inserts_22 : decode cX7_inserts 22 = .ok (.aload_n 0, 1) := by decide +kernel
theorem dX7_inserts_23 : decode cX7_inserts 23 = .ok (.aload_n 0, 1) := by decide +kernel
theorem dX7_inserts_24 : decode cX7_inserts 24 = .ok (.getfield 9, 3) := by decide +kernel
theorem dX7_inserts_27 : decode cX7_inserts 27 = .ok (.iconst 0, 1) := by decide +kernel
theorem dX7_inserts_28 : decode cX7_inserts 28 = .ok (.iaload, 1) := by decide +kernel
theorem dX7_inserts_29 : decode cX7_inserts 29 = .ok (.bipush 24, 2) := by decide +kernel
theorem dX7_inserts_31 : decode cX7_inserts 31 = .ok (.if_icmp .ne 7, 3) := by decide +kernel
theorem dX7_inserts_34 : decode cX7_inserts 34 = .ok (.iconst 1, 1) := by decide +kernel
theorem dX7_inserts_35 : decode cX7_inserts 35 = .ok (.goto 4, 3) := by decide +kernel
theorem dX7_inserts_38 : decode cX7_inserts 38 = .ok (.iconst 0, 1) := by decide +kernel
theorem dX7_inserts_39 : decode cX7_inserts 39 = .ok (.iconst 1, 1) := by decide +kernel
theorem dX7_inserts_40 : decode cX7_inserts 40 = .ok (.bipush 24, 2) := by decide +kernel
theorem dX7_inserts_42 : decode cX7_inserts 42 = .ok (.invokevirtual 104, 3) := by decide +kernel
theorem dX7_inserts_45 : decode cX7_inserts 45 = .ok (.ifCond .ne 33, 3) := by decide +kernel
theorem dX7_inserts_48 : decode cX7_inserts 48 = .ok (.aload_n 0, 1) := by decide +kernel
theorem dX7_inserts_49 : decode cX7_inserts 49 = .ok (.iload_n 3, 1) := by decide +kernel
theorem dX7_inserts_50 : decode cX7_inserts 50 = .ok (.ifCond .lt 7, 3) := by decide +kernel
theorem dX7_inserts_53 : decode cX7_inserts 53 = .ok (.iconst 1, 1) := by decide +kernel
theorem dX7_inserts_54 : decode cX7_inserts 54 = .ok (.goto 4, 3) := by decide +kernel
theorem dX7_inserts_57 : decode cX7_inserts 57 = .ok (.iconst 0, 1) := by decide +kernel
theorem dX7_inserts_58 : decode cX7_inserts 58 = .ok (.iconst 2, 1) := by decide +kernel
theorem dX7_inserts_59 : decode cX7_inserts 59 = .ok (.iload_n 3, 1) := by decide +kernel
theorem dX7_inserts_60 : decode cX7_inserts 60 = .ok (.ifCond .ge 7, 3) := by decide +kernel
theorem dX7_inserts_63 : decode cX7_inserts 63 = .ok (.iconst 0, 1) := by decide +kernel
theorem dX7_inserts_64 : decode cX7_inserts 64 = .ok (.goto 8, 3) := by decide +kernel
theorem dX7_inserts_67 : decode cX7_inserts 67 = .ok (.aload_n 0, 1) := by decide +kernel
theorem dX7_inserts_68 : decode cX7_inserts 68 = .ok (.iload_n 3, 1) := by decide +kernel
theorem dX7_inserts_69 : decode cX7_inserts 69 = .ok (.invokevirtual 64, 3) := by decide +kernel
theorem dX7_inserts_72 : decode cX7_inserts 72 = .ok (.invokevirtual 104, 3) := by decide +kernel
theorem dX7_inserts_75 : decode cX7_inserts 75 = .ok (.ifCond .eq 5, 3) := by decide +kernel
theorem dX7_inserts_78 : decode cX7_inserts 78 = .ok (.iconst 3, 1) := by decide +kernel
theorem dX7_inserts_79 : decode cX7_inserts 79 = .ok (.ireturn, 1) := by decide +kernel
theorem dX7_inserts_80 : decode cX7_inserts 80 = .ok (.aload_n 0, 1) := by decide +kernel
theorem dX7_inserts_81 : decode cX7_inserts 81 = .ok (.aload_n 0, 1) := by decide +kernel
theorem dX7_inserts_82 : decode cX7_inserts 82 = .ok (.iload_n 1, 1) := by decide +kernel
theorem dX7_inserts_83 : decode cX7_inserts 83 = .ok (.iload_n 2, 1) := by decide +kernel
theorem dX7_inserts_84 : decode cX7_inserts 84 = .ok (.invokevirtual 115, 3) := by decide +kernel
theorem dX7_inserts_87 : decode cX7_inserts 87 = .ok (.invokevirtual 118, 3) := by decide +kernel
theorem dX7_inserts_90 : decode cX7_inserts 90 = .ok (.ireturn, 1) := by decide +kernel
theorem dX7_insert_0 : decode cX7_insert 0 = .ok (.aload_n 0, 1) := by decide +kernel
theorem dX7_insert_1 : decode cX7_insert 1 = .ok (.invokevirtual 121, 3) := by decide +kernel
theorem dX7_insert_4 : decode cX7_insert 4 = .ok (.aload_n 0, 1) := by decide +kernel
theorem dX7_insert_5 : decode cX7_insert 5 = .ok (.aload_n 0, 1) := by decide +kernel
theorem dX7_insert_6 : decode cX7_insert 6 = .ok (.iload_n 1, 1) := by decide +kernel
theorem dX7_insert_7 : decode cX7_insert 7 = .ok (.iload_n 2, 1) := by decide +kernel
theorem dX7_insert_8 : decode cX7_insert 8 = .ok (.invokevirtual 124, 3) := by decide +kernel
theorem dX7_insert_11 : decode cX7_insert 11 = .ok (.iconst 0, 1) := by decide +kernel
theorem dX7_insert_12 : decode cX7_insert 12 = .ok (.iconst 1, 1) := by decide +kernel
theorem dX7_insert_13 : decode cX7_insert 13 = .ok (.iconst 2, 1) := by decide +kernel
theorem dX7_insert_14 : decode cX7_insert 14 = .ok (.iconst 0, 1) := by decide +kernel
theorem dX7_insert_15 : decode cX7_insert 15 = .ok (.invokevirtual 127, 3) := by decide +kernel
theorem dX7_insert_18 : decode cX7_insert 18 = .ok (.ireturn, 1) := by decide +kernel
theorem dX7_deletes_0 : decode cX7_deletes 0 = .ok (.aload_n 0, 1) := by decide +kernel
theorem dX7_deletes_1 : decode cX7_deletes 1 = .ok (.iload_n 1, 1) := by decide +kernel
theorem dX7_deletes_2 : decode cX7_deletes 2 = .ok (.invokevirtual 112, 3) := by decide +kernel
theorem dX7_deletes_5 : decode cX7_deletes 5 = .ok (.istore_n 2, 1) := by decide +kernel
theorem dX7_deletes_6 : decode cX7_deletes 6 = .ok (.iload_n 2, 1) := by decide +kernel
theorem dX7_deletes_7 : decode cX7_deletes 7 = .ok (.ifCond .ge 7, 3) := by decide +kernel
theorem dX7_deletes_10 : decode cX7_deletes 10 = .ok (.iconst 4, 1) := by decide +kernel
theorem dX7_deletes_11 : decode cX7_deletes 11 = .ok (.goto 12, 3) := by decide +kernel
theorem dX7_deletes_14 : decode cX7_deletes 14 = .ok (.aload_n 0, 1) := by decide +kernel
theorem dX7_deletes_15 : decode cX7_deletes 15 = .ok (.aload_n 0, 1) := by decide +kernel
theorem dX7_deletes_16 : decode cX7_deletes 16 = .ok (.iload_n 2, 1) := by decide +kernel
theorem dX7_deletes_17 : decode cX7_deletes 17 = .ok (.invokevirtual 131, 3) := by decide +kernel
theorem dX7_deletes_20 : decode cX7_deletes 20 = .ok (.invokevirtual 118, 3) := by decide +kernel
theorem dX7_deletes_23 : decode cX7_deletes 23 = .ok (.ireturn, 1) := by decide +kernel
theorem dX7_delete_0 : decode cX7_delete 0 = .ok (.aload_n 0, 1) := by decide +kernel
theorem dX7_delete_1 : decode cX7_delete 1 = .ok (.invokevirtual 121, 3) := by decide +kernel
theorem dX7_delete_4 : decode cX7_delete 4 = .ok (.aload_n 0, 1) := by decide +kernel
theorem dX7_delete_5 : decode cX7_delete 5 = .ok (.aload_n 0, 1) := by decide +kernel
theorem dX7_delete_6 : decode cX7_delete 6 = .ok (.iload_n 1, 1) := by decide +kernel
theorem dX7_delete_7 : decode cX7_delete 7 = .ok (.invokevirtual 134, 3) := by decide +kernel
theorem dX7_delete_10 : decode cX7_delete 10 = .ok (.iconst 0, 1) := by decide +kernel
theorem dX7_delete_11 : decode cX7_delete 11 = .ok (.iconst 0, 1) := by decide +kernel
theorem dX7_delete_12 : decode cX7_delete 12 = .ok (.iconst 0, 1) := by decide +kernel
theorem dX7_delete_13 : decode cX7_delete 13 = .ok (.iconst 1, 1) := by decide +kernel
theorem dX7_delete_14 : decode cX7_delete 14 = .ok (.invokevirtual 127, 3) := by decide +kernel
theorem dX7_delete_17 : decode cX7_delete 17 = .ok (.ireturn, 1) := by decide +kernel
theorem dX7_prefers_0 : decode cX7_prefers 0 = .ok (.aload_n 0, 1) := by decide +kernel
theorem dX7_prefers_1 : decode cX7_prefers 1 = .ok (.iload_n 1, 1) := by decide +kernel
theorem dX7_prefers_2 : decode cX7_prefers 2 = .ok (.invokevirtual 112, 3) := by decide +kernel
theorem dX7_prefers_5 : decode cX7_prefers 5 = .ok (.istore_n 3, 1) := by decide +kernel
theorem dX7_prefers_6 : decode cX7_prefers 6 = .ok (.iload_n 3, 1) := by decide +kernel
theorem dX7_prefers_7 : decode cX7_prefers 7 = .ok (.ifCond .ge 5, 3) := by decide +kernel
theorem dX7_prefers_10 : decode cX7_prefers 10 = .ok (.iconst 4, 1) := by decide +kernel
theorem dX7_prefers_11 : decode cX7_prefers 11 = .ok (.ireturn, 1) := by decide +kernel
theorem dX7_prefers_12 : decode cX7_prefers 12 = .ok (.iload_n 2, 1) := by decide +kernel
theorem dX7_prefers_13 : decode cX7_prefers 13 = .ok (.invokestatic 108, 3) := by decide +kernel
theorem dX7_prefers_16 : decode cX7_prefers 16 = .ok (.ifCond .ne 5, 3) := by decide +kernel
theorem dX7_prefers_19 : decode cX7_prefers 19 = .ok (.iconst 2, 1) := by decide +kernel
theorem dX7_prefers_20 : decode cX7_prefers 20 = .ok (.ireturn, 1) := by decide +kernel
theorem dX7_prefers_21 : decode cX7_prefers 21 = .ok (.aload_n 0, 1) := by decide +kernel
theorem dX7_prefers_22 : decode cX7_prefers 22 = .ok (.iload_n 3, 1) := by decide +kernel
theorem dX7_prefers_23 : decode cX7_prefers 23 = .ok (.invokevirtual 83, 3) := by decide +kernel
theorem dX7_prefers_26 : decode cX7_prefers 26 = .ok (.istore 4, 2) := by decide +kernel
theorem dX7_prefers_28 : decode cX7_prefers 28 = .ok (.aload_n 0, 1) := by decide +kernel
theorem dX7_prefers_29 : decode cX7_prefers 29 = .ok (.getfield 9, 3) := by decide +kernel
theorem dX7_prefers_32 : decode cX7_prefers 32 = .ok (.iconst 2, 1) := by decide +kernel
theorem dX7_prefers_33 : decode cX7_prefers 33 = .ok (.iconst 2, 1) := by decide +kernel
theorem dX7_prefers_34 : decode cX7_prefers 34 = .ok (.iload_n 3, 1) := by decide +kernel
theorem dX7_prefers_35 : decode cX7_prefers 35 = .ok (.imul, 1) := by decide +kernel
theorem dX7_prefers_36 : decode cX7_prefers 36 = .ok (.iadd, 1) := by decide +kernel
theorem dX7_prefers_37 : decode cX7_prefers 37 = .ok (.iconst 1, 1) := by decide +kernel
theorem dX7_prefers_38 : decode cX7_prefers 38 = .ok (.iadd, 1) := by decide +kernel
theorem dX7_prefers_39 : decode cX7_prefers 39 = .ok (.iload_n 2, 1) := by decide +kernel
theorem dX7_prefers_40 : decode cX7_prefers 40 = .ok (.iastore, 1) := by decide +kernel
theorem dX7_prefers_41 : decode cX7_prefers 41 = .ok (.aload_n 0, 1) := by decide +kernel
theorem dX7_prefers_42 : decode cX7_prefers 42 = .ok (.iload_n 3, 1) := by decide +kernel
theorem dX7_prefers_43 : decode cX7_prefers 43 = .ok (.invokevirtual 83, 3) := by decide +kernel
theorem dX7_prefers_46 : decode cX7_prefers 46 = .ok (.iload 4, 2) := by decide +kernel
theorem dX7_prefers_48 : decode cX7_prefers 48 = .ok (.isub, 1) := by decide +kernel
theorem dX7_prefers_49 : decode cX7_prefers 49 = .ok (.istore 5, 2) := by decide +kernel
theorem dX7_prefers_51 : decode cX7_prefers 51 = .ok (.aload_n 0, 1) := by decide +kernel
theorem dX7_prefers_52 : decode cX7_prefers 52 = .ok (.iload 5, 2) := by decide +kernel
theorem dX7_prefers_54 : decode cX7_prefers 54 = .ok (.ifCond .ge 9, 3) := by decide +kernel
theorem dX7_prefers_57 : decode cX7_prefers 57 = .ok (.iload 5, 2) := by decide +kernel
theorem dX7_prefers_59 : decode cX7_prefers 59 = .ok (.ineg, 1) := by decide +kernel
theorem dX7_prefers_60 : decode cX7_prefers 60 = .ok (.goto 5, 3) := by decide +kernel
theorem dX7_prefers_63 : decode cX7_prefers 63 = .ok (.iload 5, 2) := by decide +kernel
theorem dX7_prefers_65 : decode cX7_prefers 65 = .ok (.invokevirtual 118, 3) := by decide +kernel
theorem dX7_prefers_68 : decode cX7_prefers 68 = .ok (.ireturn, 1) := by decide +kernel
theorem dX7_changePriority_0 : decode cX7_changePriority 0 = .ok (.aload_n 0, 1) := by decide +kernel
theorem dX7_changePriority_1 : decode cX7_changePriority 1 = .ok (.invokevirtual 121, 3) := by decide +kernel
theorem dX7_changePriority_4 : decode cX7_changePriority 4 = .ok (.aload_n 0, 1) := by decide +kernel
theorem dX7_changePriority_5 : decode cX7_changePriority 5 = .ok (.aload_n 0, 1) := by decide +kernel
theorem dX7_changePriority_6 : decode cX7_changePriority 6 = .ok (.iload_n 1, 1) := by decide +kernel
theorem dX7_changePriority_7 : decode cX7_changePriority 7 = .ok (.iload_n 2, 1) := by decide +kernel
theorem dX7_changePriority_8 : decode cX7_changePriority 8 = .ok (.invokevirtual 137, 3) := by decide +kernel
theorem dX7_changePriority_11 : decode cX7_changePriority 11 = .ok (.iconst 0, 1) := by decide +kernel
theorem dX7_changePriority_12 : decode cX7_changePriority 12 = .ok (.iconst 2, 1) := by decide +kernel
theorem dX7_changePriority_13 : decode cX7_changePriority 13 = .ok (.iconst 3, 1) := by decide +kernel
theorem dX7_changePriority_14 : decode cX7_changePriority 14 = .ok (.iconst 1, 1) := by decide +kernel
theorem dX7_changePriority_15 : decode cX7_changePriority 15 = .ok (.invokevirtual 127, 3) := by decide +kernel
theorem dX7_changePriority_18 : decode cX7_changePriority 18 = .ok (.ireturn, 1) := by decide +kernel
theorem dX7_moves_0 : decode cX7_moves 0 = .ok (.aload_n 0, 1) := by decide +kernel
theorem dX7_moves_1 : decode cX7_moves 1 = .ok (.iload_n 1, 1) := by decide +kernel
theorem dX7_moves_2 : decode cX7_moves 2 = .ok (.invokevirtual 112, 3) := by decide +kernel
theorem dX7_moves_5 : decode cX7_moves 5 = .ok (.istore_n 3, 1) := by decide +kernel
theorem dX7_moves_6 : decode cX7_moves 6 = .ok (.iload_n 3, 1) := by decide +kernel
theorem dX7_moves_7 : decode cX7_moves 7 = .ok (.ifCond .ge 5, 3) := by decide +kernel
theorem dX7_moves_10 : decode cX7_moves 10 = .ok (.iconst 4, 1) := by decide +kernel
theorem dX7_moves_11 : decode cX7_moves 11 = .ok (.ireturn, 1) := by decide +kernel
theorem dX7_moves_12 : decode cX7_moves 12 = .ok (.iload_n 2, 1) := by decide +kernel
theorem dX7_moves_13 : decode cX7_moves 13 = .ok (.invokestatic 108, 3) := by decide +kernel
theorem dX7_moves_16 : decode cX7_moves 16 = .ok (.ifCond .ne 5, 3) := by decide +kernel
theorem dX7_moves_19 : decode cX7_moves 19 = .ok (.iconst 2, 1) := by decide +kernel
theorem dX7_moves_20 : decode cX7_moves 20 = .ok (.ireturn, 1) := by decide +kernel
theorem dX7_moves_21 : decode cX7_moves 21 = .ok (.aload_n 0, 1) := by decide +kernel
theorem dX7_moves_22 : decode cX7_moves 22 = .ok (.iload_n 2, 1) := by decide +kernel
theorem dX7_moves_23 : decode cX7_moves 23 = .ok (.invokevirtual 112, 3) := by decide +kernel
theorem dX7_moves_26 : decode cX7_moves 26 = .ok (.istore 4, 2) := by decide +kernel
theorem dX7_moves_28 : decode cX7_moves 28 = .ok (.aload_n 0, 1) := by decide +kernel
theorem dX7_moves_29 : decode cX7_moves 29 = .ok (.iload 4, 2) := by decide +kernel
theorem dX7_moves_31 : decode cX7_moves 31 = .ok (.ifCond .lt 7, 3) := by decide +kernel
theorem dX7_moves_34 : decode cX7_moves 34 = .ok (.iconst 1, 1) := by decide +kernel
theorem dX7_moves_35 : decode cX7_moves 35 = .ok (.goto 4, 3) := by decide +kernel
theorem dX7_moves_38 : decode cX7_moves 38 = .ok (.iconst 0, 1) := by decide +kernel
theorem dX7_moves_39 : decode cX7_moves 39 = .ok (.iconst 2, 1) := by decide +kernel
theorem dX7_moves_40 : decode cX7_moves 40 = .ok (.iload 4, 2) := by decide +kernel
theorem dX7_moves_42 : decode cX7_moves 42 = .ok (.ifCond .ge 7, 3) := by decide +kernel
theorem dX7_moves_45 : decode cX7_moves 45 = .ok (.iconst 0, 1) := by decide +kernel
theorem dX7_moves_46 : decode cX7_moves 46 = .ok (.goto 9, 3) := by decide +kernel
theorem dX7_moves_49 : decode cX7_moves 49 = .ok (.aload_n 0, 1) := by decide +kernel
theorem dX7_moves_50 : decode cX7_moves 50 = .ok (.iload 4, 2) := by decide +kernel
theorem dX7_moves_52 : decode cX7_moves 52 = .ok (.invokevirtual 64, 3) := by decide +kernel
theorem dX7_moves_55 : decode cX7_moves 55 = .ok (.invokevirtual 104, 3) := by decide +kernel
theorem dX7_moves_58 : decode cX7_moves 58 = .ok (.ifCond .eq 5, 3) := by decide +kernel
theorem dX7_moves_61 : decode cX7_moves 61 = .ok (.iconst 3, 1) := by decide +kernel
theorem dX7_moves_62 : decode cX7_moves 62 = .ok (.ireturn, 1) := by decide +kernel
theorem dX7_moves_63 : decode cX7_moves 63 = .ok (.aload_n 0, 1) := by decide +kernel
theorem dX7_moves_64 : decode cX7_moves 64 = .ok (.iload_n 3, 1) := by decide +kernel
theorem dX7_moves_65 : decode cX7_moves 65 = .ok (.invokevirtual 64, 3) := by decide +kernel
theorem dX7_moves_68 : decode cX7_moves 68 = .ok (.istore 5, 2) := by decide +kernel
theorem dX7_moves_70 : decode cX7_moves 70 = .ok (.aload_n 0, 1) := by decide +kernel
theorem dX7_moves_71 : decode cX7_moves 71 = .ok (.iload_n 3, 1) := by decide +kernel
theorem dX7_moves_72 : decode cX7_moves 72 = .ok (.invokevirtual 131, 3) := by decide +kernel
theorem dX7_moves_75 : decode cX7_moves 75 = .ok (.istore 6, 2) := by decide +kernel
theorem dX7_moves_77 : decode cX7_moves 77 = .ok (.aload_n 0, 1) := by decide +kernel
theorem dX7_moves_78 : decode cX7_moves 78 = .ok (.iload 6, 2) := by decide +kernel
theorem dX7_moves_80 : decode cX7_moves 80 = .ok (.aload_n 0, 1) := by decide +kernel
theorem dX7_moves_81 : decode cX7_moves 81 = .ok (.iload_n 2, 1) := by decide +kernel
theorem dX7_moves_82 : decode cX7_moves 82 = .ok (.iload 5, 2) := by decide +kernel
theorem dX7_moves_84 : decode cX7_moves 84 = .ok (.invokevirtual 115, 3) := by decide +kernel
theorem dX7_moves_87 : decode cX7_moves 87 = .ok (.iadd, 1) := by decide +kernel
theorem dX7_moves_88 : decode cX7_moves 88 = .ok (.invokevirtual 118, 3) := by decide +kernel
theorem dX7_moves_91 : decode cX7_moves 91 = .ok (.ireturn, 1) := by decide +kernel
theorem dX7_moveKey_0 : decode cX7_moveKey 0 = .ok (.aload_n 0, 1) := by decide +kernel
theorem dX7_moveKey_1 : decode cX7_moveKey 1 = .ok (.invokevirtual 121, 3) := by decide +kernel
theorem dX7_moveKey_4 : decode cX7_moveKey 4 = .ok (.aload_n 0, 1) := by decide +kernel
theorem dX7_moveKey_5 : decode cX7_moveKey 5 = .ok (.aload_n 0, 1) := by decide +kernel
theorem dX7_moveKey_6 : decode cX7_moveKey 6 = .ok (.iload_n 1, 1) := by decide +kernel
theorem dX7_moveKey_7 : decode cX7_moveKey 7 = .ok (.iload_n 2, 1) := by decide +kernel
theorem dX7_moveKey_8 : decode cX7_moveKey 8 = .ok (.invokevirtual 140, 3) := by decide +kernel
theorem dX7_moveKey_11 : decode cX7_moveKey 11 = .ok (.iconst 0, 1) := by decide +kernel
theorem dX7_moveKey_12 : decode cX7_moveKey 12 = .ok (.iconst 2, 1) := by decide +kernel
theorem dX7_moveKey_13 : decode cX7_moveKey 13 = .ok (.iconst 3, 1) := by decide +kernel
theorem dX7_moveKey_14 : decode cX7_moveKey 14 = .ok (.iconst 1, 1) := by decide +kernel
theorem dX7_moveKey_15 : decode cX7_moveKey 15 = .ok (.invokevirtual 127, 3) := by decide +kernel
theorem dX7_moveKey_18 : decode cX7_moveKey 18 = .ok (.ireturn, 1) := by decide +kernel
theorem dX7_isRange_0 : decode cX7_isRange 0 = .ok (.iload_n 0, 1) := by decide +kernel
theorem dX7_isRange_1 : decode cX7_isRange 1 = .ok (.invokestatic 108, 3) := by decide +kernel
theorem dX7_isRange_4 : decode cX7_isRange 4 = .ok (.ifCond .eq 19, 3) := by decide +kernel
theorem dX7_isRange_7 : decode cX7_isRange 7 = .ok (.iload_n 1, 1) := by decide +kernel
theorem dX7_isRange_8 : decode cX7_isRange 8 = .ok (.invokestatic 108, 3) := by decide +kernel
theorem dX7_isRange_11 : decode cX7_isRange 11 = .ok (.ifCond .eq 12, 3) := by decide +kernel
theorem dX7_isRange_14 : decode cX7_isRange 14 = .ok (.iload_n 0, 1) := by decide +kernel
theorem dX7_isRange_15 : decode cX7_isRange 15 = .ok (.iload_n 1, 1) := by decide +kernel
theorem dX7_isRange_16 : decode cX7_isRange 16 = .ok (.if_icmp .gt 7, 3) := by decide +kernel
theorem dX7_isRange_19 : decode cX7_isRange 19 = .ok (.iconst 1, 1) := by decide +kernel
theorem dX7_isRange_20 : decode cX7_isRange 20 = .ok (.goto 4, 3) := by decide +kernel
theorem dX7_isRange_23 : decode cX7_isRange 23 = .ok (.iconst 0, 1) := by decide +kernel
theorem dX7_isRange_24 : decode cX7_isRange 24 = .ok (.ireturn, 1) := by decide +kernel
theorem dX7_clears_0 : decode cX7_clears 0 = .ok (.iload_n 1, 1) := by decide +kernel
theorem dX7_clears_1 : decode cX7_clears 1 = .ok (.iload_n 2, 1) := by decide +kernel
theorem dX7_clears_2 : decode cX7_clears 2 = .ok (.invokestatic 143, 3) := by decide +kernel
theorem dX7_clears_5 : decode cX7_clears 5 = .ok (.ifCond .ne 5, 3) := by decide +kernel
theorem dX7_clears_8 : decode cX7_clears 8 = .ok (.iconst 2, 1) := by decide +kernel
theorem dX7_clears_9 : decode cX7_clears 9 = .ok (.ireturn, 1) := by decide +kernel
theorem dX7_clears_10 : decode cX7_clears 10 = .ok (.aload_n 0, 1) := by decide +kernel
theorem dX7_clears_11 : decode cX7_clears 11 = .ok (.iconst 0, 1) := by decide +kernel
theorem dX7_clears_12 : decode cX7_clears 12 = .ok (.putfield 41, 3) := by decide +kernel
theorem dX7_clears_15 : decode cX7_clears 15 = .ok (.aload_n 0, 1) := by decide +kernel
theorem dX7_clears_16 : decode cX7_clears 16 = .ok (.getfield 9, 3) := by decide +kernel
theorem dX7_clears_19 : decode cX7_clears 19 = .ok (.iconst 0, 1) := by decide +kernel
theorem dX7_clears_20 : decode cX7_clears 20 = .ok (.iaload, 1) := by decide +kernel
theorem dX7_clears_21 : decode cX7_clears 21 = .ok (.iconst 1, 1) := by decide +kernel
theorem dX7_clears_22 : decode cX7_clears 22 = .ok (.isub, 1) := by decide +kernel
theorem dX7_clears_23 : decode cX7_clears 23 = .ok (.istore_n 3, 1) := by decide +kernel
theorem dX7_clears_24 : decode cX7_clears 24 = .ok (.iload_n 3, 1) := by decide +kernel
theorem dX7_clears_25 : decode cX7_clears 25 = .ok (.ifCond .lt 40, 3) := by decide +kernel
theorem dX7_clears_28 : decode cX7_clears 28 = .ok (.aload_n 0, 1) := by decide +kernel
theorem dX7_clears_29 : decode cX7_clears 29 = .ok (.iload_n 3, 1) := by decide +kernel
theorem dX7_clears_30 : decode cX7_clears 30 = .ok (.invokevirtual 57, 3) := by decide +kernel
theorem dX7_clears_33 : decode cX7_clears 33 = .ok (.iload_n 1, 1) := by decide +kernel
theorem dX7_clears_34 : decode cX7_clears 34 = .ok (.iload_n 2, 1) := by decide +kernel
theorem dX7_clears_35 : decode cX7_clears 35 = .ok (.invokestatic 30, 3) := by decide +kernel
theorem dX7_clears_38 : decode cX7_clears 38 = .ok (.ifCond .ne 6, 3) := by decide +kernel
theorem dX7_clears_41 : decode cX7_clears 41 = .ok (.goto 18, 3) := by decide +kernel
theorem dX7_clears_44 : decode cX7_clears 44 = .ok (.aload_n 0, 1) := by decide +kernel
theorem dX7_clears_45 : decode cX7_clears 45 = .ok (.iload_n 3, 1) := by decide +kernel
theorem dX7_clears_46 : decode cX7_clears 46 = .ok (.invokevirtual 86, 3) := by decide +kernel
theorem dX7_clears_49 : decode cX7_clears 49 = .ok (.aload_n 0, 1) := by decide +kernel
theorem dX7_clears_50 : decode cX7_clears 50 = .ok (.dup, 1) := by decide +kernel
theorem dX7_clears_51 : decode cX7_clears 51 = .ok (.getfield 41, 3) := by decide +kernel
theorem dX7_clears_54 : decode cX7_clears 54 = .ok (.iconst 1, 1) := by decide +kernel
theorem dX7_clears_55 : decode cX7_clears 55 = .ok (.iadd, 1) := by decide +kernel
theorem dX7_clears_56 : decode cX7_clears 56 = .ok (.putfield 41, 3) := by decide +kernel
theorem dX7_clears_59 : decode cX7_clears 59 = .ok (.iinc 3 (-1), 3) := by decide +kernel
theorem dX7_clears_62 : decode cX7_clears 62 = .ok (.goto (-38), 3) := by decide +kernel
theorem dX7_clears_65 : decode cX7_clears 65 = .ok (.iconst 0, 1) := by decide +kernel
theorem dX7_clears_66 : decode cX7_clears 66 = .ok (.ireturn, 1) := by decide +kernel
theorem dX7_deleteRange_0 : decode cX7_deleteRange 0 = .ok (.aload_n 0, 1) := by decide +kernel
theorem dX7_deleteRange_1 : decode cX7_deleteRange 1 = .ok (.invokevirtual 121, 3) := by decide +kernel
theorem dX7_deleteRange_4 : decode cX7_deleteRange 4 = .ok (.aload_n 0, 1) := by decide +kernel
theorem dX7_deleteRange_5 : decode cX7_deleteRange 5 = .ok (.aload_n 0, 1) := by decide +kernel
theorem dX7_deleteRange_6 : decode cX7_deleteRange 6 = .ok (.iload_n 1, 1) := by decide +kernel
theorem dX7_deleteRange_7 : decode cX7_deleteRange 7 = .ok (.iload_n 2, 1) := by decide +kernel
theorem dX7_deleteRange_8 : decode cX7_deleteRange 8 = .ok (.invokevirtual 146, 3) := by decide +kernel
theorem dX7_deleteRange_11 : decode cX7_deleteRange 11 = .ok (.iconst 0, 1) := by decide +kernel
theorem dX7_deleteRange_12 : decode cX7_deleteRange 12 = .ok (.iconst 1, 1) := by decide +kernel
theorem dX7_deleteRange_13 : decode cX7_deleteRange 13 = .ok (.iconst 0, 1) := by decide +kernel
theorem dX7_deleteRange_14 : decode cX7_deleteRange 14 = .ok (.iconst 0, 1) := by decide +kernel
theorem dX7_deleteRange_15 : decode cX7_deleteRange 15 = .ok (.invokevirtual 127, 3) := by decide +kernel
theorem dX7_deleteRange_18 : decode cX7_deleteRange 18 = .ok (.ireturn, 1) := by decide +kernel
theorem dX7_isWindow_0 : decode cX7_isWindow 0 = .ok (.iload_n 0, 1) := by decide +kernel
theorem dX7_isWindow_1 : decode cX7_isWindow 1 = .ok (.iconst 0, 1) := by decide +kernel
theorem dX7_isWindow_2 : decode cX7_isWindow 2 = .ok (.iconst 3, 1) := by decide +kernel
theorem dX7_isWindow_3 : decode cX7_isWindow 3 = .ok (.invokestatic 30, 3) := by decide +kernel
theorem dX7_isWindow_6 : decode cX7_isWindow 6 = .ok (.ireturn, 1) := by decide +kernel
theorem dX7_writesWindow_0 : decode cX7_writesWindow 0 = .ok (.aload_n 0, 1) := by decide +kernel
theorem dX7_writesWindow_1 : decode cX7_writesWindow 1 = .ok (.getfield 9, 3) := by decide +kernel
theorem dX7_writesWindow_4 : decode cX7_writesWindow 4 = .ok (.bipush 50, 2) := by decide +kernel
theorem dX7_writesWindow_6 : decode cX7_writesWindow 6 = .ok (.iconst 5, 1) := by decide +kernel
theorem dX7_writesWindow_7 : decode cX7_writesWindow 7 = .ok (.iload_n 1, 1) := by decide +kernel
theorem dX7_writesWindow_8 : decode cX7_writesWindow 8 = .ok (.imul, 1) := by decide +kernel
theorem dX7_writesWindow_9 : decode cX7_writesWindow 9 = .ok (.iadd, 1) := by decide +kernel
theorem dX7_writesWindow_10 : decode cX7_writesWindow 10 = .ok (.iload_n 2, 1) := by decide +kernel
theorem dX7_writesWindow_11 : decode cX7_writesWindow 11 = .ok (.iastore, 1) := by decide +kernel
theorem dX7_writesWindow_12 : decode cX7_writesWindow 12 = .ok (.aload_n 0, 1) := by decide +kernel
theorem dX7_writesWindow_13 : decode cX7_writesWindow 13 = .ok (.getfield 9, 3) := by decide +kernel
theorem dX7_writesWindow_16 : decode cX7_writesWindow 16 = .ok (.bipush 50, 2) := by decide +kernel
theorem dX7_writesWindow_18 : decode cX7_writesWindow 18 = .ok (.iconst 5, 1) := by decide +kernel
theorem dX7_writesWindow_19 : decode cX7_writesWindow 19 = .ok (.iload_n 1, 1) := by decide +kernel
theorem dX7_writesWindow_20 : decode cX7_writesWindow 20 = .ok (.imul, 1) := by decide +kernel
theorem dX7_writesWindow_21 : decode cX7_writesWindow 21 = .ok (.iadd, 1) := by decide +kernel
theorem dX7_writesWindow_22 : decode cX7_writesWindow 22 = .ok (.iconst 1, 1) := by decide +kernel
theorem dX7_writesWindow_23 : decode cX7_writesWindow 23 = .ok (.iadd, 1) := by decide +kernel
theorem dX7_writesWindow_24 : decode cX7_writesWindow 24 = .ok (.iload_n 3, 1) := by decide +kernel
theorem dX7_writesWindow_25 : decode cX7_writesWindow 25 = .ok (.iastore, 1) := by decide +kernel
theorem dX7_writesWindow_26 : decode cX7_writesWindow 26 = .ok (.aload_n 0, 1) := by decide +kernel
theorem dX7_writesWindow_27 : decode cX7_writesWindow 27 = .ok (.getfield 9, 3) := by decide +kernel
theorem dX7_writesWindow_30 : decode cX7_writesWindow 30 = .ok (.bipush 50, 2) := by decide +kernel
theorem dX7_writesWindow_32 : decode cX7_writesWindow 32 = .ok (.iconst 5, 1) := by decide +kernel
theorem dX7_writesWindow_33 : decode cX7_writesWindow 33 = .ok (.iload_n 1, 1) := by decide +kernel
theorem dX7_writesWindow_34 : decode cX7_writesWindow 34 = .ok (.imul, 1) := by decide +kernel
theorem dX7_writesWindow_35 : decode cX7_writesWindow 35 = .ok (.iadd, 1) := by decide +kernel
theorem dX7_writesWindow_36 : decode cX7_writesWindow 36 = .ok (.iconst 2, 1) := by decide +kernel
theorem dX7_writesWindow_37 : decode cX7_writesWindow 37 = .ok (.iadd, 1) := by decide +kernel
theorem dX7_writesWindow_38 : decode cX7_writesWindow 38 = .ok (.iload 4, 2) := by decide +kernel
theorem dX7_writesWindow_40 : decode cX7_writesWindow 40 = .ok (.iastore, 1) := by decide +kernel
theorem dX7_writesWindow_41 : decode cX7_writesWindow 41 = .ok (.return_, 1) := by decide +kernel
theorem dX7_sets_0 : decode cX7_sets 0 = .ok (.iload_n 1, 1) := by decide +kernel
theorem dX7_sets_1 : decode cX7_sets 1 = .ok (.invokestatic 149, 3) := by decide +kernel
theorem dX7_sets_4 : decode cX7_sets 4 = .ok (.ifCond .ne 5, 3) := by decide +kernel
theorem dX7_sets_7 : decode cX7_sets 7 = .ok (.iconst 1, 1) := by decide +kernel
theorem dX7_sets_8 : decode cX7_sets 8 = .ok (.ireturn, 1) := by decide +kernel
theorem dX7_sets_9 : decode cX7_sets 9 = .ok (.iload_n 2, 1) := by decide +kernel
theorem dX7_sets_10 : decode cX7_sets 10 = .ok (.iload_n 3, 1) := by decide +kernel
theorem dX7_sets_11 : decode cX7_sets 11 = .ok (.invokestatic 143, 3) := by decide +kernel
theorem dX7_sets_14 : decode cX7_sets 14 = .ok (.ifCond .eq 22, 3) := by decide +kernel
theorem dX7_sets_17 : decode cX7_sets 17 = .ok (.iload 4, 2) := by decide +kernel
theorem dX7_sets_19 : decode cX7_sets 19 = .ok (.invokestatic 108, 3) := by decide +kernel
theorem dX7_sets_22 : decode cX7_sets 22 = .ok (.ifCond .eq 14, 3) := by decide +kernel
theorem dX7_sets_25 : decode cX7_sets 25 = .ok (.iload 5, 2) := by decide +kernel
theorem dX7_sets_27 : decode cX7_sets 27 = .ok (.iconst 1, 1) := by decide +kernel
theorem dX7_sets_28 : decode cX7_sets 28 = .ok (.bipush 24, 2) := by decide +kernel
theorem dX7_sets_30 : decode cX7_sets 30 = .ok (.invokestatic 30, 3) := by decide +kernel
theorem dX7_sets_33 : decode cX7_sets 33 = .ok (.ifCond .ne 5, 3) := by decide +kernel
theorem dX7_sets_36 : decode cX7_sets 36 = .ok (.iconst 2, 1) := by decide +kernel
theorem dX7_sets_37 : decode cX7_sets 37 = .ok (.ireturn, 1) := by decide +kernel
theorem dX7_sets_38 : decode cX7_sets 38 = .ok (.aload_n 0, 1) := by decide +kernel
theorem dX7_sets_39 : decode cX7_sets 39 = .ok (.iload_n 1, 1) := by decide +kernel
theorem dX7_sets_40 : decode cX7_sets 40 = .ok (.iconst 1, 1) := by decide +kernel
theorem dX7_sets_41 : decode cX7_sets 41 = .ok (.iload_n 2, 1) := by decide +kernel
theorem dX7_sets_42 : decode cX7_sets 42 = .ok (.iload_n 3, 1) := by decide +kernel
theorem dX7_sets_43 : decode cX7_sets 43 = .ok (.invokevirtual 152, 3) := by decide +kernel
theorem dX7_sets_46 : decode cX7_sets 46 = .ok (.aload_n 0, 1) := by decide +kernel
theorem dX7_sets_47 : decode cX7_sets 47 = .ok (.getfield 9, 3) := by decide +kernel
theorem dX7_sets_50 : decode cX7_sets 50 = .ok (.bipush 50, 2) := by decide +kernel
theorem dX7_sets_52 : decode cX7_sets 52 = .ok (.iconst 5, 1) := by decide +kernel
theorem dX7_sets_53 : decode cX7_sets 53 = .ok (.iload_n 1, 1) := by decide +kernel
theorem dX7_sets_54 : decode cX7_sets 54 = .ok (.imul, 1) := by decide +kernel
theorem dX7_sets_55 : decode cX7_sets 55 = .ok (.iadd, 1) := by decide +kernel
theorem dX7_sets_56 : decode cX7_sets 56 = .ok (.iconst 3, 1) := by decide +kernel
theorem dX7_sets_57 : decode cX7_sets 57 = .ok (.iadd, 1) := by decide +kernel
theorem dX7_sets_58 : decode cX7_sets 58 = .ok (.iload 4, 2) := by decide +kernel
theorem dX7_sets_60 : decode cX7_sets 60 = .ok (.iastore, 1) := by decide +kernel
theorem dX7_sets_61 : decode cX7_sets 61 = .ok (.aload_n 0, 1) := by decide +kernel
theorem dX7_sets_62 : decode cX7_sets 62 = .ok (.getfield 9, 3) := by decide +kernel
theorem dX7_sets_65 : decode cX7_sets 65 = .ok (.bipush 50, 2) := by decide +kernel
theorem dX7_sets_67 : decode cX7_sets 67 = .ok (.iconst 5, 1) := by decide +kernel
theorem dX7_sets_68 : decode cX7_sets 68 = .ok (.iload_n 1, 1) := by decide +kernel
theorem dX7_sets_69 : decode cX7_sets 69 = .ok (.imul, 1) := by decide +kernel
theorem dX7_sets_70 : decode cX7_sets 70 = .ok (.iadd, 1) := by decide +kernel
theorem dX7_sets_71 : decode cX7_sets 71 = .ok (.iconst 4, 1) := by decide +kernel
theorem dX7_sets_72 : decode cX7_sets 72 = .ok (.iadd, 1) := by decide +kernel
theorem dX7_sets_73 : decode cX7_sets 73 = .ok (.iload 5, 2) := by decide +kernel
theorem dX7_sets_75 : decode cX7_sets 75 = .ok (.iastore, 1) := by decide +kernel
theorem dX7_sets_76 : decode cX7_sets 76 = .ok (.aload_n 0, 1) := by decide +kernel
theorem dX7_sets_77 : decode cX7_sets 77 = .ok (.aload_n 0, 1) := by decide +kernel
theorem dX7_sets_78 : decode cX7_sets 78 = .ok (.iload_n 1, 1) := by decide +kernel
theorem dX7_sets_79 : decode cX7_sets 79 = .ok (.invokevirtual 97, 3) := by decide +kernel
theorem dX7_sets_82 : decode cX7_sets 82 = .ok (.putfield 41, 3) := by decide +kernel
theorem dX7_sets_85 : decode cX7_sets 85 = .ok (.aload_n 0, 1) := by decide +kernel
theorem dX7_sets_86 : decode cX7_sets 86 = .ok (.aload_n 0, 1) := by decide +kernel
theorem dX7_sets_87 : decode cX7_sets 87 = .ok (.getfield 41, 3) := by decide +kernel
theorem dX7_sets_90 : decode cX7_sets 90 = .ok (.iload 5, 2) := by decide +kernel
theorem dX7_sets_92 : decode cX7_sets 92 = .ok (.if_icmp .le 7, 3) := by decide +kernel
theorem dX7_sets_95 : decode cX7_sets 95 = .ok (.iconst 1, 1) := by decide +kernel
theorem dX7_sets_96 : decode cX7_sets 96 = .ok (.goto 4, 3) := by decide +kernel
theorem dX7_sets_99 : decode cX7_sets 99 = .ok (.iconst 0, 1) := by decide +kernel
theorem dX7_sets_100 : decode cX7_sets 100 = .ok (.iconst 3, 1) := by decide +kernel
theorem dX7_sets_101 : decode cX7_sets 101 = .ok (.iload_n 1, 1) := by decide +kernel
theorem dX7_sets_102 : decode cX7_sets 102 = .ok (.invokevirtual 104, 3) := by decide +kernel
theorem dX7_sets_105 : decode cX7_sets 105 = .ok (.ifCond .eq 7, 3) := by decide +kernel
theorem dX7_sets_108 : decode cX7_sets 108 = .ok (.iconst 3, 1) := by decide +kernel
theorem dX7_sets_109 : decode cX7_sets 109 = .ok (.goto 4, 3) := by decide +kernel
theorem dX7_sets_112 : decode cX7_sets 112 = .ok (.iconst 0, 1) := by decide +kernel
theorem dX7_sets_113 : decode cX7_sets 113 = .ok (.ireturn, 1) := by decide +kernel
theorem dX7_setWindow_0 : decode cX7_setWindow 0 = .ok (.aload_n 0, 1) := by decide +kernel
theorem dX7_setWindow_1 : decode cX7_setWindow 1 = .ok (.invokevirtual 121, 3) := by decide +kernel
theorem dX7_setWindow_4 : decode cX7_setWindow 4 = .ok (.aload_n 0, 1) := by decide +kernel
theorem dX7_setWindow_5 : decode cX7_setWindow 5 = .ok (.aload_n 0, 1) := by decide +kernel
theorem dX7_setWindow_6 : decode cX7_setWindow 6 = .ok (.iload_n 1, 1) := by decide +kernel
theorem dX7_setWindow_7 : decode cX7_setWindow 7 = .ok (.iload_n 2, 1) := by decide +kernel
theorem dX7_setWindow_8 : decode cX7_setWindow 8 = .ok (.iload_n 3, 1) := by decide +kernel
theorem dX7_setWindow_9 : decode cX7_setWindow 9 = .ok (.iload 4, 2) := by decide +kernel
theorem dX7_setWindow_11 : decode cX7_setWindow 11 = .ok (.iload 5, 2) := by decide +kernel
theorem dX7_setWindow_13 : decode cX7_setWindow 13 = .ok (.invokevirtual 156, 3) := by decide +kernel
theorem dX7_setWindow_16 : decode cX7_setWindow 16 = .ok (.iconst 1, 1) := by decide +kernel
theorem dX7_setWindow_17 : decode cX7_setWindow 17 = .ok (.iconst 2, 1) := by decide +kernel
theorem dX7_setWindow_18 : decode cX7_setWindow 18 = .ok (.iconst 3, 1) := by decide +kernel
theorem dX7_setWindow_19 : decode cX7_setWindow 19 = .ok (.iconst 0, 1) := by decide +kernel
theorem dX7_setWindow_20 : decode cX7_setWindow 20 = .ok (.invokevirtual 127, 3) := by decide +kernel
theorem dX7_setWindow_23 : decode cX7_setWindow 23 = .ok (.ireturn, 1) := by decide +kernel
theorem dX7_removes_0 : decode cX7_removes 0 = .ok (.iload_n 1, 1) := by decide +kernel
theorem dX7_removes_1 : decode cX7_removes 1 = .ok (.invokestatic 149, 3) := by decide +kernel
theorem dX7_removes_4 : decode cX7_removes 4 = .ok (.ifCond .ne 5, 3) := by decide +kernel
theorem dX7_removes_7 : decode cX7_removes 7 = .ok (.iconst 1, 1) := by decide +kernel
theorem dX7_removes_8 : decode cX7_removes 8 = .ok (.ireturn, 1) := by decide +kernel
theorem dX7_removes_9 : decode cX7_removes 9 = .ok (.aload_n 0, 1) := by decide +kernel
theorem dX7_removes_10 : decode cX7_removes 10 = .ok (.iload_n 1, 1) := by decide +kernel
theorem dX7_removes_11 : decode cX7_removes 11 = .ok (.iconst 0, 1) := by decide +kernel
theorem dX7_removes_12 : decode cX7_removes 12 = .ok (.invokevirtual 90, 3) := by decide +kernel
theorem dX7_removes_15 : decode cX7_removes 15 = .ok (.ifCond .ne 5, 3) := by decide +kernel
theorem dX7_removes_18 : decode cX7_removes 18 = .ok (.iconst 4, 1) := by decide +kernel
theorem dX7_removes_19 : decode cX7_removes 19 = .ok (.ireturn, 1) := by decide +kernel
theorem dX7_removes_20 : decode cX7_removes 20 = .ok (.aload_n 0, 1) := by decide +kernel
theorem dX7_removes_21 : decode cX7_removes 21 = .ok (.aload_n 0, 1) := by decide +kernel
theorem dX7_removes_22 : decode cX7_removes 22 = .ok (.iload_n 1, 1) := by decide +kernel
theorem dX7_removes_23 : decode cX7_removes 23 = .ok (.invokevirtual 97, 3) := by decide +kernel
theorem dX7_removes_26 : decode cX7_removes 26 = .ok (.putfield 41, 3) := by decide +kernel
theorem dX7_removes_29 : decode cX7_removes 29 = .ok (.aload_n 0, 1) := by decide +kernel
theorem dX7_removes_30 : decode cX7_removes 30 = .ok (.iload_n 1, 1) := by decide +kernel
theorem dX7_removes_31 : decode cX7_removes 31 = .ok (.iconst 0, 1) := by decide +kernel
theorem dX7_removes_32 : decode cX7_removes 32 = .ok (.iconst 0, 1) := by decide +kernel
theorem dX7_removes_33 : decode cX7_removes 33 = .ok (.iconst 0, 1) := by decide +kernel
theorem dX7_removes_34 : decode cX7_removes 34 = .ok (.invokevirtual 152, 3) := by decide +kernel
theorem dX7_removes_37 : decode cX7_removes 37 = .ok (.iconst 0, 1) := by decide +kernel
theorem dX7_removes_38 : decode cX7_removes 38 = .ok (.ireturn, 1) := by decide +kernel
theorem dX7_removeWindow_0 : decode cX7_removeWindow 0 = .ok (.aload_n 0, 1) := by decide +kernel
theorem dX7_removeWindow_1 : decode cX7_removeWindow 1 = .ok (.invokevirtual 121, 3) := by decide +kernel
theorem dX7_removeWindow_4 : decode cX7_removeWindow 4 = .ok (.aload_n 0, 1) := by decide +kernel
theorem dX7_removeWindow_5 : decode cX7_removeWindow 5 = .ok (.aload_n 0, 1) := by decide +kernel
theorem dX7_removeWindow_6 : decode cX7_removeWindow 6 = .ok (.iload_n 1, 1) := by decide +kernel
theorem dX7_removeWindow_7 : decode cX7_removeWindow 7 = .ok (.invokevirtual 159, 3) := by decide +kernel
theorem dX7_removeWindow_10 : decode cX7_removeWindow 10 = .ok (.iconst 1, 1) := by decide +kernel
theorem dX7_removeWindow_11 : decode cX7_removeWindow 11 = .ok (.iconst 0, 1) := by decide +kernel
theorem dX7_removeWindow_12 : decode cX7_removeWindow 12 = .ok (.iconst 0, 1) := by decide +kernel
theorem dX7_removeWindow_13 : decode cX7_removeWindow 13 = .ok (.iconst 2, 1) := by decide +kernel
theorem dX7_removeWindow_14 : decode cX7_removeWindow 14 = .ok (.invokevirtual 127, 3) := by decide +kernel
theorem dX7_removeWindow_17 : decode cX7_removeWindow 17 = .ok (.ireturn, 1) := by decide +kernel
theorem dX7_size_0 : decode cX7_size 0 = .ok (.aload_n 0, 1) := by decide +kernel
theorem dX7_size_1 : decode cX7_size 1 = .ok (.iconst 0, 1) := by decide +kernel
theorem dX7_size_2 : decode cX7_size 2 = .ok (.putfield 27, 3) := by decide +kernel
theorem dX7_size_5 : decode cX7_size 5 = .ok (.aload_n 0, 1) := by decide +kernel
theorem dX7_size_6 : decode cX7_size 6 = .ok (.getfield 9, 3) := by decide +kernel
theorem dX7_size_9 : decode cX7_size 9 = .ok (.iconst 0, 1) := by decide +kernel
theorem dX7_size_10 : decode cX7_size 10 = .ok (.iaload, 1) := by decide +kernel
theorem dX7_size_11 : decode cX7_size 11 = .ok (.ireturn, 1) := by decide +kernel
theorem dX7_contains_0 : decode cX7_contains 0 = .ok (.aload_n 0, 1) := by decide +kernel
theorem dX7_contains_1 : decode cX7_contains 1 = .ok (.iconst 0, 1) := by decide +kernel
theorem dX7_contains_2 : decode cX7_contains 2 = .ok (.putfield 27, 3) := by decide +kernel
theorem dX7_contains_5 : decode cX7_contains 5 = .ok (.aload_n 0, 1) := by decide +kernel
theorem dX7_contains_6 : decode cX7_contains 6 = .ok (.iload_n 1, 1) := by decide +kernel
theorem dX7_contains_7 : decode cX7_contains 7 = .ok (.invokevirtual 112, 3) := by decide +kernel
theorem dX7_contains_10 : decode cX7_contains 10 = .ok (.ifCond .lt 7, 3) := by decide +kernel
theorem dX7_contains_13 : decode cX7_contains 13 = .ok (.iconst 1, 1) := by decide +kernel
theorem dX7_contains_14 : decode cX7_contains 14 = .ok (.goto 4, 3) := by decide +kernel
theorem dX7_contains_17 : decode cX7_contains 17 = .ok (.iconst 0, 1) := by decide +kernel
theorem dX7_contains_18 : decode cX7_contains 18 = .ok (.ireturn, 1) := by decide +kernel
theorem dX7_priorityOf_0 : decode cX7_priorityOf 0 = .ok (.aload_n 0, 1) := by decide +kernel
theorem dX7_priorityOf_1 : decode cX7_priorityOf 1 = .ok (.iload_n 1, 1) := by decide +kernel
theorem dX7_priorityOf_2 : decode cX7_priorityOf 2 = .ok (.invokevirtual 112, 3) := by decide +kernel
theorem dX7_priorityOf_5 : decode cX7_priorityOf 5 = .ok (.istore_n 2, 1) := by decide +kernel
theorem dX7_priorityOf_6 : decode cX7_priorityOf 6 = .ok (.aload_n 0, 1) := by decide +kernel
theorem dX7_priorityOf_7 : decode cX7_priorityOf 7 = .ok (.iload_n 2, 1) := by decide +kernel
theorem dX7_priorityOf_8 : decode cX7_priorityOf 8 = .ok (.ifCond .lt 7, 3) := by decide +kernel
theorem dX7_priorityOf_11 : decode cX7_priorityOf 11 = .ok (.iconst 1, 1) := by decide +kernel
theorem dX7_priorityOf_12 : decode cX7_priorityOf 12 = .ok (.goto 4, 3) := by decide +kernel
theorem dX7_priorityOf_15 : decode cX7_priorityOf 15 = .ok (.iconst 0, 1) := by decide +kernel
theorem dX7_priorityOf_16 : decode cX7_priorityOf 16 = .ok (.invokevirtual 53, 3) := by decide +kernel
theorem dX7_priorityOf_19 : decode cX7_priorityOf 19 = .ok (.ifCond .eq 11, 3) := by decide +kernel
theorem dX7_priorityOf_22 : decode cX7_priorityOf 22 = .ok (.aload_n 0, 1) := by decide +kernel
theorem dX7_priorityOf_23 : decode cX7_priorityOf 23 = .ok (.iload_n 2, 1) := by decide +kernel
theorem dX7_priorityOf_24 : decode cX7_priorityOf 24 = .ok (.invokevirtual 64, 3) := by decide +kernel
theorem dX7_priorityOf_27 : decode cX7_priorityOf 27 = .ok (.goto 4, 3) := by decide +kernel
theorem dX7_priorityOf_30 : decode cX7_priorityOf 30 = .ok (.iconst 0, 1) := by decide +kernel
theorem dX7_priorityOf_31 : decode cX7_priorityOf 31 = .ok (.ireturn, 1) := by decide +kernel
theorem dX7_keyOr_0 : decode cX7_keyOr 0 = .ok (.aload_n 0, 1) := by decide +kernel
theorem dX7_keyOr_1 : decode cX7_keyOr 1 = .ok (.iload_n 1, 1) := by decide +kernel
theorem dX7_keyOr_2 : decode cX7_keyOr 2 = .ok (.iconst 0, 1) := by decide +kernel
theorem dX7_keyOr_3 : decode cX7_keyOr 3 = .ok (.aload_n 0, 1) := by decide +kernel
theorem dX7_keyOr_4 : decode cX7_keyOr 4 = .ok (.getfield 9, 3) := by decide +kernel
theorem dX7_keyOr_7 : decode cX7_keyOr 7 = .ok (.iconst 0, 1) := by decide +kernel
theorem dX7_keyOr_8 : decode cX7_keyOr 8 = .ok (.iaload, 1) := by decide +kernel
theorem dX7_keyOr_9 : decode cX7_keyOr 9 = .ok (.iconst 1, 1) := by decide +kernel
theorem dX7_keyOr_10 : decode cX7_keyOr 10 = .ok (.isub, 1) := by decide +kernel
theorem dX7_keyOr_11 : decode cX7_keyOr 11 = .ok (.invokestatic 30, 3) := by decide +kernel
theorem dX7_keyOr_14 : decode cX7_keyOr 14 = .ok (.invokevirtual 53, 3) := by decide +kernel
theorem dX7_keyOr_17 : decode cX7_keyOr 17 = .ok (.ifCond .eq 11, 3) := by decide +kernel
theorem dX7_keyOr_20 : decode cX7_keyOr 20 = .ok (.aload_n 0, 1) := by decide +kernel
theorem dX7_keyOr_21 : decode cX7_keyOr 21 = .ok (.iload_n 1, 1) := by decide +kernel
theorem dX7_keyOr_22 : decode cX7_keyOr 22 = .ok (.invokevirtual 57, 3) := by decide +kernel
theorem dX7_keyOr_25 : decode cX7_keyOr 25 = .ok (.goto 4, 3) := by decide +kernel
theorem dX7_keyOr_28 : decode cX7_keyOr 28 = .ok (.iconst 0, 1) := by decide +kernel
theorem dX7_keyOr_29 : decode cX7_keyOr 29 = .ok (.ireturn, 1) := by decide +kernel
theorem dX7_lowestKey_0 : decode cX7_lowestKey 0 = .ok (.aload_n 0, 1) := by decide +kernel
theorem dX7_lowestKey_1 : decode cX7_lowestKey 1 = .ok (.iconst 0, 1) := by decide +kernel
theorem dX7_lowestKey_2 : decode cX7_lowestKey 2 = .ok (.invokevirtual 162, 3) := by decide +kernel
theorem dX7_lowestKey_5 : decode cX7_lowestKey 5 = .ok (.ireturn, 1) := by decide +kernel
theorem dX7_greatestKey_0 : decode cX7_greatestKey 0 = .ok (.aload_n 0, 1) := by decide +kernel
theorem dX7_greatestKey_1 : decode cX7_greatestKey 1 = .ok (.aload_n 0, 1) := by decide +kernel
theorem dX7_greatestKey_2 : decode cX7_greatestKey 2 = .ok (.getfield 9, 3) := by decide +kernel
theorem dX7_greatestKey_5 : decode cX7_greatestKey 5 = .ok (.iconst 0, 1) := by decide +kernel
theorem dX7_greatestKey_6 : decode cX7_greatestKey 6 = .ok (.iaload, 1) := by decide +kernel
theorem dX7_greatestKey_7 : decode cX7_greatestKey 7 = .ok (.iconst 1, 1) := by decide +kernel
theorem dX7_greatestKey_8 : decode cX7_greatestKey 8 = .ok (.isub, 1) := by decide +kernel
theorem dX7_greatestKey_9 : decode cX7_greatestKey 9 = .ok (.invokevirtual 162, 3) := by decide +kernel
theorem dX7_greatestKey_12 : decode cX7_greatestKey 12 = .ok (.ireturn, 1) := by decide +kernel
theorem dX7_floorAt_0 : decode cX7_floorAt 0 = .ok (.aload_n 0, 1) := by decide +kernel
theorem dX7_floorAt_1 : decode cX7_floorAt 1 = .ok (.iload_n 1, 1) := by decide +kernel
theorem dX7_floorAt_2 : decode cX7_floorAt 2 = .ok (.invokevirtual 61, 3) := by decide +kernel
theorem dX7_floorAt_5 : decode cX7_floorAt 5 = .ok (.istore_n 2, 1) := by decide +kernel
theorem dX7_floorAt_6 : decode cX7_floorAt 6 = .ok (.iload_n 2, 1) := by decide +kernel
theorem dX7_floorAt_7 : decode cX7_floorAt 7 = .ok (.aload_n 0, 1) := by decide +kernel
theorem dX7_floorAt_8 : decode cX7_floorAt 8 = .ok (.getfield 9, 3) := by decide +kernel
theorem dX7_floorAt_11 : decode cX7_floorAt 11 = .ok (.iconst 0, 1) := by decide +kernel
theorem dX7_floorAt_12 : decode cX7_floorAt 12 = .ok (.iaload, 1) := by decide +kernel
theorem dX7_floorAt_13 : decode cX7_floorAt 13 = .ok (.if_icmp .ge 16, 3) := by decide +kernel
theorem dX7_floorAt_16 : decode cX7_floorAt 16 = .ok (.aload_n 0, 1) := by decide +kernel
theorem dX7_floorAt_17 : decode cX7_floorAt 17 = .ok (.iload_n 2, 1) := by decide +kernel
theorem dX7_floorAt_18 : decode cX7_floorAt 18 = .ok (.invokevirtual 57, 3) := by decide +kernel
theorem dX7_floorAt_21 : decode cX7_floorAt 21 = .ok (.iload_n 1, 1) := by decide +kernel
theorem dX7_floorAt_22 : decode cX7_floorAt 22 = .ok (.if_icmp .ne 7, 3) := by decide +kernel
theorem dX7_floorAt_25 : decode cX7_floorAt 25 = .ok (.iload_n 2, 1) := by decide +kernel
theorem dX7_floorAt_26 : decode cX7_floorAt 26 = .ok (.goto 6, 3) := by decide +kernel
theorem dX7_floorAt_29 : decode cX7_floorAt 29 = .ok (.iload_n 2, 1) := by decide +kernel
theorem dX7_floorAt_30 : decode cX7_floorAt 30 = .ok (.iconst 1, 1) := by decide +kernel
theorem dX7_floorAt_31 : decode cX7_floorAt 31 = .ok (.isub, 1) := by decide +kernel
theorem dX7_floorAt_32 : decode cX7_floorAt 32 = .ok (.ireturn, 1) := by decide +kernel
theorem dX7_floorKey_0 : decode cX7_floorKey 0 = .ok (.aload_n 0, 1) := by decide +kernel
theorem dX7_floorKey_1 : decode cX7_floorKey 1 = .ok (.aload_n 0, 1) := by decide +kernel
theorem dX7_floorKey_2 : decode cX7_floorKey 2 = .ok (.iload_n 1, 1) := by decide +kernel
theorem dX7_floorKey_3 : decode cX7_floorKey 3 = .ok (.invokevirtual 165, 3) := by decide +kernel
theorem dX7_floorKey_6 : decode cX7_floorKey 6 = .ok (.invokevirtual 162, 3) := by decide +kernel
theorem dX7_floorKey_9 : decode cX7_floorKey 9 = .ok (.ireturn, 1) := by decide +kernel
theorem dX7_ceilingKey_0 : decode cX7_ceilingKey 0 = .ok (.aload_n 0, 1) := by decide +kernel
theorem dX7_ceilingKey_1 : decode cX7_ceilingKey 1 = .ok (.aload_n 0, 1) := by decide +kernel
theorem dX7_ceilingKey_2 : decode cX7_ceilingKey 2 = .ok (.iload_n 1, 1) := by decide +kernel
theorem dX7_ceilingKey_3 : decode cX7_ceilingKey 3 = .ok (.invokevirtual 61, 3) := by decide +kernel
theorem dX7_ceilingKey_6 : decode cX7_ceilingKey 6 = .ok (.invokevirtual 162, 3) := by decide +kernel
theorem dX7_ceilingKey_9 : decode cX7_ceilingKey 9 = .ok (.ireturn, 1) := by decide +kernel
theorem dX7_nearestKey_0 : decode cX7_nearestKey 0 = .ok (.aload_n 0, 1) := by decide +kernel
theorem dX7_nearestKey_1 : decode cX7_nearestKey 1 = .ok (.iload_n 1, 1) := by decide +kernel
theorem dX7_nearestKey_2 : decode cX7_nearestKey 2 = .ok (.invokestatic 108, 3) := by decide +kernel
theorem dX7_nearestKey_5 : decode cX7_nearestKey 5 = .ok (.ifCond .ne 7, 3) := by decide +kernel
theorem dX7_nearestKey_8 : decode cX7_nearestKey 8 = .ok (.iconst 1, 1) := by decide +kernel
theorem dX7_nearestKey_9 : decode cX7_nearestKey 9 = .ok (.goto 17, 3) := by decide +kernel
theorem dX7_nearestKey_12 : decode cX7_nearestKey 12 = .ok (.aload_n 0, 1) := by decide +kernel
theorem dX7_nearestKey_13 : decode cX7_nearestKey 13 = .ok (.getfield 9, 3) := by decide +kernel
theorem dX7_nearestKey_16 : decode cX7_nearestKey 16 = .ok (.iconst 0, 1) := by decide +kernel
theorem dX7_nearestKey_17 : decode cX7_nearestKey 17 = .ok (.iaload, 1) := by decide +kernel
theorem dX7_nearestKey_18 : decode cX7_nearestKey 18 = .ok (.ifCond .ne 7, 3) := by decide +kernel
theorem dX7_nearestKey_21 : decode cX7_nearestKey 21 = .ok (.iconst 2, 1) := by decide +kernel
theorem dX7_nearestKey_22 : decode cX7_nearestKey 22 = .ok (.goto 4, 3) := by decide +kernel
theorem dX7_nearestKey_25 : decode cX7_nearestKey 25 = .ok (.iconst 0, 1) := by decide +kernel
theorem dX7_nearestKey_26 : decode cX7_nearestKey 26 = .ok (.putfield 27, 3) := by decide +kernel
theorem dX7_nearestKey_29 : decode cX7_nearestKey 29 = .ok (.aload_n 0, 1) := by decide +kernel
theorem dX7_nearestKey_30 : decode cX7_nearestKey 30 = .ok (.getfield 27, 3) := by decide +kernel
theorem dX7_nearestKey_33 : decode cX7_nearestKey 33 = .ok (.ifCond .eq 5, 3) := by decide +kernel
theorem dX7_nearestKey_36 : decode cX7_nearestKey 36 = .ok (.iconst 0, 1) := by decide +kernel
theorem dX7_nearestKey_37 : decode cX7_nearestKey 37 = .ok (.ireturn, 1) := by decide +kernel
theorem dX7_nearestKey_38 : decode cX7_nearestKey 38 = .ok (.aload_n 0, 1) := by decide +kernel
theorem dX7_nearestKey_39 : decode cX7_nearestKey 39 = .ok (.iload_n 1, 1) := by decide +kernel
theorem dX7_nearestKey_40 : decode cX7_nearestKey 40 = .ok (.invokevirtual 165, 3) := by decide +kernel
theorem dX7_nearestKey_43 : decode cX7_nearestKey 43 = .ok (.istore_n 2, 1) := by decide +kernel
theorem dX7_nearestKey_44 : decode cX7_nearestKey 44 = .ok (.aload_n 0, 1) := by decide +kernel
theorem dX7_nearestKey_45 : decode cX7_nearestKey 45 = .ok (.iload_n 1, 1) := by decide +kernel
theorem dX7_nearestKey_46 : decode cX7_nearestKey 46 = .ok (.invokevirtual 61, 3) := by decide +kernel
theorem dX7_nearestKey_49 : decode cX7_nearestKey 49 = .ok (.istore_n 3, 1) := by decide +kernel
theorem dX7_nearestKey_50 : decode cX7_nearestKey 50 = .ok (.iload_n 2, 1) := by decide +kernel
theorem dX7_nearestKey_51 : decode cX7_nearestKey 51 = .ok (.ifCond .ge 9, 3) := by decide +kernel
theorem dX7_nearestKey_54 : decode cX7_nearestKey 54 = .ok (.aload_n 0, 1) := by decide +kernel
theorem dX7_nearestKey_55 : decode cX7_nearestKey 55 = .ok (.iload_n 3, 1) := by decide +kernel
theorem dX7_nearestKey_56 : decode cX7_nearestKey 56 = .ok (.invokevirtual 57, 3) := by decide +kernel
theorem dX7_nearestKey_59 : decode cX7_nearestKey 59 = .ok (.ireturn, 1) := by decide +kernel
theorem dX7_nearestKey_60 : decode cX7_nearestKey 60 = .ok (.iload_n 3, 1) := by decide +kernel
theorem dX7_nearestKey_61 : decode cX7_nearestKey 61 = .ok (.aload_n 0, 1) := by decide +kernel
theorem dX7_nearestKey_62 : decode cX7_nearestKey 62 = .ok (.getfield 9, 3) := by decide +kernel
theorem dX7_nearestKey_65 : decode cX7_nearestKey 65 = .ok (.iconst 0, 1) := by decide +kernel
theorem dX7_nearestKey_66 : decode cX7_nearestKey 66 = .ok (.iaload, 1) := by decide +kernel
theorem dX7_nearestKey_67 : decode cX7_nearestKey 67 = .ok (.if_icmp .ge 28, 3) := by decide +kernel
theorem dX7_nearestKey_70 : decode cX7_nearestKey 70 = .ok (.aload_n 0, 1) := by decide +kernel
theorem dX7_nearestKey_71 : decode cX7_nearestKey 71 = .ok (.iload_n 3, 1) := by decide +kernel
theorem dX7_nearestKey_72 : decode cX7_nearestKey 72 = .ok (.invokevirtual 57, 3) := by decide +kernel
theorem dX7_nearestKey_75 : decode cX7_nearestKey 75 = .ok (.iload_n 1, 1) := by decide +kernel
theorem dX7_nearestKey_76 : decode cX7_nearestKey 76 = .ok (.isub, 1) := by decide +kernel
theorem dX7_nearestKey_77 : decode cX7_nearestKey 77 = .ok (.iload_n 1, 1) := by decide +kernel
theorem dX7_nearestKey_78 : decode cX7_nearestKey 78 = .ok (.aload_n 0, 1) := by decide +kernel
theorem dX7_nearestKey_79 : decode cX7_nearestKey 79 = .ok (.iload_n 2, 1) := by decide +kernel
theorem dX7_nearestKey_80 : decode cX7_nearestKey 80 = .ok (.invokevirtual 57, 3) := by decide +kernel
theorem dX7_nearestKey_83 : decode cX7_nearestKey 83 = .ok (.isub, 1) := by decide +kernel
theorem dX7_nearestKey_84 : decode cX7_nearestKey 84 = .ok (.if_icmp .ge 11, 3) := by decide +kernel
theorem dX7_nearestKey_87 : decode cX7_nearestKey 87 = .ok (.aload_n 0, 1) := by decide +kernel
theorem dX7_nearestKey_88 : decode cX7_nearestKey 88 = .ok (.iload_n 3, 1) := by decide +kernel
theorem dX7_nearestKey_89 : decode cX7_nearestKey 89 = .ok (.invokevirtual 57, 3) := by decide +kernel
theorem dX7_nearestKey_92 : decode cX7_nearestKey 92 = .ok (.goto 8, 3) := by decide +kernel
theorem dX7_nearestKey_95 : decode cX7_nearestKey 95 = .ok (.aload_n 0, 1) := by decide +kernel
theorem dX7_nearestKey_96 : decode cX7_nearestKey 96 = .ok (.iload_n 2, 1) := by decide +kernel
theorem dX7_nearestKey_97 : decode cX7_nearestKey 97 = .ok (.invokevirtual 57, 3) := by decide +kernel
theorem dX7_nearestKey_100 : decode cX7_nearestKey 100 = .ok (.ireturn, 1) := by decide +kernel
theorem dX7_rankOf_0 : decode cX7_rankOf 0 = .ok (.aload_n 0, 1) := by decide +kernel
theorem dX7_rankOf_1 : decode cX7_rankOf 1 = .ok (.iconst 0, 1) := by decide +kernel
theorem dX7_rankOf_2 : decode cX7_rankOf 2 = .ok (.putfield 27, 3) := by decide +kernel
theorem dX7_rankOf_5 : decode cX7_rankOf 5 = .ok (.aload_n 0, 1) := by decide +kernel
theorem dX7_rankOf_6 : decode cX7_rankOf 6 = .ok (.iload_n 1, 1) := by decide +kernel
theorem dX7_rankOf_7 : decode cX7_rankOf 7 = .ok (.invokevirtual 61, 3) := by decide +kernel
theorem dX7_rankOf_10 : decode cX7_rankOf 10 = .ok (.ireturn, 1) := by decide +kernel
theorem dX7_keyAt_0 : decode cX7_keyAt 0 = .ok (.aload_n 0, 1) := by decide +kernel
theorem dX7_keyAt_1 : decode cX7_keyAt 1 = .ok (.iload_n 1, 1) := by decide +kernel
theorem dX7_keyAt_2 : decode cX7_keyAt 2 = .ok (.invokevirtual 162, 3) := by decide +kernel
theorem dX7_keyAt_5 : decode cX7_keyAt 5 = .ok (.ireturn, 1) := by decide +kernel
theorem dX7_keyByPriority_0 : decode cX7_keyByPriority 0 = .ok (.iconst 0, 1) := by decide +kernel
theorem dX7_keyByPriority_1 : decode cX7_keyByPriority 1 = .ok (.istore_n 2, 1) := by decide +kernel
theorem dX7_keyByPriority_2 : decode cX7_keyByPriority 2 = .ok (.iload_n 2, 1) := by decide +kernel
theorem dX7_keyByPriority_3 : decode cX7_keyByPriority 3 = .ok (.aload_n 0, 1) := by decide +kernel
theorem dX7_keyByPriority_4 : decode cX7_keyByPriority 4 = .ok (.getfield 9, 3) := by decide +kernel
theorem dX7_keyByPriority_7 : decode cX7_keyByPriority 7 = .ok (.iconst 0, 1) := by decide +kernel
theorem dX7_keyByPriority_8 : decode cX7_keyByPriority 8 = .ok (.iaload, 1) := by decide +kernel
theorem dX7_keyByPriority_9 : decode cX7_keyByPriority 9 = .ok (.if_icmp .ge 78, 3) := by decide +kernel
theorem dX7_keyByPriority_12 : decode cX7_keyByPriority 12 = .ok (.iconst 0, 1) := by decide +kernel
theorem dX7_keyByPriority_13 : decode cX7_keyByPriority 13 = .ok (.istore_n 3, 1) := by decide +kernel
theorem dX7_keyByPriority_14 : decode cX7_keyByPriority 14 = .ok (.iconst 0, 1) := by decide +kernel
theorem dX7_keyByPriority_15 : decode cX7_keyByPriority 15 = .ok (.istore 4, 2) := by decide +kernel
theorem dX7_keyByPriority_17 : decode cX7_keyByPriority 17 = .ok (.iload 4, 2) := by decide +kernel
theorem dX7_keyByPriority_19 : decode cX7_keyByPriority 19 = .ok (.aload_n 0, 1) := by decide +kernel
theorem dX7_keyByPriority_20 : decode cX7_keyByPriority 20 = .ok (.getfield 9, 3) := by decide +kernel
theorem dX7_keyByPriority_23 : decode cX7_keyByPriority 23 = .ok (.iconst 0, 1) := by decide +kernel
theorem dX7_keyByPriority_24 : decode cX7_keyByPriority 24 = .ok (.iaload, 1) := by decide +kernel
theorem dX7_keyByPriority_25 : decode cX7_keyByPriority 25 = .ok (.if_icmp .ge 33, 3) := by decide +kernel
theorem dX7_keyByPriority_28 : decode cX7_keyByPriority 28 = .ok (.iload_n 3, 1) := by decide +kernel
theorem dX7_keyByPriority_29 : decode cX7_keyByPriority 29 = .ok (.iload 4, 2) := by decide +kernel
theorem dX7_keyByPriority_31 : decode cX7_keyByPriority 31 = .ok (.iload_n 2, 1) := by decide +kernel
theorem dX7_keyByPriority_32 : decode cX7_keyByPriority 32 = .ok (.if_icmp .eq 17, 3) := by decide +kernel
theorem dX7_keyByPriority_35 : decode cX7_keyByPriority 35 = .ok (.aload_n 0, 1) := by decide +kernel
theorem dX7_keyByPriority_36 : decode cX7_keyByPriority 36 = .ok (.iload 4, 2) := by decide +kernel
theorem dX7_keyByPriority_38 : decode cX7_keyByPriority 38 = .ok (.iload_n 2, 1) := by decide +kernel
theorem dX7_keyByPriority_39 : decode cX7_keyByPriority 39 = .ok (.invokevirtual 67, 3) := by decide +kernel
theorem dX7_keyByPriority_42 : decode cX7_keyByPriority 42 = .ok (.ifCond .eq 7, 3) := by decide +kernel
theorem dX7_keyByPriority_45 : decode cX7_keyByPriority 45 = .ok (.iconst 1, 1) := by decide +kernel
theorem dX7_keyByPriority_46 : decode cX7_keyByPriority 46 = .ok (.goto 4, 3) := by decide +kernel
theorem dX7_keyByPriority_49 : decode cX7_keyByPriority 49 = .ok (.iconst 0, 1) := by decide +kernel
theorem dX7_keyByPriority_50 : decode cX7_keyByPriority 50 = .ok (.iadd, 1) := by decide +kernel
theorem dX7_keyByPriority_51 : decode cX7_keyByPriority 51 = .ok (.istore_n 3, 1) := by decide +kernel
theorem dX7_keyByPriority_52 : decode cX7_keyByPriority 52 = .ok (.iinc 4 1, 3) := by decide +kernel
theorem dX7_keyByPriority_55 : decode cX7_keyByPriority 55 = .ok (.goto (-38), 3) := by decide +kernel
theorem dX7_keyByPriority_58 : decode cX7_keyByPriority 58 = .ok (.aload_n 0, 1) := by decide +kernel
theorem dX7_keyByPriority_59 : decode cX7_keyByPriority 59 = .ok (.iload_n 3, 1) := by decide +kernel
theorem dX7_keyByPriority_60 : decode cX7_keyByPriority 60 = .ok (.iload_n 1, 1) := by decide +kernel
theorem dX7_keyByPriority_61 : decode cX7_keyByPriority 61 = .ok (.if_icmp .ne 7, 3) := by decide +kernel
theorem dX7_keyByPriority_64 : decode cX7_keyByPriority 64 = .ok (.iconst 1, 1) := by decide +kernel
theorem dX7_keyByPriority_65 : decode cX7_keyByPriority 65 = .ok (.goto 4, 3) := by decide +kernel
theorem dX7_keyByPriority_68 : decode cX7_keyByPriority 68 = .ok (.iconst 0, 1) := by decide +kernel
theorem dX7_keyByPriority_69 : decode cX7_keyByPriority 69 = .ok (.invokevirtual 53, 3) := by decide +kernel
theorem dX7_keyByPriority_72 : decode cX7_keyByPriority 72 = .ok (.ifCond .eq 9, 3) := by decide +kernel
theorem dX7_keyByPriority_75 : decode cX7_keyByPriority 75 = .ok (.aload_n 0, 1) := by decide +kernel
theorem dX7_keyByPriority_76 : decode cX7_keyByPriority 76 = .ok (.iload_n 2, 1) := by decide +kernel
theorem dX7_keyByPriority_77 : decode cX7_keyByPriority 77 = .ok (.invokevirtual 57, 3) := by decide +kernel
theorem dX7_keyByPriority_80 : decode cX7_keyByPriority 80 = .ok (.ireturn, 1) := by decide +kernel
theorem dX7_keyByPriority_81 : decode cX7_keyByPriority 81 = .ok (.iinc 2 1, 3) := by decide +kernel
theorem dX7_keyByPriority_84 : decode cX7_keyByPriority 84 = .ok (.goto (-82), 3) := by decide +kernel
theorem dX7_keyByPriority_87 : decode cX7_keyByPriority 87 = .ok (.aload_n 0, 1) := by decide +kernel
theorem dX7_keyByPriority_88 : decode cX7_keyByPriority 88 = .ok (.iconst 1, 1) := by decide +kernel
theorem dX7_keyByPriority_89 : decode cX7_keyByPriority 89 = .ok (.putfield 27, 3) := by decide +kernel
theorem dX7_keyByPriority_92 : decode cX7_keyByPriority 92 = .ok (.iconst 0, 1) := by decide +kernel
theorem dX7_keyByPriority_93 : decode cX7_keyByPriority 93 = .ok (.ireturn, 1) := by decide +kernel
theorem dX7_root_0 : decode cX7_root 0 = .ok (.aload_n 0, 1) := by decide +kernel
theorem dX7_root_1 : decode cX7_root 1 = .ok (.aload_n 0, 1) := by decide +kernel
theorem dX7_root_2 : decode cX7_root 2 = .ok (.iconst 0, 1) := by decide +kernel
theorem dX7_root_3 : decode cX7_root 3 = .ok (.aload_n 0, 1) := by decide +kernel
theorem dX7_root_4 : decode cX7_root 4 = .ok (.getfield 9, 3) := by decide +kernel
theorem dX7_root_7 : decode cX7_root 7 = .ok (.iconst 0, 1) := by decide +kernel
theorem dX7_root_8 : decode cX7_root 8 = .ok (.iaload, 1) := by decide +kernel
theorem dX7_root_9 : decode cX7_root 9 = .ok (.iconst 1, 1) := by decide +kernel
theorem dX7_root_10 : decode cX7_root 10 = .ok (.isub, 1) := by decide +kernel
theorem dX7_root_11 : decode cX7_root 11 = .ok (.invokevirtual 168, 3) := by decide +kernel
theorem dX7_root_14 : decode cX7_root 14 = .ok (.invokevirtual 162, 3) := by decide +kernel
theorem dX7_root_17 : decode cX7_root 17 = .ok (.ireturn, 1) := by decide +kernel
theorem dX7_leftAt_0 : decode cX7_leftAt 0 = .ok (.iload_n 1, 1) := by decide +kernel
theorem dX7_leftAt_1 : decode cX7_leftAt 1 = .ok (.ifCond .ge 7, 3) := by decide +kernel
theorem dX7_leftAt_4 : decode cX7_leftAt 4 = .ok (.iconst (-1), 1) := by decide +kernel
theorem dX7_leftAt_5 : decode cX7_leftAt 5 = .ok (.goto 15, 3) := by decide +kernel
theorem dX7_leftAt_8 : decode cX7_leftAt 8 = .ok (.aload_n 0, 1) := by decide +kernel
theorem dX7_leftAt_9 : decode cX7_leftAt 9 = .ok (.aload_n 0, 1) := by decide +kernel
theorem dX7_leftAt_10 : decode cX7_leftAt 10 = .ok (.iload_n 1, 1) := by decide +kernel
theorem dX7_leftAt_11 : decode cX7_leftAt 11 = .ok (.invokevirtual 71, 3) := by decide +kernel
theorem dX7_leftAt_14 : decode cX7_leftAt 14 = .ok (.iload_n 1, 1) := by decide +kernel
theorem dX7_leftAt_15 : decode cX7_leftAt 15 = .ok (.iconst 1, 1) := by decide +kernel
theorem dX7_leftAt_16 : decode cX7_leftAt 16 = .ok (.isub, 1) := by decide +kernel
theorem dX7_leftAt_17 : decode cX7_leftAt 17 = .ok (.invokevirtual 168, 3) := by decide +kernel
theorem dX7_leftAt_20 : decode cX7_leftAt 20 = .ok (.ireturn, 1) := by decide +kernel
theorem dX7_rightAt_0 : decode cX7_rightAt 0 = .ok (.iload_n 1, 1) := by decide +kernel
theorem dX7_rightAt_1 : decode cX7_rightAt 1 = .ok (.ifCond .ge 7, 3) := by decide +kernel
theorem dX7_rightAt_4 : decode cX7_rightAt 4 = .ok (.iconst (-1), 1) := by decide +kernel
theorem dX7_rightAt_5 : decode cX7_rightAt 5 = .ok (.goto 15, 3) := by decide +kernel
theorem dX7_rightAt_8 : decode cX7_rightAt 8 = .ok (.aload_n 0, 1) := by decide +kernel
theorem dX7_rightAt_9 : decode cX7_rightAt 9 = .ok (.iload_n 1, 1) := by decide +kernel
theorem dX7_rightAt_10 : decode cX7_rightAt 10 = .ok (.iconst 1, 1) := by decide +kernel
theorem dX7_rightAt_11 : decode cX7_rightAt 11 = .ok (.iadd, 1) := by decide +kernel
theorem dX7_rightAt_12 : decode cX7_rightAt 12 = .ok (.aload_n 0, 1) := by decide +kernel
theorem dX7_rightAt_13 : decode cX7_rightAt 13 = .ok (.iload_n 1, 1) := by decide +kernel
theorem dX7_rightAt_14 : decode cX7_rightAt 14 = .ok (.invokevirtual 74, 3) := by decide +kernel
theorem dX7_rightAt_17 : decode cX7_rightAt 17 = .ok (.invokevirtual 168, 3) := by decide +kernel
theorem dX7_rightAt_20 : decode cX7_rightAt 20 = .ok (.ireturn, 1) := by decide +kernel
theorem dX7_hasLeft_0 : decode cX7_hasLeft 0 = .ok (.aload_n 0, 1) := by decide +kernel
theorem dX7_hasLeft_1 : decode cX7_hasLeft 1 = .ok (.aload_n 0, 1) := by decide +kernel
theorem dX7_hasLeft_2 : decode cX7_hasLeft 2 = .ok (.iload_n 1, 1) := by decide +kernel
theorem dX7_hasLeft_3 : decode cX7_hasLeft 3 = .ok (.invokevirtual 112, 3) := by decide +kernel
theorem dX7_hasLeft_6 : decode cX7_hasLeft 6 = .ok (.ifCond .lt 7, 3) := by decide +kernel
theorem dX7_hasLeft_9 : decode cX7_hasLeft 9 = .ok (.iconst 1, 1) := by decide +kernel
theorem dX7_hasLeft_10 : decode cX7_hasLeft 10 = .ok (.goto 4, 3) := by decide +kernel
theorem dX7_hasLeft_13 : decode cX7_hasLeft 13 = .ok (.iconst 0, 1) := by decide +kernel
theorem dX7_hasLeft_14 : decode cX7_hasLeft 14 = .ok (.invokevirtual 53, 3) := by decide +kernel
theorem dX7_hasLeft_17 : decode cX7_hasLeft 17 = .ok (.ifCond .eq 19, 3) := by decide +kernel
theorem dX7_hasLeft_20 : decode cX7_hasLeft 20 = .ok (.aload_n 0, 1) := by decide +kernel
theorem dX7_hasLeft_21 : decode cX7_hasLeft 21 = .ok (.aload_n 0, 1) := by decide +kernel
theorem dX7_hasLeft_22 : decode cX7_hasLeft 22 = .ok (.iload_n 1, 1) := by decide +kernel
theorem dX7_hasLeft_23 : decode cX7_hasLeft 23 = .ok (.invokevirtual 112, 3) := by decide +kernel
theorem dX7_hasLeft_26 : decode cX7_hasLeft 26 = .ok (.invokevirtual 171, 3) := by decide +kernel
theorem dX7_hasLeft_29 : decode cX7_hasLeft 29 = .ok (.ifCond .lt 7, 3) := by decide +kernel
theorem dX7_hasLeft_32 : decode cX7_hasLeft 32 = .ok (.iconst 1, 1) := by decide +kernel
theorem dX7_hasLeft_33 : decode cX7_hasLeft 33 = .ok (.goto 4, 3) := by decide +kernel
theorem dX7_hasLeft_36 : decode cX7_hasLeft 36 = .ok (.iconst 0, 1) := by decide +kernel
theorem dX7_hasLeft_37 : decode cX7_hasLeft 37 = .ok (.ireturn, 1) := by decide +kernel
theorem dX7_hasRight_0 : decode cX7_hasRight 0 = .ok (.aload_n 0, 1) := by decide +kernel
theorem dX7_hasRight_1 : decode cX7_hasRight 1 = .ok (.aload_n 0, 1) := by decide +kernel
theorem dX7_hasRight_2 : decode cX7_hasRight 2 = .ok (.iload_n 1, 1) := by decide +kernel
theorem dX7_hasRight_3 : decode cX7_hasRight 3 = .ok (.invokevirtual 112, 3) := by decide +kernel
theorem dX7_hasRight_6 : decode cX7_hasRight 6 = .ok (.ifCond .lt 7, 3) := by decide +kernel
theorem dX7_hasRight_9 : decode cX7_hasRight 9 = .ok (.iconst 1, 1) := by decide +kernel
theorem dX7_hasRight_10 : decode cX7_hasRight 10 = .ok (.goto 4, 3) := by decide +kernel
theorem dX7_hasRight_13 : decode cX7_hasRight 13 = .ok (.iconst 0, 1) := by decide +kernel
theorem dX7_hasRight_14 : decode cX7_hasRight 14 = .ok (.invokevirtual 53, 3) := by decide +kernel
theorem dX7_hasRight_17 : decode cX7_hasRight 17 = .ok (.ifCond .eq 19, 3) := by decide +kernel
theorem dX7_hasRight_20 : decode cX7_hasRight 20 = .ok (.aload_n 0, 1) := by decide +kernel
theorem dX7_hasRight_21 : decode cX7_hasRight 21 = .ok (.aload_n 0, 1) := by decide +kernel
theorem dX7_hasRight_22 : decode cX7_hasRight 22 = .ok (.iload_n 1, 1) := by decide +kernel
theorem dX7_hasRight_23 : decode cX7_hasRight 23 = .ok (.invokevirtual 112, 3) := by decide +kernel
theorem dX7_hasRight_26 : decode cX7_hasRight 26 = .ok (.invokevirtual 174, 3) := by decide +kernel
theorem dX7_hasRight_29 : decode cX7_hasRight 29 = .ok (.ifCond .lt 7, 3) := by decide +kernel
theorem dX7_hasRight_32 : decode cX7_hasRight 32 = .ok (.iconst 1, 1) := by decide +kernel
theorem dX7_hasRight_33 : decode cX7_hasRight 33 = .ok (.goto 4, 3) := by decide +kernel
theorem dX7_hasRight_36 : decode cX7_hasRight 36 = .ok (.iconst 0, 1) := by decide +kernel
theorem dX7_hasRight_37 : decode cX7_hasRight 37 = .ok (.ireturn, 1) := by decide +kernel
theorem dX7_leftOf_0 : decode cX7_leftOf 0 = .ok (.aload_n 0, 1) := by decide +kernel
theorem dX7_leftOf_1 : decode cX7_leftOf 1 = .ok (.aload_n 0, 1) := by decide +kernel
theorem dX7_leftOf_2 : decode cX7_leftOf 2 = .ok (.aload_n 0, 1) := by decide +kernel
theorem dX7_leftOf_3 : decode cX7_leftOf 3 = .ok (.iload_n 1, 1) := by decide +kernel
theorem dX7_leftOf_4 : decode cX7_leftOf 4 = .ok (.invokevirtual 112, 3) := by decide +kernel
theorem dX7_leftOf_7 : decode cX7_leftOf 7 = .ok (.invokevirtual 171, 3) := by decide +kernel
theorem dX7_leftOf_10 : decode cX7_leftOf 10 = .ok (.invokevirtual 162, 3) := by decide +kernel
theorem dX7_leftOf_13 : decode cX7_leftOf 13 = .ok (.ireturn, 1) := by decide +kernel
theorem dX7_rightOf_0 : decode cX7_rightOf 0 = .ok (.aload_n 0, 1) := by decide +kernel
theorem dX7_rightOf_1 : decode cX7_rightOf 1 = .ok (.aload_n 0, 1) := by decide +kernel
theorem dX7_rightOf_2 : decode cX7_rightOf 2 = .ok (.aload_n 0, 1) := by decide +kernel
theorem dX7_rightOf_3 : decode cX7_rightOf 3 = .ok (.iload_n 1, 1) := by decide +kernel
theorem dX7_rightOf_4 : decode cX7_rightOf 4 = .ok (.invokevirtual 112, 3) := by decide +kernel
theorem dX7_rightOf_7 : decode cX7_rightOf 7 = .ok (.invokevirtual 174, 3) := by decide +kernel
theorem dX7_rightOf_10 : decode cX7_rightOf 10 = .ok (.invokevirtual 162, 3) := by decide +kernel
theorem dX7_rightOf_13 : decode cX7_rightOf 13 = .ok (.ireturn, 1) := by decide +kernel
theorem dX7_parentAt_0 : decode cX7_parentAt 0 = .ok (.iload_n 1, 1) := by decide +kernel
theorem dX7_parentAt_1 : decode cX7_parentAt 1 = .ok (.ifCond .ge 5, 3) := by decide +kernel
theorem dX7_parentAt_4 : decode cX7_parentAt 4 = .ok (.iconst (-1), 1) := by decide +kernel
theorem dX7_parentAt_5 : decode cX7_parentAt 5 = .ok (.ireturn, 1) := by decide +kernel
theorem dX7_parentAt_6 : decode cX7_parentAt 6 = .ok (.aload_n 0, 1) := by decide +kernel
theorem dX7_parentAt_7 : decode cX7_parentAt 7 = .ok (.iload_n 1, 1) := by decide +kernel
theorem dX7_parentAt_8 : decode cX7_parentAt 8 = .ok (.invokevirtual 71, 3) := by decide +kernel
theorem dX7_parentAt_11 : decode cX7_parentAt 11 = .ok (.iconst 1, 1) := by decide +kernel
theorem dX7_parentAt_12 : decode cX7_parentAt 12 = .ok (.isub, 1) := by decide +kernel
theorem dX7_parentAt_13 : decode cX7_parentAt 13 = .ok (.istore_n 2, 1) := by decide +kernel
theorem dX7_parentAt_14 : decode cX7_parentAt 14 = .ok (.aload_n 0, 1) := by decide +kernel
theorem dX7_parentAt_15 : decode cX7_parentAt 15 = .ok (.iload_n 1, 1) := by decide +kernel
theorem dX7_parentAt_16 : decode cX7_parentAt 16 = .ok (.invokevirtual 74, 3) := by decide +kernel
theorem dX7_parentAt_19 : decode cX7_parentAt 19 = .ok (.iconst 1, 1) := by decide +kernel
theorem dX7_parentAt_20 : decode cX7_parentAt 20 = .ok (.iadd, 1) := by decide +kernel
theorem dX7_parentAt_21 : decode cX7_parentAt 21 = .ok (.istore_n 3, 1) := by decide +kernel
theorem dX7_parentAt_22 : decode cX7_parentAt 22 = .ok (.iload_n 2, 1) := by decide +kernel
theorem dX7_parentAt_23 : decode cX7_parentAt 23 = .ok (.ifCond .ge 19, 3) := by decide +kernel
theorem dX7_parentAt_26 : decode cX7_parentAt 26 = .ok (.iload_n 3, 1) := by decide +kernel
theorem dX7_parentAt_27 : decode cX7_parentAt 27 = .ok (.aload_n 0, 1) := by decide +kernel
theorem dX7_parentAt_28 : decode cX7_parentAt 28 = .ok (.getfield 9, 3) := by decide +kernel
theorem dX7_parentAt_31 : decode cX7_parentAt 31 = .ok (.iconst 0, 1) := by decide +kernel
theorem dX7_parentAt_32 : decode cX7_parentAt 32 = .ok (.iaload, 1) := by decide +kernel
theorem dX7_parentAt_33 : decode cX7_parentAt 33 = .ok (.if_icmp .ge 7, 3) := by decide +kernel
theorem dX7_parentAt_36 : decode cX7_parentAt 36 = .ok (.iload_n 3, 1) := by decide +kernel
theorem dX7_parentAt_37 : decode cX7_parentAt 37 = .ok (.goto 4, 3) := by decide +kernel
theorem dX7_parentAt_40 : decode cX7_parentAt 40 = .ok (.iconst (-1), 1) := by decide +kernel
theorem dX7_parentAt_41 : decode cX7_parentAt 41 = .ok (.ireturn, 1) := by decide +kernel
theorem dX7_parentAt_42 : decode cX7_parentAt 42 = .ok (.iload_n 3, 1) := by decide +kernel
theorem dX7_parentAt_43 : decode cX7_parentAt 43 = .ok (.aload_n 0, 1) := by decide +kernel
theorem dX7_parentAt_44 : decode cX7_parentAt 44 = .ok (.getfield 9, 3) := by decide +kernel
theorem dX7_parentAt_47 : decode cX7_parentAt 47 = .ok (.iconst 0, 1) := by decide +kernel
theorem dX7_parentAt_48 : decode cX7_parentAt 48 = .ok (.iaload, 1) := by decide +kernel
theorem dX7_parentAt_49 : decode cX7_parentAt 49 = .ok (.if_icmp .ge 16, 3) := by decide +kernel
theorem dX7_parentAt_52 : decode cX7_parentAt 52 = .ok (.aload_n 0, 1) := by decide +kernel
theorem dX7_parentAt_53 : decode cX7_parentAt 53 = .ok (.iload_n 2, 1) := by decide +kernel
theorem dX7_parentAt_54 : decode cX7_parentAt 54 = .ok (.iload_n 3, 1) := by decide +kernel
theorem dX7_parentAt_55 : decode cX7_parentAt 55 = .ok (.invokevirtual 67, 3) := by decide +kernel
theorem dX7_parentAt_58 : decode cX7_parentAt 58 = .ok (.ifCond .eq 7, 3) := by decide +kernel
theorem dX7_parentAt_61 : decode cX7_parentAt 61 = .ok (.iload_n 3, 1) := by decide +kernel
theorem dX7_parentAt_62 : decode cX7_parentAt 62 = .ok (.goto 4, 3) := by decide +kernel
theorem dX7_parentAt_65 : decode cX7_parentAt 65 = .ok (.iload_n 2, 1) := by decide +kernel
theorem dX7_parentAt_66 : decode cX7_parentAt 66 = .ok (.ireturn, 1) := by decide +kernel
theorem dX7_parentOf_0 : decode cX7_parentOf 0 = .ok (.aload_n 0, 1) := by decide +kernel
theorem dX7_parentOf_1 : decode cX7_parentOf 1 = .ok (.aload_n 0, 1) := by decide +kernel
theorem dX7_parentOf_2 : decode cX7_parentOf 2 = .ok (.aload_n 0, 1) := by decide +kernel
theorem dX7_parentOf_3 : decode cX7_parentOf 3 = .ok (.iload_n 1, 1) := by decide +kernel
theorem dX7_parentOf_4 : decode cX7_parentOf 4 = .ok (.invokevirtual 112, 3) := by decide +kernel
theorem dX7_parentOf_7 : decode cX7_parentOf 7 = .ok (.invokevirtual 177, 3) := by decide +kernel
theorem dX7_parentOf_10 : decode cX7_parentOf 10 = .ok (.invokevirtual 162, 3) := by decide +kernel
theorem dX7_parentOf_13 : decode cX7_parentOf 13 = .ok (.ireturn, 1) := by decide +kernel
theorem dX7_depthOf_0 : decode cX7_depthOf 0 = .ok (.aload_n 0, 1) := by decide +kernel
theorem dX7_depthOf_1 : decode cX7_depthOf 1 = .ok (.iload_n 1, 1) := by decide +kernel
theorem dX7_depthOf_2 : decode cX7_depthOf 2 = .ok (.invokevirtual 112, 3) := by decide +kernel
theorem dX7_depthOf_5 : decode cX7_depthOf 5 = .ok (.istore_n 2, 1) := by decide +kernel
theorem dX7_depthOf_6 : decode cX7_depthOf 6 = .ok (.aload_n 0, 1) := by decide +kernel
theorem dX7_depthOf_7 : decode cX7_depthOf 7 = .ok (.iload_n 2, 1) := by decide +kernel
theorem dX7_depthOf_8 : decode cX7_depthOf 8 = .ok (.ifCond .lt 7, 3) := by decide +kernel
theorem dX7_depthOf_11 : decode cX7_depthOf 11 = .ok (.iconst 1, 1) := by decide +kernel
theorem dX7_depthOf_12 : decode cX7_depthOf 12 = .ok (.goto 4, 3) := by decide +kernel
theorem dX7_depthOf_15 : decode cX7_depthOf 15 = .ok (.iconst 0, 1) := by decide +kernel
theorem dX7_depthOf_16 : decode cX7_depthOf 16 = .ok (.invokevirtual 53, 3) := by decide +kernel
theorem dX7_depthOf_19 : decode cX7_depthOf 19 = .ok (.ifCond .eq 11, 3) := by decide +kernel
theorem dX7_depthOf_22 : decode cX7_depthOf 22 = .ok (.aload_n 0, 1) := by decide +kernel
theorem dX7_depthOf_23 : decode cX7_depthOf 23 = .ok (.iload_n 2, 1) := by decide +kernel
theorem dX7_depthOf_24 : decode cX7_depthOf 24 = .ok (.invokevirtual 83, 3) := by decide +kernel
theorem dX7_depthOf_27 : decode cX7_depthOf 27 = .ok (.goto 4, 3) := by decide +kernel
theorem dX7_depthOf_30 : decode cX7_depthOf 30 = .ok (.iconst 0, 1) := by decide +kernel
theorem dX7_depthOf_31 : decode cX7_depthOf 31 = .ok (.ireturn, 1) := by decide +kernel
theorem dX7_sizeAt_0 : decode cX7_sizeAt 0 = .ok (.iload_n 1, 1) := by decide +kernel
theorem dX7_sizeAt_1 : decode cX7_sizeAt 1 = .ok (.ifCond .ge 7, 3) := by decide +kernel
theorem dX7_sizeAt_4 : decode cX7_sizeAt 4 = .ok (.iconst 0, 1) := by decide +kernel
theorem dX7_sizeAt_5 : decode cX7_sizeAt 5 = .ok (.goto 16, 3) := by decide +kernel
theorem dX7_sizeAt_8 : decode cX7_sizeAt 8 = .ok (.aload_n 0, 1) := by decide +kernel
theorem dX7_sizeAt_9 : decode cX7_sizeAt 9 = .ok (.iload_n 1, 1) := by decide +kernel
theorem dX7_sizeAt_10 : decode cX7_sizeAt 10 = .ok (.invokevirtual 74, 3) := by decide +kernel
theorem dX7_sizeAt_13 : decode cX7_sizeAt 13 = .ok (.aload_n 0, 1) := by decide +kernel
theorem dX7_sizeAt_14 : decode cX7_sizeAt 14 = .ok (.iload_n 1, 1) := by decide +kernel
theorem dX7_sizeAt_15 : decode cX7_sizeAt 15 = .ok (.invokevirtual 71, 3) := by decide +kernel
theorem dX7_sizeAt_18 : decode cX7_sizeAt 18 = .ok (.isub, 1) := by decide +kernel
theorem dX7_sizeAt_19 : decode cX7_sizeAt 19 = .ok (.iconst 1, 1) := by decide +kernel
theorem dX7_sizeAt_20 : decode cX7_sizeAt 20 = .ok (.iadd, 1) := by decide +kernel
theorem dX7_sizeAt_21 : decode cX7_sizeAt 21 = .ok (.ireturn, 1) := by decide +kernel
theorem dX7_subtreeSize_0 : decode cX7_subtreeSize 0 = .ok (.aload_n 0, 1) := by decide +kernel
theorem dX7_subtreeSize_1 : decode cX7_subtreeSize 1 = .ok (.aload_n 0, 1) := by decide +kernel
theorem dX7_subtreeSize_2 : decode cX7_subtreeSize 2 = .ok (.iload_n 1, 1) := by decide +kernel
theorem dX7_subtreeSize_3 : decode cX7_subtreeSize 3 = .ok (.invokevirtual 112, 3) := by decide +kernel
theorem dX7_subtreeSize_6 : decode cX7_subtreeSize 6 = .ok (.ifCond .lt 7, 3) := by decide +kernel
theorem dX7_subtreeSize_9 : decode cX7_subtreeSize 9 = .ok (.iconst 1, 1) := by decide +kernel
theorem dX7_subtreeSize_10 : decode cX7_subtreeSize 10 = .ok (.goto 4, 3) := by decide +kernel
theorem dX7_subtreeSize_13 : decode cX7_subtreeSize 13 = .ok (.iconst 0, 1) := by decide +kernel
theorem dX7_subtreeSize_14 : decode cX7_subtreeSize 14 = .ok (.invokevirtual 53, 3) := by decide +kernel
theorem dX7_subtreeSize_17 : decode cX7_subtreeSize 17 = .ok (.ifCond .eq 15, 3) := by decide +kernel
theorem dX7_subtreeSize_20 : decode cX7_subtreeSize 20 = .ok (.aload_n 0, 1) := by decide +kernel
theorem dX7_subtreeSize_21 : decode cX7_subtreeSize 21 = .ok (.aload_n 0, 1) := by decide +kernel
theorem dX7_subtreeSize_22 : decode cX7_subtreeSize 22 = .ok (.iload_n 1, 1) := by decide +kernel
theorem dX7_subtreeSize_23 : decode cX7_subtreeSize 23 = .ok (.invokevirtual 112, 3) := by decide +kernel
theorem dX7_subtreeSize_26 : decode cX7_subtreeSize 26 = .ok (.invokevirtual 180, 3) := by decide +kernel
theorem dX7_subtreeSize_29 : decode cX7_subtreeSize 29 = .ok (.goto 4, 3) := by decide +kernel
theorem dX7_subtreeSize_32 : decode cX7_subtreeSize 32 = .ok (.iconst 0, 1) := by decide +kernel
theorem dX7_subtreeSize_33 : decode cX7_subtreeSize 33 = .ok (.ireturn, 1) := by decide +kernel
theorem dX7_imbalanceOf_0 : decode cX7_imbalanceOf 0 = .ok (.aload_n 0, 1) := by decide +kernel
theorem dX7_imbalanceOf_1 : decode cX7_imbalanceOf 1 = .ok (.iload_n 1, 1) := by decide +kernel
theorem dX7_imbalanceOf_2 : decode cX7_imbalanceOf 2 = .ok (.invokevirtual 112, 3) := by decide +kernel
theorem dX7_imbalanceOf_5 : decode cX7_imbalanceOf 5 = .ok (.istore_n 2, 1) := by decide +kernel
theorem dX7_imbalanceOf_6 : decode cX7_imbalanceOf 6 = .ok (.aload_n 0, 1) := by decide +kernel
theorem dX7_imbalanceOf_7 : decode cX7_imbalanceOf 7 = .ok (.iload_n 2, 1) := by decide +kernel
theorem dX7_imbalanceOf_8 : decode cX7_imbalanceOf 8 = .ok (.ifCond .lt 7, 3) := by decide +kernel
theorem dX7_imbalanceOf_11 : decode cX7_imbalanceOf 11 = .ok (.iconst 1, 1) := by decide +kernel
theorem dX7_imbalanceOf_12 : decode cX7_imbalanceOf 12 = .ok (.goto 4, 3) := by decide +kernel
theorem dX7_imbalanceOf_15 : decode cX7_imbalanceOf 15 = .ok (.iconst 0, 1) := by decide +kernel
theorem dX7_imbalanceOf_16 : decode cX7_imbalanceOf 16 = .ok (.invokevirtual 53, 3) := by decide +kernel
theorem dX7_imbalanceOf_19 : decode cX7_imbalanceOf 19 = .ok (.ifCond .eq 25, 3) := by decide +kernel
theorem dX7_imbalanceOf_22 : decode cX7_imbalanceOf 22 = .ok (.aload_n 0, 1) := by decide +kernel
theorem dX7_imbalanceOf_23 : decode cX7_imbalanceOf 23 = .ok (.aload_n 0, 1) := by decide +kernel
theorem dX7_imbalanceOf_24 : decode cX7_imbalanceOf 24 = .ok (.iload_n 2, 1) := by decide +kernel
theorem dX7_imbalanceOf_25 : decode cX7_imbalanceOf 25 = .ok (.invokevirtual 171, 3) := by decide +kernel
theorem dX7_imbalanceOf_28 : decode cX7_imbalanceOf 28 = .ok (.invokevirtual 180, 3) := by decide +kernel
theorem dX7_imbalanceOf_31 : decode cX7_imbalanceOf 31 = .ok (.aload_n 0, 1) := by decide +kernel
theorem dX7_imbalanceOf_32 : decode cX7_imbalanceOf 32 = .ok (.aload_n 0, 1) := by decide +kernel
theorem dX7_imbalanceOf_33 : decode cX7_imbalanceOf 33 = .ok (.iload_n 2, 1) := by decide +kernel
theorem dX7_imbalanceOf_34 : decode cX7_imbalanceOf 34 = .ok (.invokevirtual 174, 3) := by decide +kernel
theorem dX7_imbalanceOf_37 : decode cX7_imbalanceOf 37 = .ok (.invokevirtual 180, 3) := by decide +kernel
theorem dX7_imbalanceOf_40 : decode cX7_imbalanceOf 40 = .ok (.isub, 1) := by decide +kernel
theorem dX7_imbalanceOf_41 : decode cX7_imbalanceOf 41 = .ok (.goto 4, 3) := by decide +kernel
theorem dX7_imbalanceOf_44 : decode cX7_imbalanceOf 44 = .ok (.iconst 0, 1) := by decide +kernel
theorem dX7_imbalanceOf_45 : decode cX7_imbalanceOf 45 = .ok (.ireturn, 1) := by decide +kernel
theorem dX7_height_0 : decode cX7_height 0 = .ok (.aload_n 0, 1) := by decide +kernel
theorem dX7_height_1 : decode cX7_height 1 = .ok (.iconst 0, 1) := by decide +kernel
theorem dX7_height_2 : decode cX7_height 2 = .ok (.putfield 27, 3) := by decide +kernel
theorem dX7_height_5 : decode cX7_height 5 = .ok (.iconst (-1), 1) := by decide +kernel
theorem dX7_height_6 : decode cX7_height 6 = .ok (.istore_n 1, 1) := by decide +kernel
theorem dX7_height_7 : decode cX7_height 7 = .ok (.iconst 0, 1) := by decide +kernel
theorem dX7_height_8 : decode cX7_height 8 = .ok (.istore_n 2, 1) := by decide +kernel
theorem dX7_height_9 : decode cX7_height 9 = .ok (.iload_n 2, 1) := by decide +kernel
theorem dX7_height_10 : decode cX7_height 10 = .ok (.aload_n 0, 1) := by decide +kernel
theorem dX7_height_11 : decode cX7_height 11 = .ok (.getfield 9, 3) := by decide +kernel
theorem dX7_height_14 : decode cX7_height 14 = .ok (.iconst 0, 1) := by decide +kernel
theorem dX7_height_15 : decode cX7_height 15 = .ok (.iaload, 1) := by decide +kernel
theorem dX7_height_16 : decode cX7_height 16 = .ok (.if_icmp .ge 28, 3) := by decide +kernel
theorem dX7_height_19 : decode cX7_height 19 = .ok (.aload_n 0, 1) := by decide +kernel
theorem dX7_height_20 : decode cX7_height 20 = .ok (.iload_n 2, 1) := by decide +kernel
theorem dX7_height_21 : decode cX7_height 21 = .ok (.invokevirtual 83, 3) := by decide +kernel
theorem dX7_height_24 : decode cX7_height 24 = .ok (.iload_n 1, 1) := by decide +kernel
theorem dX7_height_25 : decode cX7_height 25 = .ok (.if_icmp .le 11, 3) := by decide +kernel
theorem dX7_height_28 : decode cX7_height 28 = .ok (.aload_n 0, 1) := by decide +kernel
theorem dX7_height_29 : decode cX7_height 29 = .ok (.iload_n 2, 1) := by decide +kernel
theorem dX7_height_30 : decode cX7_height 30 = .ok (.invokevirtual 83, 3) := by decide +kernel
theorem dX7_height_33 : decode cX7_height 33 = .ok (.goto 4, 3) := by decide +kernel
theorem dX7_height_36 : decode cX7_height 36 = .ok (.iload_n 1, 1) := by decide +kernel
theorem dX7_height_37 : decode cX7_height 37 = .ok (.istore_n 1, 1) := by decide +kernel
theorem dX7_height_38 : decode cX7_height 38 = .ok (.iinc 2 1, 3) := by decide +kernel
theorem dX7_height_41 : decode cX7_height 41 = .ok (.goto (-32), 3) := by decide +kernel
theorem dX7_height_44 : decode cX7_height 44 = .ok (.iload_n 1, 1) := by decide +kernel
theorem dX7_height_45 : decode cX7_height 45 = .ok (.ireturn, 1) := by decide +kernel
theorem dX7_leaves_0 : decode cX7_leaves 0 = .ok (.iconst 0, 1) := by decide +kernel
theorem dX7_leaves_1 : decode cX7_leaves 1 = .ok (.istore_n 1, 1) := by decide +kernel
theorem dX7_leaves_2 : decode cX7_leaves 2 = .ok (.iconst 0, 1) := by decide +kernel
theorem dX7_leaves_3 : decode cX7_leaves 3 = .ok (.istore_n 2, 1) := by decide +kernel
theorem dX7_leaves_4 : decode cX7_leaves 4 = .ok (.iload_n 2, 1) := by decide +kernel
theorem dX7_leaves_5 : decode cX7_leaves 5 = .ok (.aload_n 0, 1) := by decide +kernel
theorem dX7_leaves_6 : decode cX7_leaves 6 = .ok (.getfield 9, 3) := by decide +kernel
theorem dX7_leaves_9 : decode cX7_leaves 9 = .ok (.iconst 0, 1) := by decide +kernel
theorem dX7_leaves_10 : decode cX7_leaves 10 = .ok (.iaload, 1) := by decide +kernel
theorem dX7_leaves_11 : decode cX7_leaves 11 = .ok (.if_icmp .ge 26, 3) := by decide +kernel
theorem dX7_leaves_14 : decode cX7_leaves 14 = .ok (.iload_n 1, 1) := by decide +kernel
theorem dX7_leaves_15 : decode cX7_leaves 15 = .ok (.aload_n 0, 1) := by decide +kernel
theorem dX7_leaves_16 : decode cX7_leaves 16 = .ok (.iload_n 2, 1) := by decide +kernel
theorem dX7_leaves_17 : decode cX7_leaves 17 = .ok (.invokevirtual 180, 3) := by decide +kernel
theorem dX7_leaves_20 : decode cX7_leaves 20 = .ok (.iconst 1, 1) := by decide +kernel
theorem dX7_leaves_21 : decode cX7_leaves 21 = .ok (.if_icmp .ne 7, 3) := by decide +kernel
theorem dX7_leaves_24 : decode cX7_leaves 24 = .ok (.iconst 1, 1) := by decide +kernel
theorem dX7_leaves_25 : decode cX7_leaves 25 = .ok (.goto 4, 3) := by decide +kernel
theorem dX7_leaves_28 : decode cX7_leaves 28 = .ok (.iconst 0, 1) := by decide +kernel
theorem dX7_leaves_29 : decode cX7_leaves 29 = .ok (.iadd, 1) := by decide +kernel
theorem dX7_leaves_30 : decode cX7_leaves 30 = .ok (.istore_n 1, 1) := by decide +kernel
theorem dX7_leaves_31 : decode cX7_leaves 31 = .ok (.iinc 2 1, 3) := by decide +kernel
theorem dX7_leaves_34 : decode cX7_leaves 34 = .ok (.goto (-30), 3) := by decide +kernel
theorem dX7_leaves_37 : decode cX7_leaves 37 = .ok (.iload_n 1, 1) := by decide +kernel
theorem dX7_leaves_38 : decode cX7_leaves 38 = .ok (.ireturn, 1) := by decide +kernel
theorem dX7_leafCount_0 : decode cX7_leafCount 0 = .ok (.aload_n 0, 1) := by decide +kernel
theorem dX7_leafCount_1 : decode cX7_leafCount 1 = .ok (.iconst 0, 1) := by decide +kernel
theorem dX7_leafCount_2 : decode cX7_leafCount 2 = .ok (.putfield 27, 3) := by decide +kernel
theorem dX7_leafCount_5 : decode cX7_leafCount 5 = .ok (.aload_n 0, 1) := by decide +kernel
theorem dX7_leafCount_6 : decode cX7_leafCount 6 = .ok (.invokevirtual 183, 3) := by decide +kernel
theorem dX7_leafCount_9 : decode cX7_leafCount 9 = .ok (.ireturn, 1) := by decide +kernel
theorem dX7_common_0 : decode cX7_common 0 = .ok (.iload_n 1, 1) := by decide +kernel
theorem dX7_common_1 : decode cX7_common 1 = .ok (.iload_n 2, 1) := by decide +kernel
theorem dX7_common_2 : decode cX7_common 2 = .ok (.if_icmp .ge 12, 3) := by decide +kernel
theorem dX7_common_5 : decode cX7_common 5 = .ok (.aload_n 0, 1) := by decide +kernel
theorem dX7_common_6 : decode cX7_common 6 = .ok (.iload_n 1, 1) := by decide +kernel
theorem dX7_common_7 : decode cX7_common 7 = .ok (.iload_n 2, 1) := by decide +kernel
theorem dX7_common_8 : decode cX7_common 8 = .ok (.invokevirtual 168, 3) := by decide +kernel
theorem dX7_common_11 : decode cX7_common 11 = .ok (.goto 9, 3) := by decide +kernel
theorem dX7_common_14 : decode cX7_common 14 = .ok (.aload_n 0, 1) := by decide +kernel
theorem dX7_common_15 : decode cX7_common 15 = .ok (.iload_n 2, 1) := by decide +kernel
theorem dX7_common_16 : decode cX7_common 16 = .ok (.iload_n 1, 1) := by decide +kernel
theorem dX7_common_17 : decode cX7_common 17 = .ok (.invokevirtual 168, 3) := by decide +kernel
theorem dX7_common_20 : decode cX7_common 20 = .ok (.ireturn, 1) := by decide +kernel
theorem dX7_commonAncestor_0 : decode cX7_commonAncestor 0 = .ok (.aload_n 0, 1) := by decide +kernel
theorem dX7_commonAncestor_1 : decode cX7_commonAncestor 1 = .ok (.iload_n 1, 1) := by decide +kernel
theorem dX7_commonAncestor_2 : decode cX7_commonAncestor 2 = .ok (.invokevirtual 112, 3) := by decide +kernel
theorem dX7_commonAncestor_5 : decode cX7_commonAncestor 5 = .ok (.istore_n 3, 1) := by decide +kernel
theorem dX7_commonAncestor_6 : decode cX7_commonAncestor 6 = .ok (.aload_n 0, 1) := by decide +kernel
theorem dX7_commonAncestor_7 : decode cX7_commonAncestor 7 = .ok (.iload_n 2, 1) := by decide +kernel
theorem dX7_commonAncestor_8 : decode cX7_commonAncestor 8 = .ok (.invokevirtual 112, 3) := by decide +kernel
theorem dX7_commonAncestor_11 : decode cX7_commonAncestor 11 = .ok (.istore 4, 2) := by decide +kernel
theorem dX7_commonAncestor_13 : decode cX7_commonAncestor 13 = .ok (.aload_n 0, 1) := by decide +kernel
theorem dX7_commonAncestor_14 : decode cX7_commonAncestor 14 = .ok (.iload_n 3, 1) := by decide +kernel
theorem dX7_commonAncestor_15 : decode cX7_commonAncestor 15 = .ok (.ifCond .lt 12, 3) := by decide +kernel
theorem dX7_commonAncestor_18 : decode cX7_commonAncestor 18 = .ok (.iload 4, 2) := by decide +kernel
theorem dX7_commonAncestor_20 : decode cX7_commonAncestor 20 = .ok (.ifCond .lt 7, 3) := by decide +kernel
theorem dX7_commonAncestor_23 : decode cX7_commonAncestor 23 = .ok (.iconst 1, 1) := by decide +kernel
theorem dX7_commonAncestor_24 : decode cX7_commonAncestor 24 = .ok (.goto 4, 3) := by decide +kernel
theorem dX7_commonAncestor_27 : decode cX7_commonAncestor 27 = .ok (.iconst 0, 1) := by decide +kernel
theorem dX7_commonAncestor_28 : decode cX7_commonAncestor 28 = .ok (.invokevirtual 53, 3) := by decide +kernel
theorem dX7_commonAncestor_31 : decode cX7_commonAncestor 31 = .ok (.ifCond .eq 17, 3) := by decide +kernel
theorem dX7_commonAncestor_34 : decode cX7_commonAncestor 34 = .ok (.aload_n 0, 1) := by decide +kernel
theorem dX7_commonAncestor_35 : decode cX7_commonAncestor 35 = .ok (.aload_n 0, 1) := by decide +kernel
theorem dX7_commonAncestor_36 : decode cX7_commonAncestor 36 = .ok (.iload_n 3, 1) := by decide +kernel
theorem dX7_commonAncestor_37 : decode cX7_commonAncestor 37 = .ok (.iload 4, 2) := by decide +kernel
theorem dX7_commonAncestor_39 : decode cX7_commonAncestor 39 = .ok (.invokevirtual 186, 3) := by decide +kernel
theorem dX7_commonAncestor_42 : decode cX7_commonAncestor 42 = .ok (.invokevirtual 57, 3) := by decide +kernel
theorem dX7_commonAncestor_45 : decode cX7_commonAncestor 45 = .ok (.goto 4, 3) := by decide +kernel
theorem dX7_commonAncestor_48 : decode cX7_commonAncestor 48 = .ok (.iconst 0, 1) := by decide +kernel
theorem dX7_commonAncestor_49 : decode cX7_commonAncestor 49 = .ok (.ireturn, 1) := by decide +kernel
theorem dX7_distance_0 : decode cX7_distance 0 = .ok (.aload_n 0, 1) := by decide +kernel
theorem dX7_distance_1 : decode cX7_distance 1 = .ok (.iload_n 1, 1) := by decide +kernel
theorem dX7_distance_2 : decode cX7_distance 2 = .ok (.invokevirtual 112, 3) := by decide +kernel
theorem dX7_distance_5 : decode cX7_distance 5 = .ok (.istore_n 3, 1) := by decide +kernel
theorem dX7_distance_6 : decode cX7_distance 6 = .ok (.aload_n 0, 1) := by decide +kernel
theorem dX7_distance_7 : decode cX7_distance 7 = .ok (.iload_n 2, 1) := by decide +kernel
theorem dX7_distance_8 : decode cX7_distance 8 = .ok (.invokevirtual 112, 3) := by decide +kernel
theorem dX7_distance_11 : decode cX7_distance 11 = .ok (.istore 4, 2) := by decide +kernel
theorem dX7_distance_13 : decode cX7_distance 13 = .ok (.aload_n 0, 1) := by decide +kernel
theorem dX7_distance_14 : decode cX7_distance 14 = .ok (.iload_n 3, 1) := by decide +kernel
theorem dX7_distance_15 : decode cX7_distance 15 = .ok (.ifCond .lt 12, 3) := by decide +kernel
theorem dX7_distance_18 : decode cX7_distance 18 = .ok (.iload 4, 2) := by decide +kernel
theorem dX7_distance_20 : decode cX7_distance 20 = .ok (.ifCond .lt 7, 3) := by decide +kernel
theorem dX7_distance_23 : decode cX7_distance 23 = .ok (.iconst 1, 1) := by decide +kernel
theorem dX7_distance_24 : decode cX7_distance 24 = .ok (.goto 4, 3) := by decide +kernel
theorem dX7_distance_27 : decode cX7_distance 27 = .ok (.iconst 0, 1) := by decide +kernel
theorem dX7_distance_28 : decode cX7_distance 28 = .ok (.invokevirtual 53, 3) := by decide +kernel
theorem dX7_distance_31 : decode cX7_distance 31 = .ok (.ifCond .eq 32, 3) := by decide +kernel
theorem dX7_distance_34 : decode cX7_distance 34 = .ok (.aload_n 0, 1) := by decide +kernel
theorem dX7_distance_35 : decode cX7_distance 35 = .ok (.iload_n 3, 1) := by decide +kernel
theorem dX7_distance_36 : decode cX7_distance 36 = .ok (.invokevirtual 83, 3) := by decide +kernel
theorem dX7_distance_39 : decode cX7_distance 39 = .ok (.aload_n 0, 1) := by decide +kernel
theorem dX7_distance_40 : decode cX7_distance 40 = .ok (.iload 4, 2) := by decide +kernel
theorem dX7_distance_42 : decode cX7_distance 42 = .ok (.invokevirtual 83, 3) := by decide +kernel
theorem dX7_distance_45 : decode cX7_distance 45 = .ok (.iadd, 1) := by decide +kernel
theorem dX7_distance_46 : decode cX7_distance 46 = .ok (.iconst 2, 1) := by decide +kernel
theorem dX7_distance_47 : decode cX7_distance 47 = .ok (.aload_n 0, 1) := by decide +kernel
theorem dX7_distance_48 : decode cX7_distance 48 = .ok (.aload_n 0, 1) := by decide +kernel
theorem dX7_distance_49 : decode cX7_distance 49 = .ok (.iload_n 3, 1) := by decide +kernel
theorem dX7_distance_50 : decode cX7_distance 50 = .ok (.iload 4, 2) := by decide +kernel
theorem dX7_distance_52 : decode cX7_distance 52 = .ok (.invokevirtual 186, 3) := by decide +kernel
theorem dX7_distance_55 : decode cX7_distance 55 = .ok (.invokevirtual 83, 3) := by decide +kernel
theorem dX7_distance_58 : decode cX7_distance 58 = .ok (.imul, 1) := by decide +kernel
theorem dX7_distance_59 : decode cX7_distance 59 = .ok (.isub, 1) := by decide +kernel
theorem dX7_distance_60 : decode cX7_distance 60 = .ok (.goto 4, 3) := by decide +kernel
theorem dX7_distance_63 : decode cX7_distance 63 = .ok (.iconst 0, 1) := by decide +kernel
theorem dX7_distance_64 : decode cX7_distance 64 = .ok (.ireturn, 1) := by decide +kernel
theorem dX7_countInRange_0 : decode cX7_countInRange 0 = .ok (.aload_n 0, 1) := by decide +kernel
theorem dX7_countInRange_1 : decode cX7_countInRange 1 = .ok (.iload_n 1, 1) := by decide +kernel
theorem dX7_countInRange_2 : decode cX7_countInRange 2 = .ok (.iload_n 2, 1) := by decide +kernel
theorem dX7_countInRange_3 : decode cX7_countInRange 3 = .ok (.invokestatic 143, 3) := by decide +kernel
theorem dX7_countInRange_6 : decode cX7_countInRange 6 = .ok (.invokevirtual 53, 3) := by decide +kernel
theorem dX7_countInRange_9 : decode cX7_countInRange 9 = .ok (.ifCond .eq 19, 3) := by decide +kernel
theorem dX7_countInRange_12 : decode cX7_countInRange 12 = .ok (.aload_n 0, 1) := by decide +kernel
theorem dX7_countInRange_13 : decode cX7_countInRange 13 = .ok (.iload_n 2, 1) := by decide +kernel
theorem dX7_countInRange_14 : decode cX7_countInRange 14 = .ok (.iconst 1, 1) := by decide +kernel
theorem dX7_countInRange_15 : decode cX7_countInRange 15 = .ok (.iadd, 1) := by decide +kernel
theorem dX7_countInRange_16 : decode cX7_countInRange 16 = .ok (.invokevirtual 61, 3) := by decide +kernel
theorem dX7_countInRange_19 : decode cX7_countInRange 19 = .ok (.aload_n 0, 1) := by decide +kernel
theorem dX7_countInRange_20 : decode cX7_countInRange 20 = .ok (.iload_n 1, 1) := by decide +kernel
theorem dX7_countInRange_21 : decode cX7_countInRange 21 = .ok (.invokevirtual 61, 3) := by decide +kernel
theorem dX7_countInRange_24 : decode cX7_countInRange 24 = .ok (.isub, 1) := by decide +kernel
theorem dX7_countInRange_25 : decode cX7_countInRange 25 = .ok (.goto 4, 3) := by decide +kernel
theorem dX7_countInRange_28 : decode cX7_countInRange 28 = .ok (.iconst 0, 1) := by decide +kernel
theorem dX7_countInRange_29 : decode cX7_countInRange 29 = .ok (.ireturn, 1) := by decide +kernel
theorem dX7_countInRangeByScan_0 : decode cX7_countInRangeByScan 0 = .ok (.aload_n 0, 1) := by decide +kernel
theorem dX7_countInRangeByScan_1 : decode cX7_countInRangeByScan 1 = .ok (.iload_n 1, 1) := by decide +kernel
theorem dX7_countInRangeByScan_2 : decode cX7_countInRangeByScan 2 = .ok (.iload_n 2, 1) := by decide +kernel
theorem dX7_countInRangeByScan_3 : decode cX7_countInRangeByScan 3 = .ok (.invokevirtual 189, 3) := by decide +kernel
theorem dX7_countInRangeByScan_6 : decode cX7_countInRangeByScan 6 = .ok (.ireturn, 1) := by decide +kernel
theorem dX7_topInRange_0 : decode cX7_topInRange 0 = .ok (.iload_n 1, 1) := by decide +kernel
theorem dX7_topInRange_1 : decode cX7_topInRange 1 = .ok (.iload_n 2, 1) := by decide +kernel
theorem dX7_topInRange_2 : decode cX7_topInRange 2 = .ok (.invokestatic 143, 3) := by decide +kernel
theorem dX7_topInRange_5 : decode cX7_topInRange 5 = .ok (.istore_n 3, 1) := by decide +kernel
theorem dX7_topInRange_6 : decode cX7_topInRange 6 = .ok (.iload_n 3, 1) := by decide +kernel
theorem dX7_topInRange_7 : decode cX7_topInRange 7 = .ok (.ifCond .eq 24, 3) := by decide +kernel
theorem dX7_topInRange_10 : decode cX7_topInRange 10 = .ok (.aload_n 0, 1) := by decide +kernel
theorem dX7_topInRange_11 : decode cX7_topInRange 11 = .ok (.aload_n 0, 1) := by decide +kernel
theorem dX7_topInRange_12 : decode cX7_topInRange 12 = .ok (.iload_n 1, 1) := by decide +kernel
theorem dX7_topInRange_13 : decode cX7_topInRange 13 = .ok (.invokevirtual 61, 3) := by decide +kernel
theorem dX7_topInRange_16 : decode cX7_topInRange 16 = .ok (.aload_n 0, 1) := by decide +kernel
theorem dX7_topInRange_17 : decode cX7_topInRange 17 = .ok (.iload_n 2, 1) := by decide +kernel
theorem dX7_topInRange_18 : decode cX7_topInRange 18 = .ok (.iconst 1, 1) := by decide +kernel
theorem dX7_topInRange_19 : decode cX7_topInRange 19 = .ok (.iadd, 1) := by decide +kernel
theorem dX7_topInRange_20 : decode cX7_topInRange 20 = .ok (.invokevirtual 61, 3) := by decide +kernel
theorem dX7_topInRange_23 : decode cX7_topInRange 23 = .ok (.iconst 1, 1) := by decide +kernel
theorem dX7_topInRange_24 : decode cX7_topInRange 24 = .ok (.isub, 1) := by decide +kernel
theorem dX7_topInRange_25 : decode cX7_topInRange 25 = .ok (.invokevirtual 168, 3) := by decide +kernel
theorem dX7_topInRange_28 : decode cX7_topInRange 28 = .ok (.goto 4, 3) := by decide +kernel
theorem dX7_topInRange_31 : decode cX7_topInRange 31 = .ok (.iconst (-1), 1) := by decide +kernel
theorem dX7_topInRange_32 : decode cX7_topInRange 32 = .ok (.istore 4, 2) := by decide +kernel
theorem dX7_topInRange_34 : decode cX7_topInRange 34 = .ok (.aload_n 0, 1) := by decide +kernel
theorem dX7_topInRange_35 : decode cX7_topInRange 35 = .ok (.iload_n 3, 1) := by decide +kernel
theorem dX7_topInRange_36 : decode cX7_topInRange 36 = .ok (.ifCond .ne 7, 3) := by decide +kernel
theorem dX7_topInRange_39 : decode cX7_topInRange 39 = .ok (.iconst 1, 1) := by decide +kernel
theorem dX7_topInRange_40 : decode cX7_topInRange 40 = .ok (.goto 13, 3) := by decide +kernel
theorem dX7_topInRange_43 : decode cX7_topInRange 43 = .ok (.iload 4, 2) := by decide +kernel
theorem dX7_topInRange_45 : decode cX7_topInRange 45 = .ok (.ifCond .ge 7, 3) := by decide +kernel
theorem dX7_topInRange_48 : decode cX7_topInRange 48 = .ok (.iconst 2, 1) := by decide +kernel
theorem dX7_topInRange_49 : decode cX7_topInRange 49 = .ok (.goto 4, 3) := by decide +kernel
theorem dX7_topInRange_52 : decode cX7_topInRange 52 = .ok (.iconst 0, 1) := by decide +kernel
theorem dX7_topInRange_53 : decode cX7_topInRange 53 = .ok (.putfield 27, 3) := by decide +kernel
theorem dX7_topInRange_56 : decode cX7_topInRange 56 = .ok (.aload_n 0, 1) := by decide +kernel
theorem dX7_topInRange_57 : decode cX7_topInRange 57 = .ok (.getfield 27, 3) := by decide +kernel
theorem dX7_topInRange_60 : decode cX7_topInRange 60 = .ok (.ifCond .ne 12, 3) := by decide +kernel
theorem dX7_topInRange_63 : decode cX7_topInRange 63 = .ok (.aload_n 0, 1) := by decide +kernel
theorem dX7_topInRange_64 : decode cX7_topInRange 64 = .ok (.iload 4, 2) := by decide +kernel
theorem dX7_topInRange_66 : decode cX7_topInRange 66 = .ok (.invokevirtual 57, 3) := by decide +kernel
theorem dX7_topInRange_69 : decode cX7_topInRange 69 = .ok (.goto 4, 3) := by decide +kernel
theorem dX7_topInRange_72 : decode cX7_topInRange 72 = .ok (.iconst 0, 1) := by decide +kernel
theorem dX7_topInRange_73 : decode cX7_topInRange 73 = .ok (.ireturn, 1) := by decide +kernel
theorem dX7_topInRangeByScan_0 : decode cX7_topInRangeByScan 0 = .ok (.aload_n 0, 1) := by decide +kernel
theorem dX7_topInRangeByScan_1 : decode cX7_topInRangeByScan 1 = .ok (.iload_n 1, 1) := by decide +kernel
theorem dX7_topInRangeByScan_2 : decode cX7_topInRangeByScan 2 = .ok (.iload_n 2, 1) := by decide +kernel
theorem dX7_topInRangeByScan_3 : decode cX7_topInRangeByScan 3 = .ok (.invokevirtual 192, 3) := by decide +kernel
theorem dX7_topInRangeByScan_6 : decode cX7_topInRangeByScan 6 = .ok (.ireturn, 1) := by decide +kernel
theorem dX7_countAbove_0 : decode cX7_countAbove 0 = .ok (.aload_n 0, 1) := by decide +kernel
theorem dX7_countAbove_1 : decode cX7_countAbove 1 = .ok (.iload_n 1, 1) := by decide +kernel
theorem dX7_countAbove_2 : decode cX7_countAbove 2 = .ok (.iload_n 2, 1) := by decide +kernel
theorem dX7_countAbove_3 : decode cX7_countAbove 3 = .ok (.invokestatic 143, 3) := by decide +kernel
theorem dX7_countAbove_6 : decode cX7_countAbove 6 = .ok (.ifCond .eq 14, 3) := by decide +kernel
theorem dX7_countAbove_9 : decode cX7_countAbove 9 = .ok (.iload_n 3, 1) := by decide +kernel
theorem dX7_countAbove_10 : decode cX7_countAbove 10 = .ok (.invokestatic 108, 3) := by decide +kernel
theorem dX7_countAbove_13 : decode cX7_countAbove 13 = .ok (.ifCond .eq 7, 3) := by decide +kernel
theorem dX7_countAbove_16 : decode cX7_countAbove 16 = .ok (.iconst 1, 1) := by decide +kernel
theorem dX7_countAbove_17 : decode cX7_countAbove 17 = .ok (.goto 4, 3) := by decide +kernel
theorem dX7_countAbove_20 : decode cX7_countAbove 20 = .ok (.iconst 0, 1) := by decide +kernel
theorem dX7_countAbove_21 : decode cX7_countAbove 21 = .ok (.invokevirtual 53, 3) := by decide +kernel
theorem dX7_countAbove_24 : decode cX7_countAbove 24 = .ok (.ifCond .ne 5, 3) := by decide +kernel
theorem dX7_countAbove_27 : decode cX7_countAbove 27 = .ok (.iconst 0, 1) := by decide +kernel
theorem dX7_countAbove_28 : decode cX7_countAbove 28 = .ok (.ireturn, 1) := by decide +kernel
theorem dX7_countAbove_29 : decode cX7_countAbove 29 = .ok (.iconst 0, 1) := by decide +kernel
theorem dX7_countAbove_30 : decode cX7_countAbove 30 = .ok (.istore 4, 2) := by decide +kernel
theorem dX7_countAbove_32 : decode cX7_countAbove 32 = .ok (.aload_n 0, 1) := by decide +kernel
theorem dX7_countAbove_33 : decode cX7_countAbove 33 = .ok (.iload_n 1, 1) := by decide +kernel
theorem dX7_countAbove_34 : decode cX7_countAbove 34 = .ok (.invokevirtual 61, 3) := by decide +kernel
theorem dX7_countAbove_37 : decode cX7_countAbove 37 = .ok (.istore 5, 2) := by decide +kernel
theorem dX7_countAbove_39 : decode cX7_countAbove 39 = .ok (.iload 5, 2) := by decide +kernel
theorem dX7_countAbove_41 : decode cX7_countAbove 41 = .ok (.aload_n 0, 1) := by decide +kernel
theorem dX7_countAbove_42 : decode cX7_countAbove 42 = .ok (.iload_n 2, 1) := by decide +kernel
theorem dX7_countAbove_43 : decode cX7_countAbove 43 = .ok (.iconst 1, 1) := by decide +kernel
theorem dX7_countAbove_44 : decode cX7_countAbove 44 = .ok (.iadd, 1) := by decide +kernel
theorem dX7_countAbove_45 : decode cX7_countAbove 45 = .ok (.invokevirtual 61, 3) := by decide +kernel
theorem dX7_countAbove_48 : decode cX7_countAbove 48 = .ok (.if_icmp .ge 29, 3) := by decide +kernel
theorem dX7_countAbove_51 : decode cX7_countAbove 51 = .ok (.iload 4, 2) := by decide +kernel
theorem dX7_countAbove_53 : decode cX7_countAbove 53 = .ok (.aload_n 0, 1) := by decide +kernel
theorem dX7_countAbove_54 : decode cX7_countAbove 54 = .ok (.iload 5, 2) := by decide +kernel
theorem dX7_countAbove_56 : decode cX7_countAbove 56 = .ok (.invokevirtual 64, 3) := by decide +kernel
theorem dX7_countAbove_59 : decode cX7_countAbove 59 = .ok (.iload_n 3, 1) := by decide +kernel
theorem dX7_countAbove_60 : decode cX7_countAbove 60 = .ok (.if_icmp .lt 7, 3) := by decide +kernel
theorem dX7_countAbove_63 : decode cX7_countAbove 63 = .ok (.iconst 1, 1) := by decide +kernel
theorem dX7_countAbove_64 : decode cX7_countAbove 64 = .ok (.goto 4, 3) := by decide +kernel
theorem dX7_countAbove_67 : decode cX7_countAbove 67 = .ok (.iconst 0, 1) := by decide +kernel
theorem dX7_countAbove_68 : decode cX7_countAbove 68 = .ok (.iadd, 1) := by decide +kernel
theorem dX7_countAbove_69 : decode cX7_countAbove 69 = .ok (.istore 4, 2) := by decide +kernel
theorem dX7_countAbove_71 : decode cX7_countAbove 71 = .ok (.iinc 5 1, 3) := by decide +kernel
theorem dX7_countAbove_74 : decode cX7_countAbove 74 = .ok (.goto (-35), 3) := by decide +kernel
theorem dX7_countAbove_77 : decode cX7_countAbove 77 = .ok (.iload 4, 2) := by decide +kernel
theorem dX7_countAbove_79 : decode cX7_countAbove 79 = .ok (.ireturn, 1) := by decide +kernel
theorem dX7_countAboveByScan_0 : decode cX7_countAboveByScan 0 = .ok (.aload_n 0, 1) := by decide +kernel
theorem dX7_countAboveByScan_1 : decode cX7_countAboveByScan 1 = .ok (.iload_n 1, 1) := by decide +kernel
theorem dX7_countAboveByScan_2 : decode cX7_countAboveByScan 2 = .ok (.iload_n 2, 1) := by decide +kernel
theorem dX7_countAboveByScan_3 : decode cX7_countAboveByScan 3 = .ok (.iload_n 3, 1) := by decide +kernel
theorem dX7_countAboveByScan_4 : decode cX7_countAboveByScan 4 = .ok (.invokevirtual 195, 3) := by decide +kernel
theorem dX7_countAboveByScan_7 : decode cX7_countAboveByScan 7 = .ok (.ireturn, 1) := by decide +kernel
theorem dX7_sumInRange_0 : decode cX7_sumInRange 0 = .ok (.aload_n 0, 1) := by decide +kernel
theorem dX7_sumInRange_1 : decode cX7_sumInRange 1 = .ok (.iload_n 1, 1) := by decide +kernel
theorem dX7_sumInRange_2 : decode cX7_sumInRange 2 = .ok (.iload_n 2, 1) := by decide +kernel
theorem dX7_sumInRange_3 : decode cX7_sumInRange 3 = .ok (.invokestatic 143, 3) := by decide +kernel
theorem dX7_sumInRange_6 : decode cX7_sumInRange 6 = .ok (.invokevirtual 53, 3) := by decide +kernel
theorem dX7_sumInRange_9 : decode cX7_sumInRange 9 = .ok (.ifCond .ne 5, 3) := by decide +kernel
theorem dX7_sumInRange_12 : decode cX7_sumInRange 12 = .ok (.lconst 0, 1) := by decide +kernel
theorem dX7_sumInRange_13 : decode cX7_sumInRange 13 = .ok (.lreturn, 1) := by decide +kernel
theorem dX7_sumInRange_14 : decode cX7_sumInRange 14 = .ok (.iconst 0, 1) := by decide +kernel
theorem dX7_sumInRange_15 : decode cX7_sumInRange 15 = .ok (.istore_n 3, 1) := by decide +kernel
theorem dX7_sumInRange_16 : decode cX7_sumInRange 16 = .ok (.aload_n 0, 1) := by decide +kernel
theorem dX7_sumInRange_17 : decode cX7_sumInRange 17 = .ok (.iload_n 1, 1) := by decide +kernel
theorem dX7_sumInRange_18 : decode cX7_sumInRange 18 = .ok (.invokevirtual 61, 3) := by decide +kernel
theorem dX7_sumInRange_21 : decode cX7_sumInRange 21 = .ok (.istore 4, 2) := by decide +kernel
theorem dX7_sumInRange_23 : decode cX7_sumInRange 23 = .ok (.iload 4, 2) := by decide +kernel
theorem dX7_sumInRange_25 : decode cX7_sumInRange 25 = .ok (.aload_n 0, 1) := by decide +kernel
theorem dX7_sumInRange_26 : decode cX7_sumInRange 26 = .ok (.iload_n 2, 1) := by decide +kernel
theorem dX7_sumInRange_27 : decode cX7_sumInRange 27 = .ok (.iconst 1, 1) := by decide +kernel
theorem dX7_sumInRange_28 : decode cX7_sumInRange 28 = .ok (.iadd, 1) := by decide +kernel
theorem dX7_sumInRange_29 : decode cX7_sumInRange 29 = .ok (.invokevirtual 61, 3) := by decide +kernel
theorem dX7_sumInRange_32 : decode cX7_sumInRange 32 = .ok (.if_icmp .ge 18, 3) := by decide +kernel
theorem dX7_sumInRange_35 : decode cX7_sumInRange 35 = .ok (.iload_n 3, 1) := by decide +kernel
theorem dX7_sumInRange_36 : decode cX7_sumInRange 36 = .ok (.aload_n 0, 1) := by decide +kernel
theorem dX7_sumInRange_37 : decode cX7_sumInRange 37 = .ok (.iload 4, 2) := by decide +kernel
theorem dX7_sumInRange_39 : decode cX7_sumInRange 39 = .ok (.invokevirtual 64, 3) := by decide +kernel
theorem dX7_sumInRange_42 : decode cX7_sumInRange 42 = .ok (.iadd, 1) := by decide +kernel
theorem dX7_sumInRange_43 : decode cX7_sumInRange 43 = .ok (.istore_n 3, 1) := by decide +kernel
theorem dX7_sumInRange_44 : decode cX7_sumInRange 44 = .ok (.iinc 4 1, 3) := by decide +kernel
theorem dX7_sumInRange_47 : decode cX7_sumInRange 47 = .ok (.goto (-24), 3) := by decide +kernel
theorem dX7_sumInRange_50 : decode cX7_sumInRange 50 = .ok (.iload_n 3, 1) := by decide +kernel
theorem dX7_sumInRange_51 : decode cX7_sumInRange 51 = .ok (.i2l, 1) := by decide +kernel
theorem dX7_sumInRange_52 : decode cX7_sumInRange 52 = .ok (.lreturn, 1) := by decide +kernel
theorem dX7_isWindowSet_0 : decode cX7_isWindowSet 0 = .ok (.aload_n 0, 1) := by decide +kernel
theorem dX7_isWindowSet_1 : decode cX7_isWindowSet 1 = .ok (.iload_n 1, 1) := by decide +kernel
theorem dX7_isWindowSet_2 : decode cX7_isWindowSet 2 = .ok (.invokestatic 149, 3) := by decide +kernel
theorem dX7_isWindowSet_5 : decode cX7_isWindowSet 5 = .ok (.invokevirtual 53, 3) := by decide +kernel
theorem dX7_isWindowSet_8 : decode cX7_isWindowSet 8 = .ok (.ifCond .eq 17, 3) := by decide +kernel
theorem dX7_isWindowSet_11 : decode cX7_isWindowSet 11 = .ok (.aload_n 0, 1) := by decide +kernel
theorem dX7_isWindowSet_12 : decode cX7_isWindowSet 12 = .ok (.iload_n 1, 1) := by decide +kernel
theorem dX7_isWindowSet_13 : decode cX7_isWindowSet 13 = .ok (.iconst 0, 1) := by decide +kernel
theorem dX7_isWindowSet_14 : decode cX7_isWindowSet 14 = .ok (.invokevirtual 90, 3) := by decide +kernel
theorem dX7_isWindowSet_17 : decode cX7_isWindowSet 17 = .ok (.iconst 1, 1) := by decide +kernel
theorem dX7_isWindowSet_18 : decode cX7_isWindowSet 18 = .ok (.if_icmp .ne 7, 3) := by decide +kernel
theorem dX7_isWindowSet_21 : decode cX7_isWindowSet 21 = .ok (.iconst 1, 1) := by decide +kernel
theorem dX7_isWindowSet_22 : decode cX7_isWindowSet 22 = .ok (.goto 4, 3) := by decide +kernel
theorem dX7_isWindowSet_25 : decode cX7_isWindowSet 25 = .ok (.iconst 0, 1) := by decide +kernel
theorem dX7_isWindowSet_26 : decode cX7_isWindowSet 26 = .ok (.ireturn, 1) := by decide +kernel
theorem dX7_isSet_0 : decode cX7_isSet 0 = .ok (.aload_n 0, 1) := by decide +kernel
theorem dX7_isSet_1 : decode cX7_isSet 1 = .ok (.iload_n 1, 1) := by decide +kernel
theorem dX7_isSet_2 : decode cX7_isSet 2 = .ok (.invokestatic 149, 3) := by decide +kernel
theorem dX7_isSet_5 : decode cX7_isSet 5 = .ok (.ifCond .ne 7, 3) := by decide +kernel
theorem dX7_isSet_8 : decode cX7_isSet 8 = .ok (.iconst 1, 1) := by decide +kernel
theorem dX7_isSet_9 : decode cX7_isSet 9 = .ok (.goto 17, 3) := by decide +kernel
theorem dX7_isSet_12 : decode cX7_isSet 12 = .ok (.aload_n 0, 1) := by decide +kernel
theorem dX7_isSet_13 : decode cX7_isSet 13 = .ok (.iload_n 1, 1) := by decide +kernel
theorem dX7_isSet_14 : decode cX7_isSet 14 = .ok (.iconst 0, 1) := by decide +kernel
theorem dX7_isSet_15 : decode cX7_isSet 15 = .ok (.invokevirtual 90, 3) := by decide +kernel
theorem dX7_isSet_18 : decode cX7_isSet 18 = .ok (.ifCond .ne 7, 3) := by decide +kernel
theorem dX7_isSet_21 : decode cX7_isSet 21 = .ok (.iconst 2, 1) := by decide +kernel
theorem dX7_isSet_22 : decode cX7_isSet 22 = .ok (.goto 4, 3) := by decide +kernel
theorem dX7_isSet_25 : decode cX7_isSet 25 = .ok (.iconst 0, 1) := by decide +kernel
theorem dX7_isSet_26 : decode cX7_isSet 26 = .ok (.putfield 27, 3) := by decide +kernel
theorem dX7_isSet_29 : decode cX7_isSet 29 = .ok (.aload_n 0, 1) := by decide +kernel
theorem dX7_isSet_30 : decode cX7_isSet 30 = .ok (.getfield 27, 3) := by decide +kernel
theorem dX7_isSet_33 : decode cX7_isSet 33 = .ok (.ifCond .ne 7, 3) := by decide +kernel
theorem dX7_isSet_36 : decode cX7_isSet 36 = .ok (.iconst 1, 1) := by decide +kernel
theorem dX7_isSet_37 : decode cX7_isSet 37 = .ok (.goto 4, 3) := by decide +kernel
theorem dX7_isSet_40 : decode cX7_isSet 40 = .ok (.iconst 0, 1) := by decide +kernel
theorem dX7_isSet_41 : decode cX7_isSet 41 = .ok (.ireturn, 1) := by decide +kernel
theorem dX7_pointsInWindow_0 : decode cX7_pointsInWindow 0 = .ok (.aload_n 0, 1) := by decide +kernel
theorem dX7_pointsInWindow_1 : decode cX7_pointsInWindow 1 = .ok (.iload_n 1, 1) := by decide +kernel
theorem dX7_pointsInWindow_2 : decode cX7_pointsInWindow 2 = .ok (.invokevirtual 199, 3) := by decide +kernel
theorem dX7_pointsInWindow_5 : decode cX7_pointsInWindow 5 = .ok (.ifCond .eq 11, 3) := by decide +kernel
theorem dX7_pointsInWindow_8 : decode cX7_pointsInWindow 8 = .ok (.aload_n 0, 1) := by decide +kernel
theorem dX7_pointsInWindow_9 : decode cX7_pointsInWindow 9 = .ok (.iload_n 1, 1) := by decide +kernel
theorem dX7_pointsInWindow_10 : decode cX7_pointsInWindow 10 = .ok (.invokevirtual 97, 3) := by decide +kernel
theorem dX7_pointsInWindow_13 : decode cX7_pointsInWindow 13 = .ok (.goto 4, 3) := by decide +kernel
theorem dX7_pointsInWindow_16 : decode cX7_pointsInWindow 16 = .ok (.iconst 0, 1) := by decide +kernel
theorem dX7_pointsInWindow_17 : decode cX7_pointsInWindow 17 = .ok (.ireturn, 1) := by decide +kernel
theorem dX7_roomInWindow_0 : decode cX7_roomInWindow 0 = .ok (.aload_n 0, 1) := by decide +kernel
theorem dX7_roomInWindow_1 : decode cX7_roomInWindow 1 = .ok (.iload_n 1, 1) := by decide +kernel
theorem dX7_roomInWindow_2 : decode cX7_roomInWindow 2 = .ok (.invokevirtual 199, 3) := by decide +kernel
theorem dX7_roomInWindow_5 : decode cX7_roomInWindow 5 = .ok (.ifCond .eq 18, 3) := by decide +kernel
theorem dX7_roomInWindow_8 : decode cX7_roomInWindow 8 = .ok (.aload_n 0, 1) := by decide +kernel
theorem dX7_roomInWindow_9 : decode cX7_roomInWindow 9 = .ok (.iload_n 1, 1) := by decide +kernel
theorem dX7_roomInWindow_10 : decode cX7_roomInWindow 10 = .ok (.iconst 4, 1) := by decide +kernel
theorem dX7_roomInWindow_11 : decode cX7_roomInWindow 11 = .ok (.invokevirtual 90, 3) := by decide +kernel
theorem dX7_roomInWindow_14 : decode cX7_roomInWindow 14 = .ok (.aload_n 0, 1) := by decide +kernel
theorem dX7_roomInWindow_15 : decode cX7_roomInWindow 15 = .ok (.iload_n 1, 1) := by decide +kernel
theorem dX7_roomInWindow_16 : decode cX7_roomInWindow 16 = .ok (.invokevirtual 97, 3) := by decide +kernel
theorem dX7_roomInWindow_19 : decode cX7_roomInWindow 19 = .ok (.isub, 1) := by decide +kernel
theorem dX7_roomInWindow_20 : decode cX7_roomInWindow 20 = .ok (.goto 4, 3) := by decide +kernel
theorem dX7_roomInWindow_23 : decode cX7_roomInWindow 23 = .ok (.iconst 0, 1) := by decide +kernel
theorem dX7_roomInWindow_24 : decode cX7_roomInWindow 24 = .ok (.ireturn, 1) := by decide +kernel
theorem dX7_windowKeyAt_0 : decode cX7_windowKeyAt 0 = .ok (.aload_n 0, 1) := by decide +kernel
theorem dX7_windowKeyAt_1 : decode cX7_windowKeyAt 1 = .ok (.iload_n 1, 1) := by decide +kernel
theorem dX7_windowKeyAt_2 : decode cX7_windowKeyAt 2 = .ok (.invokevirtual 199, 3) := by decide +kernel
theorem dX7_windowKeyAt_5 : decode cX7_windowKeyAt 5 = .ok (.ifCond .ne 5, 3) := by decide +kernel
theorem dX7_windowKeyAt_8 : decode cX7_windowKeyAt 8 = .ok (.iconst 0, 1) := by decide +kernel
theorem dX7_windowKeyAt_9 : decode cX7_windowKeyAt 9 = .ok (.ireturn, 1) := by decide +kernel
theorem dX7_windowKeyAt_10 : decode cX7_windowKeyAt 10 = .ok (.iconst 0, 1) := by decide +kernel
theorem dX7_windowKeyAt_11 : decode cX7_windowKeyAt 11 = .ok (.istore_n 3, 1) := by decide +kernel
theorem dX7_windowKeyAt_12 : decode cX7_windowKeyAt 12 = .ok (.iconst 0, 1) := by decide +kernel
theorem dX7_windowKeyAt_13 : decode cX7_windowKeyAt 13 = .ok (.istore 4, 2) := by decide +kernel
theorem dX7_windowKeyAt_15 : decode cX7_windowKeyAt 15 = .ok (.iload 4, 2) := by decide +kernel
theorem dX7_windowKeyAt_17 : decode cX7_windowKeyAt 17 = .ok (.aload_n 0, 1) := by decide +kernel
theorem dX7_windowKeyAt_18 : decode cX7_windowKeyAt 18 = .ok (.getfield 9, 3) := by decide +kernel
theorem dX7_windowKeyAt_21 : decode cX7_windowKeyAt 21 = .ok (.iconst 0, 1) := by decide +kernel
theorem dX7_windowKeyAt_22 : decode cX7_windowKeyAt 22 = .ok (.iaload, 1) := by decide +kernel
theorem dX7_windowKeyAt_23 : decode cX7_windowKeyAt 23 = .ok (.if_icmp .ge 47, 3) := by decide +kernel
theorem dX7_windowKeyAt_26 : decode cX7_windowKeyAt 26 = .ok (.aload_n 0, 1) := by decide +kernel
theorem dX7_windowKeyAt_27 : decode cX7_windowKeyAt 27 = .ok (.iload_n 1, 1) := by decide +kernel
theorem dX7_windowKeyAt_28 : decode cX7_windowKeyAt 28 = .ok (.aload_n 0, 1) := by decide +kernel
theorem dX7_windowKeyAt_29 : decode cX7_windowKeyAt 29 = .ok (.iload 4, 2) := by decide +kernel
theorem dX7_windowKeyAt_31 : decode cX7_windowKeyAt 31 = .ok (.invokevirtual 57, 3) := by decide +kernel
theorem dX7_windowKeyAt_34 : decode cX7_windowKeyAt 34 = .ok (.aload_n 0, 1) := by decide +kernel
theorem dX7_windowKeyAt_35 : decode cX7_windowKeyAt 35 = .ok (.iload 4, 2) := by decide +kernel
theorem dX7_windowKeyAt_37 : decode cX7_windowKeyAt 37 = .ok (.invokevirtual 64, 3) := by decide +kernel
theorem dX7_windowKeyAt_40 : decode cX7_windowKeyAt 40 = .ok (.invokevirtual 94, 3) := by decide +kernel
theorem dX7_windowKeyAt_43 : decode cX7_windowKeyAt 43 = .ok (.ifCond .ne 6, 3) := by decide +kernel
theorem dX7_windowKeyAt_46 : decode cX7_windowKeyAt 46 = .ok (.goto 18, 3) := by decide +kernel
theorem dX7_windowKeyAt_49 : decode cX7_windowKeyAt 49 = .ok (.iload_n 3, 1) := by decide +kernel
theorem dX7_windowKeyAt_50 : decode cX7_windowKeyAt 50 = .ok (.iload_n 2, 1) := by decide +kernel
theorem dX7_windowKeyAt_51 : decode cX7_windowKeyAt 51 = .ok (.if_icmp .ne 10, 3) := by decide +kernel
theorem dX7_windowKeyAt_54 : decode cX7_windowKeyAt 54 = .ok (.aload_n 0, 1) := by decide +kernel
theorem dX7_windowKeyAt_55 : decode cX7_windowKeyAt 55 = .ok (.iload 4, 2) := by decide +kernel
theorem dX7_windowKeyAt_57 : decode cX7_windowKeyAt 57 = .ok (.invokevirtual 57, 3) := by decide +kernel
theorem dX7_windowKeyAt_60 : decode cX7_windowKeyAt 60 = .ok (.ireturn, 1) := by decide +kernel
theorem dX7_windowKeyAt_61 : decode cX7_windowKeyAt 61 = .ok (.iinc 3 1, 3) := by decide +kernel
theorem dX7_windowKeyAt_64 : decode cX7_windowKeyAt 64 = .ok (.iinc 4 1, 3) := by decide +kernel
theorem dX7_windowKeyAt_67 : decode cX7_windowKeyAt 67 = .ok (.goto (-52), 3) := by decide +kernel
theorem dX7_windowKeyAt_70 : decode cX7_windowKeyAt 70 = .ok (.aload_n 0, 1) := by decide +kernel
theorem dX7_windowKeyAt_71 : decode cX7_windowKeyAt 71 = .ok (.iconst 2, 1) := by decide +kernel
theorem dX7_windowKeyAt_72 : decode cX7_windowKeyAt 72 = .ok (.putfield 27, 3) := by decide +kernel
theorem dX7_windowKeyAt_75 : decode cX7_windowKeyAt 75 = .ok (.iconst 0, 1) := by decide +kernel
theorem dX7_windowKeyAt_76 : decode cX7_windowKeyAt 76 = .ok (.ireturn, 1) := by decide +kernel
theorem dX7_canInsert_0 : decode cX7_canInsert 0 = .ok (.aload_n 0, 1) := by decide +kernel
theorem dX7_canInsert_1 : decode cX7_canInsert 1 = .ok (.iload_n 1, 1) := by decide +kernel
theorem dX7_canInsert_2 : decode cX7_canInsert 2 = .ok (.invokestatic 108, 3) := by decide +kernel
theorem dX7_canInsert_5 : decode cX7_canInsert 5 = .ok (.ifCond .eq 14, 3) := by decide +kernel
theorem dX7_canInsert_8 : decode cX7_canInsert 8 = .ok (.iload_n 2, 1) := by decide +kernel
theorem dX7_canInsert_9 : decode cX7_canInsert 9 = .ok (.invokestatic 108, 3) := by decide +kernel
theorem dX7_canInsert_12 : decode cX7_canInsert 12 = .ok (.ifCond .eq 7, 3) := by decide +kernel
theorem dX7_canInsert_15 : decode cX7_canInsert 15 = .ok (.iconst 1, 1) := by decide +kernel
theorem dX7_canInsert_16 : decode cX7_canInsert 16 = .ok (.goto 4, 3) := by decide +kernel
theorem dX7_canInsert_19 : decode cX7_canInsert 19 = .ok (.iconst 0, 1) := by decide +kernel
theorem dX7_canInsert_20 : decode cX7_canInsert 20 = .ok (.invokevirtual 53, 3) := by decide +kernel
theorem dX7_canInsert_23 : decode cX7_canInsert 23 = .ok (.ifCond .eq 22, 3) := by decide +kernel
theorem dX7_canInsert_26 : decode cX7_canInsert 26 = .ok (.aload_n 0, 1) := by decide +kernel
theorem dX7_canInsert_27 : decode cX7_canInsert 27 = .ok (.getfield 9, 3) := by decide +kernel
theorem dX7_canInsert_30 : decode cX7_canInsert 30 = .ok (.iconst 0, 1) := by decide +kernel
theorem dX7_canInsert_31 : decode cX7_canInsert 31 = .ok (.iaload, 1) := by decide +kernel
theorem dX7_canInsert_32 : decode cX7_canInsert 32 = .ok (.bipush 24, 2) := by decide +kernel
theorem dX7_canInsert_34 : decode cX7_canInsert 34 = .ok (.if_icmp .eq 11, 3) := by decide +kernel
theorem dX7_canInsert_37 : decode cX7_canInsert 37 = .ok (.aload_n 0, 1) := by decide +kernel
theorem dX7_canInsert_38 : decode cX7_canInsert 38 = .ok (.iload_n 1, 1) := by decide +kernel
theorem dX7_canInsert_39 : decode cX7_canInsert 39 = .ok (.invokevirtual 112, 3) := by decide +kernel
theorem dX7_canInsert_42 : decode cX7_canInsert 42 = .ok (.ifCond .lt 5, 3) := by decide +kernel
theorem dX7_canInsert_45 : decode cX7_canInsert 45 = .ok (.iconst 0, 1) := by decide +kernel
theorem dX7_canInsert_46 : decode cX7_canInsert 46 = .ok (.ireturn, 1) := by decide +kernel
theorem dX7_canInsert_47 : decode cX7_canInsert 47 = .ok (.iconst 0, 1) := by decide +kernel
theorem dX7_canInsert_48 : decode cX7_canInsert 48 = .ok (.istore_n 3, 1) := by decide +kernel
theorem dX7_canInsert_49 : decode cX7_canInsert 49 = .ok (.iload_n 3, 1) := by decide +kernel
theorem dX7_canInsert_50 : decode cX7_canInsert 50 = .ok (.iconst 4, 1) := by decide +kernel
theorem dX7_canInsert_51 : decode cX7_canInsert 51 = .ok (.if_icmp .ge 35, 3) := by decide +kernel
theorem dX7_canInsert_54 : decode cX7_canInsert 54 = .ok (.aload_n 0, 1) := by decide +kernel
theorem dX7_canInsert_55 : decode cX7_canInsert 55 = .ok (.iload_n 3, 1) := by decide +kernel
theorem dX7_canInsert_56 : decode cX7_canInsert 56 = .ok (.iload_n 1, 1) := by decide +kernel
theorem dX7_canInsert_57 : decode cX7_canInsert 57 = .ok (.iload_n 2, 1) := by decide +kernel
theorem dX7_canInsert_58 : decode cX7_canInsert 58 = .ok (.invokevirtual 94, 3) := by decide +kernel
theorem dX7_canInsert_61 : decode cX7_canInsert 61 = .ok (.ifCond .eq 19, 3) := by decide +kernel
theorem dX7_canInsert_64 : decode cX7_canInsert 64 = .ok (.aload_n 0, 1) := by decide +kernel
theorem dX7_canInsert_65 : decode cX7_canInsert 65 = .ok (.iload_n 3, 1) := by decide +kernel
theorem dX7_canInsert_66 : decode cX7_canInsert 66 = .ok (.invokevirtual 97, 3) := by decide +kernel
theorem dX7_canInsert_69 : decode cX7_canInsert 69 = .ok (.aload_n 0, 1) := by decide +kernel
theorem dX7_canInsert_70 : decode cX7_canInsert 70 = .ok (.iload_n 3, 1) := by decide +kernel
theorem dX7_canInsert_71 : decode cX7_canInsert 71 = .ok (.iconst 4, 1) := by decide +kernel
theorem dX7_canInsert_72 : decode cX7_canInsert 72 = .ok (.invokevirtual 90, 3) := by decide +kernel
theorem dX7_canInsert_75 : decode cX7_canInsert 75 = .ok (.if_icmp .ne 5, 3) := by decide +kernel
theorem dX7_canInsert_78 : decode cX7_canInsert 78 = .ok (.iconst 0, 1) := by decide +kernel
theorem dX7_canInsert_79 : decode cX7_canInsert 79 = .ok (.ireturn, 1) := by decide +kernel
theorem dX7_canInsert_80 : decode cX7_canInsert 80 = .ok (.iinc 3 1, 3) := by decide +kernel
theorem dX7_canInsert_83 : decode cX7_canInsert 83 = .ok (.goto (-34), 3) := by decide +kernel
theorem dX7_canInsert_86 : decode cX7_canInsert 86 = .ok (.iconst 1, 1) := by decide +kernel
theorem dX7_canInsert_87 : decode cX7_canInsert 87 = .ok (.ireturn, 1) := by decide +kernel
theorem dX7_rotationCount_0 : decode cX7_rotationCount 0 = .ok (.aload_n 0, 1) := by decide +kernel
theorem dX7_rotationCount_1 : decode cX7_rotationCount 1 = .ok (.iconst 0, 1) := by decide +kernel
theorem dX7_rotationCount_2 : decode cX7_rotationCount 2 = .ok (.putfield 27, 3) := by decide +kernel
theorem dX7_rotationCount_5 : decode cX7_rotationCount 5 = .ok (.aload_n 0, 1) := by decide +kernel
theorem dX7_rotationCount_6 : decode cX7_rotationCount 6 = .ok (.getfield 9, 3) := by decide +kernel
theorem dX7_rotationCount_9 : decode cX7_rotationCount 9 = .ok (.iconst 1, 1) := by decide +kernel
theorem dX7_rotationCount_10 : decode cX7_rotationCount 10 = .ok (.iaload, 1) := by decide +kernel
theorem dX7_rotationCount_11 : decode cX7_rotationCount 11 = .ok (.ireturn, 1) := by decide +kernel
theorem dX7_meanDepth_0 : decode cX7_meanDepth 0 = .ok (.aload_n 0, 1) := by decide +kernel
theorem dX7_meanDepth_1 : decode cX7_meanDepth 1 = .ok (.aload_n 0, 1) := by decide +kernel
theorem dX7_meanDepth_2 : decode cX7_meanDepth 2 = .ok (.getfield 9, 3) := by decide +kernel
theorem dX7_meanDepth_5 : decode cX7_meanDepth 5 = .ok (.iconst 0, 1) := by decide +kernel
theorem dX7_meanDepth_6 : decode cX7_meanDepth 6 = .ok (.iaload, 1) := by decide +kernel
theorem dX7_meanDepth_7 : decode cX7_meanDepth 7 = .ok (.ifCond .le 7, 3) := by decide +kernel
theorem dX7_meanDepth_10 : decode cX7_meanDepth 10 = .ok (.iconst 1, 1) := by decide +kernel
theorem dX7_meanDepth_11 : decode cX7_meanDepth 11 = .ok (.goto 4, 3) := by decide +kernel
theorem dX7_meanDepth_14 : decode cX7_meanDepth 14 = .ok (.iconst 0, 1) := by decide +kernel
theorem dX7_meanDepth_15 : decode cX7_meanDepth 15 = .ok (.invokevirtual 53, 3) := by decide +kernel
theorem dX7_meanDepth_18 : decode cX7_meanDepth 18 = .ok (.ifCond .ne 5, 3) := by decide +kernel
theorem dX7_meanDepth_21 : decode cX7_meanDepth 21 = .ok (.dconst 0, 1) := by decide +kernel
theorem dX7_meanDepth_22 : decode cX7_meanDepth 22 = .ok (.dreturn, 1) := by decide +kernel
theorem dX7_meanDepth_23 : decode cX7_meanDepth 23 = .ok (.iconst 0, 1) := by decide +kernel
theorem dX7_meanDepth_24 : decode cX7_meanDepth 24 = .ok (.istore_n 1, 1) := by decide +kernel
theorem dX7_meanDepth_25 : decode cX7_meanDepth 25 = .ok (.iconst 0, 1) := by decide +kernel
theorem dX7_meanDepth_26 : decode cX7_meanDepth 26 = .ok (.istore_n 2, 1) := by decide +kernel
theorem dX7_meanDepth_27 : decode cX7_meanDepth 27 = .ok (.iload_n 2, 1) := by decide +kernel
theorem dX7_meanDepth_28 : decode cX7_meanDepth 28 = .ok (.aload_n 0, 1) := by decide +kernel
theorem dX7_meanDepth_29 : decode cX7_meanDepth 29 = .ok (.getfield 9, 3) := by decide +kernel
theorem dX7_meanDepth_32 : decode cX7_meanDepth 32 = .ok (.iconst 0, 1) := by decide +kernel
theorem dX7_meanDepth_33 : decode cX7_meanDepth 33 = .ok (.iaload, 1) := by decide +kernel
theorem dX7_meanDepth_34 : decode cX7_meanDepth 34 = .ok (.if_icmp .ge 17, 3) := by decide +kernel
theorem dX7_meanDepth_37 : decode cX7_meanDepth 37 = .ok (.iload_n 1, 1) := by decide +kernel
theorem dX7_meanDepth_38 : decode cX7_meanDepth 38 = .ok (.aload_n 0, 1) := by decide +kernel
theorem dX7_meanDepth_39 : decode cX7_meanDepth 39 = .ok (.iload_n 2, 1) := by decide +kernel
theorem dX7_meanDepth_40 : decode cX7_meanDepth 40 = .ok (.invokevirtual 83, 3) := by decide +kernel
theorem dX7_meanDepth_43 : decode cX7_meanDepth 43 = .ok (.iadd, 1) := by decide +kernel
theorem dX7_meanDepth_44 : decode cX7_meanDepth 44 = .ok (.istore_n 1, 1) := by decide +kernel
theorem dX7_meanDepth_45 : decode cX7_meanDepth 45 = .ok (.iinc 2 1, 3) := by decide +kernel
theorem dX7_meanDepth_48 : decode cX7_meanDepth 48 = .ok (.goto (-21), 3) := by decide +kernel
theorem dX7_meanDepth_51 : decode cX7_meanDepth 51 = .ok (.iload_n 1, 1) := by decide +kernel
theorem dX7_meanDepth_52 : decode cX7_meanDepth 52 = .ok (.i2d, 1) := by decide +kernel
theorem dX7_meanDepth_53 : decode cX7_meanDepth 53 = .ok (.aload_n 0, 1) := by decide +kernel
theorem dX7_meanDepth_54 : decode cX7_meanDepth 54 = .ok (.getfield 9, 3) := by decide +kernel
theorem dX7_meanDepth_57 : decode cX7_meanDepth 57 = .ok (.iconst 0, 1) := by decide +kernel
theorem dX7_meanDepth_58 : decode cX7_meanDepth 58 = .ok (.iaload, 1) := by decide +kernel
theorem dX7_meanDepth_59 : decode cX7_meanDepth 59 = .ok (.i2d, 1) := by decide +kernel
theorem dX7_meanDepth_60 : decode cX7_meanDepth 60 = .ok (.ddiv, 1) := by decide +kernel
theorem dX7_meanDepth_61 : decode cX7_meanDepth 61 = .ok (.dreturn, 1) := by decide +kernel
theorem dX7_leafShare_0 : decode cX7_leafShare 0 = .ok (.aload_n 0, 1) := by decide +kernel
theorem dX7_leafShare_1 : decode cX7_leafShare 1 = .ok (.aload_n 0, 1) := by decide +kernel
theorem dX7_leafShare_2 : decode cX7_leafShare 2 = .ok (.getfield 9, 3) := by decide +kernel
theorem dX7_leafShare_5 : decode cX7_leafShare 5 = .ok (.iconst 0, 1) := by decide +kernel
theorem dX7_leafShare_6 : decode cX7_leafShare 6 = .ok (.iaload, 1) := by decide +kernel
theorem dX7_leafShare_7 : decode cX7_leafShare 7 = .ok (.ifCond .le 7, 3) := by decide +kernel
theorem dX7_leafShare_10 : decode cX7_leafShare 10 = .ok (.iconst 1, 1) := by decide +kernel
theorem dX7_leafShare_11 : decode cX7_leafShare 11 = .ok (.goto 4, 3) := by decide +kernel
theorem dX7_leafShare_14 : decode cX7_leafShare 14 = .ok (.iconst 0, 1) := by decide +kernel
theorem dX7_leafShare_15 : decode cX7_leafShare 15 = .ok (.invokevirtual 53, 3) := by decide +kernel
theorem dX7_leafShare_18 : decode cX7_leafShare 18 = .ok (.ifCond .eq 19, 3) := by decide +kernel
theorem dX7_leafShare_21 : decode cX7_leafShare 21 = .ok (.aload_n 0, 1) := by decide +kernel
theorem dX7_leafShare_22 : decode cX7_leafShare 22 = .ok (.invokevirtual 183, 3) := by decide +kernel
theorem dX7_leafShare_25 : decode cX7_leafShare 25 = .ok (.i2f, 1) := by decide +kernel
theorem dX7_leafShare_26 : decode cX7_leafShare 26 = .ok (.aload_n 0, 1) := by decide +kernel
theorem dX7_leafShare_27 : decode cX7_leafShare 27 = .ok (.getfield 9, 3) := by decide +kernel
theorem dX7_leafShare_30 : decode cX7_leafShare 30 = .ok (.iconst 0, 1) := by decide +kernel
theorem dX7_leafShare_31 : decode cX7_leafShare 31 = .ok (.iaload, 1) := by decide +kernel
theorem dX7_leafShare_32 : decode cX7_leafShare 32 = .ok (.i2f, 1) := by decide +kernel
theorem dX7_leafShare_33 : decode cX7_leafShare 33 = .ok (.fdiv, 1) := by decide +kernel
theorem dX7_leafShare_34 : decode cX7_leafShare 34 = .ok (.goto 4, 3) := by decide +kernel
theorem dX7_leafShare_37 : decode cX7_leafShare 37 = .ok (.fconst 0, 1) := by decide +kernel
theorem dX7_leafShare_38 : decode cX7_leafShare 38 = .ok (.freturn, 1) := by decide +kernel
theorem dX7_isConsistent_0 : decode cX7_isConsistent 0 = .ok (.aload_n 0, 1) := by decide +kernel
theorem dX7_isConsistent_1 : decode cX7_isConsistent 1 = .ok (.iconst 0, 1) := by decide +kernel
theorem dX7_isConsistent_2 : decode cX7_isConsistent 2 = .ok (.putfield 27, 3) := by decide +kernel
theorem dX7_isConsistent_5 : decode cX7_isConsistent 5 = .ok (.iconst 1, 1) := by decide +kernel
theorem dX7_isConsistent_6 : decode cX7_isConsistent 6 = .ok (.ireturn, 1) := by decide +kernel
theorem dX7_writes_0 : decode cX7_writes 0 = .ok (.aload_n 0, 1) := by decide +kernel
theorem dX7_writes_1 : decode cX7_writes 1 = .ok (.getfield 13, 3) := by decide +kernel
theorem dX7_writes_4 : decode cX7_writes 4 = .ok (.aload_n 0, 1) := by decide +kernel
theorem dX7_writes_5 : decode cX7_writes 5 = .ok (.getfield 202, 3) := by decide +kernel
theorem dX7_writes_8 : decode cX7_writes 8 = .ok (.iload_n 1, 1) := by decide +kernel
theorem dX7_writes_9 : decode cX7_writes 9 = .ok (.i2c, 1) := by decide +kernel
theorem dX7_writes_10 : decode cX7_writes 10 = .ok (.castore, 1) := by decide +kernel
theorem dX7_writes_11 : decode cX7_writes 11 = .ok (.aload_n 0, 1) := by decide +kernel
theorem dX7_writes_12 : decode cX7_writes 12 = .ok (.dup, 1) := by decide +kernel
theorem dX7_writes_13 : decode cX7_writes 13 = .ok (.getfield 202, 3) := by decide +kernel
theorem dX7_writes_16 : decode cX7_writes 16 = .ok (.iconst 1, 1) := by decide +kernel
theorem dX7_writes_17 : decode cX7_writes 17 = .ok (.iadd, 1) := by decide +kernel
theorem dX7_writes_18 : decode cX7_writes 18 = .ok (.putfield 202, 3) := by decide +kernel
theorem dX7_writes_21 : decode cX7_writes 21 = .ok (.return_, 1) := by decide +kernel
theorem dX7_writesNumber_0 : decode cX7_writesNumber 0 = .ok (.iload_n 1, 1) := by decide +kernel
theorem dX7_writesNumber_1 : decode cX7_writesNumber 1 = .ok (.bipush 9, 2) := by decide +kernel
theorem dX7_writesNumber_3 : decode cX7_writesNumber 3 = .ok (.if_icmp .le 11, 3) := by decide +kernel
theorem dX7_writesNumber_6 : decode cX7_writesNumber 6 = .ok (.aload_n 0, 1) := by decide +kernel
theorem dX7_writesNumber_7 : decode cX7_writesNumber 7 = .ok (.iload_n 1, 1) := by decide +kernel
theorem dX7_writesNumber_8 : decode cX7_writesNumber 8 = .ok (.bipush 10, 2) := by decide +kernel
theorem dX7_writesNumber_10 : decode cX7_writesNumber 10 = .ok (.idiv, 1) := by decide +kernel
theorem dX7_writesNumber_11 : decode cX7_writesNumber 11 = .ok (.invokevirtual 205, 3) := by decide +kernel
theorem dX7_writesNumber_14 : decode cX7_writesNumber 14 = .ok (.aload_n 0, 1) := by decide +kernel
theorem dX7_writesNumber_15 : decode cX7_writesNumber 15 = .ok (.bipush 48, 2) := by decide +kernel
theorem dX7_writesNumber_17 : decode cX7_writesNumber 17 = .ok (.iload_n 1, 1) := by decide +kernel
theorem dX7_writesNumber_18 : decode cX7_writesNumber 18 = .ok (.bipush 10, 2) := by decide +kernel
theorem dX7_writesNumber_20 : decode cX7_writesNumber 20 = .ok (.irem, 1) := by decide +kernel
theorem dX7_writesNumber_21 : decode cX7_writesNumber 21 = .ok (.iadd, 1) := by decide +kernel
theorem dX7_writesNumber_22 : decode cX7_writesNumber 22 = .ok (.invokevirtual 208, 3) := by decide +kernel
theorem dX7_writesNumber_25 : decode cX7_writesNumber 25 = .ok (.return_, 1) := by decide +kernel
theorem dX7_writesTree_0 : decode cX7_writesTree 0 = .ok (.aload_n 0, 1) := by decide +kernel
theorem dX7_writesTree_1 : decode cX7_writesTree 1 = .ok (.iload_n 1, 1) := by decide +kernel
theorem dX7_writesTree_2 : decode cX7_writesTree 2 = .ok (.iload_n 2, 1) := by decide +kernel
theorem dX7_writesTree_3 : decode cX7_writesTree 3 = .ok (.invokevirtual 168, 3) := by decide +kernel
theorem dX7_writesTree_6 : decode cX7_writesTree 6 = .ok (.istore_n 3, 1) := by decide +kernel
theorem dX7_writesTree_7 : decode cX7_writesTree 7 = .ok (.iload_n 3, 1) := by decide +kernel
theorem dX7_writesTree_8 : decode cX7_writesTree 8 = .ok (.ifCond .ge 4, 3) := by decide +kernel
theorem dX7_writesTree_11 : decode cX7_writesTree 11 = .ok (.return_, 1) := by decide +kernel
theorem dX7_writesTree_12 : decode cX7_writesTree 12 = .ok (.aload_n 0, 1) := by decide +kernel
theorem dX7_writesTree_13 : decode cX7_writesTree 13 = .ok (.bipush 40, 2) := by decide +kernel
theorem dX7_writesTree_15 : decode cX7_writesTree 15 = .ok (.invokevirtual 208, 3) := by decide +kernel
theorem dX7_writesTree_18 : decode cX7_writesTree 18 = .ok (.aload_n 0, 1) := by decide +kernel
theorem dX7_writesTree_19 : decode cX7_writesTree 19 = .ok (.iload_n 1, 1) := by decide +kernel
theorem dX7_writesTree_20 : decode cX7_writesTree 20 = .ok (.iload_n 3, 1) := by decide +kernel
theorem dX7_writesTree_21 : decode cX7_writesTree 21 = .ok (.iconst 1, 1) := by decide +kernel
theorem dX7_writesTree_22 : decode cX7_writesTree 22 = .ok (.isub, 1) := by decide +kernel
theorem dX7_writesTree_23 : decode cX7_writesTree 23 = .ok (.invokevirtual 211, 3) := by decide +kernel
theorem dX7_writesTree_26 : decode cX7_writesTree 26 = .ok (.aload_n 0, 1) := by decide +kernel
theorem dX7_writesTree_27 : decode cX7_writesTree 27 = .ok (.aload_n 0, 1) := by decide +kernel
theorem dX7_writesTree_28 : decode cX7_writesTree 28 = .ok (.iload_n 3, 1) := by decide +kernel
theorem dX7_writesTree_29 : decode cX7_writesTree 29 = .ok (.invokevirtual 57, 3) := by decide +kernel
theorem dX7_writesTree_32 : decode cX7_writesTree 32 = .ok (.invokevirtual 205, 3) := by decide +kernel
theorem dX7_writesTree_35 : decode cX7_writesTree 35 = .ok (.aload_n 0, 1) := by decide +kernel
theorem dX7_writesTree_36 : decode cX7_writesTree 36 = .ok (.bipush 58, 2) := by decide +kernel
theorem dX7_writesTree_38 : decode cX7_writesTree 38 = .ok (.invokevirtual 208, 3) := by decide +kernel
theorem dX7_writesTree_41 : decode cX7_writesTree 41 = .ok (.aload_n 0, 1) := by decide +kernel
theorem dX7_writesTree_42 : decode cX7_writesTree 42 = .ok (.aload_n 0, 1) := by decide +kernel
theorem dX7_writesTree_43 : decode cX7_writesTree 43 = .ok (.iload_n 3, 1) := by decide +kernel
theorem dX7_writesTree_44 : decode cX7_writesTree 44 = .ok (.invokevirtual 64, 3) := by decide +kernel
theorem dX7_writesTree_47 : decode cX7_writesTree 47 = .ok (.invokevirtual 205, 3) := by decide +kernel
theorem dX7_writesTree_50 : decode cX7_writesTree 50 = .ok (.aload_n 0, 1) := by decide +kernel
theorem dX7_writesTree_51 : decode cX7_writesTree 51 = .ok (.iload_n 3, 1) := by decide +kernel
theorem dX7_writesTree_52 : decode cX7_writesTree 52 = .ok (.iconst 1, 1) := by decide +kernel
theorem dX7_writesTree_53 : decode cX7_writesTree 53 = .ok (.iadd, 1) := by decide +kernel
theorem dX7_writesTree_54 : decode cX7_writesTree 54 = .ok (.iload_n 2, 1) := by decide +kernel
theorem dX7_writesTree_55 : decode cX7_writesTree 55 = .ok (.invokevirtual 211, 3) := by decide +kernel
theorem dX7_writesTree_58 : decode cX7_writesTree 58 = .ok (.aload_n 0, 1) := by decide +kernel
theorem dX7_writesTree_59 : decode cX7_writesTree 59 = .ok (.bipush 41, 2) := by decide +kernel
theorem dX7_writesTree_61 : decode cX7_writesTree 61 = .ok (.invokevirtual 208, 3) := by decide +kernel
theorem dX7_writesTree_64 : decode cX7_writesTree 64 = .ok (.return_, 1) := by decide +kernel
theorem dX7_writeTree_0 : decode cX7_writeTree 0 = .ok (.aload_n 0, 1) := by decide +kernel
theorem dX7_writeTree_1 : decode cX7_writeTree 1 = .ok (.iconst 0, 1) := by decide +kernel
theorem dX7_writeTree_2 : decode cX7_writeTree 2 = .ok (.putfield 27, 3) := by decide +kernel
theorem dX7_writeTree_5 : decode cX7_writeTree 5 = .ok (.aload_n 0, 1) := by decide +kernel
theorem dX7_writeTree_6 : decode cX7_writeTree 6 = .ok (.iconst 0, 1) := by decide +kernel
theorem dX7_writeTree_7 : decode cX7_writeTree 7 = .ok (.putfield 202, 3) := by decide +kernel
theorem dX7_writeTree_10 : decode cX7_writeTree 10 = .ok (.aload_n 0, 1) := by decide +kernel
theorem dX7_writeTree_11 : decode cX7_writeTree 11 = .ok (.iconst 0, 1) := by decide +kernel
theorem dX7_writeTree_12 : decode cX7_writeTree 12 = .ok (.aload_n 0, 1) := by decide +kernel
theorem dX7_writeTree_13 : decode cX7_writeTree 13 = .ok (.getfield 9, 3) := by decide +kernel
theorem dX7_writeTree_16 : decode cX7_writeTree 16 = .ok (.iconst 0, 1) := by decide +kernel
theorem dX7_writeTree_17 : decode cX7_writeTree 17 = .ok (.iaload, 1) := by decide +kernel
theorem dX7_writeTree_18 : decode cX7_writeTree 18 = .ok (.iconst 1, 1) := by decide +kernel
theorem dX7_writeTree_19 : decode cX7_writeTree 19 = .ok (.isub, 1) := by decide +kernel
theorem dX7_writeTree_20 : decode cX7_writeTree 20 = .ok (.invokevirtual 211, 3) := by decide +kernel
theorem dX7_writeTree_23 : decode cX7_writeTree 23 = .ok (.aload_n 0, 1) := by decide +kernel
theorem dX7_writeTree_24 : decode cX7_writeTree 24 = .ok (.getfield 202, 3) := by decide +kernel
theorem dX7_writeTree_27 : decode cX7_writeTree 27 = .ok (.ireturn, 1) := by decide +kernel
theorem dX7_writeWindow_0 : decode cX7_writeWindow 0 = .ok (.aload_n 0, 1) := by decide +kernel
theorem dX7_writeWindow_1 : decode cX7_writeWindow 1 = .ok (.iload_n 1, 1) := by decide +kernel
theorem dX7_writeWindow_2 : decode cX7_writeWindow 2 = .ok (.invokevirtual 199, 3) := by decide +kernel
theorem dX7_writeWindow_5 : decode cX7_writeWindow 5 = .ok (.ifCond .ne 5, 3) := by decide +kernel
theorem dX7_writeWindow_8 : decode cX7_writeWindow 8 = .ok (.iconst 0, 1) := by decide +kernel
theorem dX7_writeWindow_9 : decode cX7_writeWindow 9 = .ok (.ireturn, 1) := by decide +kernel
theorem dX7_writeWindow_10 : decode cX7_writeWindow 10 = .ok (.aload_n 0, 1) := by decide +kernel
theorem dX7_writeWindow_11 : decode cX7_writeWindow 11 = .ok (.iconst 0, 1) := by decide +kernel
theorem dX7_writeWindow_12 : decode cX7_writeWindow 12 = .ok (.putfield 202, 3) := by decide +kernel
theorem dX7_writeWindow_15 : decode cX7_writeWindow 15 = .ok (.iconst 0, 1) := by decide +kernel
theorem dX7_writeWindow_16 : decode cX7_writeWindow 16 = .ok (.istore_n 2, 1) := by decide +kernel
theorem dX7_writeWindow_17 : decode cX7_writeWindow 17 = .ok (.iload_n 2, 1) := by decide +kernel
theorem dX7_writeWindow_18 : decode cX7_writeWindow 18 = .ok (.aload_n 0, 1) := by decide +kernel
theorem dX7_writeWindow_19 : decode cX7_writeWindow 19 = .ok (.getfield 9, 3) := by decide +kernel
theorem dX7_writeWindow_22 : decode cX7_writeWindow 22 = .ok (.iconst 0, 1) := by decide +kernel
theorem dX7_writeWindow_23 : decode cX7_writeWindow 23 = .ok (.iaload, 1) := by decide +kernel
theorem dX7_writeWindow_24 : decode cX7_writeWindow 24 = .ok (.if_icmp .ge 52, 3) := by decide +kernel
theorem dX7_writeWindow_27 : decode cX7_writeWindow 27 = .ok (.aload_n 0, 1) := by decide +kernel
theorem dX7_writeWindow_28 : decode cX7_writeWindow 28 = .ok (.iload_n 1, 1) := by decide +kernel
theorem dX7_writeWindow_29 : decode cX7_writeWindow 29 = .ok (.aload_n 0, 1) := by decide +kernel
theorem dX7_writeWindow_30 : decode cX7_writeWindow 30 = .ok (.iload_n 2, 1) := by decide +kernel
theorem dX7_writeWindow_31 : decode cX7_writeWindow 31 = .ok (.invokevirtual 57, 3) := by decide +kernel
theorem dX7_writeWindow_34 : decode cX7_writeWindow 34 = .ok (.aload_n 0, 1) := by decide +kernel
theorem dX7_writeWindow_35 : decode cX7_writeWindow 35 = .ok (.iload_n 2, 1) := by decide +kernel
theorem dX7_writeWindow_36 : decode cX7_writeWindow 36 = .ok (.invokevirtual 64, 3) := by decide +kernel
theorem dX7_writeWindow_39 : decode cX7_writeWindow 39 = .ok (.invokevirtual 94, 3) := by decide +kernel
theorem dX7_writeWindow_42 : decode cX7_writeWindow 42 = .ok (.ifCond .ne 6, 3) := by decide +kernel
theorem dX7_writeWindow_45 : decode cX7_writeWindow 45 = .ok (.goto 25, 3) := by decide +kernel
theorem dX7_writeWindow_48 : decode cX7_writeWindow 48 = .ok (.aload_n 0, 1) := by decide +kernel
theorem dX7_writeWindow_49 : decode cX7_writeWindow 49 = .ok (.getfield 202, 3) := by decide +kernel
theorem dX7_writeWindow_52 : decode cX7_writeWindow 52 = .ok (.ifCond .le 9, 3) := by decide +kernel
theorem dX7_writeWindow_55 : decode cX7_writeWindow 55 = .ok (.aload_n 0, 1) := by decide +kernel
theorem dX7_writeWindow_56 : decode cX7_writeWindow 56 = .ok (.bipush 44, 2) := by decide +kernel
theorem dX7_writeWindow_58 : decode cX7_writeWindow 58 = .ok (.invokevirtual 208, 3) := by decide +kernel
theorem dX7_writeWindow_61 : decode cX7_writeWindow 61 = .ok (.aload_n 0, 1) := by decide +kernel
theorem dX7_writeWindow_62 : decode cX7_writeWindow 62 = .ok (.aload_n 0, 1) := by decide +kernel
theorem dX7_writeWindow_63 : decode cX7_writeWindow 63 = .ok (.iload_n 2, 1) := by decide +kernel
theorem dX7_writeWindow_64 : decode cX7_writeWindow 64 = .ok (.invokevirtual 57, 3) := by decide +kernel
theorem dX7_writeWindow_67 : decode cX7_writeWindow 67 = .ok (.invokevirtual 205, 3) := by decide +kernel
theorem dX7_writeWindow_70 : decode cX7_writeWindow 70 = .ok (.iinc 2 1, 3) := by decide +kernel
theorem dX7_writeWindow_73 : decode cX7_writeWindow 73 = .ok (.goto (-56), 3) := by decide +kernel
theorem dX7_writeWindow_76 : decode cX7_writeWindow 76 = .ok (.aload_n 0, 1) := by decide +kernel
theorem dX7_writeWindow_77 : decode cX7_writeWindow 77 = .ok (.getfield 202, 3) := by decide +kernel
theorem dX7_writeWindow_80 : decode cX7_writeWindow 80 = .ok (.ireturn, 1) := by decide +kernel
theorem dX7_outputAt_0 : decode cX7_outputAt 0 = .ok (.aload_n 0, 1) := by decide +kernel
theorem dX7_outputAt_1 : decode cX7_outputAt 1 = .ok (.iload_n 1, 1) := by decide +kernel
theorem dX7_outputAt_2 : decode cX7_outputAt 2 = .ok (.iconst 0, 1) := by decide +kernel
theorem dX7_outputAt_3 : decode cX7_outputAt 3 = .ok (.aload_n 0, 1) := by decide +kernel
theorem dX7_outputAt_4 : decode cX7_outputAt 4 = .ok (.getfield 202, 3) := by decide +kernel
theorem dX7_outputAt_7 : decode cX7_outputAt 7 = .ok (.iconst 1, 1) := by decide +kernel
theorem dX7_outputAt_8 : decode cX7_outputAt 8 = .ok (.isub, 1) := by decide +kernel
theorem dX7_outputAt_9 : decode cX7_outputAt 9 = .ok (.invokestatic 30, 3) := by decide +kernel
theorem dX7_outputAt_12 : decode cX7_outputAt 12 = .ok (.invokevirtual 53, 3) := by decide +kernel
theorem dX7_outputAt_15 : decode cX7_outputAt 15 = .ok (.ifCond .eq 12, 3) := by decide +kernel
theorem dX7_outputAt_18 : decode cX7_outputAt 18 = .ok (.aload_n 0, 1) := by decide +kernel
theorem dX7_outputAt_19 : decode cX7_outputAt 19 = .ok (.getfield 13, 3) := by decide +kernel
theorem dX7_outputAt_22 : decode cX7_outputAt 22 = .ok (.iload_n 1, 1) := by decide +kernel
theorem dX7_outputAt_23 : decode cX7_outputAt 23 = .ok (.caload, 1) := by decide +kernel
theorem dX7_outputAt_24 : decode cX7_outputAt 24 = .ok (.goto 4, 3) := by decide +kernel
theorem dX7_outputAt_27 : decode cX7_outputAt 27 = .ok (.iconst 0, 1) := by decide +kernel
theorem dX7_outputAt_28 : decode cX7_outputAt 28 = .ok (.ireturn, 1) := by decide +kernel
theorem dX7_appendInput_0 : decode cX7_appendInput 0 = .ok (.aload_n 0, 1) := by decide +kernel
theorem dX7_appendInput_1 : decode cX7_appendInput 1 = .ok (.iload_n 1, 1) := by decide +kernel
theorem dX7_appendInput_2 : decode cX7_appendInput 2 = .ok (.bipush 32, 2) := by decide +kernel
theorem dX7_appendInput_4 : decode cX7_appendInput 4 = .ok (.bipush 126, 2) := by decide +kernel
theorem dX7_appendInput_6 : decode cX7_appendInput 6 = .ok (.invokestatic 30, 3) := by decide +kernel
theorem dX7_appendInput_9 : decode cX7_appendInput 9 = .ok (.ifCond .ne 7, 3) := by decide +kernel
theorem dX7_appendInput_12 : decode cX7_appendInput 12 = .ok (.iconst 1, 1) := by decide +kernel
theorem dX7_appendInput_13 : decode cX7_appendInput 13 = .ok (.goto 17, 3) := by decide +kernel
theorem dX7_appendInput_16 : decode cX7_appendInput 16 = .ok (.aload_n 0, 1) := by decide +kernel
theorem dX7_appendInput_17 : decode cX7_appendInput 17 = .ok (.getfield 214, 3) := by decide +kernel
theorem dX7_appendInput_20 : decode cX7_appendInput 20 = .ok (.bipush 60, 2) := by decide +kernel
theorem dX7_appendInput_22 : decode cX7_appendInput 22 = .ok (.if_icmp .ne 7, 3) := by decide +kernel
theorem dX7_appendInput_25 : decode cX7_appendInput 25 = .ok (.iconst 2, 1) := by decide +kernel
theorem dX7_appendInput_26 : decode cX7_appendInput 26 = .ok (.goto 4, 3) := by decide +kernel
theorem dX7_appendInput_29 : decode cX7_appendInput 29 = .ok (.iconst 0, 1) := by decide +kernel
theorem dX7_appendInput_30 : decode cX7_appendInput 30 = .ok (.putfield 27, 3) := by decide +kernel
theorem dX7_appendInput_33 : decode cX7_appendInput 33 = .ok (.aload_n 0, 1) := by decide +kernel
theorem dX7_appendInput_34 : decode cX7_appendInput 34 = .ok (.getfield 27, 3) := by decide +kernel
theorem dX7_appendInput_37 : decode cX7_appendInput 37 = .ok (.ifCond .eq 5, 3) := by decide +kernel
theorem dX7_appendInput_40 : decode cX7_appendInput 40 = .ok (.iconst 0, 1) := by decide +kernel
theorem dX7_appendInput_41 : decode cX7_appendInput 41 = .ok (.ireturn, 1) := by decide +kernel
theorem dX7_appendInput_42 : decode cX7_appendInput 42 = .ok (.aload_n 0, 1) := by decide +kernel
theorem dX7_appendInput_43 : decode cX7_appendInput 43 = .ok (.getfield 17, 3) := by decide +kernel
theorem dX7_appendInput_46 : decode cX7_appendInput 46 = .ok (.aload_n 0, 1) := by decide +kernel
theorem dX7_appendInput_47 : decode cX7_appendInput 47 = .ok (.getfield 214, 3) := by decide +kernel
theorem dX7_appendInput_50 : decode cX7_appendInput 50 = .ok (.iload_n 1, 1) := by decide +kernel
theorem dX7_appendInput_51 : decode cX7_appendInput 51 = .ok (.castore, 1) := by decide +kernel
theorem dX7_appendInput_52 : decode cX7_appendInput 52 = .ok (.aload_n 0, 1) := by decide +kernel
theorem dX7_appendInput_53 : decode cX7_appendInput 53 = .ok (.dup, 1) := by decide +kernel
theorem dX7_appendInput_54 : decode cX7_appendInput 54 = .ok (.getfield 214, 3) := by decide +kernel
theorem dX7_appendInput_57 : decode cX7_appendInput 57 = .ok (.iconst 1, 1) := by decide +kernel
theorem dX7_appendInput_58 : decode cX7_appendInput 58 = .ok (.iadd, 1) := by decide +kernel
theorem dX7_appendInput_59 : decode cX7_appendInput 59 = .ok (.putfield 214, 3) := by decide +kernel
theorem dX7_appendInput_62 : decode cX7_appendInput 62 = .ok (.aload_n 0, 1) := by decide +kernel
theorem dX7_appendInput_63 : decode cX7_appendInput 63 = .ok (.getfield 214, 3) := by decide +kernel
theorem dX7_appendInput_66 : decode cX7_appendInput 66 = .ok (.ireturn, 1) := by decide +kernel
theorem dX7_sign_0 : decode cX7_sign 0 = .ok (.aload_n 0, 1) := by decide +kernel
theorem dX7_sign_1 : decode cX7_sign 1 = .ok (.getfield 217, 3) := by decide +kernel
theorem dX7_sign_4 : decode cX7_sign 4 = .ok (.aload_n 0, 1) := by decide +kernel
theorem dX7_sign_5 : decode cX7_sign 5 = .ok (.getfield 214, 3) := by decide +kernel
theorem dX7_sign_8 : decode cX7_sign 8 = .ok (.if_icmp .ge 15, 3) := by decide +kernel
theorem dX7_sign_11 : decode cX7_sign 11 = .ok (.aload_n 0, 1) := by decide +kernel
theorem dX7_sign_12 : decode cX7_sign 12 = .ok (.getfield 17, 3) := by decide +kernel
theorem dX7_sign_15 : decode cX7_sign 15 = .ok (.aload_n 0, 1) := by decide +kernel
theorem dX7_sign_16 : decode cX7_sign 16 = .ok (.getfield 217, 3) := by decide +kernel
theorem dX7_sign_19 : decode cX7_sign 19 = .ok (.caload, 1) := by decide +kernel
theorem dX7_sign_20 : decode cX7_sign 20 = .ok (.goto 4, 3) := by decide +kernel
theorem dX7_sign_23 : decode cX7_sign 23 = .ok (.iconst (-1), 1) := by decide +kernel
theorem dX7_sign_24 : decode cX7_sign 24 = .ok (.ireturn, 1) := by decide +kernel
theorem dX7_needs_0 : decode cX7_needs 0 = .ok (.aload_n 0, 1) := by decide +kernel
theorem dX7_needs_1 : decode cX7_needs 1 = .ok (.getfield 220, 3) := by decide +kernel
theorem dX7_needs_4 : decode cX7_needs 4 = .ok (.ifCond .lt 4, 3) := by decide +kernel
theorem dX7_needs_7 : decode cX7_needs 7 = .ok (.return_, 1) := by decide +kernel
theorem dX7_needs_8 : decode cX7_needs 8 = .ok (.aload_n 0, 1) := by decide +kernel
theorem dX7_needs_9 : decode cX7_needs 9 = .ok (.invokevirtual 223, 3) := by decide +kernel
theorem dX7_needs_12 : decode cX7_needs 12 = .ok (.iload_n 1, 1) := by decide +kernel
theorem dX7_needs_13 : decode cX7_needs 13 = .ok (.if_icmp .eq 12, 3) := by decide +kernel
theorem dX7_needs_16 : decode cX7_needs 16 = .ok (.aload_n 0, 1) := by decide +kernel
theorem dX7_needs_17 : decode cX7_needs 17 = .ok (.aload_n 0, 1) := by decide +kernel
theorem dX7_needs_18 : decode cX7_needs 18 = .ok (.getfield 217, 3) := by decide +kernel
theorem dX7_needs_21 : decode cX7_needs 21 = .ok (.putfield 220, 3) := by decide +kernel
theorem dX7_needs_24 : decode cX7_needs 24 = .ok (.return_, 1) := by decide +kernel
theorem dX7_needs_25 : decode cX7_needs 25 = .ok (.aload_n 0, 1) := by decide +kernel
theorem dX7_needs_26 : decode cX7_needs 26 = .ok (.dup, 1) := by decide +kernel
theorem dX7_needs_27 : decode cX7_needs 27 = .ok (.getfield 217, 3) := by decide +kernel
theorem dX7_needs_30 : decode cX7_needs 30 = .ok (.iconst 1, 1) := by decide +kernel
theorem dX7_needs_31 : decode cX7_needs 31 = .ok (.iadd, 1) := by decide +kernel
theorem dX7_needs_32 : decode cX7_needs 32 = .ok (.putfield 217, 3) := by decide +kernel
theorem dX7_needs_35 : decode cX7_needs 35 = .ok (.return_, 1) := by decide +kernel
theorem dX7_number_0 : decode cX7_number 0 = .ok (.aload_n 0, 1) := by decide +kernel
theorem dX7_number_1 : decode cX7_number 1 = .ok (.getfield 220, 3) := by decide +kernel
theorem dX7_number_4 : decode cX7_number 4 = .ok (.ifCond .lt 5, 3) := by decide +kernel
theorem dX7_number_7 : decode cX7_number 7 = .ok (.iconst 0, 1) := by decide +kernel
theorem dX7_number_8 : decode cX7_number 8 = .ok (.ireturn, 1) := by decide +kernel
theorem dX7_number_9 : decode cX7_number 9 = .ok (.aload_n 0, 1) := by decide +kernel
theorem dX7_number_10 : decode cX7_number 10 = .ok (.invokevirtual 223, 3) := by decide +kernel
theorem dX7_number_13 : decode cX7_number 13 = .ok (.bipush 48, 2) := by decide +kernel
theorem dX7_number_15 : decode cX7_number 15 = .ok (.bipush 57, 2) := by decide +kernel
theorem dX7_number_17 : decode cX7_number 17 = .ok (.invokestatic 30, 3) := by decide +kernel
theorem dX7_number_20 : decode cX7_number 20 = .ok (.ifCond .ne 13, 3) := by decide +kernel
theorem dX7_number_23 : decode cX7_number 23 = .ok (.aload_n 0, 1) := by decide +kernel
theorem dX7_number_24 : decode cX7_number 24 = .ok (.aload_n 0, 1) := by decide +kernel
theorem dX7_number_25 : decode cX7_number 25 = .ok (.getfield 217, 3) := by decide +kernel
theorem dX7_number_28 : decode cX7_number 28 = .ok (.putfield 220, 3) := by decide +kernel
theorem dX7_number_31 : decode cX7_number 31 = .ok (.iconst 0, 1) := by decide +kernel
theorem dX7_number_32 : decode cX7_number 32 = .ok (.ireturn, 1) := by decide +kernel
theorem dX7_number_33 : decode cX7_number 33 = .ok (.iconst 0, 1) := by decide +kernel
theorem dX7_number_34 : decode cX7_number 34 = .ok (.istore_n 2, 1) := by decide +kernel
theorem dX7_number_35 : decode cX7_number 35 = .ok (.iconst 0, 1) := by decide +kernel
theorem dX7_number_36 : decode cX7_number 36 = .ok (.istore_n 3, 1) := by decide +kernel
theorem dX7_number_37 : decode cX7_number 37 = .ok (.iload_n 3, 1) := by decide +kernel
theorem dX7_number_38 : decode cX7_number 38 = .ok (.iload_n 1, 1) := by decide +kernel
theorem dX7_number_39 : decode cX7_number 39 = .ok (.if_icmp .ge 46, 3) := by decide +kernel
theorem dX7_number_42 : decode cX7_number 42 = .ok (.aload_n 0, 1) := by decide +kernel
theorem dX7_number_43 : decode cX7_number 43 = .ok (.invokevirtual 223, 3) := by decide +kernel
theorem dX7_number_46 : decode cX7_number 46 = .ok (.bipush 48, 2) := by decide +kernel
theorem dX7_number_48 : decode cX7_number 48 = .ok (.bipush 57, 2) := by decide +kernel
theorem dX7_number_50 : decode cX7_number 50 = .ok (.invokestatic 30, 3) := by decide +kernel
theorem dX7_number_53 : decode cX7_number 53 = .ok (.ifCond .eq 32, 3) := by decide +kernel
theorem dX7_number_56 : decode cX7_number 56 = .ok (.bipush 10, 2) := by decide +kernel
theorem dX7_number_58 : decode cX7_number 58 = .ok (.iload_n 2, 1) := by decide +kernel
theorem dX7_number_59 : decode cX7_number 59 = .ok (.imul, 1) := by decide +kernel
theorem dX7_number_60 : decode cX7_number 60 = .ok (.aload_n 0, 1) := by decide +kernel
theorem dX7_number_61 : decode cX7_number 61 = .ok (.invokevirtual 223, 3) := by decide +kernel
theorem dX7_number_64 : decode cX7_number 64 = .ok (.iadd, 1) := by decide +kernel
theorem dX7_number_65 : decode cX7_number 65 = .ok (.bipush 48, 2) := by decide +kernel
theorem dX7_number_67 : decode cX7_number 67 = .ok (.isub, 1) := by decide +kernel
theorem dX7_number_68 : decode cX7_number 68 = .ok (.istore_n 2, 1) := by decide +kernel
theorem dX7_number_69 : decode cX7_number 69 = .ok (.aload_n 0, 1) := by decide +kernel
theorem dX7_number_70 : decode cX7_number 70 = .ok (.dup, 1) := by decide +kernel
theorem dX7_number_71 : decode cX7_number 71 = .ok (.getfield 217, 3) := by decide +kernel
theorem dX7_number_74 : decode cX7_number 74 = .ok (.iconst 1, 1) := by decide +kernel
theorem dX7_number_75 : decode cX7_number 75 = .ok (.iadd, 1) := by decide +kernel
theorem dX7_number_76 : decode cX7_number 76 = .ok (.putfield 217, 3) := by decide +kernel
theorem dX7_number_79 : decode cX7_number 79 = .ok (.iinc 3 1, 3) := by decide +kernel
theorem dX7_number_82 : decode cX7_number 82 = .ok (.goto (-45), 3) := by decide +kernel
theorem dX7_number_85 : decode cX7_number 85 = .ok (.iload_n 2, 1) := by decide +kernel
theorem dX7_number_86 : decode cX7_number 86 = .ok (.ireturn, 1) := by decide +kernel
theorem dX7_behind_0 : decode cX7_behind 0 = .ok (.aload_n 0, 1) := by decide +kernel
theorem dX7_behind_1 : decode cX7_behind 1 = .ok (.iload_n 1, 1) := by decide +kernel
theorem dX7_behind_2 : decode cX7_behind 2 = .ok (.invokevirtual 226, 3) := by decide +kernel
theorem dX7_behind_5 : decode cX7_behind 5 = .ok (.aload_n 0, 1) := by decide +kernel
theorem dX7_behind_6 : decode cX7_behind 6 = .ok (.iconst 2, 1) := by decide +kernel
theorem dX7_behind_7 : decode cX7_behind 7 = .ok (.invokevirtual 229, 3) := by decide +kernel
theorem dX7_behind_10 : decode cX7_behind 10 = .ok (.ireturn, 1) := by decide +kernel
theorem dX7_command_0 : decode cX7_command 0 = .ok (.bipush 6, 2) := by decide +kernel
theorem dX7_command_2 : decode cX7_command 2 = .ok (.aload_n 0, 1) := by decide +kernel
theorem dX7_command_3 : decode cX7_command 3 = .ok (.getfield 232, 3) := by decide +kernel
theorem dX7_command_6 : decode cX7_command 6 = .ok (.imul, 1) := by decide +kernel
theorem dX7_command_7 : decode cX7_command 7 = .ok (.istore_n 1, 1) := by decide +kernel
theorem dX7_command_8 : decode cX7_command 8 = .ok (.aload_n 0, 1) := by decide +kernel
theorem dX7_command_9 : decode cX7_command 9 = .ok (.dup, 1) := by decide +kernel
theorem dX7_command_10 : decode cX7_command 10 = .ok (.getfield 232, 3) := by decide +kernel
theorem dX7_command_13 : decode cX7_command 13 = .ok (.iconst 1, 1) := by decide +kernel
theorem dX7_command_14 : decode cX7_command 14 = .ok (.iadd, 1) := by decide +kernel
theorem dX7_command_15 : decode cX7_command 15 = .ok (.putfield 232, 3) := by decide +kernel
theorem dX7_command_18 : decode cX7_command 18 = .ok (.aload_n 0, 1) := by decide +kernel
theorem dX7_command_19 : decode cX7_command 19 = .ok (.invokevirtual 223, 3) := by decide +kernel
theorem dX7_command_22 : decode cX7_command 22 = .ok (.istore_n 2, 1) := by decide +kernel
theorem dX7_command_23 : decode cX7_command 23 = .ok (.iconst 0, 1) := by decide +kernel
theorem dX7_command_24 : decode cX7_command 24 = .ok (.istore_n 3, 1) := by decide +kernel
theorem dX7_command_25 : decode cX7_command 25 = .ok (.iload_n 3, 1) := by decide +kernel
theorem dX7_command_26 : decode cX7_command 26 = .ok (.bipush 6, 2) := by decide +kernel
theorem dX7_command_28 : decode cX7_command 28 = .ok (.if_icmp .ge 18, 3) := by decide +kernel
theorem dX7_command_31 : decode cX7_command 31 = .ok (.aload_n 0, 1) := by decide +kernel
theorem dX7_command_32 : decode cX7_command 32 = .ok (.getfield 24, 3) := by decide +kernel
theorem dX7_command_35 : decode cX7_command 35 = .ok (.iload_n 1, 1) := by decide +kernel
theorem dX7_command_36 : decode cX7_command 36 = .ok (.iload_n 3, 1) := by decide +kernel
theorem dX7_command_37 : decode cX7_command 37 = .ok (.iadd, 1) := by decide +kernel
theorem dX7_command_38 : decode cX7_command 38 = .ok (.iconst 0, 1) := by decide +kernel
theorem dX7_command_39 : decode cX7_command 39 = .ok (.iastore, 1) := by decide +kernel
theorem dX7_command_40 : decode cX7_command 40 = .ok (.iinc 3 1, 3) := by decide +kernel
theorem dX7_command_43 : decode cX7_command 43 = .ok (.goto (-18), 3) := by decide +kernel
theorem dX7_command_46 : decode cX7_command 46 = .ok (.iload_n 2, 1) := by decide +kernel
theorem dX7_command_47 : decode cX7_command 47 = .ok (.bipush 105, 2) := by decide +kernel
theorem dX7_command_49 : decode cX7_command 49 = .ok (.if_icmp .eq 48, 3) := by decide +kernel
theorem dX7_command_52 : decode cX7_command 52 = .ok (.iload_n 2, 1) := by decide +kernel
theorem dX7_command_53 : decode cX7_command 53 = .ok (.bipush 100, 2) := by decide +kernel
theorem dX7_command_55 : decode cX7_command 55 = .ok (.if_icmp .eq 42, 3) := by decide +kernel
theorem dX7_command_58 : decode cX7_command 58 = .ok (.iload_n 2, 1) := by decide +kernel
theorem dX7_command_59 : decode cX7_command 59 = .ok (.bipush 112, 2) := by decide +kernel
theorem dX7_command_61 : decode cX7_command 61 = .ok (.if_icmp .eq 36, 3) := by decide +kernel
theorem dX7_command_64 : decode cX7_command 64 = .ok (.iload_n 2, 1) := by decide +kernel
theorem dX7_command_65 : decode cX7_command 65 = .ok (.bipush 109, 2) := by decide +kernel
theorem dX7_command_67 : decode cX7_command 67 = .ok (.if_icmp .eq 30, 3) := by decide +kernel
theorem dX7_command_70 : decode cX7_command 70 = .ok (.iload_n 2, 1) := by decide +kernel
theorem dX7_command_71 : decode cX7_command 71 = .ok (.bipush 114, 2) := by decide +kernel
theorem dX7_command_73 : decode cX7_command 73 = .ok (.if_icmp .eq 24, 3) := by decide +kernel
theorem dX7_command_76 : decode cX7_command 76 = .ok (.iload_n 2, 1) := by decide +kernel
theorem dX7_command_77 : decode cX7_command 77 = .ok (.bipush 119, 2) := by decide +kernel
theorem dX7_command_79 : decode cX7_command 79 = .ok (.if_icmp .eq 18, 3) := by decide +kernel
theorem dX7_command_82 : decode cX7_command 82 = .ok (.iload_n 2, 1) := by decide +kernel
theorem dX7_command_83 : decode cX7_command 83 = .ok (.bipush 120, 2) := by decide +kernel
theorem dX7_command_85 : decode cX7_command 85 = .ok (.if_icmp .eq 12, 3) := by decide +kernel
theorem dX7_command_88 : decode cX7_command 88 = .ok (.aload_n 0, 1) := by decide +kernel
theorem dX7_command_89 : decode cX7_command 89 = .ok (.aload_n 0, 1) := by decide +kernel
theorem dX7_command_90 : decode cX7_command 90 = .ok (.getfield 217, 3) := by decide +kernel
theorem dX7_command_93 : decode cX7_command 93 = .ok (.putfield 220, 3) := by decide +kernel
theorem dX7_command_96 : decode cX7_command 96 = .ok (.return_, 1) := by decide +kernel
theorem dX7_command_97 : decode cX7_command 97 = .ok (.aload_n 0, 1) := by decide +kernel
theorem dX7_command_98 : decode cX7_command 98 = .ok (.dup, 1) := by decide +kernel
theorem dX7_command_99 : decode cX7_command 99 = .ok (.getfield 217, 3) := by decide +kernel
theorem dX7_command_102 : decode cX7_command 102 = .ok (.iconst 1, 1) := by decide +kernel
theorem dX7_command_103 : decode cX7_command 103 = .ok (.iadd, 1) := by decide +kernel
theorem dX7_command_104 : decode cX7_command 104 = .ok (.putfield 217, 3) := by decide +kernel
theorem dX7_command_107 : decode cX7_command 107 = .ok (.aload_n 0, 1) := by decide +kernel
theorem dX7_command_108 : decode cX7_command 108 = .ok (.getfield 24, 3) := by decide +kernel
theorem dX7_command_111 : decode cX7_command 111 = .ok (.iload_n 1, 1) := by decide +kernel
theorem dX7_command_112 : decode cX7_command 112 = .ok (.iload_n 2, 1) := by decide +kernel
theorem dX7_command_113 : decode cX7_command 113 = .ok (.iastore, 1) := by decide +kernel
theorem dX7_command_114 : decode cX7_command 114 = .ok (.aload_n 0, 1) := by decide +kernel
theorem dX7_command_115 : decode cX7_command 115 = .ok (.getfield 24, 3) := by decide +kernel
theorem dX7_command_118 : decode cX7_command 118 = .ok (.iload_n 1, 1) := by decide +kernel
theorem dX7_command_119 : decode cX7_command 119 = .ok (.iconst 1, 1) := by decide +kernel
theorem dX7_command_120 : decode cX7_command 120 = .ok (.iadd, 1) := by decide +kernel
theorem dX7_command_121 : decode cX7_command 121 = .ok (.aload_n 0, 1) := by decide +kernel
theorem dX7_command_122 : decode cX7_command 122 = .ok (.iload_n 2, 1) := by decide +kernel
theorem dX7_command_123 : decode cX7_command 123 = .ok (.bipush 119, 2) := by decide +kernel
theorem dX7_command_125 : decode cX7_command 125 = .ok (.if_icmp .eq 9, 3) := by decide +kernel
theorem dX7_command_128 : decode cX7_command 128 = .ok (.iload_n 2, 1) := by decide +kernel
theorem dX7_command_129 : decode cX7_command 129 = .ok (.bipush 120, 2) := by decide +kernel
theorem dX7_command_131 : decode cX7_command 131 = .ok (.if_icmp .ne 7, 3) := by decide +kernel
theorem dX7_command_134 : decode cX7_command 134 = .ok (.iconst 1, 1) := by decide +kernel
theorem dX7_command_135 : decode cX7_command 135 = .ok (.goto 4, 3) := by decide +kernel
theorem dX7_command_138 : decode cX7_command 138 = .ok (.iconst 2, 1) := by decide +kernel
theorem dX7_command_139 : decode cX7_command 139 = .ok (.invokevirtual 229, 3) := by decide +kernel
theorem dX7_command_142 : decode cX7_command 142 = .ok (.iastore, 1) := by decide +kernel
theorem dX7_command_143 : decode cX7_command 143 = .ok (.iload_n 2, 1) := by decide +kernel
theorem dX7_command_144 : decode cX7_command 144 = .ok (.tableswitch 186 105 119 #[76, 186, 186, 186, 93, 186, 186, 76, 186, 110, 186, 186, 186, 186, 127], 76) := by decide +kernel
theorem dX7_command_220 : decode cX7_command 220 = .ok (.aload_n 0, 1) := by decide +kernel
theorem dX7_command_221 : decode cX7_command 221 = .ok (.getfield 24, 3) := by decide +kernel
theorem dX7_command_224 : decode cX7_command 224 = .ok (.iload_n 1, 1) := by decide +kernel
theorem dX7_command_225 : decode cX7_command 225 = .ok (.iconst 2, 1) := by decide +kernel
theorem dX7_command_226 : decode cX7_command 226 = .ok (.iadd, 1) := by decide +kernel
theorem dX7_command_227 : decode cX7_command 227 = .ok (.aload_n 0, 1) := by decide +kernel
theorem dX7_command_228 : decode cX7_command 228 = .ok (.bipush 58, 2) := by decide +kernel
theorem dX7_command_230 : decode cX7_command 230 = .ok (.invokevirtual 235, 3) := by decide +kernel
theorem dX7_command_233 : decode cX7_command 233 = .ok (.iastore, 1) := by decide +kernel
theorem dX7_command_234 : decode cX7_command 234 = .ok (.goto 96, 3) := by decide +kernel
theorem dX7_command_237 : decode cX7_command 237 = .ok (.aload_n 0, 1) := by decide +kernel
theorem dX7_command_238 : decode cX7_command 238 = .ok (.getfield 24, 3) := by decide +kernel
theorem dX7_command_241 : decode cX7_command 241 = .ok (.iload_n 1, 1) := by decide +kernel
theorem dX7_command_242 : decode cX7_command 242 = .ok (.iconst 2, 1) := by decide +kernel
theorem dX7_command_243 : decode cX7_command 243 = .ok (.iadd, 1) := by decide +kernel
theorem dX7_command_244 : decode cX7_command 244 = .ok (.aload_n 0, 1) := by decide +kernel
theorem dX7_command_245 : decode cX7_command 245 = .ok (.bipush 62, 2) := by decide +kernel
theorem dX7_command_247 : decode cX7_command 247 = .ok (.invokevirtual 235, 3) := by decide +kernel
theorem dX7_command_250 : decode cX7_command 250 = .ok (.iastore, 1) := by decide +kernel
theorem dX7_command_251 : decode cX7_command 251 = .ok (.goto 79, 3) := by decide +kernel
theorem dX7_command_254 : decode cX7_command 254 = .ok (.aload_n 0, 1) := by decide +kernel
theorem dX7_command_255 : decode cX7_command 255 = .ok (.getfield 24, 3) := by decide +kernel
theorem dX7_command_258 : decode cX7_command 258 = .ok (.iload_n 1, 1) := by decide +kernel
theorem dX7_command_259 : decode cX7_command 259 = .ok (.iconst 2, 1) := by decide +kernel
theorem dX7_command_260 : decode cX7_command 260 = .ok (.iadd, 1) := by decide +kernel
theorem dX7_command_261 : decode cX7_command 261 = .ok (.aload_n 0, 1) := by decide +kernel
theorem dX7_command_262 : decode cX7_command 262 = .ok (.bipush 45, 2) := by decide +kernel
theorem dX7_command_264 : decode cX7_command 264 = .ok (.invokevirtual 235, 3) := by decide +kernel
theorem dX7_command_267 : decode cX7_command 267 = .ok (.iastore, 1) := by decide +kernel
theorem dX7_command_268 : decode cX7_command 268 = .ok (.goto 62, 3) := by decide +kernel
theorem dX7_command_271 : decode cX7_command 271 = .ok (.aload_n 0, 1) := by decide +kernel
theorem dX7_command_272 : decode cX7_command 272 = .ok (.getfield 24, 3) := by decide +kernel
theorem dX7_command_275 : decode cX7_command 275 = .ok (.iload_n 1, 1) := by decide +kernel
theorem dX7_command_276 : decode cX7_command 276 = .ok (.iconst 2, 1) := by decide +kernel
theorem dX7_command_277 : decode cX7_command 277 = .ok (.iadd, 1) := by decide +kernel
theorem dX7_command_278 : decode cX7_command 278 = .ok (.aload_n 0, 1) := by decide +kernel
theorem dX7_command_279 : decode cX7_command 279 = .ok (.bipush 61, 2) := by decide +kernel
theorem dX7_command_281 : decode cX7_command 281 = .ok (.invokevirtual 235, 3) := by decide +kernel
theorem dX7_command_284 : decode cX7_command 284 = .ok (.iastore, 1) := by decide +kernel
theorem dX7_command_285 : decode cX7_command 285 = .ok (.aload_n 0, 1) := by decide +kernel
theorem dX7_command_286 : decode cX7_command 286 = .ok (.getfield 24, 3) := by decide +kernel
theorem dX7_command_289 : decode cX7_command 289 = .ok (.iload_n 1, 1) := by decide +kernel
theorem dX7_command_290 : decode cX7_command 290 = .ok (.iconst 3, 1) := by decide +kernel
theorem dX7_command_291 : decode cX7_command 291 = .ok (.iadd, 1) := by decide +kernel
theorem dX7_command_292 : decode cX7_command 292 = .ok (.aload_n 0, 1) := by decide +kernel
theorem dX7_command_293 : decode cX7_command 293 = .ok (.bipush 45, 2) := by decide +kernel
theorem dX7_command_295 : decode cX7_command 295 = .ok (.invokevirtual 235, 3) := by decide +kernel
theorem dX7_command_298 : decode cX7_command 298 = .ok (.iastore, 1) := by decide +kernel
theorem dX7_command_299 : decode cX7_command 299 = .ok (.aload_n 0, 1) := by decide +kernel
theorem dX7_command_300 : decode cX7_command 300 = .ok (.getfield 24, 3) := by decide +kernel
theorem dX7_command_303 : decode cX7_command 303 = .ok (.iload_n 1, 1) := by decide +kernel
theorem dX7_command_304 : decode cX7_command 304 = .ok (.iconst 4, 1) := by decide +kernel
theorem dX7_command_305 : decode cX7_command 305 = .ok (.iadd, 1) := by decide +kernel
theorem dX7_command_306 : decode cX7_command 306 = .ok (.aload_n 0, 1) := by decide +kernel
theorem dX7_command_307 : decode cX7_command 307 = .ok (.bipush 94, 2) := by decide +kernel
theorem dX7_command_309 : decode cX7_command 309 = .ok (.invokevirtual 235, 3) := by decide +kernel
theorem dX7_command_312 : decode cX7_command 312 = .ok (.iastore, 1) := by decide +kernel
theorem dX7_command_313 : decode cX7_command 313 = .ok (.aload_n 0, 1) := by decide +kernel
theorem dX7_command_314 : decode cX7_command 314 = .ok (.getfield 24, 3) := by decide +kernel
theorem dX7_command_317 : decode cX7_command 317 = .ok (.iload_n 1, 1) := by decide +kernel
theorem dX7_command_318 : decode cX7_command 318 = .ok (.iconst 5, 1) := by decide +kernel
theorem dX7_command_319 : decode cX7_command 319 = .ok (.iadd, 1) := by decide +kernel
theorem dX7_command_320 : decode cX7_command 320 = .ok (.aload_n 0, 1) := by decide +kernel
theorem dX7_command_321 : decode cX7_command 321 = .ok (.bipush 47, 2) := by decide +kernel
theorem dX7_command_323 : decode cX7_command 323 = .ok (.invokevirtual 235, 3) := by decide +kernel
theorem dX7_command_326 : decode cX7_command 326 = .ok (.iastore, 1) := by decide +kernel
theorem dX7_command_327 : decode cX7_command 327 = .ok (.goto 3, 3) := by decide +kernel
theorem dX7_command_330 : decode cX7_command 330 = .ok (.return_, 1) := by decide +kernel
theorem dX7_parse_0 : decode cX7_parse 0 = .ok (.aload_n 0, 1) := by decide +kernel
theorem dX7_parse_1 : decode cX7_parse 1 = .ok (.iconst 0, 1) := by decide +kernel
theorem dX7_parse_2 : decode cX7_parse 2 = .ok (.putfield 217, 3) := by decide +kernel
theorem dX7_parse_5 : decode cX7_parse 5 = .ok (.aload_n 0, 1) := by decide +kernel
theorem dX7_parse_6 : decode cX7_parse 6 = .ok (.iconst (-1), 1) := by decide +kernel
theorem dX7_parse_7 : decode cX7_parse 7 = .ok (.putfield 220, 3) := by decide +kernel
theorem dX7_parse_10 : decode cX7_parse 10 = .ok (.aload_n 0, 1) := by decide +kernel
theorem dX7_parse_11 : decode cX7_parse 11 = .ok (.iconst 0, 1) := by decide +kernel
theorem dX7_parse_12 : decode cX7_parse 12 = .ok (.putfield 232, 3) := by decide +kernel
theorem dX7_parse_15 : decode cX7_parse 15 = .ok (.aload_n 0, 1) := by decide +kernel
theorem dX7_parse_16 : decode cX7_parse 16 = .ok (.invokevirtual 238, 3) := by decide +kernel
theorem dX7_parse_19 : decode cX7_parse 19 = .ok (.aload_n 0, 1) := by decide +kernel
theorem dX7_parse_20 : decode cX7_parse 20 = .ok (.getfield 220, 3) := by decide +kernel
theorem dX7_parse_23 : decode cX7_parse 23 = .ok (.ifCond .ge 29, 3) := by decide +kernel
theorem dX7_parse_26 : decode cX7_parse 26 = .ok (.aload_n 0, 1) := by decide +kernel
theorem dX7_parse_27 : decode cX7_parse 27 = .ok (.invokevirtual 223, 3) := by decide +kernel
theorem dX7_parse_30 : decode cX7_parse 30 = .ok (.bipush 59, 2) := by decide +kernel
theorem dX7_parse_32 : decode cX7_parse 32 = .ok (.if_icmp .ne 20, 3) := by decide +kernel
theorem dX7_parse_35 : decode cX7_parse 35 = .ok (.aload_n 0, 1) := by decide +kernel
theorem dX7_parse_36 : decode cX7_parse 36 = .ok (.dup, 1) := by decide +kernel
theorem dX7_parse_37 : decode cX7_parse 37 = .ok (.getfield 217, 3) := by decide +kernel
theorem dX7_parse_40 : decode cX7_parse 40 = .ok (.iconst 1, 1) := by decide +kernel
theorem dX7_parse_41 : decode cX7_parse 41 = .ok (.iadd, 1) := by decide +kernel
theorem dX7_parse_42 : decode cX7_parse 42 = .ok (.putfield 217, 3) := by decide +kernel
theorem dX7_parse_45 : decode cX7_parse 45 = .ok (.aload_n 0, 1) := by decide +kernel
theorem dX7_parse_46 : decode cX7_parse 46 = .ok (.invokevirtual 238, 3) := by decide +kernel
theorem dX7_parse_49 : decode cX7_parse 49 = .ok (.goto (-30), 3) := by decide +kernel
theorem dX7_parse_52 : decode cX7_parse 52 = .ok (.aload_n 0, 1) := by decide +kernel
theorem dX7_parse_53 : decode cX7_parse 53 = .ok (.getfield 220, 3) := by decide +kernel
theorem dX7_parse_56 : decode cX7_parse 56 = .ok (.ifCond .ge 22, 3) := by decide +kernel
theorem dX7_parse_59 : decode cX7_parse 59 = .ok (.aload_n 0, 1) := by decide +kernel
theorem dX7_parse_60 : decode cX7_parse 60 = .ok (.getfield 217, 3) := by decide +kernel
theorem dX7_parse_63 : decode cX7_parse 63 = .ok (.aload_n 0, 1) := by decide +kernel
theorem dX7_parse_64 : decode cX7_parse 64 = .ok (.getfield 214, 3) := by decide +kernel
theorem dX7_parse_67 : decode cX7_parse 67 = .ok (.if_icmp .ge 11, 3) := by decide +kernel
theorem dX7_parse_70 : decode cX7_parse 70 = .ok (.aload_n 0, 1) := by decide +kernel
theorem dX7_parse_71 : decode cX7_parse 71 = .ok (.aload_n 0, 1) := by decide +kernel
theorem dX7_parse_72 : decode cX7_parse 72 = .ok (.getfield 217, 3) := by decide +kernel
theorem dX7_parse_75 : decode cX7_parse 75 = .ok (.putfield 220, 3) := by decide +kernel
theorem dX7_parse_78 : decode cX7_parse 78 = .ok (.return_, 1) := by decide +kernel
theorem dX7_does_0 : decode cX7_does 0 = .ok (.aload_n 0, 1) := by decide +kernel
theorem dX7_does_1 : decode cX7_does 1 = .ok (.getfield 24, 3) := by decide +kernel
theorem dX7_does_4 : decode cX7_does 4 = .ok (.iload_n 1, 1) := by decide +kernel
theorem dX7_does_5 : decode cX7_does 5 = .ok (.iconst 1, 1) := by decide +kernel
theorem dX7_does_6 : decode cX7_does 6 = .ok (.iadd, 1) := by decide +kernel
theorem dX7_does_7 : decode cX7_does 7 = .ok (.iaload, 1) := by decide +kernel
theorem dX7_does_8 : decode cX7_does 8 = .ok (.istore_n 2, 1) := by decide +kernel
theorem dX7_does_9 : decode cX7_does 9 = .ok (.aload_n 0, 1) := by decide +kernel
theorem dX7_does_10 : decode cX7_does 10 = .ok (.getfield 24, 3) := by decide +kernel
theorem dX7_does_13 : decode cX7_does 13 = .ok (.iload_n 1, 1) := by decide +kernel
theorem dX7_does_14 : decode cX7_does 14 = .ok (.iconst 2, 1) := by decide +kernel
theorem dX7_does_15 : decode cX7_does 15 = .ok (.iadd, 1) := by decide +kernel
theorem dX7_does_16 : decode cX7_does 16 = .ok (.iaload, 1) := by decide +kernel
theorem dX7_does_17 : decode cX7_does 17 = .ok (.istore_n 3, 1) := by decide +kernel
theorem dX7_does_18 : decode cX7_does 18 = .ok (.aload_n 0, 1) := by decide +kernel
theorem dX7_does_19 : decode cX7_does 19 = .ok (.getfield 24, 3) := by decide +kernel
theorem dX7_does_22 : decode cX7_does 22 = .ok (.iload_n 1, 1) := by decide +kernel
theorem dX7_does_23 : decode cX7_does 23 = .ok (.iaload, 1) := by decide +kernel
theorem dX7_does_24 : decode cX7_does 24 = .ok (.tableswitch 161 100 119 #[103, 161, 161, 161, 161, 96, 161, 161, 161, 116, 161, 161, 109, 161, 123, 161, 161, 161, 161, 130], 96) := by decide +kernel
theorem dX7_does_120 : decode cX7_does 120 = .ok (.aload_n 0, 1) := by decide +kernel
theorem dX7_does_121 : decode cX7_does 121 = .ok (.iload_n 2, 1) := by decide +kernel
theorem dX7_does_122 : decode cX7_does 122 = .ok (.iload_n 3, 1) := by decide +kernel
theorem dX7_does_123 : decode cX7_does 123 = .ok (.invokevirtual 124, 3) := by decide +kernel
theorem dX7_does_126 : decode cX7_does 126 = .ok (.ireturn, 1) := by decide +kernel
theorem dX7_does_127 : decode cX7_does 127 = .ok (.aload_n 0, 1) := by decide +kernel
theorem dX7_does_128 : decode cX7_does 128 = .ok (.iload_n 2, 1) := by decide +kernel
theorem dX7_does_129 : decode cX7_does 129 = .ok (.invokevirtual 134, 3) := by decide +kernel
theorem dX7_does_132 : decode cX7_does 132 = .ok (.ireturn, 1) := by decide +kernel
theorem dX7_does_133 : decode cX7_does 133 = .ok (.aload_n 0, 1) := by decide +kernel
theorem dX7_does_134 : decode cX7_does 134 = .ok (.iload_n 2, 1) := by decide +kernel
theorem dX7_does_135 : decode cX7_does 135 = .ok (.iload_n 3, 1) := by decide +kernel
theorem dX7_does_136 : decode cX7_does 136 = .ok (.invokevirtual 137, 3) := by decide +kernel
theorem dX7_does_139 : decode cX7_does 139 = .ok (.ireturn, 1) := by decide +kernel
theorem dX7_does_140 : decode cX7_does 140 = .ok (.aload_n 0, 1) := by decide +kernel
theorem dX7_does_141 : decode cX7_does 141 = .ok (.iload_n 2, 1) := by decide +kernel
theorem dX7_does_142 : decode cX7_does 142 = .ok (.iload_n 3, 1) := by decide +kernel
theorem dX7_does_143 : decode cX7_does 143 = .ok (.invokevirtual 140, 3) := by decide +kernel
theorem dX7_does_146 : decode cX7_does 146 = .ok (.ireturn, 1) := by decide +kernel
theorem dX7_does_147 : decode cX7_does 147 = .ok (.aload_n 0, 1) := by decide +kernel
theorem dX7_does_148 : decode cX7_does 148 = .ok (.iload_n 2, 1) := by decide +kernel
theorem dX7_does_149 : decode cX7_does 149 = .ok (.iload_n 3, 1) := by decide +kernel
theorem dX7_does_150 : decode cX7_does 150 = .ok (.invokevirtual 146, 3) := by decide +kernel
theorem dX7_does_153 : decode cX7_does 153 = .ok (.ireturn, 1) := by decide +kernel
theorem dX7_does_154 : decode cX7_does 154 = .ok (.aload_n 0, 1) := by decide +kernel
theorem dX7_does_155 : decode cX7_does 155 = .ok (.iload_n 2, 1) := by decide +kernel
theorem dX7_does_156 : decode cX7_does 156 = .ok (.iload_n 3, 1) := by decide +kernel
theorem dX7_does_157 : decode cX7_does 157 = .ok (.aload_n 0, 1) := by decide +kernel
theorem dX7_does_158 : decode cX7_does 158 = .ok (.getfield 24, 3) := by decide +kernel
theorem dX7_does_161 : decode cX7_does 161 = .ok (.iload_n 1, 1) := by decide +kernel
theorem dX7_does_162 : decode cX7_does 162 = .ok (.iconst 3, 1) := by decide +kernel
theorem dX7_does_163 : decode cX7_does 163 = .ok (.iadd, 1) := by decide +kernel
theorem dX7_does_164 : decode cX7_does 164 = .ok (.iaload, 1) := by decide +kernel
theorem dX7_does_165 : decode cX7_does 165 = .ok (.aload_n 0, 1) := by decide +kernel
theorem dX7_does_166 : decode cX7_does 166 = .ok (.getfield 24, 3) := by decide +kernel
theorem dX7_does_169 : decode cX7_does 169 = .ok (.iload_n 1, 1) := by decide +kernel
theorem dX7_does_170 : decode cX7_does 170 = .ok (.iconst 4, 1) := by decide +kernel
theorem dX7_does_171 : decode cX7_does 171 = .ok (.iadd, 1) := by decide +kernel
theorem dX7_does_172 : decode cX7_does 172 = .ok (.iaload, 1) := by decide +kernel
theorem dX7_does_173 : decode cX7_does 173 = .ok (.aload_n 0, 1) := by decide +kernel
theorem dX7_does_174 : decode cX7_does 174 = .ok (.getfield 24, 3) := by decide +kernel
theorem dX7_does_177 : decode cX7_does 177 = .ok (.iload_n 1, 1) := by decide +kernel
theorem dX7_does_178 : decode cX7_does 178 = .ok (.iconst 5, 1) := by decide +kernel
theorem dX7_does_179 : decode cX7_does 179 = .ok (.iadd, 1) := by decide +kernel
theorem dX7_does_180 : decode cX7_does 180 = .ok (.iaload, 1) := by decide +kernel
theorem dX7_does_181 : decode cX7_does 181 = .ok (.invokevirtual 156, 3) := by decide +kernel
theorem dX7_does_184 : decode cX7_does 184 = .ok (.ireturn, 1) := by decide +kernel
theorem dX7_does_185 : decode cX7_does 185 = .ok (.aload_n 0, 1) := by decide +kernel
theorem dX7_does_186 : decode cX7_does 186 = .ok (.iload_n 2, 1) := by decide +kernel
theorem dX7_does_187 : decode cX7_does 187 = .ok (.invokevirtual 159, 3) := by decide +kernel
theorem dX7_does_190 : decode cX7_does 190 = .ok (.ireturn, 1) := by decide +kernel
theorem dX7_execute_0 : decode cX7_execute 0 = .ok (.aload_n 0, 1) := by decide +kernel
theorem dX7_execute_1 : decode cX7_execute 1 = .ok (.invokevirtual 241, 3) := by decide +kernel
theorem dX7_execute_4 : decode cX7_execute 4 = .ok (.aload_n 0, 1) := by decide +kernel
theorem dX7_execute_5 : decode cX7_execute 5 = .ok (.iconst 0, 1) := by decide +kernel
theorem dX7_execute_6 : decode cX7_execute 6 = .ok (.putfield 214, 3) := by decide +kernel
theorem dX7_execute_9 : decode cX7_execute 9 = .ok (.aload_n 0, 1) := by decide +kernel
theorem dX7_execute_10 : decode cX7_execute 10 = .ok (.getfield 220, 3) := by decide +kernel
theorem dX7_execute_13 : decode cX7_execute 13 = .ok (.ifCond .lt 18, 3) := by decide +kernel
theorem dX7_execute_16 : decode cX7_execute 16 = .ok (.aload_n 0, 1) := by decide +kernel
theorem dX7_execute_17 : decode cX7_execute 17 = .ok (.aload_n 0, 1) := by decide +kernel
theorem dX7_execute_18 : decode cX7_execute 18 = .ok (.getfield 220, 3) := by decide +kernel
theorem dX7_execute_21 : decode cX7_execute 21 = .ok (.putfield 20, 3) := by decide +kernel
theorem dX7_execute_24 : decode cX7_execute 24 = .ok (.aload_n 0, 1) := by decide +kernel
theorem dX7_execute_25 : decode cX7_execute 25 = .ok (.iconst 1, 1) := by decide +kernel
theorem dX7_execute_26 : decode cX7_execute 26 = .ok (.putfield 27, 3) := by decide +kernel
theorem dX7_execute_29 : decode cX7_execute 29 = .ok (.iconst 0, 1) := by decide +kernel
theorem dX7_execute_30 : decode cX7_execute 30 = .ok (.ireturn, 1) := by decide +kernel
theorem dX7_execute_31 : decode cX7_execute 31 = .ok (.aload_n 0, 1) := by decide +kernel
theorem dX7_execute_32 : decode cX7_execute 32 = .ok (.invokevirtual 121, 3) := by decide +kernel
theorem dX7_execute_35 : decode cX7_execute 35 = .ok (.iconst 0, 1) := by decide +kernel
theorem dX7_execute_36 : decode cX7_execute 36 = .ok (.istore_n 1, 1) := by decide +kernel
theorem dX7_execute_37 : decode cX7_execute 37 = .ok (.iconst 0, 1) := by decide +kernel
theorem dX7_execute_38 : decode cX7_execute 38 = .ok (.istore_n 2, 1) := by decide +kernel
theorem dX7_execute_39 : decode cX7_execute 39 = .ok (.iload_n 2, 1) := by decide +kernel
theorem dX7_execute_40 : decode cX7_execute 40 = .ok (.aload_n 0, 1) := by decide +kernel
theorem dX7_execute_41 : decode cX7_execute 41 = .ok (.getfield 232, 3) := by decide +kernel
theorem dX7_execute_44 : decode cX7_execute 44 = .ok (.if_icmp .ge 22, 3) := by decide +kernel
theorem dX7_execute_47 : decode cX7_execute 47 = .ok (.iload_n 1, 1) := by decide +kernel
theorem dX7_execute_48 : decode cX7_execute 48 = .ok (.ifCond .ne 18, 3) := by decide +kernel
theorem dX7_execute_51 : decode cX7_execute 51 = .ok (.aload_n 0, 1) := by decide +kernel
theorem dX7_execute_52 : decode cX7_execute 52 = .ok (.bipush 6, 2) := by decide +kernel
theorem dX7_execute_54 : decode cX7_execute 54 = .ok (.iload_n 2, 1) := by decide +kernel
theorem dX7_execute_55 : decode cX7_execute 55 = .ok (.imul, 1) := by decide +kernel
theorem dX7_execute_56 : decode cX7_execute 56 = .ok (.invokevirtual 244, 3) := by decide +kernel
theorem dX7_execute_59 : decode cX7_execute 59 = .ok (.istore_n 1, 1) := by decide +kernel
theorem dX7_execute_60 : decode cX7_execute 60 = .ok (.iinc 2 1, 3) := by decide +kernel
theorem dX7_execute_63 : decode cX7_execute 63 = .ok (.goto (-24), 3) := by decide +kernel
theorem dX7_execute_66 : decode cX7_execute 66 = .ok (.iload_n 1, 1) := by decide +kernel
theorem dX7_execute_67 : decode cX7_execute 67 = .ok (.iconst 3, 1) := by decide +kernel
theorem dX7_execute_68 : decode cX7_execute 68 = .ok (.if_icmp .ne 23, 3) := by decide +kernel
theorem dX7_execute_71 : decode cX7_execute 71 = .ok (.aload_n 0, 1) := by decide +kernel
theorem dX7_execute_72 : decode cX7_execute 72 = .ok (.aload_n 0, 1) := by decide +kernel
theorem dX7_execute_73 : decode cX7_execute 73 = .ok (.getfield 44, 3) := by decide +kernel
theorem dX7_execute_76 : decode cX7_execute 76 = .ok (.putfield 50, 3) := by decide +kernel
theorem dX7_execute_79 : decode cX7_execute 79 = .ok (.aload_n 0, 1) := by decide +kernel
theorem dX7_execute_80 : decode cX7_execute 80 = .ok (.iconst 4, 1) := by decide +kernel
theorem dX7_execute_81 : decode cX7_execute 81 = .ok (.putfield 44, 3) := by decide +kernel
theorem dX7_execute_84 : decode cX7_execute 84 = .ok (.aload_n 0, 1) := by decide +kernel
theorem dX7_execute_85 : decode cX7_execute 85 = .ok (.iload_n 2, 1) := by decide +kernel
theorem dX7_execute_86 : decode cX7_execute 86 = .ok (.iconst 1, 1) := by decide +kernel
theorem dX7_execute_87 : decode cX7_execute 87 = .ok (.isub, 1) := by decide +kernel
theorem dX7_execute_88 : decode cX7_execute 88 = .ok (.putfield 47, 3) := by decide +kernel
theorem dX7_execute_91 : decode cX7_execute 91 = .ok (.aload_n 0, 1) := by decide +kernel
theorem dX7_execute_92 : decode cX7_execute 92 = .ok (.aload_n 0, 1) := by decide +kernel
theorem dX7_execute_93 : decode cX7_execute 93 = .ok (.getfield 232, 3) := by decide +kernel
theorem dX7_execute_96 : decode cX7_execute 96 = .ok (.putfield 41, 3) := by decide +kernel
theorem dX7_execute_99 : decode cX7_execute 99 = .ok (.aload_n 0, 1) := by decide +kernel
theorem dX7_execute_100 : decode cX7_execute 100 = .ok (.iload_n 1, 1) := by decide +kernel
theorem dX7_execute_101 : decode cX7_execute 101 = .ok (.iconst 2, 1) := by decide +kernel
theorem dX7_execute_102 : decode cX7_execute 102 = .ok (.iconst 2, 1) := by decide +kernel
theorem dX7_execute_103 : decode cX7_execute 103 = .ok (.iconst 3, 1) := by decide +kernel
theorem dX7_execute_104 : decode cX7_execute 104 = .ok (.iconst 2, 1) := by decide +kernel
theorem dX7_execute_105 : decode cX7_execute 105 = .ok (.invokevirtual 127, 3) := by decide +kernel
theorem dX7_execute_108 : decode cX7_execute 108 = .ok (.ireturn, 1) := by decide +kernel
theorem dX7_syntaxErrorOffset_0 : decode cX7_syntaxErrorOffset 0 = .ok (.aload_n 0, 1) := by decide +kernel
theorem dX7_syntaxErrorOffset_1 : decode cX7_syntaxErrorOffset 1 = .ok (.aload_n 0, 1) := by decide +kernel
theorem dX7_syntaxErrorOffset_2 : decode cX7_syntaxErrorOffset 2 = .ok (.getfield 20, 3) := by decide +kernel
theorem dX7_syntaxErrorOffset_5 : decode cX7_syntaxErrorOffset 5 = .ok (.iconst (-1), 1) := by decide +kernel
theorem dX7_syntaxErrorOffset_6 : decode cX7_syntaxErrorOffset 6 = .ok (.if_icmp .eq 7, 3) := by decide +kernel
theorem dX7_syntaxErrorOffset_9 : decode cX7_syntaxErrorOffset 9 = .ok (.iconst 1, 1) := by decide +kernel
theorem dX7_syntaxErrorOffset_10 : decode cX7_syntaxErrorOffset 10 = .ok (.goto 4, 3) := by decide +kernel
theorem dX7_syntaxErrorOffset_13 : decode cX7_syntaxErrorOffset 13 = .ok (.iconst 0, 1) := by decide +kernel
theorem dX7_syntaxErrorOffset_14 : decode cX7_syntaxErrorOffset 14 = .ok (.invokevirtual 53, 3) := by decide +kernel
theorem dX7_syntaxErrorOffset_17 : decode cX7_syntaxErrorOffset 17 = .ok (.ifCond .eq 10, 3) := by decide +kernel
theorem dX7_syntaxErrorOffset_20 : decode cX7_syntaxErrorOffset 20 = .ok (.aload_n 0, 1) := by decide +kernel
theorem dX7_syntaxErrorOffset_21 : decode cX7_syntaxErrorOffset 21 = .ok (.getfield 20, 3) := by decide +kernel
theorem dX7_syntaxErrorOffset_24 : decode cX7_syntaxErrorOffset 24 = .ok (.goto 4, 3) := by decide +kernel
theorem dX7_syntaxErrorOffset_27 : decode cX7_syntaxErrorOffset 27 = .ok (.iconst 0, 1) := by decide +kernel
theorem dX7_syntaxErrorOffset_28 : decode cX7_syntaxErrorOffset 28 = .ok (.ireturn, 1) := by decide +kernel
theorem dX7_undo_0 : decode cX7_undo 0 = .ok (.aload_n 0, 1) := by decide +kernel
theorem dX7_undo_1 : decode cX7_undo 1 = .ok (.aload_n 0, 1) := by decide +kernel
theorem dX7_undo_2 : decode cX7_undo 2 = .ok (.getfield 38, 3) := by decide +kernel
theorem dX7_undo_5 : decode cX7_undo 5 = .ok (.ifCond .le 7, 3) := by decide +kernel
theorem dX7_undo_8 : decode cX7_undo 8 = .ok (.iconst 1, 1) := by decide +kernel
theorem dX7_undo_9 : decode cX7_undo 9 = .ok (.goto 4, 3) := by decide +kernel
theorem dX7_undo_12 : decode cX7_undo 12 = .ok (.iconst 0, 1) := by decide +kernel
theorem dX7_undo_13 : decode cX7_undo 13 = .ok (.invokevirtual 53, 3) := by decide +kernel
theorem dX7_undo_16 : decode cX7_undo 16 = .ok (.ifCond .ne 5, 3) := by decide +kernel
theorem dX7_undo_19 : decode cX7_undo 19 = .ok (.iconst 0, 1) := by decide +kernel
theorem dX7_undo_20 : decode cX7_undo 20 = .ok (.ireturn, 1) := by decide +kernel
theorem dX7_undo_21 : decode cX7_undo 21 = .ok (.aload_n 0, 1) := by decide +kernel
theorem dX7_undo_22 : decode cX7_undo 22 = .ok (.aload_n 0, 1) := by decide +kernel
theorem dX7_undo_23 : decode cX7_undo 23 = .ok (.getfield 38, 3) := by decide +kernel
theorem dX7_undo_26 : decode cX7_undo 26 = .ok (.iconst 0, 1) := by decide +kernel
theorem dX7_undo_27 : decode cX7_undo 27 = .ok (.invokevirtual 34, 3) := by decide +kernel
theorem dX7_undo_30 : decode cX7_undo 30 = .ok (.aload_n 0, 1) := by decide +kernel
theorem dX7_undo_31 : decode cX7_undo 31 = .ok (.dup, 1) := by decide +kernel
theorem dX7_undo_32 : decode cX7_undo 32 = .ok (.getfield 38, 3) := by decide +kernel
theorem dX7_undo_35 : decode cX7_undo 35 = .ok (.iconst 1, 1) := by decide +kernel
theorem dX7_undo_36 : decode cX7_undo 36 = .ok (.isub, 1) := by decide +kernel
theorem dX7_undo_37 : decode cX7_undo 37 = .ok (.putfield 38, 3) := by decide +kernel
theorem dX7_undo_40 : decode cX7_undo 40 = .ok (.aload_n 0, 1) := by decide +kernel
theorem dX7_undo_41 : decode cX7_undo 41 = .ok (.getfield 38, 3) := by decide +kernel
theorem dX7_undo_44 : decode cX7_undo 44 = .ok (.ireturn, 1) := by decide +kernel
theorem dX7_saveSnapshot_0 : decode cX7_saveSnapshot 0 = .ok (.aload_n 0, 1) := by decide +kernel
theorem dX7_saveSnapshot_1 : decode cX7_saveSnapshot 1 = .ok (.iconst 0, 1) := by decide +kernel
theorem dX7_saveSnapshot_2 : decode cX7_saveSnapshot 2 = .ok (.putfield 27, 3) := by decide +kernel
theorem dX7_saveSnapshot_5 : decode cX7_saveSnapshot 5 = .ok (.aload_n 0, 1) := by decide +kernel
theorem dX7_saveSnapshot_6 : decode cX7_saveSnapshot 6 = .ok (.iconst 1, 1) := by decide +kernel
theorem dX7_saveSnapshot_7 : decode cX7_saveSnapshot 7 = .ok (.putfield 247, 3) := by decide +kernel
theorem dX7_saveSnapshot_10 : decode cX7_saveSnapshot 10 = .ok (.aload_n 0, 1) := by decide +kernel
theorem dX7_saveSnapshot_11 : decode cX7_saveSnapshot 11 = .ok (.iconst 0, 1) := by decide +kernel
theorem dX7_saveSnapshot_12 : decode cX7_saveSnapshot 12 = .ok (.bipush 9, 2) := by decide +kernel
theorem dX7_saveSnapshot_14 : decode cX7_saveSnapshot 14 = .ok (.invokevirtual 34, 3) := by decide +kernel
theorem dX7_saveSnapshot_17 : decode cX7_saveSnapshot 17 = .ok (.aload_n 0, 1) := by decide +kernel
theorem dX7_saveSnapshot_18 : decode cX7_saveSnapshot 18 = .ok (.getfield 9, 3) := by decide +kernel
theorem dX7_saveSnapshot_21 : decode cX7_saveSnapshot 21 = .ok (.iconst 0, 1) := by decide +kernel
theorem dX7_saveSnapshot_22 : decode cX7_saveSnapshot 22 = .ok (.iaload, 1) := by decide +kernel
theorem dX7_saveSnapshot_23 : decode cX7_saveSnapshot 23 = .ok (.ireturn, 1) := by decide +kernel
theorem dX7_restoreSnapshot_0 : decode cX7_restoreSnapshot 0 = .ok (.aload_n 0, 1) := by decide +kernel
theorem dX7_restoreSnapshot_1 : decode cX7_restoreSnapshot 1 = .ok (.aload_n 0, 1) := by decide +kernel
theorem dX7_restoreSnapshot_2 : decode cX7_restoreSnapshot 2 = .ok (.getfield 247, 3) := by decide +kernel
theorem dX7_restoreSnapshot_5 : decode cX7_restoreSnapshot 5 = .ok (.invokevirtual 53, 3) := by decide +kernel
theorem dX7_restoreSnapshot_8 : decode cX7_restoreSnapshot 8 = .ok (.ifCond .ne 5, 3) := by decide +kernel
theorem dX7_restoreSnapshot_11 : decode cX7_restoreSnapshot 11 = .ok (.iconst 0, 1) := by decide +kernel
theorem dX7_restoreSnapshot_12 : decode cX7_restoreSnapshot 12 = .ok (.ireturn, 1) := by decide +kernel
theorem dX7_restoreSnapshot_13 : decode cX7_restoreSnapshot 13 = .ok (.aload_n 0, 1) := by decide +kernel
theorem dX7_restoreSnapshot_14 : decode cX7_restoreSnapshot 14 = .ok (.bipush 9, 2) := by decide +kernel
theorem dX7_restoreSnapshot_16 : decode cX7_restoreSnapshot 16 = .ok (.iconst 0, 1) := by decide +kernel
theorem dX7_restoreSnapshot_17 : decode cX7_restoreSnapshot 17 = .ok (.invokevirtual 34, 3) := by decide +kernel
theorem dX7_restoreSnapshot_20 : decode cX7_restoreSnapshot 20 = .ok (.aload_n 0, 1) := by decide +kernel
theorem dX7_restoreSnapshot_21 : decode cX7_restoreSnapshot 21 = .ok (.iconst 0, 1) := by decide +kernel
theorem dX7_restoreSnapshot_22 : decode cX7_restoreSnapshot 22 = .ok (.putfield 38, 3) := by decide +kernel
theorem dX7_restoreSnapshot_25 : decode cX7_restoreSnapshot 25 = .ok (.aload_n 0, 1) := by decide +kernel
theorem dX7_restoreSnapshot_26 : decode cX7_restoreSnapshot 26 = .ok (.getfield 9, 3) := by decide +kernel
theorem dX7_restoreSnapshot_29 : decode cX7_restoreSnapshot 29 = .ok (.iconst 0, 1) := by decide +kernel
theorem dX7_restoreSnapshot_30 : decode cX7_restoreSnapshot 30 = .ok (.iaload, 1) := by decide +kernel
theorem dX7_restoreSnapshot_31 : decode cX7_restoreSnapshot 31 = .ok (.ireturn, 1) := by decide +kernel
