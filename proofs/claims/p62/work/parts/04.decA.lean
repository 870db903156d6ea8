theorem dX0_init_0 : decode cX0_init 0 = .ok (.aload_n 0, 1) := by decide +kernel
theorem dX0_init_1 : decode cX0_init 1 = .ok (.invokespecial 3, 3) := by decide +kernel
theorem dX0_init_4 : decode cX0_init 4 = .ok (.aload_n 0, 1) := by decide +kernel
theorem dX0_init_5 : decode cX0_init 5 = .ok (.bipush 60, 2) := by decide +kernel
theorem dX0_init_7 : decode cX0_init 7 = .ok (.newarray .int, 2) := by decide +kernel
theorem dX0_init_9 : decode cX0_init 9 = .ok (.putfield 9, 3) := by decide +kernel
theorem dX0_init_12 : decode cX0_init 12 = .ok (.aload_n 0, 1) := by decide +kernel
theorem dX0_init_13 : decode cX0_init 13 = .ok (.bipush 20, 2) := by decide +kernel
theorem dX0_init_15 : decode cX0_init 15 = .ok (.newarray .int, 2) := by decide +kernel
theorem dX0_init_17 : decode cX0_init 17 = .ok (.putfield 15, 3) := by decide +kernel
theorem dX0_init_20 : decode cX0_init 20 = .ok (.aload_n 0, 1) := by decide +kernel
theorem dX0_init_21 : decode cX0_init 21 = .ok (.bipush 100, 2) := by decide +kernel
theorem dX0_init_23 : decode cX0_init 23 = .ok (.newarray .int, 2) := by decide +kernel
theorem dX0_init_25 : decode cX0_init 25 = .ok (.putfield 18, 3) := by decide +kernel
theorem dX0_init_28 : decode cX0_init 28 = .ok (.return_, 1) := by decide +kernel
theorem dX1_init_0 : decode cX1_init 0 = .ok (.aload_n 0, 1) := by decide +kernel
theorem dX1_init_1 : decode cX1_init 1 = .ok (.invokespecial 3, 3) := by decide +kernel
theorem dX1_init_4 : decode cX1_init 4 = .ok (.aload_n 0, 1) := by decide +kernel
theorem dX1_init_5 : decode cX1_init 5 = .ok (.new 9, 3) := by decide +kernel
theorem dX1_init_8 : decode cX1_init 8 = .ok (.dup, 1) := by decide +kernel
theorem dX1_init_9 : decode cX1_init 9 = .ok (.invokespecial 11, 3) := by decide +kernel
theorem dX1_init_12 : decode cX1_init 12 = .ok (.putfield 12, 3) := by decide +kernel
theorem dX1_init_15 : decode cX1_init 15 = .ok (.aload_n 0, 1) := by decide +kernel
theorem dX1_init_16 : decode cX1_init 16 = .ok (.new 18, 3) := by decide +kernel
theorem dX1_init_19 : decode cX1_init 19 = .ok (.dup, 1) := by decide +kernel
theorem dX1_init_20 : decode cX1_init 20 = .ok (.invokespecial 20, 3) := by decide +kernel
theorem dX1_init_23 : decode cX1_init 23 = .ok (.putfield 21, 3) := by decide +kernel
theorem dX1_init_26 : decode cX1_init 26 = .ok (.return_, 1) := by decide +kernel
theorem dX1_copyFrom_0 : decode cX1_copyFrom 0 = .ok (.aload_n 1, 1) := by decide +kernel
theorem dX1_copyFrom_1 : decode cX1_copyFrom 1 = .ok (.ifnonnull 4, 3) := by decide +kernel
theorem dX1_copyFrom_4 : decode cX1_copyFrom 4 = .ok (.return_, 1) := by decide +kernel
theorem dX1_copyFrom_5 : decode cX1_copyFrom 5 = .ok (.aload_n 0, 1) := by decide +kernel
theorem dX1_copyFrom_6 : decode cX1_copyFrom 6 = .ok (.getfield 12, 3) := by decide +kernel
theorem dX1_copyFrom_9 : decode cX1_copyFrom 9 = .ok (.aload_n 1, 1) := by decide +kernel
theorem dX1_copyFrom_10 : decode cX1_copyFrom 10 = .ok (.getfield 12, 3) := by decide +kernel
theorem dX1_copyFrom_13 : decode cX1_copyFrom 13 = .ok (.invokevirtual 25, 3) := by decide +kernel
theorem dX1_copyFrom_16 : decode cX1_copyFrom 16 = .ok (.aload_n 0, 1) := by decide +kernel
theorem dX1_copyFrom_17 : decode cX1_copyFrom 17 = .ok (.getfield 21, 3) := by decide +kernel
theorem dX1_copyFrom_20 : decode cX1_copyFrom 20 = .ok (.aload_n 1, 1) := by decide +kernel
theorem dX1_copyFrom_21 : decode cX1_copyFrom 21 = .ok (.getfield 21, 3) := by decide +kernel
theorem dX1_copyFrom_24 : decode cX1_copyFrom 24 = .ok (.invokevirtual 29, 3) := by decide +kernel
theorem dX1_copyFrom_27 : decode cX1_copyFrom 27 = .ok (.aload_n 0, 1) := by decide +kernel
theorem dX1_copyFrom_28 : decode cX1_copyFrom 28 = .ok (.aload_n 1, 1) := by decide +kernel
theorem dX1_copyFrom_29 : decode cX1_copyFrom 29 = .ok (.getfield 32, 3) := by decide +kernel
theorem dX1_copyFrom_32 : decode cX1_copyFrom 32 = .ok (.putfield 32, 3) := by decide +kernel
theorem dX1_copyFrom_35 : decode cX1_copyFrom 35 = .ok (.return_, 1) := by decide +kernel
theorem dX1_countInWindow_0 : decode cX1_countInWindow 0 = .ok (.aload_n 0, 1) := by decide +kernel
theorem dX1_countInWindow_1 : decode cX1_countInWindow 1 = .ok (.getfield 12, 3) := by decide +kernel
theorem dX1_countInWindow_4 : decode cX1_countInWindow 4 = .ok (.aload_n 0, 1) := by decide +kernel
theorem dX1_countInWindow_5 : decode cX1_countInWindow 5 = .ok (.getfield 21, 3) := by decide +kernel
theorem dX1_countInWindow_8 : decode cX1_countInWindow 8 = .ok (.getfield 36, 3) := by decide +kernel
theorem dX1_countInWindow_11 : decode cX1_countInWindow 11 = .ok (.iload_n 1, 1) := by decide +kernel
theorem dX1_countInWindow_12 : decode cX1_countInWindow 12 = .ok (.invokestatic 40, 3) := by decide +kernel
theorem dX1_countInWindow_15 : decode cX1_countInWindow 15 = .ok (.aload_n 0, 1) := by decide +kernel
theorem dX1_countInWindow_16 : decode cX1_countInWindow 16 = .ok (.getfield 21, 3) := by decide +kernel
theorem dX1_countInWindow_19 : decode cX1_countInWindow 19 = .ok (.getfield 44, 3) := by decide +kernel
theorem dX1_countInWindow_22 : decode cX1_countInWindow 22 = .ok (.iload_n 1, 1) := by decide +kernel
theorem dX1_countInWindow_23 : decode cX1_countInWindow 23 = .ok (.invokestatic 40, 3) := by decide +kernel
theorem dX1_countInWindow_26 : decode cX1_countInWindow 26 = .ok (.aload_n 0, 1) := by decide +kernel
theorem dX1_countInWindow_27 : decode cX1_countInWindow 27 = .ok (.getfield 21, 3) := by decide +kernel
theorem dX1_countInWindow_30 : decode cX1_countInWindow 30 = .ok (.getfield 47, 3) := by decide +kernel
theorem dX1_countInWindow_33 : decode cX1_countInWindow 33 = .ok (.iload_n 1, 1) := by decide +kernel
theorem dX1_countInWindow_34 : decode cX1_countInWindow 34 = .ok (.invokestatic 40, 3) := by decide +kernel
theorem dX1_countInWindow_37 : decode cX1_countInWindow 37 = .ok (.invokevirtual 50, 3) := by decide +kernel
theorem dX1_countInWindow_40 : decode cX1_countInWindow 40 = .ok (.ireturn, 1) := by decide +kernel
theorem dX1_slotInWindow_0 : decode cX1_slotInWindow 0 = .ok (.iconst 0, 1) := by decide +kernel
theorem dX1_slotInWindow_1 : decode cX1_slotInWindow 1 = .ok (.istore_n 3, 1) := by decide +kernel
theorem dX1_slotInWindow_2 : decode cX1_slotInWindow 2 = .ok (.aload_n 0, 1) := by decide +kernel
theorem dX1_slotInWindow_3 : decode cX1_slotInWindow 3 = .ok (.getfield 12, 3) := by decide +kernel
theorem dX1_slotInWindow_6 : decode cX1_slotInWindow 6 = .ok (.invokevirtual 54, 3) := by decide +kernel
theorem dX1_slotInWindow_9 : decode cX1_slotInWindow 9 = .ok (.istore 4, 2) := by decide +kernel
theorem dX1_slotInWindow_11 : decode cX1_slotInWindow 11 = .ok (.iconst 0, 1) := by decide +kernel
theorem dX1_slotInWindow_12 : decode cX1_slotInWindow 12 = .ok (.istore 5, 2) := by decide +kernel
theorem dX1_slotInWindow_14 : decode cX1_slotInWindow 14 = .ok (.iload 5, 2) := by decide +kernel
theorem dX1_slotInWindow_16 : decode cX1_slotInWindow 16 = .ok (.iload 4, 2) := by decide +kernel
theorem dX1_slotInWindow_18 : decode cX1_slotInWindow 18 = .ok (.if_icmp .ge 67, 3) := by decide +kernel
theorem dX1_slotInWindow_21 : decode cX1_slotInWindow 21 = .ok (.iload 5, 2) := by decide +kernel
theorem dX1_slotInWindow_23 : decode cX1_slotInWindow 23 = .ok (.bipush 24, 2) := by decide +kernel
theorem dX1_slotInWindow_25 : decode cX1_slotInWindow 25 = .ok (.if_icmp .ge 60, 3) := by decide +kernel
theorem dX1_slotInWindow_28 : decode cX1_slotInWindow 28 = .ok (.aload_n 0, 1) := by decide +kernel
theorem dX1_slotInWindow_29 : decode cX1_slotInWindow 29 = .ok (.getfield 12, 3) := by decide +kernel
theorem dX1_slotInWindow_32 : decode cX1_slotInWindow 32 = .ok (.iload 5, 2) := by decide +kernel
theorem dX1_slotInWindow_34 : decode cX1_slotInWindow 34 = .ok (.invokevirtual 58, 3) := by decide +kernel
theorem dX1_slotInWindow_37 : decode cX1_slotInWindow 37 = .ok (.istore 6, 2) := by decide +kernel
theorem dX1_slotInWindow_39 : decode cX1_slotInWindow 39 = .ok (.aload_n 0, 1) := by decide +kernel
theorem dX1_slotInWindow_40 : decode cX1_slotInWindow 40 = .ok (.getfield 21, 3) := by decide +kernel
theorem dX1_slotInWindow_43 : decode cX1_slotInWindow 43 = .ok (.iload_n 1, 1) := by decide +kernel
theorem dX1_slotInWindow_44 : decode cX1_slotInWindow 44 = .ok (.aload_n 0, 1) := by decide +kernel
theorem dX1_slotInWindow_45 : decode cX1_slotInWindow 45 = .ok (.getfield 12, 3) := by decide +kernel
theorem dX1_slotInWindow_48 : decode cX1_slotInWindow 48 = .ok (.iload 6, 2) := by decide +kernel
theorem dX1_slotInWindow_50 : decode cX1_slotInWindow 50 = .ok (.invokevirtual 62, 3) := by decide +kernel
theorem dX1_slotInWindow_53 : decode cX1_slotInWindow 53 = .ok (.aload_n 0, 1) := by decide +kernel
theorem dX1_slotInWindow_54 : decode cX1_slotInWindow 54 = .ok (.getfield 12, 3) := by decide +kernel
theorem dX1_slotInWindow_57 : decode cX1_slotInWindow 57 = .ok (.iload 6, 2) := by decide +kernel
theorem dX1_slotInWindow_59 : decode cX1_slotInWindow 59 = .ok (.invokevirtual 65, 3) := by decide +kernel
theorem dX1_slotInWindow_62 : decode cX1_slotInWindow 62 = .ok (.invokevirtual 68, 3) := by decide +kernel
theorem dX1_slotInWindow_65 : decode cX1_slotInWindow 65 = .ok (.ifCond .eq 14, 3) := by decide +kernel
theorem dX1_slotInWindow_68 : decode cX1_slotInWindow 68 = .ok (.iload_n 3, 1) := by decide +kernel
theorem dX1_slotInWindow_69 : decode cX1_slotInWindow 69 = .ok (.iload_n 2, 1) := by decide +kernel
theorem dX1_slotInWindow_70 : decode cX1_slotInWindow 70 = .ok (.if_icmp .ne 6, 3) := by decide +kernel
theorem dX1_slotInWindow_73 : decode cX1_slotInWindow 73 = .ok (.iload 6, 2) := by decide +kernel
theorem dX1_slotInWindow_75 : decode cX1_slotInWindow 75 = .ok (.ireturn, 1) := by decide +kernel
theorem dX1_slotInWindow_76 : decode cX1_slotInWindow 76 = .ok (.iinc 3 1, 3) := by decide +kernel
theorem dX1_slotInWindow_79 : decode cX1_slotInWindow 79 = .ok (.iinc 5 1, 3) := by decide +kernel
theorem dX1_slotInWindow_82 : decode cX1_slotInWindow 82 = .ok (.goto (-68), 3) := by decide +kernel
theorem dX1_slotInWindow_85 : decode cX1_slotInWindow 85 = .ok (.iconst 0, 1) := by decide +kernel
theorem dX1_slotInWindow_86 : decode cX1_slotInWindow 86 = .ok (.ireturn, 1) := by decide +kernel
theorem dX1_firstFullWindow_0 : decode cX1_firstFullWindow 0 = .ok (.iconst 0, 1) := by decide +kernel
theorem dX1_firstFullWindow_1 : decode cX1_firstFullWindow 1 = .ok (.istore 4, 2) := by decide +kernel
theorem dX1_firstFullWindow_3 : decode cX1_firstFullWindow 3 = .ok (.iload 4, 2) := by decide +kernel
theorem dX1_firstFullWindow_5 : decode cX1_firstFullWindow 5 = .ok (.iconst 4, 1) := by decide +kernel
theorem dX1_firstFullWindow_6 : decode cX1_firstFullWindow 6 = .ok (.if_icmp .ge 98, 3) := by decide +kernel
theorem dX1_firstFullWindow_9 : decode cX1_firstFullWindow 9 = .ok (.aload_n 0, 1) := by decide +kernel
theorem dX1_firstFullWindow_10 : decode cX1_firstFullWindow 10 = .ok (.iload 4, 2) := by decide +kernel
theorem dX1_firstFullWindow_12 : decode cX1_firstFullWindow 12 = .ok (.invokevirtual 72, 3) := by decide +kernel
theorem dX1_firstFullWindow_15 : decode cX1_firstFullWindow 15 = .ok (.istore 5, 2) := by decide +kernel
theorem dX1_firstFullWindow_17 : decode cX1_firstFullWindow 17 = .ok (.iload_n 1, 1) := by decide +kernel
theorem dX1_firstFullWindow_18 : decode cX1_firstFullWindow 18 = .ok (.ifCond .eq 34, 3) := by decide +kernel
theorem dX1_firstFullWindow_21 : decode cX1_firstFullWindow 21 = .ok (.aload_n 0, 1) := by decide +kernel
theorem dX1_firstFullWindow_22 : decode cX1_firstFullWindow 22 = .ok (.getfield 21, 3) := by decide +kernel
theorem dX1_firstFullWindow_25 : decode cX1_firstFullWindow 25 = .ok (.iload 4, 2) := by decide +kernel
theorem dX1_firstFullWindow_27 : decode cX1_firstFullWindow 27 = .ok (.aload_n 0, 1) := by decide +kernel
theorem dX1_firstFullWindow_28 : decode cX1_firstFullWindow 28 = .ok (.getfield 12, 3) := by decide +kernel
theorem dX1_firstFullWindow_31 : decode cX1_firstFullWindow 31 = .ok (.iload_n 1, 1) := by decide +kernel
theorem dX1_firstFullWindow_32 : decode cX1_firstFullWindow 32 = .ok (.invokevirtual 62, 3) := by decide +kernel
theorem dX1_firstFullWindow_35 : decode cX1_firstFullWindow 35 = .ok (.aload_n 0, 1) := by decide +kernel
theorem dX1_firstFullWindow_36 : decode cX1_firstFullWindow 36 = .ok (.getfield 12, 3) := by decide +kernel
theorem dX1_firstFullWindow_39 : decode cX1_firstFullWindow 39 = .ok (.iload_n 1, 1) := by decide +kernel
theorem dX1_firstFullWindow_40 : decode cX1_firstFullWindow 40 = .ok (.invokevirtual 65, 3) := by decide +kernel
theorem dX1_firstFullWindow_43 : decode cX1_firstFullWindow 43 = .ok (.invokevirtual 68, 3) := by decide +kernel
theorem dX1_firstFullWindow_46 : decode cX1_firstFullWindow 46 = .ok (.ifCond .eq 6, 3) := by decide +kernel
theorem dX1_firstFullWindow_49 : decode cX1_firstFullWindow 49 = .ok (.iinc 5 (-1), 3) := by decide +kernel
theorem dX1_firstFullWindow_52 : decode cX1_firstFullWindow 52 = .ok (.aload_n 0, 1) := by decide +kernel
theorem dX1_firstFullWindow_53 : decode cX1_firstFullWindow 53 = .ok (.getfield 21, 3) := by decide +kernel
theorem dX1_firstFullWindow_56 : decode cX1_firstFullWindow 56 = .ok (.iload 4, 2) := by decide +kernel
theorem dX1_firstFullWindow_58 : decode cX1_firstFullWindow 58 = .ok (.iload_n 2, 1) := by decide +kernel
theorem dX1_firstFullWindow_59 : decode cX1_firstFullWindow 59 = .ok (.iload_n 3, 1) := by decide +kernel
theorem dX1_firstFullWindow_60 : decode cX1_firstFullWindow 60 = .ok (.invokevirtual 68, 3) := by decide +kernel
theorem dX1_firstFullWindow_63 : decode cX1_firstFullWindow 63 = .ok (.ifCond .eq 6, 3) := by decide +kernel
theorem dX1_firstFullWindow_66 : decode cX1_firstFullWindow 66 = .ok (.iinc 5 1, 3) := by decide +kernel
theorem dX1_firstFullWindow_69 : decode cX1_firstFullWindow 69 = .ok (.aload_n 0, 1) := by decide +kernel
theorem dX1_firstFullWindow_70 : decode cX1_firstFullWindow 70 = .ok (.getfield 21, 3) := by decide +kernel
theorem dX1_firstFullWindow_73 : decode cX1_firstFullWindow 73 = .ok (.iload 4, 2) := by decide +kernel
theorem dX1_firstFullWindow_75 : decode cX1_firstFullWindow 75 = .ok (.invokevirtual 75, 3) := by decide +kernel
theorem dX1_firstFullWindow_78 : decode cX1_firstFullWindow 78 = .ok (.ifCond .eq 20, 3) := by decide +kernel
theorem dX1_firstFullWindow_81 : decode cX1_firstFullWindow 81 = .ok (.iload 5, 2) := by decide +kernel
theorem dX1_firstFullWindow_83 : decode cX1_firstFullWindow 83 = .ok (.aload_n 0, 1) := by decide +kernel
theorem dX1_firstFullWindow_84 : decode cX1_firstFullWindow 84 = .ok (.getfield 21, 3) := by decide +kernel
theorem dX1_firstFullWindow_87 : decode cX1_firstFullWindow 87 = .ok (.iload 4, 2) := by decide +kernel
theorem dX1_firstFullWindow_89 : decode cX1_firstFullWindow 89 = .ok (.invokevirtual 79, 3) := by decide +kernel
theorem dX1_firstFullWindow_92 : decode cX1_firstFullWindow 92 = .ok (.if_icmp .le 6, 3) := by decide +kernel
theorem dX1_firstFullWindow_95 : decode cX1_firstFullWindow 95 = .ok (.iload 4, 2) := by decide +kernel
theorem dX1_firstFullWindow_97 : decode cX1_firstFullWindow 97 = .ok (.ireturn, 1) := by decide +kernel
theorem dX1_firstFullWindow_98 : decode cX1_firstFullWindow 98 = .ok (.iinc 4 1, 3) := by decide +kernel
theorem dX1_firstFullWindow_101 : decode cX1_firstFullWindow 101 = .ok (.goto (-98), 3) := by decide +kernel
theorem dX1_firstFullWindow_104 : decode cX1_firstFullWindow 104 = .ok (.iconst (-1), 1) := by decide +kernel
theorem dX1_firstFullWindow_105 : decode cX1_firstFullWindow 105 = .ok (.ireturn, 1) := by decide +kernel
theorem dX1_keepsLimits_0 : decode cX1_keepsLimits 0 = .ok (.iconst 0, 1) := by decide +kernel
theorem dX1_keepsLimits_1 : decode cX1_keepsLimits 1 = .ok (.istore_n 1, 1) := by decide +kernel
theorem dX1_keepsLimits_2 : decode cX1_keepsLimits 2 = .ok (.iload_n 1, 1) := by decide +kernel
theorem dX1_keepsLimits_3 : decode cX1_keepsLimits 3 = .ok (.iconst 4, 1) := by decide +kernel
theorem dX1_keepsLimits_4 : decode cX1_keepsLimits 4 = .ok (.if_icmp .ge 38, 3) := by decide +kernel
theorem dX1_keepsLimits_7 : decode cX1_keepsLimits 7 = .ok (.aload_n 0, 1) := by decide +kernel
theorem dX1_keepsLimits_8 : decode cX1_keepsLimits 8 = .ok (.getfield 21, 3) := by decide +kernel
theorem dX1_keepsLimits_11 : decode cX1_keepsLimits 11 = .ok (.iload_n 1, 1) := by decide +kernel
theorem dX1_keepsLimits_12 : decode cX1_keepsLimits 12 = .ok (.invokevirtual 75, 3) := by decide +kernel
theorem dX1_keepsLimits_15 : decode cX1_keepsLimits 15 = .ok (.ifCond .eq 21, 3) := by decide +kernel
theorem dX1_keepsLimits_18 : decode cX1_keepsLimits 18 = .ok (.aload_n 0, 1) := by decide +kernel
theorem dX1_keepsLimits_19 : decode cX1_keepsLimits 19 = .ok (.iload_n 1, 1) := by decide +kernel
theorem dX1_keepsLimits_20 : decode cX1_keepsLimits 20 = .ok (.invokevirtual 72, 3) := by decide +kernel
theorem dX1_keepsLimits_23 : decode cX1_keepsLimits 23 = .ok (.aload_n 0, 1) := by decide +kernel
theorem dX1_keepsLimits_24 : decode cX1_keepsLimits 24 = .ok (.getfield 21, 3) := by decide +kernel
theorem dX1_keepsLimits_27 : decode cX1_keepsLimits 27 = .ok (.iload_n 1, 1) := by decide +kernel
theorem dX1_keepsLimits_28 : decode cX1_keepsLimits 28 = .ok (.invokevirtual 79, 3) := by decide +kernel
theorem dX1_keepsLimits_31 : decode cX1_keepsLimits 31 = .ok (.if_icmp .le 5, 3) := by decide +kernel
theorem dX1_keepsLimits_34 : decode cX1_keepsLimits 34 = .ok (.iconst 0, 1) := by decide +kernel
theorem dX1_keepsLimits_35 : decode cX1_keepsLimits 35 = .ok (.ireturn, 1) := by decide +kernel
theorem dX1_keepsLimits_36 : decode cX1_keepsLimits 36 = .ok (.iinc 1 1, 3) := by decide +kernel
theorem dX1_keepsLimits_39 : decode cX1_keepsLimits 39 = .ok (.goto (-37), 3) := by decide +kernel
theorem dX1_keepsLimits_42 : decode cX1_keepsLimits 42 = .ok (.iconst 1, 1) := by decide +kernel
theorem dX1_keepsLimits_43 : decode cX1_keepsLimits 43 = .ok (.ireturn, 1) := by decide +kernel
theorem dX1_reasonAgainstInsert_0 : decode cX1_reasonAgainstInsert 0 = .ok (.aload_n 0, 1) := by decide +kernel
theorem dX1_reasonAgainstInsert_1 : decode cX1_reasonAgainstInsert 1 = .ok (.getfield 12, 3) := by decide +kernel
theorem dX1_reasonAgainstInsert_4 : decode cX1_reasonAgainstInsert 4 = .ok (.invokevirtual 54, 3) := by decide +kernel
theorem dX1_reasonAgainstInsert_7 : decode cX1_reasonAgainstInsert 7 = .ok (.bipush 24, 2) := by decide +kernel
theorem dX1_reasonAgainstInsert_9 : decode cX1_reasonAgainstInsert 9 = .ok (.if_icmp .lt 5, 3) := by decide +kernel
theorem dX1_reasonAgainstInsert_12 : decode cX1_reasonAgainstInsert 12 = .ok (.iconst 1, 1) := by decide +kernel
theorem dX1_reasonAgainstInsert_13 : decode cX1_reasonAgainstInsert 13 = .ok (.ireturn, 1) := by decide +kernel
theorem dX1_reasonAgainstInsert_14 : decode cX1_reasonAgainstInsert 14 = .ok (.aload_n 0, 1) := by decide +kernel
theorem dX1_reasonAgainstInsert_15 : decode cX1_reasonAgainstInsert 15 = .ok (.getfield 12, 3) := by decide +kernel
theorem dX1_reasonAgainstInsert_18 : decode cX1_reasonAgainstInsert 18 = .ok (.iload_n 1, 1) := by decide +kernel
theorem dX1_reasonAgainstInsert_19 : decode cX1_reasonAgainstInsert 19 = .ok (.invokevirtual 82, 3) := by decide +kernel
theorem dX1_reasonAgainstInsert_22 : decode cX1_reasonAgainstInsert 22 = .ok (.ifCond .eq 5, 3) := by decide +kernel
theorem dX1_reasonAgainstInsert_25 : decode cX1_reasonAgainstInsert 25 = .ok (.iconst 2, 1) := by decide +kernel
theorem dX1_reasonAgainstInsert_26 : decode cX1_reasonAgainstInsert 26 = .ok (.ireturn, 1) := by decide +kernel
theorem dX1_reasonAgainstInsert_27 : decode cX1_reasonAgainstInsert 27 = .ok (.aload_n 0, 1) := by decide +kernel
theorem dX1_reasonAgainstInsert_28 : decode cX1_reasonAgainstInsert 28 = .ok (.iconst 0, 1) := by decide +kernel
theorem dX1_reasonAgainstInsert_29 : decode cX1_reasonAgainstInsert 29 = .ok (.iload_n 1, 1) := by decide +kernel
theorem dX1_reasonAgainstInsert_30 : decode cX1_reasonAgainstInsert 30 = .ok (.iload_n 2, 1) := by decide +kernel
theorem dX1_reasonAgainstInsert_31 : decode cX1_reasonAgainstInsert 31 = .ok (.invokevirtual 85, 3) := by decide +kernel
theorem dX1_reasonAgainstInsert_34 : decode cX1_reasonAgainstInsert 34 = .ok (.iconst (-1), 1) := by decide +kernel
theorem dX1_reasonAgainstInsert_35 : decode cX1_reasonAgainstInsert 35 = .ok (.if_icmp .ne 7, 3) := by decide +kernel
theorem dX1_reasonAgainstInsert_38 : decode cX1_reasonAgainstInsert 38 = .ok (.iconst 0, 1) := by decide +kernel
theorem dX1_reasonAgainstInsert_39 : decode cX1_reasonAgainstInsert 39 = .ok (.goto 4, 3) := by decide +kernel
theorem dX1_reasonAgainstInsert_42 : decode cX1_reasonAgainstInsert 42 = .ok (.iconst 3, 1) := by decide +kernel
theorem dX1_reasonAgainstInsert_43 : decode cX1_reasonAgainstInsert 43 = .ok (.ireturn, 1) := by decide +kernel
theorem dX1_reasonAgainstPriority_0 : decode cX1_reasonAgainstPriority 0 = .ok (.aload_n 0, 1) := by decide +kernel
theorem dX1_reasonAgainstPriority_1 : decode cX1_reasonAgainstPriority 1 = .ok (.iload_n 1, 1) := by decide +kernel
theorem dX1_reasonAgainstPriority_2 : decode cX1_reasonAgainstPriority 2 = .ok (.aload_n 0, 1) := by decide +kernel
theorem dX1_reasonAgainstPriority_3 : decode cX1_reasonAgainstPriority 3 = .ok (.getfield 12, 3) := by decide +kernel
theorem dX1_reasonAgainstPriority_6 : decode cX1_reasonAgainstPriority 6 = .ok (.iload_n 1, 1) := by decide +kernel
theorem dX1_reasonAgainstPriority_7 : decode cX1_reasonAgainstPriority 7 = .ok (.invokevirtual 62, 3) := by decide +kernel
theorem dX1_reasonAgainstPriority_10 : decode cX1_reasonAgainstPriority 10 = .ok (.iload_n 2, 1) := by decide +kernel
theorem dX1_reasonAgainstPriority_11 : decode cX1_reasonAgainstPriority 11 = .ok (.invokevirtual 85, 3) := by decide +kernel
theorem dX1_reasonAgainstPriority_14 : decode cX1_reasonAgainstPriority 14 = .ok (.iconst (-1), 1) := by decide +kernel
theorem dX1_reasonAgainstPriority_15 : decode cX1_reasonAgainstPriority 15 = .ok (.if_icmp .ne 7, 3) := by decide +kernel
theorem dX1_reasonAgainstPriority_18 : decode cX1_reasonAgainstPriority 18 = .ok (.iconst 0, 1) := by decide +kernel
theorem dX1_reasonAgainstPriority_19 : decode cX1_reasonAgainstPriority 19 = .ok (.goto 4, 3) := by decide +kernel
theorem dX1_reasonAgainstPriority_22 : decode cX1_reasonAgainstPriority 22 = .ok (.iconst 3, 1) := by decide +kernel
theorem dX1_reasonAgainstPriority_23 : decode cX1_reasonAgainstPriority 23 = .ok (.ireturn, 1) := by decide +kernel
theorem dX1_reasonAgainstMove_0 : decode cX1_reasonAgainstMove 0 = .ok (.aload_n 0, 1) := by decide +kernel
theorem dX1_reasonAgainstMove_1 : decode cX1_reasonAgainstMove 1 = .ok (.getfield 12, 3) := by decide +kernel
theorem dX1_reasonAgainstMove_4 : decode cX1_reasonAgainstMove 4 = .ok (.iload_n 2, 1) := by decide +kernel
theorem dX1_reasonAgainstMove_5 : decode cX1_reasonAgainstMove 5 = .ok (.invokevirtual 82, 3) := by decide +kernel
theorem dX1_reasonAgainstMove_8 : decode cX1_reasonAgainstMove 8 = .ok (.ifCond .eq 5, 3) := by decide +kernel
theorem dX1_reasonAgainstMove_11 : decode cX1_reasonAgainstMove 11 = .ok (.iconst 2, 1) := by decide +kernel
theorem dX1_reasonAgainstMove_12 : decode cX1_reasonAgainstMove 12 = .ok (.ireturn, 1) := by decide +kernel
theorem dX1_reasonAgainstMove_13 : decode cX1_reasonAgainstMove 13 = .ok (.aload_n 0, 1) := by decide +kernel
theorem dX1_reasonAgainstMove_14 : decode cX1_reasonAgainstMove 14 = .ok (.iload_n 1, 1) := by decide +kernel
theorem dX1_reasonAgainstMove_15 : decode cX1_reasonAgainstMove 15 = .ok (.iload_n 2, 1) := by decide +kernel
theorem dX1_reasonAgainstMove_16 : decode cX1_reasonAgainstMove 16 = .ok (.aload_n 0, 1) := by decide +kernel
theorem dX1_reasonAgainstMove_17 : decode cX1_reasonAgainstMove 17 = .ok (.getfield 12, 3) := by decide +kernel
theorem dX1_reasonAgainstMove_20 : decode cX1_reasonAgainstMove 20 = .ok (.iload_n 1, 1) := by decide +kernel
theorem dX1_reasonAgainstMove_21 : decode cX1_reasonAgainstMove 21 = .ok (.invokevirtual 65, 3) := by decide +kernel
theorem dX1_reasonAgainstMove_24 : decode cX1_reasonAgainstMove 24 = .ok (.invokevirtual 85, 3) := by decide +kernel
theorem dX1_reasonAgainstMove_27 : decode cX1_reasonAgainstMove 27 = .ok (.iconst (-1), 1) := by decide +kernel
theorem dX1_reasonAgainstMove_28 : decode cX1_reasonAgainstMove 28 = .ok (.if_icmp .ne 7, 3) := by decide +kernel
theorem dX1_reasonAgainstMove_31 : decode cX1_reasonAgainstMove 31 = .ok (.iconst 0, 1) := by decide +kernel
theorem dX1_reasonAgainstMove_32 : decode cX1_reasonAgainstMove 32 = .ok (.goto 4, 3) := by decide +kernel
theorem dX1_reasonAgainstMove_35 : decode cX1_reasonAgainstMove 35 = .ok (.iconst 3, 1) := by decide +kernel
theorem dX1_reasonAgainstMove_36 : decode cX1_reasonAgainstMove 36 = .ok (.ireturn, 1) := by decide +kernel
theorem dX1_reasonAgainstWindow_0 : decode cX1_reasonAgainstWindow 0 = .ok (.aload_n 0, 1) := by decide +kernel
theorem dX1_reasonAgainstWindow_1 : decode cX1_reasonAgainstWindow 1 = .ok (.getfield 12, 3) := by decide +kernel
theorem dX1_reasonAgainstWindow_4 : decode cX1_reasonAgainstWindow 4 = .ok (.iload_n 1, 1) := by decide +kernel
theorem dX1_reasonAgainstWindow_5 : decode cX1_reasonAgainstWindow 5 = .ok (.iload_n 2, 1) := by decide +kernel
theorem dX1_reasonAgainstWindow_6 : decode cX1_reasonAgainstWindow 6 = .ok (.iload_n 3, 1) := by decide +kernel
theorem dX1_reasonAgainstWindow_7 : decode cX1_reasonAgainstWindow 7 = .ok (.invokevirtual 50, 3) := by decide +kernel
theorem dX1_reasonAgainstWindow_10 : decode cX1_reasonAgainstWindow 10 = .ok (.iload 4, 2) := by decide +kernel
theorem dX1_reasonAgainstWindow_12 : decode cX1_reasonAgainstWindow 12 = .ok (.if_icmp .le 7, 3) := by decide +kernel
theorem dX1_reasonAgainstWindow_15 : decode cX1_reasonAgainstWindow 15 = .ok (.iconst 3, 1) := by decide +kernel
theorem dX1_reasonAgainstWindow_16 : decode cX1_reasonAgainstWindow 16 = .ok (.goto 4, 3) := by decide +kernel
theorem dX1_reasonAgainstWindow_19 : decode cX1_reasonAgainstWindow 19 = .ok (.iconst 0, 1) := by decide +kernel
theorem dX1_reasonAgainstWindow_20 : decode cX1_reasonAgainstWindow 20 = .ok (.ireturn, 1) := by decide +kernel
theorem dX1_detailOf_0 : decode cX1_detailOf 0 = .ok (.iload_n 1, 1) := by decide +kernel
theorem dX1_detailOf_1 : decode cX1_detailOf 1 = .ok (.iconst 1, 1) := by decide +kernel
theorem dX1_detailOf_2 : decode cX1_detailOf 2 = .ok (.if_icmp .ne 6, 3) := by decide +kernel
theorem dX1_detailOf_5 : decode cX1_detailOf 5 = .ok (.bipush 24, 2) := by decide +kernel
theorem dX1_detailOf_7 : decode cX1_detailOf 7 = .ok (.ireturn, 1) := by decide +kernel
theorem dX1_detailOf_8 : decode cX1_detailOf 8 = .ok (.iload_n 1, 1) := by decide +kernel
theorem dX1_detailOf_9 : decode cX1_detailOf 9 = .ok (.iconst 2, 1) := by decide +kernel
theorem dX1_detailOf_10 : decode cX1_detailOf 10 = .ok (.if_icmp .ne 19, 3) := by decide +kernel
theorem dX1_detailOf_13 : decode cX1_detailOf 13 = .ok (.aload_n 0, 1) := by decide +kernel
theorem dX1_detailOf_14 : decode cX1_detailOf 14 = .ok (.getfield 12, 3) := by decide +kernel
theorem dX1_detailOf_17 : decode cX1_detailOf 17 = .ok (.aload_n 0, 1) := by decide +kernel
theorem dX1_detailOf_18 : decode cX1_detailOf 18 = .ok (.getfield 12, 3) := by decide +kernel
theorem dX1_detailOf_21 : decode cX1_detailOf 21 = .ok (.iload_n 3, 1) := by decide +kernel
theorem dX1_detailOf_22 : decode cX1_detailOf 22 = .ok (.invokevirtual 82, 3) := by decide +kernel
theorem dX1_detailOf_25 : decode cX1_detailOf 25 = .ok (.invokevirtual 65, 3) := by decide +kernel
theorem dX1_detailOf_28 : decode cX1_detailOf 28 = .ok (.ireturn, 1) := by decide +kernel
theorem dX1_detailOf_29 : decode cX1_detailOf 29 = .ok (.aload_n 0, 1) := by decide +kernel
theorem dX1_detailOf_30 : decode cX1_detailOf 30 = .ok (.iload_n 2, 1) := by decide +kernel
theorem dX1_detailOf_31 : decode cX1_detailOf 31 = .ok (.iload_n 3, 1) := by decide +kernel
theorem dX1_detailOf_32 : decode cX1_detailOf 32 = .ok (.iload 4, 2) := by decide +kernel
theorem dX1_detailOf_34 : decode cX1_detailOf 34 = .ok (.invokevirtual 85, 3) := by decide +kernel
theorem dX1_detailOf_37 : decode cX1_detailOf 37 = .ok (.ireturn, 1) := by decide +kernel
theorem dX1_insertPoint_0 : decode cX1_insertPoint 0 = .ok (.aload_n 0, 1) := by decide +kernel
theorem dX1_insertPoint_1 : decode cX1_insertPoint 1 = .ok (.getfield 12, 3) := by decide +kernel
theorem dX1_insertPoint_4 : decode cX1_insertPoint 4 = .ok (.aload_n 0, 1) := by decide +kernel
theorem dX1_insertPoint_5 : decode cX1_insertPoint 5 = .ok (.getfield 12, 3) := by decide +kernel
theorem dX1_insertPoint_8 : decode cX1_insertPoint 8 = .ok (.iload_n 1, 1) := by decide +kernel
theorem dX1_insertPoint_9 : decode cX1_insertPoint 9 = .ok (.iload_n 2, 1) := by decide +kernel
theorem dX1_insertPoint_10 : decode cX1_insertPoint 10 = .ok (.invokevirtual 88, 3) := by decide +kernel
theorem dX1_insertPoint_13 : decode cX1_insertPoint 13 = .ok (.invokevirtual 92, 3) := by decide +kernel
theorem dX1_insertPoint_16 : decode cX1_insertPoint 16 = .ok (.istore_n 3, 1) := by decide +kernel
theorem dX1_insertPoint_17 : decode cX1_insertPoint 17 = .ok (.aload_n 0, 1) := by decide +kernel
theorem dX1_insertPoint_18 : decode cX1_insertPoint 18 = .ok (.dup, 1) := by decide +kernel
theorem dX1_insertPoint_19 : decode cX1_insertPoint 19 = .ok (.getfield 32, 3) := by decide +kernel
theorem dX1_insertPoint_22 : decode cX1_insertPoint 22 = .ok (.iload_n 3, 1) := by decide +kernel
theorem dX1_insertPoint_23 : decode cX1_insertPoint 23 = .ok (.iadd, 1) := by decide +kernel
theorem dX1_insertPoint_24 : decode cX1_insertPoint 24 = .ok (.putfield 32, 3) := by decide +kernel
theorem dX1_insertPoint_27 : decode cX1_insertPoint 27 = .ok (.iload_n 3, 1) := by decide +kernel
theorem dX1_insertPoint_28 : decode cX1_insertPoint 28 = .ok (.ireturn, 1) := by decide +kernel
theorem dX1_deletePoint_0 : decode cX1_deletePoint 0 = .ok (.aload_n 0, 1) := by decide +kernel
theorem dX1_deletePoint_1 : decode cX1_deletePoint 1 = .ok (.getfield 12, 3) := by decide +kernel
theorem dX1_deletePoint_4 : decode cX1_deletePoint 4 = .ok (.iload_n 1, 1) := by decide +kernel
theorem dX1_deletePoint_5 : decode cX1_deletePoint 5 = .ok (.iconst 1, 1) := by decide +kernel
theorem dX1_deletePoint_6 : decode cX1_deletePoint 6 = .ok (.invokevirtual 95, 3) := by decide +kernel
theorem dX1_deletePoint_9 : decode cX1_deletePoint 9 = .ok (.istore_n 2, 1) := by decide +kernel
theorem dX1_deletePoint_10 : decode cX1_deletePoint 10 = .ok (.aload_n 0, 1) := by decide +kernel
theorem dX1_deletePoint_11 : decode cX1_deletePoint 11 = .ok (.getfield 12, 3) := by decide +kernel
theorem dX1_deletePoint_14 : decode cX1_deletePoint 14 = .ok (.iload_n 1, 1) := by decide +kernel
theorem dX1_deletePoint_15 : decode cX1_deletePoint 15 = .ok (.invokevirtual 99, 3) := by decide +kernel
theorem dX1_deletePoint_18 : decode cX1_deletePoint 18 = .ok (.aload_n 0, 1) := by decide +kernel
theorem dX1_deletePoint_19 : decode cX1_deletePoint 19 = .ok (.dup, 1) := by decide +kernel
theorem dX1_deletePoint_20 : decode cX1_deletePoint 20 = .ok (.getfield 32, 3) := by decide +kernel
theorem dX1_deletePoint_23 : decode cX1_deletePoint 23 = .ok (.iload_n 2, 1) := by decide +kernel
theorem dX1_deletePoint_24 : decode cX1_deletePoint 24 = .ok (.iadd, 1) := by decide +kernel
theorem dX1_deletePoint_25 : decode cX1_deletePoint 25 = .ok (.putfield 32, 3) := by decide +kernel
theorem dX1_deletePoint_28 : decode cX1_deletePoint 28 = .ok (.iload_n 2, 1) := by decide +kernel
theorem dX1_deletePoint_29 : decode cX1_deletePoint 29 = .ok (.ireturn, 1) := by decide +kernel
theorem dX1_setPriority_0 : decode cX1_setPriority 0 = .ok (.aload_n 0, 1) := by decide +kernel
theorem dX1_setPriority_1 : decode cX1_setPriority 1 = .ok (.getfield 12, 3) := by decide +kernel
theorem dX1_setPriority_4 : decode cX1_setPriority 4 = .ok (.iload_n 1, 1) := by decide +kernel
theorem dX1_setPriority_5 : decode cX1_setPriority 5 = .ok (.iload_n 2, 1) := by decide +kernel
theorem dX1_setPriority_6 : decode cX1_setPriority 6 = .ok (.invokevirtual 103, 3) := by decide +kernel
theorem dX1_setPriority_9 : decode cX1_setPriority 9 = .ok (.aload_n 0, 1) := by decide +kernel
theorem dX1_setPriority_10 : decode cX1_setPriority 10 = .ok (.getfield 12, 3) := by decide +kernel
theorem dX1_setPriority_13 : decode cX1_setPriority 13 = .ok (.iload_n 1, 1) := by decide +kernel
theorem dX1_setPriority_14 : decode cX1_setPriority 14 = .ok (.invokevirtual 92, 3) := by decide +kernel
theorem dX1_setPriority_17 : decode cX1_setPriority 17 = .ok (.aload_n 0, 1) := by decide +kernel
theorem dX1_setPriority_18 : decode cX1_setPriority 18 = .ok (.getfield 12, 3) := by decide +kernel
theorem dX1_setPriority_21 : decode cX1_setPriority 21 = .ok (.iload_n 1, 1) := by decide +kernel
theorem dX1_setPriority_22 : decode cX1_setPriority 22 = .ok (.iconst 0, 1) := by decide +kernel
theorem dX1_setPriority_23 : decode cX1_setPriority 23 = .ok (.invokevirtual 95, 3) := by decide +kernel
theorem dX1_setPriority_26 : decode cX1_setPriority 26 = .ok (.iadd, 1) := by decide +kernel
theorem dX1_setPriority_27 : decode cX1_setPriority 27 = .ok (.istore_n 3, 1) := by decide +kernel
theorem dX1_setPriority_28 : decode cX1_setPriority 28 = .ok (.aload_n 0, 1) := by decide +kernel
theorem dX1_setPriority_29 : decode cX1_setPriority 29 = .ok (.dup, 1) := by decide +kernel
theorem dX1_setPriority_30 : decode cX1_setPriority 30 = .ok (.getfield 32, 3) := by decide +kernel
theorem dX1_setPriority_33 : decode cX1_setPriority 33 = .ok (.iload_n 3, 1) := by decide +kernel
theorem dX1_setPriority_34 : decode cX1_setPriority 34 = .ok (.iadd, 1) := by decide +kernel
theorem dX1_setPriority_35 : decode cX1_setPriority 35 = .ok (.putfield 32, 3) := by decide +kernel
theorem dX1_setPriority_38 : decode cX1_setPriority 38 = .ok (.iload_n 3, 1) := by decide +kernel
theorem dX1_setPriority_39 : decode cX1_setPriority 39 = .ok (.ireturn, 1) := by decide +kernel
theorem dX1_movePoint_0 : decode cX1_movePoint 0 = .ok (.aload_n 0, 1) := by decide +kernel
theorem dX1_movePoint_1 : decode cX1_movePoint 1 = .ok (.getfield 12, 3) := by decide +kernel
theorem dX1_movePoint_4 : decode cX1_movePoint 4 = .ok (.iload_n 1, 1) := by decide +kernel
theorem dX1_movePoint_5 : decode cX1_movePoint 5 = .ok (.invokevirtual 65, 3) := by decide +kernel
theorem dX1_movePoint_8 : decode cX1_movePoint 8 = .ok (.istore_n 3, 1) := by decide +kernel
theorem dX1_movePoint_9 : decode cX1_movePoint 9 = .ok (.aload_n 0, 1) := by decide +kernel
theorem dX1_movePoint_10 : decode cX1_movePoint 10 = .ok (.getfield 12, 3) := by decide +kernel
theorem dX1_movePoint_13 : decode cX1_movePoint 13 = .ok (.iload_n 1, 1) := by decide +kernel
theorem dX1_movePoint_14 : decode cX1_movePoint 14 = .ok (.iconst 1, 1) := by decide +kernel
theorem dX1_movePoint_15 : decode cX1_movePoint 15 = .ok (.invokevirtual 95, 3) := by decide +kernel
theorem dX1_movePoint_18 : decode cX1_movePoint 18 = .ok (.istore 4, 2) := by decide +kernel
theorem dX1_movePoint_20 : decode cX1_movePoint 20 = .ok (.aload_n 0, 1) := by decide +kernel
theorem dX1_movePoint_21 : decode cX1_movePoint 21 = .ok (.getfield 12, 3) := by decide +kernel
theorem dX1_movePoint_24 : decode cX1_movePoint 24 = .ok (.iload_n 1, 1) := by decide +kernel
theorem dX1_movePoint_25 : decode cX1_movePoint 25 = .ok (.invokevirtual 99, 3) := by decide +kernel
theorem dX1_movePoint_28 : decode cX1_movePoint 28 = .ok (.iload 4, 2) := by decide +kernel
theorem dX1_movePoint_30 : decode cX1_movePoint 30 = .ok (.aload_n 0, 1) := by decide +kernel
theorem dX1_movePoint_31 : decode cX1_movePoint 31 = .ok (.getfield 12, 3) := by decide +kernel
theorem dX1_movePoint_34 : decode cX1_movePoint 34 = .ok (.aload_n 0, 1) := by decide +kernel
theorem dX1_movePoint_35 : decode cX1_movePoint 35 = .ok (.getfield 12, 3) := by decide +kernel
theorem dX1_movePoint_38 : decode cX1_movePoint 38 = .ok (.iload_n 2, 1) := by decide +kernel
theorem dX1_movePoint_39 : decode cX1_movePoint 39 = .ok (.iload_n 3, 1) := by decide +kernel
theorem dX1_movePoint_40 : decode cX1_movePoint 40 = .ok (.invokevirtual 88, 3) := by decide +kernel
theorem dX1_movePoint_43 : decode cX1_movePoint 43 = .ok (.invokevirtual 92, 3) := by decide +kernel
theorem dX1_movePoint_46 : decode cX1_movePoint 46 = .ok (.iadd, 1) := by decide +kernel
theorem dX1_movePoint_47 : decode cX1_movePoint 47 = .ok (.istore 4, 2) := by decide +kernel
theorem dX1_movePoint_49 : decode cX1_movePoint 49 = .ok (.aload_n 0, 1) := by decide +kernel
theorem dX1_movePoint_50 : decode cX1_movePoint 50 = .ok (.dup, 1) := by decide +kernel
theorem dX1_movePoint_51 : decode cX1_movePoint 51 = .ok (.getfield 32, 3) := by decide +kernel
theorem dX1_movePoint_54 : decode cX1_movePoint 54 = .ok (.iload 4, 2) := by decide +kernel
theorem dX1_movePoint_56 : decode cX1_movePoint 56 = .ok (.iadd, 1) := by decide +kernel
theorem dX1_movePoint_57 : decode cX1_movePoint 57 = .ok (.putfield 32, 3) := by decide +kernel
theorem dX1_movePoint_60 : decode cX1_movePoint 60 = .ok (.iload 4, 2) := by decide +kernel
theorem dX1_movePoint_62 : decode cX1_movePoint 62 = .ok (.ireturn, 1) := by decide +kernel
theorem dX2_init_0 : decode cX2_init 0 = .ok (.aload_n 0, 1) := by decide +kernel
theorem dX2_init_1 : decode cX2_init 1 = .ok (.invokespecial 3, 3) := by decide +kernel
theorem dX2_init_4 : decode cX2_init 4 = .ok (.aload_n 0, 1) := by decide +kernel
theorem dX2_init_5 : decode cX2_init 5 = .ok (.bipush 8, 2) := by decide +kernel
theorem dX2_init_7 : decode cX2_init 7 = .ok (.anewarray 9, 3) := by decide +kernel
theorem dX2_init_10 : decode cX2_init 10 = .ok (.putfield 11, 3) := by decide +kernel
theorem dX2_init_13 : decode cX2_init 13 = .ok (.iconst 0, 1) := by decide +kernel
theorem dX2_init_14 : decode cX2_init 14 = .ok (.istore_n 1, 1) := by decide +kernel
theorem dX2_init_15 : decode cX2_init 15 = .ok (.iload_n 1, 1) := by decide +kernel
theorem dX2_init_16 : decode cX2_init 16 = .ok (.aload_n 0, 1) := by decide +kernel
theorem dX2_init_17 : decode cX2_init 17 = .ok (.getfield 11, 3) := by decide +kernel
theorem dX2_init_20 : decode cX2_init 20 = .ok (.arraylength, 1) := by decide +kernel
theorem dX2_init_21 : decode cX2_init 21 = .ok (.if_icmp .ge 22, 3) := by decide +kernel
theorem dX2_init_24 : decode cX2_init 24 = .ok (.aload_n 0, 1) := by decide +kernel
theorem dX2_init_25 : decode cX2_init 25 = .ok (.getfield 11, 3) := by decide +kernel
theorem dX2_init_28 : decode cX2_init 28 = .ok (.iload_n 1, 1) := by decide +kernel
theorem dX2_init_29 : decode cX2_init 29 = .ok (.new 9, 3) := by decide +kernel
theorem dX2_init_32 : decode cX2_init 32 = .ok (.dup, 1) := by decide +kernel
theorem dX2_init_33 : decode cX2_init 33 = .ok (.invokespecial 17, 3) := by decide +kernel
theorem dX2_init_36 : decode cX2_init 36 = .ok (.aastore, 1) := by decide +kernel
theorem dX2_init_37 : decode cX2_init 37 = .ok (.iinc 1 1, 3) := by decide +kernel
theorem dX2_init_40 : decode cX2_init 40 = .ok (.goto (-25), 3) := by decide +kernel
theorem dX2_init_43 : decode cX2_init 43 = .ok (.return_, 1) := by decide +kernel
theorem dX2_rowAt_0 : decode cX2_rowAt 0 = .ok (.iload_n 1, 1) := by decide +kernel
theorem dX2_rowAt_1 : decode cX2_rowAt 1 = .ok (.ifCond .lt 21, 3) := by decide +kernel
theorem dX2_rowAt_4 : decode cX2_rowAt 4 = .ok (.iload_n 1, 1) := by decide +kernel
theorem dX2_rowAt_5 : decode cX2_rowAt 5 = .ok (.aload_n 0, 1) := by decide +kernel
theorem dX2_rowAt_6 : decode cX2_rowAt 6 = .ok (.getfield 11, 3) := by decide +kernel
theorem dX2_rowAt_9 : decode cX2_rowAt 9 = .ok (.arraylength, 1) := by decide +kernel
theorem dX2_rowAt_10 : decode cX2_rowAt 10 = .ok (.if_icmp .ge 12, 3) := by decide +kernel
theorem dX2_rowAt_13 : decode cX2_rowAt 13 = .ok (.aload_n 0, 1) := by decide +kernel
theorem dX2_rowAt_14 : decode cX2_rowAt 14 = .ok (.getfield 11, 3) := by decide +kernel
theorem dX2_rowAt_17 : decode cX2_rowAt 17 = .ok (.iload_n 1, 1) := by decide +kernel
theorem dX2_rowAt_18 : decode cX2_rowAt 18 = .ok (.aaload, 1) := by decide +kernel
theorem dX2_rowAt_19 : decode cX2_rowAt 19 = .ok (.goto 4, 3) := by decide +kernel
theorem dX2_rowAt_22 : decode cX2_rowAt 22 = .ok (.aconst_null, 1) := by decide +kernel
theorem dX2_rowAt_23 : decode cX2_rowAt 23 = .ok (.areturn, 1) := by decide +kernel
theorem dX2_push_0 : decode cX2_push 0 = .ok (.aload_n 0, 1) := by decide +kernel
theorem dX2_push_1 : decode cX2_push 1 = .ok (.aload_n 0, 1) := by decide +kernel
theorem dX2_push_2 : decode cX2_push 2 = .ok (.getfield 18, 3) := by decide +kernel
theorem dX2_push_5 : decode cX2_push 5 = .ok (.invokevirtual 22, 3) := by decide +kernel
theorem dX2_push_8 : decode cX2_push 8 = .ok (.astore_n 2, 1) := by decide +kernel
theorem dX2_push_9 : decode cX2_push 9 = .ok (.aload_n 2, 1) := by decide +kernel
theorem dX2_push_10 : decode cX2_push 10 = .ok (.ifnonnull 4, 3) := by decide +kernel
theorem dX2_push_13 : decode cX2_push 13 = .ok (.return_, 1) := by decide +kernel
theorem dX2_push_14 : decode cX2_push 14 = .ok (.aload_n 2, 1) := by decide +kernel
theorem dX2_push_15 : decode cX2_push 15 = .ok (.aload_n 1, 1) := by decide +kernel
theorem dX2_push_16 : decode cX2_push 16 = .ok (.invokevirtual 26, 3) := by decide +kernel
theorem dX2_push_19 : decode cX2_push 19 = .ok (.aload_n 0, 1) := by decide +kernel
theorem dX2_push_20 : decode cX2_push 20 = .ok (.aload_n 0, 1) := by decide +kernel
theorem dX2_push_21 : decode cX2_push 21 = .ok (.getfield 18, 3) := by decide +kernel
theorem dX2_push_24 : decode cX2_push 24 = .ok (.iconst 1, 1) := by decide +kernel
theorem dX2_push_25 : decode cX2_push 25 = .ok (.iadd, 1) := by decide +kernel
theorem dX2_push_26 : decode cX2_push 26 = .ok (.bipush 8, 2) := by decide +kernel
theorem dX2_push_28 : decode cX2_push 28 = .ok (.if_icmp .ge 12, 3) := by decide +kernel
theorem dX2_push_31 : decode cX2_push 31 = .ok (.aload_n 0, 1) := by decide +kernel
theorem dX2_push_32 : decode cX2_push 32 = .ok (.getfield 18, 3) := by decide +kernel
theorem dX2_push_35 : decode cX2_push 35 = .ok (.iconst 1, 1) := by decide +kernel
theorem dX2_push_36 : decode cX2_push 36 = .ok (.iadd, 1) := by decide +kernel
theorem dX2_push_37 : decode cX2_push 37 = .ok (.goto 4, 3) := by decide +kernel
theorem dX2_push_40 : decode cX2_push 40 = .ok (.iconst 0, 1) := by decide +kernel
theorem dX2_push_41 : decode cX2_push 41 = .ok (.putfield 18, 3) := by decide +kernel
theorem dX2_push_44 : decode cX2_push 44 = .ok (.aload_n 0, 1) := by decide +kernel
theorem dX2_push_45 : decode cX2_push 45 = .ok (.aload_n 0, 1) := by decide +kernel
theorem dX2_push_46 : decode cX2_push 46 = .ok (.getfield 30, 3) := by decide +kernel
theorem dX2_push_49 : decode cX2_push 49 = .ok (.bipush 8, 2) := by decide +kernel
theorem dX2_push_51 : decode cX2_push 51 = .ok (.if_icmp .ge 12, 3) := by decide +kernel
theorem dX2_push_54 : decode cX2_push 54 = .ok (.aload_n 0, 1) := by decide +kernel
theorem dX2_push_55 : decode cX2_push 55 = .ok (.getfield 30, 3) := by decide +kernel
theorem dX2_push_58 : decode cX2_push 58 = .ok (.iconst 1, 1) := by decide +kernel
theorem dX2_push_59 : decode cX2_push 59 = .ok (.iadd, 1) := by decide +kernel
theorem dX2_push_60 : decode cX2_push 60 = .ok (.goto 5, 3) := by decide +kernel
theorem dX2_push_63 : decode cX2_push 63 = .ok (.bipush 8, 2) := by decide +kernel
theorem dX2_push_65 : decode cX2_push 65 = .ok (.putfield 30, 3) := by decide +kernel
theorem dX2_push_68 : decode cX2_push 68 = .ok (.return_, 1) := by decide +kernel
theorem dX3_init_0 : decode cX3_init 0 = .ok (.aload_n 0, 1) := by decide +kernel
theorem dX3_init_1 : decode cX3_init 1 = .ok (.invokespecial 3, 3) := by decide +kernel
theorem dX3_init_4 : decode cX3_init 4 = .ok (.aload_n 0, 1) := by decide +kernel
theorem dX3_init_5 : decode cX3_init 5 = .ok (.sipush 168, 3) := by decide +kernel
theorem dX3_init_8 : decode cX3_init 8 = .ok (.newarray .int, 2) := by decide +kernel
theorem dX3_init_10 : decode cX3_init 10 = .ok (.putfield 9, 3) := by decide +kernel
theorem dX3_init_13 : decode cX3_init 13 = .ok (.return_, 1) := by decide +kernel
theorem dX3_clear_0 : decode cX3_clear 0 = .ok (.aload_n 0, 1) := by decide +kernel
theorem dX3_clear_1 : decode cX3_clear 1 = .ok (.iconst 0, 1) := by decide +kernel
theorem dX3_clear_2 : decode cX3_clear 2 = .ok (.putfield 15, 3) := by decide +kernel
theorem dX3_clear_5 : decode cX3_clear 5 = .ok (.return_, 1) := by decide +kernel
theorem dX3_characterAt_0 : decode cX3_characterAt 0 = .ok (.aload_n 0, 1) := by decide +kernel
theorem dX3_characterAt_1 : decode cX3_characterAt 1 = .ok (.getfield 9, 3) := by decide +kernel
theorem dX3_characterAt_4 : decode cX3_characterAt 4 = .ok (.iload_n 1, 1) := by decide +kernel
theorem dX3_characterAt_5 : decode cX3_characterAt 5 = .ok (.invokestatic 19, 3) := by decide +kernel
theorem dX3_characterAt_8 : decode cX3_characterAt 8 = .ok (.ireturn, 1) := by decide +kernel
theorem dX3_write_0 : decode cX3_write 0 = .ok (.aload_n 0, 1) := by decide +kernel
theorem dX3_write_1 : decode cX3_write 1 = .ok (.getfield 15, 3) := by decide +kernel
theorem dX3_write_4 : decode cX3_write 4 = .ok (.sipush 168, 3) := by decide +kernel
theorem dX3_write_7 : decode cX3_write 7 = .ok (.if_icmp .ge 25, 3) := by decide +kernel
theorem dX3_write_10 : decode cX3_write 10 = .ok (.aload_n 0, 1) := by decide +kernel
theorem dX3_write_11 : decode cX3_write 11 = .ok (.getfield 9, 3) := by decide +kernel
theorem dX3_write_14 : decode cX3_write 14 = .ok (.aload_n 0, 1) := by decide +kernel
theorem dX3_write_15 : decode cX3_write 15 = .ok (.getfield 15, 3) := by decide +kernel
theorem dX3_write_18 : decode cX3_write 18 = .ok (.iload_n 1, 1) := by decide +kernel
theorem dX3_write_19 : decode cX3_write 19 = .ok (.invokestatic 23, 3) := by decide +kernel
theorem dX3_write_22 : decode cX3_write 22 = .ok (.aload_n 0, 1) := by decide +kernel
theorem dX3_write_23 : decode cX3_write 23 = .ok (.dup, 1) := by decide +kernel
theorem dX3_write_24 : decode cX3_write 24 = .ok (.getfield 15, 3) := by decide +kernel
theorem dX3_write_27 : decode cX3_write 27 = .ok (.iconst 1, 1) := by decide +kernel
theorem dX3_write_28 : decode cX3_write 28 = .ok (.iadd, 1) := by decide +kernel
theorem dX3_write_29 : decode cX3_write 29 = .ok (.putfield 15, 3) := by decide +kernel
theorem dX3_write_32 : decode cX3_write 32 = .ok (.return_, 1) := by decide +kernel
theorem dX3_writeNumber_0 : decode cX3_writeNumber 0 = .ok (.iload_n 1, 1) := by decide +kernel
theorem dX3_writeNumber_1 : decode cX3_writeNumber 1 = .ok (.bipush 10, 2) := by decide +kernel
theorem dX3_writeNumber_3 : decode cX3_writeNumber 3 = .ok (.if_icmp .lt 14, 3) := by decide +kernel
theorem dX3_writeNumber_6 : decode cX3_writeNumber 6 = .ok (.aload_n 0, 1) := by decide +kernel
theorem dX3_writeNumber_7 : decode cX3_writeNumber 7 = .ok (.bipush 48, 2) := by decide +kernel
theorem dX3_writeNumber_9 : decode cX3_writeNumber 9 = .ok (.iload_n 1, 1) := by decide +kernel
theorem dX3_writeNumber_10 : decode cX3_writeNumber 10 = .ok (.bipush 10, 2) := by decide +kernel
theorem dX3_writeNumber_12 : decode cX3_writeNumber 12 = .ok (.idiv, 1) := by decide +kernel
theorem dX3_writeNumber_13 : decode cX3_writeNumber 13 = .ok (.iadd, 1) := by decide +kernel
theorem dX3_writeNumber_14 : decode cX3_writeNumber 14 = .ok (.invokevirtual 27, 3) := by decide +kernel
theorem dX3_writeNumber_17 : decode cX3_writeNumber 17 = .ok (.aload_n 0, 1) := by decide +kernel
theorem dX3_writeNumber_18 : decode cX3_writeNumber 18 = .ok (.bipush 48, 2) := by decide +kernel
theorem dX3_writeNumber_20 : decode cX3_writeNumber 20 = .ok (.iload_n 1, 1) := by decide +kernel
theorem dX3_writeNumber_21 : decode cX3_writeNumber 21 = .ok (.bipush 10, 2) := by decide +kernel
theorem dX3_writeNumber_23 : decode cX3_writeNumber 23 = .ok (.irem, 1) := by decide +kernel
theorem dX3_writeNumber_24 : decode cX3_writeNumber 24 = .ok (.iadd, 1) := by decide +kernel
theorem dX3_writeNumber_25 : decode cX3_writeNumber 25 = .ok (.invokevirtual 27, 3) := by decide +kernel
theorem dX3_writeNumber_28 : decode cX3_writeNumber 28 = .ok (.return_, 1) := by decide +kernel
theorem dX4_init_0 : decode cX4_init 0 = .ok (.aload_n 0, 1) := by decide +kernel
theorem dX4_init_1 : decode cX4_init 1 = .ok (.invokespecial 3, 3) := by decide +kernel
theorem dX4_init_4 : decode cX4_init 4 = .ok (.aload_n 0, 1) := by decide +kernel
theorem dX4_init_5 : decode cX4_init 5 = .ok (.bipush 25, 2) := by decide +kernel
theorem dX4_init_7 : decode cX4_init 7 = .ok (.newarray .int, 2) := by decide +kernel
theorem dX4_init_9 : decode cX4_init 9 = .ok (.putfield 9, 3) := by decide +kernel
theorem dX4_init_12 : decode cX4_init 12 = .ok (.aload_n 0, 1) := by decide +kernel
theorem dX4_init_13 : decode cX4_init 13 = .ok (.bipush 25, 2) := by decide +kernel
theorem dX4_init_15 : decode cX4_init 15 = .ok (.newarray .int, 2) := by decide +kernel
theorem dX4_init_17 : decode cX4_init 17 = .ok (.putfield 15, 3) := by decide +kernel
theorem dX4_init_20 : decode cX4_init 20 = .ok (.aload_n 0, 1) := by decide +kernel
theorem dX4_init_21 : decode cX4_init 21 = .ok (.bipush 25, 2) := by decide +kernel
theorem dX4_init_23 : decode cX4_init 23 = .ok (.newarray .int, 2) := by decide +kernel
theorem dX4_init_25 : decode cX4_init 25 = .ok (.putfield 18, 3) := by decide +kernel
theorem dX4_init_28 : decode cX4_init 28 = .ok (.aload_n 0, 1) := by decide +kernel
theorem dX4_init_29 : decode cX4_init 29 = .ok (.bipush 25, 2) := by decide +kernel
theorem dX4_init_31 : decode cX4_init 31 = .ok (.newarray .int, 2) := by decide +kernel
theorem dX4_init_33 : decode cX4_init 33 = .ok (.putfield 21, 3) := by decide +kernel
theorem dX4_init_36 : decode cX4_init 36 = .ok (.aload_n 0, 1) := by decide +kernel
theorem dX4_init_37 : decode cX4_init 37 = .ok (.bipush 25, 2) := by decide +kernel
theorem dX4_init_39 : decode cX4_init 39 = .ok (.newarray .int, 2) := by decide +kernel
theorem dX4_init_41 : decode cX4_init 41 = .ok (.putfield 24, 3) := by decide +kernel
theorem dX4_init_44 : decode cX4_init 44 = .ok (.aload_n 0, 1) := by decide +kernel
theorem dX4_init_45 : decode cX4_init 45 = .ok (.bipush 25, 2) := by decide +kernel
theorem dX4_init_47 : decode cX4_init 47 = .ok (.newarray .int, 2) := by decide +kernel
theorem dX4_init_49 : decode cX4_init 49 = .ok (.putfield 27, 3) := by decide +kernel
theorem dX4_init_52 : decode cX4_init 52 = .ok (.aload_n 0, 1) := by decide +kernel
theorem dX4_init_53 : decode cX4_init 53 = .ok (.iconst 0, 1) := by decide +kernel
theorem dX4_init_54 : decode cX4_init 54 = .ok (.putfield 30, 3) := by decide +kernel
theorem dX4_init_57 : decode cX4_init 57 = .ok (.return_, 1) := by decide +kernel
theorem dX4_copyFrom_0 : decode cX4_copyFrom 0 = .ok (.aload_n 1, 1) := by decide +kernel
theorem dX4_copyFrom_1 : decode cX4_copyFrom 1 = .ok (.ifnonnull 4, 3) := by decide +kernel
theorem dX4_copyFrom_4 : decode cX4_copyFrom 4 = .ok (.return_, 1) := by decide +kernel
theorem dX4_copyFrom_5 : decode cX4_copyFrom 5 = .ok (.aload_n 1, 1) := by decide +kernel
theorem dX4_copyFrom_6 : decode cX4_copyFrom 6 = .ok (.getfield 9, 3) := by decide +kernel
theorem dX4_copyFrom_9 : decode cX4_copyFrom 9 = .ok (.aload_n 0, 1) := by decide +kernel
theorem dX4_copyFrom_10 : decode cX4_copyFrom 10 = .ok (.getfield 9, 3) := by decide +kernel
theorem dX4_copyFrom_13 : decode cX4_copyFrom 13 = .ok (.invokestatic 34, 3) := by decide +kernel
theorem dX4_copyFrom_16 : decode cX4_copyFrom 16 = .ok (.aload_n 1, 1) := by decide +kernel
theorem dX4_copyFrom_17 : decode cX4_copyFrom 17 = .ok (.getfield 15, 3) := by decide +kernel
theorem dX4_copyFrom_20 : decode cX4_copyFrom 20 = .ok (.aload_n 0, 1) := by decide +kernel
theorem dX4_copyFrom_21 : decode cX4_copyFrom 21 = .ok (.getfield 15, 3) := by decide +kernel
theorem dX4_copyFrom_24 : decode cX4_copyFrom 24 = .ok (.invokestatic 34, 3) := by decide +kernel
theorem dX4_copyFrom_27 : decode cX4_copyFrom 27 = .ok (.aload_n 1, 1) := by decide +kernel
theorem dX4_copyFrom_28 : decode cX4_copyFrom 28 = .ok (.getfield 18, 3) := by decide +kernel
theorem dX4_copyFrom_31 : decode cX4_copyFrom 31 = .ok (.aload_n 0, 1) := by decide +kernel
theorem dX4_copyFrom_32 : decode cX4_copyFrom 32 = .ok (.getfield 18, 3) := by decide +kernel
theorem dX4_copyFrom_35 : decode cX4_copyFrom 35 = .ok (.invokestatic 34, 3) := by decide +kernel
theorem dX4_copyFrom_38 : decode cX4_copyFrom 38 = .ok (.aload_n 1, 1) := by decide +kernel
theorem dX4_copyFrom_39 : decode cX4_copyFrom 39 = .ok (.getfield 21, 3) := by decide +kernel
theorem dX4_copyFrom_42 : decode cX4_copyFrom 42 = .ok (.aload_n 0, 1) := by decide +kernel
theorem dX4_copyFrom_43 : decode cX4_copyFrom 43 = .ok (.getfield 21, 3) := by decide +kernel
theorem dX4_copyFrom_46 : decode cX4_copyFrom 46 = .ok (.invokestatic 34, 3) := by decide +kernel
theorem dX4_copyFrom_49 : decode cX4_copyFrom 49 = .ok (.aload_n 1, 1) := by decide +kernel
theorem dX4_copyFrom_50 : decode cX4_copyFrom 50 = .ok (.getfield 24, 3) := by decide +kernel
theorem dX4_copyFrom_53 : decode cX4_copyFrom 53 = .ok (.aload_n 0, 1) := by decide +kernel
theorem dX4_copyFrom_54 : decode cX4_copyFrom 54 = .ok (.getfield 24, 3) := by decide +kernel
theorem dX4_copyFrom_57 : decode cX4_copyFrom 57 = .ok (.invokestatic 34, 3) := by decide +kernel
theorem dX4_copyFrom_60 : decode cX4_copyFrom 60 = .ok (.aload_n 1, 1) := by decide +kernel
theorem dX4_copyFrom_61 : decode cX4_copyFrom 61 = .ok (.getfield 27, 3) := by decide +kernel
theorem dX4_copyFrom_64 : decode cX4_copyFrom 64 = .ok (.aload_n 0, 1) := by decide +kernel
theorem dX4_copyFrom_65 : decode cX4_copyFrom 65 = .ok (.getfield 27, 3) := by decide +kernel
theorem dX4_copyFrom_68 : decode cX4_copyFrom 68 = .ok (.invokestatic 34, 3) := by decide +kernel
theorem dX4_copyFrom_71 : decode cX4_copyFrom 71 = .ok (.aload_n 0, 1) := by decide +kernel
theorem dX4_copyFrom_72 : decode cX4_copyFrom 72 = .ok (.aload_n 1, 1) := by decide +kernel
theorem dX4_copyFrom_73 : decode cX4_copyFrom 73 = .ok (.getfield 30, 3) := by decide +kernel
theorem dX4_copyFrom_76 : decode cX4_copyFrom 76 = .ok (.putfield 30, 3) := by decide +kernel
theorem dX4_copyFrom_79 : decode cX4_copyFrom 79 = .ok (.return_, 1) := by decide +kernel
theorem dX4_topmost_0 : decode cX4_topmost 0 = .ok (.aload_n 0, 1) := by decide +kernel
theorem dX4_topmost_1 : decode cX4_topmost 1 = .ok (.getfield 30, 3) := by decide +kernel
theorem dX4_topmost_4 : decode cX4_topmost 4 = .ok (.ireturn, 1) := by decide +kernel
theorem dX4_pointCount_0 : decode cX4_pointCount 0 = .ok (.aload_n 0, 1) := by decide +kernel
theorem dX4_pointCount_1 : decode cX4_pointCount 1 = .ok (.getfield 27, 3) := by decide +kernel
theorem dX4_pointCount_4 : decode cX4_pointCount 4 = .ok (.aload_n 0, 1) := by decide +kernel
theorem dX4_pointCount_5 : decode cX4_pointCount 5 = .ok (.getfield 30, 3) := by decide +kernel
theorem dX4_pointCount_8 : decode cX4_pointCount 8 = .ok (.invokestatic 38, 3) := by decide +kernel
theorem dX4_pointCount_11 : decode cX4_pointCount 11 = .ok (.ireturn, 1) := by decide +kernel
theorem dX4_keyIn_0 : decode cX4_keyIn 0 = .ok (.aload_n 0, 1) := by decide +kernel
theorem dX4_keyIn_1 : decode cX4_keyIn 1 = .ok (.getfield 9, 3) := by decide +kernel
theorem dX4_keyIn_4 : decode cX4_keyIn 4 = .ok (.iload_n 1, 1) := by decide +kernel
theorem dX4_keyIn_5 : decode cX4_keyIn 5 = .ok (.invokestatic 38, 3) := by decide +kernel
theorem dX4_keyIn_8 : decode cX4_keyIn 8 = .ok (.ireturn, 1) := by decide +kernel
theorem dX4_priorityIn_0 : decode cX4_priorityIn 0 = .ok (.aload_n 0, 1) := by decide +kernel
theorem dX4_priorityIn_1 : decode cX4_priorityIn 1 = .ok (.getfield 15, 3) := by decide +kernel
theorem dX4_priorityIn_4 : decode cX4_priorityIn 4 = .ok (.iload_n 1, 1) := by decide +kernel
theorem dX4_priorityIn_5 : decode cX4_priorityIn 5 = .ok (.invokestatic 38, 3) := by decide +kernel
theorem dX4_priorityIn_8 : decode cX4_priorityIn 8 = .ok (.ireturn, 1) := by decide +kernel
theorem dX4_parentIn_0 : decode cX4_parentIn 0 = .ok (.aload_n 0, 1) := by decide +kernel
theorem dX4_parentIn_1 : decode cX4_parentIn 1 = .ok (.getfield 18, 3) := by decide +kernel
theorem dX4_parentIn_4 : decode cX4_parentIn 4 = .ok (.iload_n 1, 1) := by decide +kernel
theorem dX4_parentIn_5 : decode cX4_parentIn 5 = .ok (.invokestatic 38, 3) := by decide +kernel
theorem dX4_parentIn_8 : decode cX4_parentIn 8 = .ok (.ireturn, 1) := by decide +kernel
theorem dX4_leftIn_0 : decode cX4_leftIn 0 = .ok (.aload_n 0, 1) := by decide +kernel
theorem dX4_leftIn_1 : decode cX4_leftIn 1 = .ok (.getfield 21, 3) := by decide +kernel
theorem dX4_leftIn_4 : decode cX4_leftIn 4 = .ok (.iload_n 1, 1) := by decide +kernel
theorem dX4_leftIn_5 : decode cX4_leftIn 5 = .ok (.invokestatic 38, 3) := by decide +kernel
theorem dX4_leftIn_8 : decode cX4_leftIn 8 = .ok (.ireturn, 1) := by decide +kernel
theorem dX4_rightIn_0 : decode cX4_rightIn 0 = .ok (.aload_n 0, 1) := by decide +kernel
theorem dX4_rightIn_1 : decode cX4_rightIn 1 = .ok (.getfield 24, 3) := by decide +kernel
theorem dX4_rightIn_4 : decode cX4_rightIn 4 = .ok (.iload_n 1, 1) := by decide +kernel
theorem dX4_rightIn_5 : decode cX4_rightIn 5 = .ok (.invokestatic 38, 3) := by decide +kernel
theorem dX4_rightIn_8 : decode cX4_rightIn 8 = .ok (.ireturn, 1) := by decide +kernel
theorem dX4_countIn_0 : decode cX4_countIn 0 = .ok (.aload_n 0, 1) := by decide +kernel
theorem dX4_countIn_1 : decode cX4_countIn 1 = .ok (.getfield 27, 3) := by decide +kernel
theorem dX4_countIn_4 : decode cX4_countIn 4 = .ok (.iload_n 1, 1) := by decide +kernel
theorem dX4_countIn_5 : decode cX4_countIn 5 = .ok (.invokestatic 38, 3) := by decide +kernel
theorem dX4_countIn_8 : decode cX4_countIn 8 = .ok (.ireturn, 1) := by decide +kernel
theorem dX4_belongsAbove_0 : decode cX4_belongsAbove 0 = .ok (.aload_n 0, 1) := by decide +kernel
theorem dX4_belongsAbove_1 : decode cX4_belongsAbove 1 = .ok (.getfield 15, 3) := by decide +kernel
theorem dX4_belongsAbove_4 : decode cX4_belongsAbove 4 = .ok (.iload_n 1, 1) := by decide +kernel
theorem dX4_belongsAbove_5 : decode cX4_belongsAbove 5 = .ok (.invokestatic 38, 3) := by decide +kernel
theorem dX4_belongsAbove_8 : decode cX4_belongsAbove 8 = .ok (.istore_n 3, 1) := by decide +kernel
theorem dX4_belongsAbove_9 : decode cX4_belongsAbove 9 = .ok (.aload_n 0, 1) := by decide +kernel
theorem dX4_belongsAbove_10 : decode cX4_belongsAbove 10 = .ok (.getfield 15, 3) := by decide +kernel
theorem dX4_belongsAbove_13 : decode cX4_belongsAbove 13 = .ok (.iload_n 2, 1) := by decide +kernel
theorem dX4_belongsAbove_14 : decode cX4_belongsAbove 14 = .ok (.invokestatic 38, 3) := by decide +kernel
theorem dX4_belongsAbove_17 : decode cX4_belongsAbove 17 = .ok (.istore 4, 2) := by decide +kernel
theorem dX4_belongsAbove_19 : decode cX4_belongsAbove 19 = .ok (.iload_n 3, 1) := by decide +kernel
theorem dX4_belongsAbove_20 : decode cX4_belongsAbove 20 = .ok (.iload 4, 2) := by decide +kernel
theorem dX4_belongsAbove_22 : decode cX4_belongsAbove 22 = .ok (.if_icmp .gt 28, 3) := by decide +kernel
theorem dX4_belongsAbove_25 : decode cX4_belongsAbove 25 = .ok (.iload_n 3, 1) := by decide +kernel
theorem dX4_belongsAbove_26 : decode cX4_belongsAbove 26 = .ok (.iload 4, 2) := by decide +kernel
theorem dX4_belongsAbove_28 : decode cX4_belongsAbove 28 = .ok (.if_icmp .ne 26, 3) := by decide +kernel
theorem dX4_belongsAbove_31 : decode cX4_belongsAbove 31 = .ok (.aload_n 0, 1) := by decide +kernel
theorem dX4_belongsAbove_32 : decode cX4_belongsAbove 32 = .ok (.getfield 9, 3) := by decide +kernel
theorem dX4_belongsAbove_35 : decode cX4_belongsAbove 35 = .ok (.iload_n 1, 1) := by decide +kernel
theorem dX4_belongsAbove_36 : decode cX4_belongsAbove 36 = .ok (.invokestatic 38, 3) := by decide +kernel
theorem dX4_belongsAbove_39 : decode cX4_belongsAbove 39 = .ok (.aload_n 0, 1) := by decide +kernel
theorem dX4_belongsAbove_40 : decode cX4_belongsAbove 40 = .ok (.getfield 9, 3) := by decide +kernel
theorem dX4_belongsAbove_43 : decode cX4_belongsAbove 43 = .ok (.iload_n 2, 1) := by decide +kernel
theorem dX4_belongsAbove_44 : decode cX4_belongsAbove 44 = .ok (.invokestatic 38, 3) := by decide +kernel
theorem dX4_belongsAbove_47 : decode cX4_belongsAbove 47 = .ok (.if_icmp .ge 7, 3) := by decide +kernel
theorem dX4_belongsAbove_50 : decode cX4_belongsAbove 50 = .ok (.iconst 1, 1) := by decide +kernel
theorem dX4_belongsAbove_51 : decode cX4_belongsAbove 51 = .ok (.goto 4, 3) := by decide +kernel
theorem dX4_belongsAbove_54 : decode cX4_belongsAbove 54 = .ok (.iconst 0, 1) := by decide +kernel
theorem dX4_belongsAbove_55 : decode cX4_belongsAbove 55 = .ok (.ireturn, 1) := by decide +kernel
theorem dX4_recount_0 : decode cX4_recount 0 = .ok (.aload_n 0, 1) := by decide +kernel
theorem dX4_recount_1 : decode cX4_recount 1 = .ok (.getfield 27, 3) := by decide +kernel
theorem dX4_recount_4 : decode cX4_recount 4 = .ok (.iload_n 1, 1) := by decide +kernel
theorem dX4_recount_5 : decode cX4_recount 5 = .ok (.iconst 1, 1) := by decide +kernel
theorem dX4_recount_6 : decode cX4_recount 6 = .ok (.aload_n 0, 1) := by decide +kernel
theorem dX4_recount_7 : decode cX4_recount 7 = .ok (.getfield 27, 3) := by decide +kernel
theorem dX4_recount_10 : decode cX4_recount 10 = .ok (.aload_n 0, 1) := by decide +kernel
theorem dX4_recount_11 : decode cX4_recount 11 = .ok (.getfield 21, 3) := by decide +kernel
theorem dX4_recount_14 : decode cX4_recount 14 = .ok (.iload_n 1, 1) := by decide +kernel
theorem dX4_recount_15 : decode cX4_recount 15 = .ok (.invokestatic 38, 3) := by decide +kernel
theorem dX4_recount_18 : decode cX4_recount 18 = .ok (.invokestatic 38, 3) := by decide +kernel
theorem dX4_recount_21 : decode cX4_recount 21 = .ok (.iadd, 1) := by decide +kernel
theorem dX4_recount_22 : decode cX4_recount 22 = .ok (.aload_n 0, 1) := by decide +kernel
theorem dX4_recount_23 : decode cX4_recount 23 = .ok (.getfield 27, 3) := by decide +kernel
theorem dX4_recount_26 : decode cX4_recount 26 = .ok (.aload_n 0, 1) := by decide +kernel
theorem dX4_recount_27 : decode cX4_recount 27 = .ok (.getfield 24, 3) := by decide +kernel
theorem dX4_recount_30 : decode cX4_recount 30 = .ok (.iload_n 1, 1) := by decide +kernel
theorem dX4_recount_31 : decode cX4_recount 31 = .ok (.invokestatic 38, 3) := by decide +kernel
theorem dX4_recount_34 : decode cX4_recount 34 = .ok (.invokestatic 38, 3) := by decide +kernel
theorem dX4_recount_37 : decode cX4_recount 37 = .ok (.iadd, 1) := by decide +kernel
theorem dX4_recount_38 : decode cX4_recount 38 = .ok (.invokestatic 42, 3) := by decide +kernel
theorem dX4_recount_41 : decode cX4_recount 41 = .ok (.return_, 1) := by decide +kernel
theorem dX4_recountUpwards_0 : decode cX4_recountUpwards 0 = .ok (.iload_n 1, 1) := by decide +kernel
theorem dX4_recountUpwards_1 : decode cX4_recountUpwards 1 = .ok (.istore_n 2, 1) := by decide +kernel
theorem dX4_recountUpwards_2 : decode cX4_recountUpwards 2 = .ok (.iconst 0, 1) := by decide +kernel
theorem dX4_recountUpwards_3 : decode cX4_recountUpwards 3 = .ok (.istore_n 3, 1) := by decide +kernel
theorem dX4_recountUpwards_4 : decode cX4_recountUpwards 4 = .ok (.iload_n 3, 1) := by decide +kernel
theorem dX4_recountUpwards_5 : decode cX4_recountUpwards 5 = .ok (.bipush 24, 2) := by decide +kernel
theorem dX4_recountUpwards_7 : decode cX4_recountUpwards 7 = .ok (.if_icmp .ge 27, 3) := by decide +kernel
theorem dX4_recountUpwards_10 : decode cX4_recountUpwards 10 = .ok (.iload_n 2, 1) := by decide +kernel
theorem dX4_recountUpwards_11 : decode cX4_recountUpwards 11 = .ok (.ifCond .eq 23, 3) := by decide +kernel
theorem dX4_recountUpwards_14 : decode cX4_recountUpwards 14 = .ok (.aload_n 0, 1) := by decide +kernel
theorem dX4_recountUpwards_15 : decode cX4_recountUpwards 15 = .ok (.iload_n 2, 1) := by decide +kernel
theorem dX4_recountUpwards_16 : decode cX4_recountUpwards 16 = .ok (.invokevirtual 46, 3) := by decide +kernel
theorem dX4_recountUpwards_19 : decode cX4_recountUpwards 19 = .ok (.aload_n 0, 1) := by decide +kernel
theorem dX4_recountUpwards_20 : decode cX4_recountUpwards 20 = .ok (.getfield 18, 3) := by decide +kernel
theorem dX4_recountUpwards_23 : decode cX4_recountUpwards 23 = .ok (.iload_n 2, 1) := by decide +kernel
theorem dX4_recountUpwards_24 : decode cX4_recountUpwards 24 = .ok (.invokestatic 38, 3) := by decide +kernel
theorem dX4_recountUpwards_27 : decode cX4_recountUpwards 27 = .ok (.istore_n 2, 1) := by decide +kernel
theorem dX4_recountUpwards_28 : decode cX4_recountUpwards 28 = .ok (.iinc 3 1, 3) := by decide +kernel
theorem dX4_recountUpwards_31 : decode cX4_recountUpwards 31 = .ok (.goto (-27), 3) := by decide +kernel
theorem dX4_recountUpwards_34 : decode cX4_recountUpwards 34 = .ok (.return_, 1) := by decide +kernel
theorem dX4_replaceChild_0 : decode cX4_replaceChild 0 = .ok (.iload_n 1, 1) := by decide +kernel
theorem dX4_replaceChild_1 : decode cX4_replaceChild 1 = .ok (.ifCond .ne 11, 3) := by decide +kernel
theorem dX4_replaceChild_4 : decode cX4_replaceChild 4 = .ok (.aload_n 0, 1) := by decide +kernel
theorem dX4_replaceChild_5 : decode cX4_replaceChild 5 = .ok (.iload_n 3, 1) := by decide +kernel
theorem dX4_replaceChild_6 : decode cX4_replaceChild 6 = .ok (.putfield 30, 3) := by decide +kernel
theorem dX4_replaceChild_9 : decode cX4_replaceChild 9 = .ok (.goto 36, 3) := by decide +kernel
theorem dX4_replaceChild_12 : decode cX4_replaceChild 12 = .ok (.aload_n 0, 1) := by decide +kernel
theorem dX4_replaceChild_13 : decode cX4_replaceChild 13 = .ok (.getfield 21, 3) := by decide +kernel
theorem dX4_replaceChild_16 : decode cX4_replaceChild 16 = .ok (.iload_n 1, 1) := by decide +kernel
theorem dX4_replaceChild_17 : decode cX4_replaceChild 17 = .ok (.invokestatic 38, 3) := by decide +kernel
theorem dX4_replaceChild_20 : decode cX4_replaceChild 20 = .ok (.iload_n 2, 1) := by decide +kernel
theorem dX4_replaceChild_21 : decode cX4_replaceChild 21 = .ok (.if_icmp .ne 15, 3) := by decide +kernel
theorem dX4_replaceChild_24 : decode cX4_replaceChild 24 = .ok (.aload_n 0, 1) := by decide +kernel
theorem dX4_replaceChild_25 : decode cX4_replaceChild 25 = .ok (.getfield 21, 3) := by decide +kernel
theorem dX4_replaceChild_28 : decode cX4_replaceChild 28 = .ok (.iload_n 1, 1) := by decide +kernel
theorem dX4_replaceChild_29 : decode cX4_replaceChild 29 = .ok (.iload_n 3, 1) := by decide +kernel
theorem dX4_replaceChild_30 : decode cX4_replaceChild 30 = .ok (.invokestatic 42, 3) := by decide +kernel
theorem dX4_replaceChild_33 : decode cX4_replaceChild 33 = .ok (.goto 12, 3) := by decide +kernel
theorem dX4_replaceChild_36 : decode cX4_replaceChild 36 = .ok (.aload_n 0, 1) := by decide +kernel
theorem dX4_replaceChild_37 : decode cX4_replaceChild 37 = .ok (.getfield 24, 3) := by decide +kernel
theorem dX4_replaceChild_40 : decode cX4_replaceChild 40 = .ok (.iload_n 1, 1) := by decide +kernel
theorem dX4_replaceChild_41 : decode cX4_replaceChild 41 = .ok (.iload_n 3, 1) := by decide +kernel
theorem dX4_replaceChild_42 : decode cX4_replaceChild 42 = .ok (.invokestatic 42, 3) := by decide +kernel
theorem dX4_replaceChild_45 : decode cX4_replaceChild 45 = .ok (.return_, 1) := by decide +kernel
theorem dX4_rotate_0 : decode cX4_rotate 0 = .ok (.aload_n 0, 1) := by decide +kernel
theorem dX4_rotate_1 : decode cX4_rotate 1 = .ok (.getfield 18, 3) := by decide +kernel
theorem dX4_rotate_4 : decode cX4_rotate 4 = .ok (.iload_n 1, 1) := by decide +kernel
theorem dX4_rotate_5 : decode cX4_rotate 5 = .ok (.invokestatic 38, 3) := by decide +kernel
theorem dX4_rotate_8 : decode cX4_rotate 8 = .ok (.istore_n 2, 1) := by decide +kernel
theorem dX4_rotate_9 : decode cX4_rotate 9 = .ok (.aload_n 0, 1) := by decide +kernel
theorem dX4_rotate_10 : decode cX4_rotate 10 = .ok (.getfield 18, 3) := by decide +kernel
theorem dX4_rotate_13 : decode cX4_rotate 13 = .ok (.iload_n 2, 1) := by decide +kernel
theorem dX4_rotate_14 : decode cX4_rotate 14 = .ok (.invokestatic 38, 3) := by decide +kernel
theorem dX4_rotate_17 : decode cX4_rotate 17 = .ok (.istore_n 3, 1) := by decide +kernel
theorem dX4_rotate_18 : decode cX4_rotate 18 = .ok (.aload_n 0, 1) := by decide +kernel
theorem dX4_rotate_19 : decode cX4_rotate 19 = .ok (.getfield 21, 3) := by decide +kernel
theorem dX4_rotate_22 : decode cX4_rotate 22 = .ok (.iload_n 2, 1) := by decide +kernel
theorem dX4_rotate_23 : decode cX4_rotate 23 = .ok (.invokestatic 38, 3) := by decide +kernel
theorem dX4_rotate_26 : decode cX4_rotate 26 = .ok (.iload_n 1, 1) := by decide +kernel
theorem dX4_rotate_27 : decode cX4_rotate 27 = .ok (.if_icmp .ne 7, 3) := by decide +kernel
theorem dX4_rotate_30 : decode cX4_rotate 30 = .ok (.iconst 1, 1) := by decide +kernel
theorem dX4_rotate_31 : decode cX4_rotate 31 = .ok (.goto 4, 3) := by decide +kernel
theorem dX4_rotate_34 : decode cX4_rotate 34 = .ok (.iconst 0, 1) := by decide +kernel
theorem dX4_rotate_35 : decode cX4_rotate 35 = .ok (.istore 4, 2) := by decide +kernel
theorem dX4_rotate_37 : decode cX4_rotate 37 = .ok (.iload 4, 2) := by decide +kernel
theorem dX4_rotate_39 : decode cX4_rotate 39 = .ok (.ifCond .eq 10, 3) := by decide +kernel
theorem dX4_rotate_42 : decode cX4_rotate 42 = .ok (.aload_n 0, 1) := by decide +kernel
theorem dX4_rotate_43 : decode cX4_rotate 43 = .ok (.getfield 24, 3) := by decide +kernel
theorem dX4_rotate_46 : decode cX4_rotate 46 = .ok (.goto 7, 3) := by decide +kernel
theorem dX4_rotate_49 : decode cX4_rotate 49 = .ok (.aload_n 0, 1) := by decide +kernel
theorem dX4_rotate_50 : decode cX4_rotate 50 = .ok (.getfield 21, 3) := by decide +kernel
theorem dX4_rotate_53 : decode cX4_rotate 53 = .ok (.iload_n 1, 1) := by decide +kernel
theorem dX4_rotate_54 : decode cX4_rotate 54 = .ok (.invokestatic 38, 3) := by decide +kernel
theorem dX4_rotate_57 : decode cX4_rotate 57 = .ok (.istore 5, 2) := by decide +kernel
theorem dX4_rotate_59 : decode cX4_rotate 59 = .ok (.iload 4, 2) := by decide +kernel
theorem dX4_rotate_61 : decode cX4_rotate 61 = .ok (.ifCond .eq 10, 3) := by decide +kernel
theorem dX4_rotate_64 : decode cX4_rotate 64 = .ok (.aload_n 0, 1) := by decide +kernel
theorem dX4_rotate_65 : decode cX4_rotate 65 = .ok (.getfield 21, 3) := by decide +kernel
theorem dX4_rotate_68 : decode cX4_rotate 68 = .ok (.goto 7, 3) := by decide +kernel
theorem dX4_rotate_71 : decode cX4_rotate 71 = .ok (.aload_n 0, 1) := by decide +kernel
theorem dX4_rotate_72 : decode cX4_rotate 72 = .ok (.getfield 24, 3) := by decide +kernel
theorem dX4_rotate_75 : decode cX4_rotate 75 = .ok (.iload_n 2, 1) := by decide +kernel
theorem dX4_rotate_76 : decode cX4_rotate 76 = .ok (.iload 5, 2) := by decide +kernel
theorem dX4_rotate_78 : decode cX4_rotate 78 = .ok (.invokestatic 42, 3) := by decide +kernel
theorem dX4_rotate_81 : decode cX4_rotate 81 = .ok (.iload 4, 2) := by decide +kernel
theorem dX4_rotate_83 : decode cX4_rotate 83 = .ok (.ifCond .eq 10, 3) := by decide +kernel
theorem dX4_rotate_86 : decode cX4_rotate 86 = .ok (.aload_n 0, 1) := by decide +kernel
theorem dX4_rotate_87 : decode cX4_rotate 87 = .ok (.getfield 24, 3) := by decide +kernel
theorem dX4_rotate_90 : decode cX4_rotate 90 = .ok (.goto 7, 3) := by decide +kernel
theorem dX4_rotate_93 : decode cX4_rotate 93 = .ok (.aload_n 0, 1) := by decide +kernel
theorem dX4_rotate_94 : decode cX4_rotate 94 = .ok (.getfield 21, 3) := by decide +kernel
theorem dX4_rotate_97 : decode cX4_rotate 97 = .ok (.iload_n 1, 1) := by decide +kernel
theorem dX4_rotate_98 : decode cX4_rotate 98 = .ok (.iload_n 2, 1) := by decide +kernel
theorem dX4_rotate_99 : decode cX4_rotate 99 = .ok (.invokestatic 42, 3) := by decide +kernel
theorem dX4_rotate_102 : decode cX4_rotate 102 = .ok (.aload_n 0, 1) := by decide +kernel
theorem dX4_rotate_103 : decode cX4_rotate 103 = .ok (.iload_n 3, 1) := by decide +kernel
theorem dX4_rotate_104 : decode cX4_rotate 104 = .ok (.iload_n 2, 1) := by decide +kernel
theorem dX4_rotate_105 : decode cX4_rotate 105 = .ok (.iload_n 1, 1) := by decide +kernel
theorem dX4_rotate_106 : decode cX4_rotate 106 = .ok (.invokevirtual 50, 3) := by decide +kernel
theorem dX4_rotate_109 : decode cX4_rotate 109 = .ok (.aload_n 0, 1) := by decide +kernel
theorem dX4_rotate_110 : decode cX4_rotate 110 = .ok (.getfield 18, 3) := by decide +kernel
theorem dX4_rotate_113 : decode cX4_rotate 113 = .ok (.iload_n 1, 1) := by decide +kernel
theorem dX4_rotate_114 : decode cX4_rotate 114 = .ok (.iload_n 3, 1) := by decide +kernel
theorem dX4_rotate_115 : decode cX4_rotate 115 = .ok (.invokestatic 42, 3) := by decide +kernel
theorem dX4_rotate_118 : decode cX4_rotate 118 = .ok (.aload_n 0, 1) := by decide +kernel
theorem dX4_rotate_119 : decode cX4_rotate 119 = .ok (.getfield 18, 3) := by decide +kernel
theorem dX4_rotate_122 : decode cX4_rotate 122 = .ok (.iload_n 2, 1) := by decide +kernel
theorem dX4_rotate_123 : decode cX4_rotate 123 = .ok (.iload_n 1, 1) := by decide +kernel
theorem dX4_rotate_124 : decode cX4_rotate 124 = .ok (.invokestatic 42, 3) := by decide +kernel
theorem dX4_rotate_127 : decode cX4_rotate 127 = .ok (.iload 5, 2) := by decide +kernel
theorem dX4_rotate_129 : decode cX4_rotate 129 = .ok (.ifCond .eq 13, 3) := by decide +kernel
theorem dX4_rotate_132 : decode cX4_rotate 132 = .ok (.aload_n 0, 1) := by decide +kernel
theorem dX4_rotate_133 : decode cX4_rotate 133 = .ok (.getfield 18, 3) := by decide +kernel
theorem dX4_rotate_136 : decode cX4_rotate 136 = .ok (.iload 5, 2) := by decide +kernel
theorem dX4_rotate_138 : decode cX4_rotate 138 = .ok (.iload_n 2, 1) := by decide +kernel
theorem dX4_rotate_139 : decode cX4_rotate 139 = .ok (.invokestatic 42, 3) := by decide +kernel
theorem dX4_rotate_142 : decode cX4_rotate 142 = .ok (.aload_n 0, 1) := by decide +kernel
theorem dX4_rotate_143 : decode cX4_rotate 143 = .ok (.iload_n 2, 1) := by decide +kernel
theorem dX4_rotate_144 : decode cX4_rotate 144 = .ok (.invokevirtual 46, 3) := by decide +kernel
theorem dX4_rotate_147 : decode cX4_rotate 147 = .ok (.aload_n 0, 1) := by decide +kernel
theorem dX4_rotate_148 : decode cX4_rotate 148 = .ok (.iload_n 1, 1) := by decide +kernel
theorem dX4_rotate_149 : decode cX4_rotate 149 = .ok (.invokevirtual 46, 3) := by decide +kernel
theorem dX4_rotate_152 : decode cX4_rotate 152 = .ok (.return_, 1) := by decide +kernel
theorem dX4_upperChild_0 : decode cX4_upperChild 0 = .ok (.aload_n 0, 1) := by decide +kernel
theorem dX4_upperChild_1 : decode cX4_upperChild 1 = .ok (.getfield 21, 3) := by decide +kernel
theorem dX4_upperChild_4 : decode cX4_upperChild 4 = .ok (.iload_n 1, 1) := by decide +kernel
theorem dX4_upperChild_5 : decode cX4_upperChild 5 = .ok (.invokestatic 38, 3) := by decide +kernel
theorem dX4_upperChild_8 : decode cX4_upperChild 8 = .ok (.istore_n 2, 1) := by decide +kernel
theorem dX4_upperChild_9 : decode cX4_upperChild 9 = .ok (.aload_n 0, 1) := by decide +kernel
theorem dX4_upperChild_10 : decode cX4_upperChild 10 = .ok (.getfield 24, 3) := by decide +kernel
theorem dX4_upperChild_13 : decode cX4_upperChild 13 = .ok (.iload_n 1, 1) := by decide +kernel
theorem dX4_upperChild_14 : decode cX4_upperChild 14 = .ok (.invokestatic 38, 3) := by decide +kernel
theorem dX4_upperChild_17 : decode cX4_upperChild 17 = .ok (.istore_n 3, 1) := by decide +kernel
theorem dX4_upperChild_18 : decode cX4_upperChild 18 = .ok (.iload_n 2, 1) := by decide +kernel
theorem dX4_upperChild_19 : decode cX4_upperChild 19 = .ok (.ifCond .eq 7, 3) := by decide +kernel
theorem dX4_upperChild_22 : decode cX4_upperChild 22 = .ok (.iload_n 3, 1) := by decide +kernel
theorem dX4_upperChild_23 : decode cX4_upperChild 23 = .ok (.ifCond .ne 13, 3) := by decide +kernel
theorem dX4_upperChild_26 : decode cX4_upperChild 26 = .ok (.iload_n 2, 1) := by decide +kernel
theorem dX4_upperChild_27 : decode cX4_upperChild 27 = .ok (.ifCond .ne 7, 3) := by decide +kernel
theorem dX4_upperChild_30 : decode cX4_upperChild 30 = .ok (.iload_n 3, 1) := by decide +kernel
theorem dX4_upperChild_31 : decode cX4_upperChild 31 = .ok (.goto 4, 3) := by decide +kernel
theorem dX4_upperChild_34 : decode cX4_upperChild 34 = .ok (.iload_n 2, 1) := by decide +kernel
theorem dX4_upperChild_35 : decode cX4_upperChild 35 = .ok (.ireturn, 1) := by decide +kernel
theorem dX4_upperChild_36 : decode cX4_upperChild 36 = .ok (.aload_n 0, 1) := by decide +kernel
theorem dX4_upperChild_37 : decode cX4_upperChild 37 = .ok (.iload_n 2, 1) := by decide +kernel
theorem dX4_upperChild_38 : decode cX4_upperChild 38 = .ok (.iload_n 3, 1) := by decide +kernel
theorem dX4_upperChild_39 : decode cX4_upperChild 39 = .ok (.invokevirtual 54, 3) := by decide +kernel
theorem dX4_upperChild_42 : decode cX4_upperChild 42 = .ok (.ifCond .eq 7, 3) := by decide +kernel
theorem dX4_upperChild_45 : decode cX4_upperChild 45 = .ok (.iload_n 2, 1) := by decide +kernel
theorem dX4_upperChild_46 : decode cX4_upperChild 46 = .ok (.goto 4, 3) := by decide +kernel
theorem dX4_upperChild_49 : decode cX4_upperChild 49 = .ok (.iload_n 3, 1) := by decide +kernel
theorem dX4_upperChild_50 : decode cX4_upperChild 50 = .ok (.ireturn, 1) := by decide +kernel
theorem dX4_rotateUp_0 : decode cX4_rotateUp 0 = .ok (.iconst 0, 1) := by decide +kernel
theorem dX4_rotateUp_1 : decode cX4_rotateUp 1 = .ok (.istore_n 2, 1) := by decide +kernel
theorem dX4_rotateUp_2 : decode cX4_rotateUp 2 = .ok (.aload_n 0, 1) := by decide +kernel
theorem dX4_rotateUp_3 : decode cX4_rotateUp 3 = .ok (.getfield 18, 3) := by decide +kernel
theorem dX4_rotateUp_6 : decode cX4_rotateUp 6 = .ok (.iload_n 1, 1) := by decide +kernel
theorem dX4_rotateUp_7 : decode cX4_rotateUp 7 = .ok (.invokestatic 38, 3) := by decide +kernel
theorem dX4_rotateUp_10 : decode cX4_rotateUp 10 = .ok (.istore_n 3, 1) := by decide +kernel
theorem dX4_rotateUp_11 : decode cX4_rotateUp 11 = .ok (.iload_n 2, 1) := by decide +kernel
theorem dX4_rotateUp_12 : decode cX4_rotateUp 12 = .ok (.bipush 24, 2) := by decide +kernel
theorem dX4_rotateUp_14 : decode cX4_rotateUp 14 = .ok (.if_icmp .ge 36, 3) := by decide +kernel
theorem dX4_rotateUp_17 : decode cX4_rotateUp 17 = .ok (.iload_n 3, 1) := by decide +kernel
theorem dX4_rotateUp_18 : decode cX4_rotateUp 18 = .ok (.ifCond .eq 32, 3) := by decide +kernel
theorem dX4_rotateUp_21 : decode cX4_rotateUp 21 = .ok (.aload_n 0, 1) := by decide +kernel
theorem dX4_rotateUp_22 : decode cX4_rotateUp 22 = .ok (.iload_n 1, 1) := by decide +kernel
theorem dX4_rotateUp_23 : decode cX4_rotateUp 23 = .ok (.iload_n 3, 1) := by decide +kernel
theorem dX4_rotateUp_24 : decode cX4_rotateUp 24 = .ok (.invokevirtual 54, 3) := by decide +kernel
theorem dX4_rotateUp_27 : decode cX4_rotateUp 27 = .ok (.ifCond .eq 23, 3) := by decide +kernel
theorem dX4_rotateUp_30 : decode cX4_rotateUp 30 = .ok (.aload_n 0, 1) := by decide +kernel
theorem dX4_rotateUp_31 : decode cX4_rotateUp 31 = .ok (.iload_n 1, 1) := by decide +kernel
theorem dX4_rotateUp_32 : decode cX4_rotateUp 32 = .ok (.invokevirtual 58, 3) := by decide +kernel
theorem dX4_rotateUp_35 : decode cX4_rotateUp 35 = .ok (.iinc 2 1, 3) := by decide +kernel
theorem dX4_rotateUp_38 : decode cX4_rotateUp 38 = .ok (.aload_n 0, 1) := by decide +kernel
theorem dX4_rotateUp_39 : decode cX4_rotateUp 39 = .ok (.getfield 18, 3) := by decide +kernel
theorem dX4_rotateUp_42 : decode cX4_rotateUp 42 = .ok (.iload_n 1, 1) := by decide +kernel
theorem dX4_rotateUp_43 : decode cX4_rotateUp 43 = .ok (.invokestatic 38, 3) := by decide +kernel
theorem dX4_rotateUp_46 : decode cX4_rotateUp 46 = .ok (.istore_n 3, 1) := by decide +kernel
theorem dX4_rotateUp_47 : decode cX4_rotateUp 47 = .ok (.goto (-36), 3) := by decide +kernel
theorem dX4_rotateUp_50 : decode cX4_rotateUp 50 = .ok (.iload_n 2, 1) := by decide +kernel
theorem dX4_rotateUp_51 : decode cX4_rotateUp 51 = .ok (.ireturn, 1) := by decide +kernel
theorem dX4_rotateDown_0 : decode cX4_rotateDown 0 = .ok (.iconst 0, 1) := by decide +kernel
theorem dX4_rotateDown_1 : decode cX4_rotateDown 1 = .ok (.istore_n 3, 1) := by decide +kernel
theorem dX4_rotateDown_2 : decode cX4_rotateDown 2 = .ok (.aload_n 0, 1) := by decide +kernel
theorem dX4_rotateDown_3 : decode cX4_rotateDown 3 = .ok (.iload_n 1, 1) := by decide +kernel
theorem dX4_rotateDown_4 : decode cX4_rotateDown 4 = .ok (.invokevirtual 61, 3) := by decide +kernel
theorem dX4_rotateDown_7 : decode cX4_rotateDown 7 = .ok (.istore 4, 2) := by decide +kernel
theorem dX4_rotateDown_9 : decode cX4_rotateDown 9 = .ok (.iload_n 3, 1) := by decide +kernel
theorem dX4_rotateDown_10 : decode cX4_rotateDown 10 = .ok (.bipush 24, 2) := by decide +kernel
theorem dX4_rotateDown_12 : decode cX4_rotateDown 12 = .ok (.if_icmp .ge 41, 3) := by decide +kernel
theorem dX4_rotateDown_15 : decode cX4_rotateDown 15 = .ok (.iload 4, 2) := by decide +kernel
theorem dX4_rotateDown_17 : decode cX4_rotateDown 17 = .ok (.ifCond .eq 36, 3) := by decide +kernel
theorem dX4_rotateDown_20 : decode cX4_rotateDown 20 = .ok (.iload_n 2, 1) := by decide +kernel
theorem dX4_rotateDown_21 : decode cX4_rotateDown 21 = .ok (.ifCond .ne 13, 3) := by decide +kernel
theorem dX4_rotateDown_24 : decode cX4_rotateDown 24 = .ok (.aload_n 0, 1) := by decide +kernel
theorem dX4_rotateDown_25 : decode cX4_rotateDown 25 = .ok (.iload 4, 2) := by decide +kernel
theorem dX4_rotateDown_27 : decode cX4_rotateDown 27 = .ok (.iload_n 1, 1) := by decide +kernel
theorem dX4_rotateDown_28 : decode cX4_rotateDown 28 = .ok (.invokevirtual 54, 3) := by decide +kernel
theorem dX4_rotateDown_31 : decode cX4_rotateDown 31 = .ok (.ifCond .eq 22, 3) := by decide +kernel
theorem dX4_rotateDown_34 : decode cX4_rotateDown 34 = .ok (.aload_n 0, 1) := by decide +kernel
theorem dX4_rotateDown_35 : decode cX4_rotateDown 35 = .ok (.iload 4, 2) := by decide +kernel
theorem dX4_rotateDown_37 : decode cX4_rotateDown 37 = .ok (.invokevirtual 58, 3) := by decide +kernel
theorem dX4_rotateDown_40 : decode cX4_rotateDown 40 = .ok (.iinc 3 1, 3) := by decide +kernel
theorem dX4_rotateDown_43 : decode cX4_rotateDown 43 = .ok (.aload_n 0, 1) := by decide +kernel
theorem dX4_rotateDown_44 : decode cX4_rotateDown 44 = .ok (.iload_n 1, 1) := by decide +kernel
theorem dX4_rotateDown_45 : decode cX4_rotateDown 45 = .ok (.invokevirtual 61, 3) := by decide +kernel
theorem dX4_rotateDown_48 : decode cX4_rotateDown 48 = .ok (.istore 4, 2) := by decide +kernel
theorem dX4_rotateDown_50 : decode cX4_rotateDown 50 = .ok (.goto (-41), 3) := by decide +kernel
theorem dX4_rotateDown_53 : decode cX4_rotateDown 53 = .ok (.iload_n 3, 1) := by decide +kernel
theorem dX4_rotateDown_54 : decode cX4_rotateDown 54 = .ok (.ireturn, 1) := by decide +kernel
theorem dX4_freeSlot_0 : decode cX4_freeSlot 0 = .ok (.iconst 1, 1) := by decide +kernel
theorem dX4_freeSlot_1 : decode cX4_freeSlot 1 = .ok (.istore_n 1, 1) := by decide +kernel
theorem dX4_freeSlot_2 : decode cX4_freeSlot 2 = .ok (.iload_n 1, 1) := by decide +kernel
theorem dX4_freeSlot_3 : decode cX4_freeSlot 3 = .ok (.bipush 24, 2) := by decide +kernel
theorem dX4_freeSlot_5 : decode cX4_freeSlot 5 = .ok (.if_icmp .gt 22, 3) := by decide +kernel
theorem dX4_freeSlot_8 : decode cX4_freeSlot 8 = .ok (.aload_n 0, 1) := by decide +kernel
theorem dX4_freeSlot_9 : decode cX4_freeSlot 9 = .ok (.getfield 27, 3) := by decide +kernel
theorem dX4_freeSlot_12 : decode cX4_freeSlot 12 = .ok (.iload_n 1, 1) := by decide +kernel
theorem dX4_freeSlot_13 : decode cX4_freeSlot 13 = .ok (.invokestatic 38, 3) := by decide +kernel
theorem dX4_freeSlot_16 : decode cX4_freeSlot 16 = .ok (.ifCond .ne 5, 3) := by decide +kernel
theorem dX4_freeSlot_19 : decode cX4_freeSlot 19 = .ok (.iload_n 1, 1) := by decide +kernel
theorem dX4_freeSlot_20 : decode cX4_freeSlot 20 = .ok (.ireturn, 1) := by decide +kernel
theorem dX4_freeSlot_21 : decode cX4_freeSlot 21 = .ok (.iinc 1 1, 3) := by decide +kernel
theorem dX4_freeSlot_24 : decode cX4_freeSlot 24 = .ok (.goto (-22), 3) := by decide +kernel
theorem dX4_freeSlot_27 : decode cX4_freeSlot 27 = .ok (.iconst 0, 1) := by decide +kernel
theorem dX4_freeSlot_28 : decode cX4_freeSlot 28 = .ok (.ireturn, 1) := by decide +kernel
theorem dX4_attach_0 : decode cX4_attach 0 = .ok (.aload_n 0, 1) := by decide +kernel
theorem dX4_attach_1 : decode cX4_attach 1 = .ok (.invokevirtual 65, 3) := by decide +kernel
theorem dX4_attach_4 : decode cX4_attach 4 = .ok (.istore_n 3, 1) := by decide +kernel
theorem dX4_attach_5 : decode cX4_attach 5 = .ok (.iload_n 3, 1) := by decide +kernel
theorem dX4_attach_6 : decode cX4_attach 6 = .ok (.ifCond .ne 5, 3) := by decide +kernel
theorem dX4_attach_9 : decode cX4_attach 9 = .ok (.iconst 0, 1) := by decide +kernel
theorem dX4_attach_10 : decode cX4_attach 10 = .ok (.ireturn, 1) := by decide +kernel
theorem dX4_attach_11 : decode cX4_attach 11 = .ok (.iconst 0, 1) := by decide +kernel
theorem dX4_attach_12 : decode cX4_attach 12 = .ok (.istore 4, 2) := by decide +kernel
theorem dX4_attach_14 : decode cX4_attach 14 = .ok (.aload_n 0, 1) := by decide +kernel
theorem dX4_attach_15 : decode cX4_attach 15 = .ok (.getfield 30, 3) := by decide +kernel
theorem dX4_attach_18 : decode cX4_attach 18 = .ok (.istore 5, 2) := by decide +kernel
theorem dX4_attach_20 : decode cX4_attach 20 = .ok (.iconst 0, 1) := by decide +kernel
theorem dX4_attach_21 : decode cX4_attach 21 = .ok (.istore 6, 2) := by decide +kernel
theorem dX4_attach_23 : decode cX4_attach 23 = .ok (.iload 6, 2) := by decide +kernel
theorem dX4_attach_25 : decode cX4_attach 25 = .ok (.bipush 24, 2) := by decide +kernel
theorem dX4_attach_27 : decode cX4_attach 27 = .ok (.if_icmp .ge 49, 3) := by decide +kernel
theorem dX4_attach_30 : decode cX4_attach 30 = .ok (.iload 5, 2) := by decide +kernel
theorem dX4_attach_32 : decode cX4_attach 32 = .ok (.ifCond .eq 44, 3) := by decide +kernel
theorem dX4_attach_35 : decode cX4_attach 35 = .ok (.iload 5, 2) := by decide +kernel
theorem dX4_attach_37 : decode cX4_attach 37 = .ok (.istore 4, 2) := by decide +kernel
theorem dX4_attach_39 : decode cX4_attach 39 = .ok (.iload_n 1, 1) := by decide +kernel
theorem dX4_attach_40 : decode cX4_attach 40 = .ok (.aload_n 0, 1) := by decide +kernel
theorem dX4_attach_41 : decode cX4_attach 41 = .ok (.getfield 9, 3) := by decide +kernel
theorem dX4_attach_44 : decode cX4_attach 44 = .ok (.iload 5, 2) := by decide +kernel
theorem dX4_attach_46 : decode cX4_attach 46 = .ok (.invokestatic 38, 3) := by decide +kernel
theorem dX4_attach_49 : decode cX4_attach 49 = .ok (.if_icmp .ge 10, 3) := by decide +kernel
theorem dX4_attach_52 : decode cX4_attach 52 = .ok (.aload_n 0, 1) := by decide +kernel
theorem dX4_attach_53 : decode cX4_attach 53 = .ok (.getfield 21, 3) := by decide +kernel
theorem dX4_attach_56 : decode cX4_attach 56 = .ok (.goto 7, 3) := by decide +kernel
theorem dX4_attach_59 : decode cX4_attach 59 = .ok (.aload_n 0, 1) := by decide +kernel
theorem dX4_attach_60 : decode cX4_attach 60 = .ok (.getfield 24, 3) := by decide +kernel
theorem dX4_attach_63 : decode cX4_attach 63 = .ok (.iload 5, 2) := by decide +kernel
theorem dX4_attach_65 : decode cX4_attach 65 = .ok (.invokestatic 38, 3) := by decide +kernel
theorem dX4_attach_68 : decode cX4_attach 68 = .ok (.istore 5, 2) := by decide +kernel
theorem dX4_attach_70 : decode cX4_attach 70 = .ok (.iinc 6 1, 3) := by decide +kernel
theorem dX4_attach_73 : decode cX4_attach 73 = .ok (.goto (-50), 3) := by decide +kernel
theorem dX4_attach_76 : decode cX4_attach 76 = .ok (.aload_n 0, 1) := by decide +kernel
theorem dX4_attach_77 : decode cX4_attach 77 = .ok (.getfield 9, 3) := by decide +kernel
theorem dX4_attach_80 : decode cX4_attach 80 = .ok (.iload_n 3, 1) := by decide +kernel
theorem dX4_attach_81 : decode cX4_attach 81 = .ok (.iload_n 1, 1) := by decide +kernel
theorem dX4_attach_82 : decode cX4_attach 82 = .ok (.invokestatic 42, 3) := by decide +kernel
theorem dX4_attach_85 : decode cX4_attach 85 = .ok (.aload_n 0, 1) := by decide +kernel
theorem dX4_attach_86 : decode cX4_attach 86 = .ok (.getfield 15, 3) := by decide +kernel
theorem dX4_attach_89 : decode cX4_attach 89 = .ok (.iload_n 3, 1) := by decide +kernel
theorem dX4_attach_90 : decode cX4_attach 90 = .ok (.iload_n 2, 1) := by decide +kernel
theorem dX4_attach_91 : decode cX4_attach 91 = .ok (.invokestatic 42, 3) := by decide +kernel
theorem dX4_attach_94 : decode cX4_attach 94 = .ok (.aload_n 0, 1) := by decide +kernel
theorem dX4_attach_95 : decode cX4_attach 95 = .ok (.getfield 21, 3) := by decide +kernel
theorem dX4_attach_98 : decode cX4_attach 98 = .ok (.iload_n 3, 1) := by decide +kernel
theorem dX4_attach_99 : decode cX4_attach 99 = .ok (.iconst 0, 1) := by decide +kernel
theorem dX4_attach_100 : decode cX4_attach 100 = .ok (.invokestatic 42, 3) := by decide +kernel
theorem dX4_attach_103 : decode cX4_attach 103 = .ok (.aload_n 0, 1) := by decide +kernel
theorem dX4_attach_104 : decode cX4_attach 104 = .ok (.getfield 24, 3) := by decide +kernel
theorem dX4_attach_107 : decode cX4_attach 107 = .ok (.iload_n 3, 1) := by decide +kernel
theorem dX4_attach_108 : decode cX4_attach 108 = .ok (.iconst 0, 1) := by decide +kernel
theorem dX4_attach_109 : decode cX4_attach 109 = .ok (.invokestatic 42, 3) := by decide +kernel
theorem dX4_attach_112 : decode cX4_attach 112 = .ok (.aload_n 0, 1) := by decide +kernel
theorem dX4_attach_113 : decode cX4_attach 113 = .ok (.getfield 18, 3) := by decide +kernel
theorem dX4_attach_116 : decode cX4_attach 116 = .ok (.iload_n 3, 1) := by decide +kernel
theorem dX4_attach_117 : decode cX4_attach 117 = .ok (.iload 4, 2) := by decide +kernel
theorem dX4_attach_119 : decode cX4_attach 119 = .ok (.invokestatic 42, 3) := by decide +kernel
theorem dX4_attach_122 : decode cX4_attach 122 = .ok (.iload 4, 2) := by decide +kernel
theorem dX4_attach_124 : decode cX4_attach 124 = .ok (.ifCond .ne 11, 3) := by decide +kernel
theorem dX4_attach_127 : decode cX4_attach 127 = .ok (.aload_n 0, 1) := by decide +kernel
theorem dX4_attach_128 : decode cX4_attach 128 = .ok (.iload_n 3, 1) := by decide +kernel
theorem dX4_attach_129 : decode cX4_attach 129 = .ok (.putfield 30, 3) := by decide +kernel
theorem dX4_attach_132 : decode cX4_attach 132 = .ok (.goto 33, 3) := by decide +kernel
theorem dX4_attach_135 : decode cX4_attach 135 = .ok (.iload_n 1, 1) := by decide +kernel
theorem dX4_attach_136 : decode cX4_attach 136 = .ok (.aload_n 0, 1) := by decide +kernel
theorem dX4_attach_137 : decode cX4_attach 137 = .ok (.getfield 9, 3) := by decide +kernel
theorem dX4_attach_140 : decode cX4_attach 140 = .ok (.iload 4, 2) := by decide +kernel
theorem dX4_attach_142 : decode cX4_attach 142 = .ok (.invokestatic 38, 3) := by decide +kernel
theorem dX4_attach_145 : decode cX4_attach 145 = .ok (.if_icmp .ge 10, 3) := by decide +kernel
theorem dX4_attach_148 : decode cX4_attach 148 = .ok (.aload_n 0, 1) := by decide +kernel
theorem dX4_attach_149 : decode cX4_attach 149 = .ok (.getfield 21, 3) := by decide +kernel
theorem dX4_attach_152 : decode cX4_attach 152 = .ok (.goto 7, 3) := by decide +kernel
theorem dX4_attach_155 : decode cX4_attach 155 = .ok (.aload_n 0, 1) := by decide +kernel
theorem dX4_attach_156 : decode cX4_attach 156 = .ok (.getfield 24, 3) := by decide +kernel
theorem dX4_attach_159 : decode cX4_attach 159 = .ok (.iload 4, 2) := by decide +kernel
theorem dX4_attach_161 : decode cX4_attach 161 = .ok (.iload_n 3, 1) := by decide +kernel
theorem dX4_attach_162 : decode cX4_attach 162 = .ok (.invokestatic 42, 3) := by decide +kernel
theorem dX4_attach_165 : decode cX4_attach 165 = .ok (.aload_n 0, 1) := by decide +kernel
theorem dX4_attach_166 : decode cX4_attach 166 = .ok (.iload_n 3, 1) := by decide +kernel
theorem dX4_attach_167 : decode cX4_attach 167 = .ok (.invokevirtual 69, 3) := by decide +kernel
theorem dX4_attach_170 : decode cX4_attach 170 = .ok (.iload_n 3, 1) := by decide +kernel
theorem dX4_attach_171 : decode cX4_attach 171 = .ok (.ireturn, 1) := by decide +kernel
theorem dX4_detach_0 : decode cX4_detach 0 = .ok (.aload_n 0, 1) := by decide +kernel
theorem dX4_detach_1 : decode cX4_detach 1 = .ok (.getfield 18, 3) := by decide +kernel
theorem dX4_detach_4 : decode cX4_detach 4 = .ok (.iload_n 1, 1) := by decide +kernel
theorem dX4_detach_5 : decode cX4_detach 5 = .ok (.invokestatic 38, 3) := by decide +kernel
theorem dX4_detach_8 : decode cX4_detach 8 = .ok (.istore_n 2, 1) := by decide +kernel
theorem dX4_detach_9 : decode cX4_detach 9 = .ok (.aload_n 0, 1) := by decide +kernel
theorem dX4_detach_10 : decode cX4_detach 10 = .ok (.iload_n 2, 1) := by decide +kernel
theorem dX4_detach_11 : decode cX4_detach 11 = .ok (.iload_n 1, 1) := by decide +kernel
theorem dX4_detach_12 : decode cX4_detach 12 = .ok (.iconst 0, 1) := by decide +kernel
theorem dX4_detach_13 : decode cX4_detach 13 = .ok (.invokevirtual 50, 3) := by decide +kernel
theorem dX4_detach_16 : decode cX4_detach 16 = .ok (.aload_n 0, 1) := by decide +kernel
theorem dX4_detach_17 : decode cX4_detach 17 = .ok (.getfield 27, 3) := by decide +kernel
theorem dX4_detach_20 : decode cX4_detach 20 = .ok (.iload_n 1, 1) := by decide +kernel
theorem dX4_detach_21 : decode cX4_detach 21 = .ok (.iconst 0, 1) := by decide +kernel
theorem dX4_detach_22 : decode cX4_detach 22 = .ok (.invokestatic 42, 3) := by decide +kernel
theorem dX4_detach_25 : decode cX4_detach 25 = .ok (.aload_n 0, 1) := by decide +kernel
theorem dX4_detach_26 : decode cX4_detach 26 = .ok (.iload_n 2, 1) := by decide +kernel
theorem dX4_detach_27 : decode cX4_detach 27 = .ok (.invokevirtual 69, 3) := by decide +kernel
theorem dX4_detach_30 : decode cX4_detach 30 = .ok (.return_, 1) := by decide +kernel
theorem dX4_putPriority_0 : decode cX4_putPriority 0 = .ok (.aload_n 0, 1) := by decide +kernel
theorem dX4_putPriority_1 : decode cX4_putPriority 1 = .ok (.getfield 15, 3) := by decide +kernel
theorem dX4_putPriority_4 : decode cX4_putPriority 4 = .ok (.iload_n 1, 1) := by decide +kernel
theorem dX4_putPriority_5 : decode cX4_putPriority 5 = .ok (.iload_n 2, 1) := by decide +kernel
theorem dX4_putPriority_6 : decode cX4_putPriority 6 = .ok (.invokestatic 42, 3) := by decide +kernel
theorem dX4_putPriority_9 : decode cX4_putPriority 9 = .ok (.return_, 1) := by decide +kernel
theorem dX4_removeRange_0 : decode cX4_removeRange 0 = .ok (.iconst 0, 1) := by decide +kernel
theorem dX4_removeRange_1 : decode cX4_removeRange 1 = .ok (.istore_n 3, 1) := by decide +kernel
theorem dX4_removeRange_2 : decode cX4_removeRange 2 = .ok (.iconst 1, 1) := by decide +kernel
theorem dX4_removeRange_3 : decode cX4_removeRange 3 = .ok (.istore 4, 2) := by decide +kernel
theorem dX4_removeRange_5 : decode cX4_removeRange 5 = .ok (.iload 4, 2) := by decide +kernel
theorem dX4_removeRange_7 : decode cX4_removeRange 7 = .ok (.bipush 24, 2) := by decide +kernel
theorem dX4_removeRange_9 : decode cX4_removeRange 9 = .ok (.if_icmp .gt 37, 3) := by decide +kernel
theorem dX4_removeRange_12 : decode cX4_removeRange 12 = .ok (.aload_n 0, 1) := by decide +kernel
theorem dX4_removeRange_13 : decode cX4_removeRange 13 = .ok (.iload 4, 2) := by decide +kernel
theorem dX4_removeRange_15 : decode cX4_removeRange 15 = .ok (.iload_n 1, 1) := by decide +kernel
theorem dX4_removeRange_16 : decode cX4_removeRange 16 = .ok (.iload_n 2, 1) := by decide +kernel
theorem dX4_removeRange_17 : decode cX4_removeRange 17 = .ok (.invokevirtual 72, 3) := by decide +kernel
theorem dX4_removeRange_20 : decode cX4_removeRange 20 = .ok (.ifCond .eq 20, 3) := by decide +kernel
theorem dX4_removeRange_23 : decode cX4_removeRange 23 = .ok (.aload_n 0, 1) := by decide +kernel
theorem dX4_removeRange_24 : decode cX4_removeRange 24 = .ok (.iload 4, 2) := by decide +kernel
theorem dX4_removeRange_26 : decode cX4_removeRange 26 = .ok (.iconst 1, 1) := by decide +kernel
theorem dX4_removeRange_27 : decode cX4_removeRange 27 = .ok (.invokevirtual 76, 3) := by decide +kernel
theorem dX4_removeRange_30 : decode cX4_removeRange 30 = .ok (.pop, 1) := by decide +kernel
theorem dX4_removeRange_31 : decode cX4_removeRange 31 = .ok (.aload_n 0, 1) := by decide +kernel
theorem dX4_removeRange_32 : decode cX4_removeRange 32 = .ok (.iload 4, 2) := by decide +kernel
theorem dX4_removeRange_34 : decode cX4_removeRange 34 = .ok (.invokevirtual 80, 3) := by decide +kernel
theorem dX4_removeRange_37 : decode cX4_removeRange 37 = .ok (.iinc 3 1, 3) := by decide +kernel
theorem dX4_removeRange_40 : decode cX4_removeRange 40 = .ok (.iinc 4 1, 3) := by decide +kernel
theorem dX4_removeRange_43 : decode cX4_removeRange 43 = .ok (.goto (-38), 3) := by decide +kernel
theorem dX4_removeRange_46 : decode cX4_removeRange 46 = .ok (.iload_n 3, 1) := by decide +kernel
theorem dX4_removeRange_47 : decode cX4_removeRange 47 = .ok (.ireturn, 1) := by decide +kernel
theorem dX4_slotOf_0 : decode cX4_slotOf 0 = .ok (.aload_n 0, 1) := by decide +kernel
theorem dX4_slotOf_1 : decode cX4_slotOf 1 = .ok (.getfield 30, 3) := by decide +kernel
theorem dX4_slotOf_4 : decode cX4_slotOf 4 = .ok (.istore_n 2, 1) := by decide +kernel
theorem dX4_slotOf_5 : decode cX4_slotOf 5 = .ok (.iconst 0, 1) := by decide +kernel
theorem dX4_slotOf_6 : decode cX4_slotOf 6 = .ok (.istore_n 3, 1) := by decide +kernel
theorem dX4_slotOf_7 : decode cX4_slotOf 7 = .ok (.iload_n 3, 1) := by decide +kernel
theorem dX4_slotOf_8 : decode cX4_slotOf 8 = .ok (.bipush 24, 2) := by decide +kernel
theorem dX4_slotOf_10 : decode cX4_slotOf 10 = .ok (.if_icmp .ge 53, 3) := by decide +kernel
theorem dX4_slotOf_13 : decode cX4_slotOf 13 = .ok (.iload_n 2, 1) := by decide +kernel
theorem dX4_slotOf_14 : decode cX4_slotOf 14 = .ok (.ifCond .eq 49, 3) := by decide +kernel
theorem dX4_slotOf_17 : decode cX4_slotOf 17 = .ok (.aload_n 0, 1) := by decide +kernel
theorem dX4_slotOf_18 : decode cX4_slotOf 18 = .ok (.getfield 9, 3) := by decide +kernel
theorem dX4_slotOf_21 : decode cX4_slotOf 21 = .ok (.iload_n 2, 1) := by decide +kernel
theorem dX4_slotOf_22 : decode cX4_slotOf 22 = .ok (.invokestatic 38, 3) := by decide +kernel
theorem dX4_slotOf_25 : decode cX4_slotOf 25 = .ok (.istore 4, 2) := by decide +kernel
theorem dX4_slotOf_27 : decode cX4_slotOf 27 = .ok (.iload 4, 2) := by decide +kernel
theorem dX4_slotOf_29 : decode cX4_slotOf 29 = .ok (.iload_n 1, 1) := by decide +kernel
theorem dX4_slotOf_30 : decode cX4_slotOf 30 = .ok (.if_icmp .ne 5, 3) := by decide +kernel
theorem dX4_slotOf_33 : decode cX4_slotOf 33 = .ok (.iload_n 2, 1) := by decide +kernel
theorem dX4_slotOf_34 : decode cX4_slotOf 34 = .ok (.ireturn, 1) := by decide +kernel
theorem dX4_slotOf_35 : decode cX4_slotOf 35 = .ok (.iload_n 1, 1) := by decide +kernel
theorem dX4_slotOf_36 : decode cX4_slotOf 36 = .ok (.iload 4, 2) := by decide +kernel
theorem dX4_slotOf_38 : decode cX4_slotOf 38 = .ok (.if_icmp .ge 10, 3) := by decide +kernel
theorem dX4_slotOf_41 : decode cX4_slotOf 41 = .ok (.aload_n 0, 1) := by decide +kernel
theorem dX4_slotOf_42 : decode cX4_slotOf 42 = .ok (.getfield 21, 3) := by decide +kernel
theorem dX4_slotOf_45 : decode cX4_slotOf 45 = .ok (.goto 7, 3) := by decide +kernel
theorem dX4_slotOf_48 : decode cX4_slotOf 48 = .ok (.aload_n 0, 1) := by decide +kernel
theorem dX4_slotOf_49 : decode cX4_slotOf 49 = .ok (.getfield 24, 3) := by decide +kernel
theorem dX4_slotOf_52 : decode cX4_slotOf 52 = .ok (.iload_n 2, 1) := by decide +kernel
theorem dX4_slotOf_53 : decode cX4_slotOf 53 = .ok (.invokestatic 38, 3) := by decide +kernel
theorem dX4_slotOf_56 : decode cX4_slotOf 56 = .ok (.istore_n 2, 1) := by decide +kernel
theorem dX4_slotOf_57 : decode cX4_slotOf 57 = .ok (.iinc 3 1, 3) := by decide +kernel
theorem dX4_slotOf_60 : decode cX4_slotOf 60 = .ok (.goto (-53), 3) := by decide +kernel
theorem dX4_slotOf_63 : decode cX4_slotOf 63 = .ok (.iconst 0, 1) := by decide +kernel
theorem dX4_slotOf_64 : decode cX4_slotOf 64 = .ok (.ireturn, 1) := by decide +kernel
theorem dX4_floorSlot_0 : decode cX4_floorSlot 0 = .ok (.iconst 0, 1) := by decide +kernel
theorem dX4_floorSlot_1 : decode cX4_floorSlot 1 = .ok (.istore_n 2, 1) := by decide +kernel
theorem dX4_floorSlot_2 : decode cX4_floorSlot 2 = .ok (.aload_n 0, 1) := by decide +kernel
theorem dX4_floorSlot_3 : decode cX4_floorSlot 3 = .ok (.getfield 30, 3) := by decide +kernel
theorem dX4_floorSlot_6 : decode cX4_floorSlot 6 = .ok (.istore_n 3, 1) := by decide +kernel
theorem dX4_floorSlot_7 : decode cX4_floorSlot 7 = .ok (.iconst 0, 1) := by decide +kernel
theorem dX4_floorSlot_8 : decode cX4_floorSlot 8 = .ok (.istore 4, 2) := by decide +kernel
theorem dX4_floorSlot_10 : decode cX4_floorSlot 10 = .ok (.iload 4, 2) := by decide +kernel
theorem dX4_floorSlot_12 : decode cX4_floorSlot 12 = .ok (.bipush 24, 2) := by decide +kernel
theorem dX4_floorSlot_14 : decode cX4_floorSlot 14 = .ok (.if_icmp .ge 48, 3) := by decide +kernel
theorem dX4_floorSlot_17 : decode cX4_floorSlot 17 = .ok (.iload_n 3, 1) := by decide +kernel
theorem dX4_floorSlot_18 : decode cX4_floorSlot 18 = .ok (.ifCond .eq 44, 3) := by decide +kernel
theorem dX4_floorSlot_21 : decode cX4_floorSlot 21 = .ok (.aload_n 0, 1) := by decide +kernel
theorem dX4_floorSlot_22 : decode cX4_floorSlot 22 = .ok (.getfield 9, 3) := by decide +kernel
theorem dX4_floorSlot_25 : decode cX4_floorSlot 25 = .ok (.iload_n 3, 1) := by decide +kernel
theorem dX4_floorSlot_26 : decode cX4_floorSlot 26 = .ok (.invokestatic 38, 3) := by decide +kernel
theorem dX4_floorSlot_29 : decode cX4_floorSlot 29 = .ok (.iload_n 1, 1) := by decide +kernel
theorem dX4_floorSlot_30 : decode cX4_floorSlot 30 = .ok (.if_icmp .gt 17, 3) := by decide +kernel
theorem dX4_floorSlot_33 : decode cX4_floorSlot 33 = .ok (.iload_n 3, 1) := by decide +kernel
theorem dX4_floorSlot_34 : decode cX4_floorSlot 34 = .ok (.istore_n 2, 1) := by decide +kernel
theorem dX4_floorSlot_35 : decode cX4_floorSlot 35 = .ok (.aload_n 0, 1) := by decide +kernel
theorem dX4_floorSlot_36 : decode cX4_floorSlot 36 = .ok (.getfield 24, 3) := by decide +kernel
theorem dX4_floorSlot_39 : decode cX4_floorSlot 39 = .ok (.iload_n 3, 1) := by decide +kernel
theorem dX4_floorSlot_40 : decode cX4_floorSlot 40 = .ok (.invokestatic 38, 3) := by decide +kernel
theorem dX4_floorSlot_43 : decode cX4_floorSlot 43 = .ok (.istore_n 3, 1) := by decide +kernel
theorem dX4_floorSlot_44 : decode cX4_floorSlot 44 = .ok (.goto 12, 3) := by decide +kernel
theorem dX4_floorSlot_47 : decode cX4_floorSlot 47 = .ok (.aload_n 0, 1) := by decide +kernel
theorem dX4_floorSlot_48 : decode cX4_floorSlot 48 = .ok (.getfield 21, 3) := by decide +kernel
theorem dX4_floorSlot_51 : decode cX4_floorSlot 51 = .ok (.iload_n 3, 1) := by decide +kernel
theorem dX4_floorSlot_52 : decode cX4_floorSlot 52 = .ok (.invokestatic 38, 3) := by decide +kernel
theorem dX4_floorSlot_55 : decode cX4_floorSlot 55 = .ok (.istore_n 3, 1) := by decide +kernel
theorem dX4_floorSlot_56 : decode cX4_floorSlot 56 = .ok (.iinc 4 1, 3) := by decide +kernel
theorem dX4_floorSlot_59 : decode cX4_floorSlot 59 = .ok (.goto (-49), 3) := by decide +kernel
theorem dX4_floorSlot_62 : decode cX4_floorSlot 62 = .ok (.iload_n 2, 1) := by decide +kernel
theorem dX4_floorSlot_63 : decode cX4_floorSlot 63 = .ok (.ireturn, 1) := by decide +kernel
theorem dX4_ceilingSlot_0 : decode cX4_ceilingSlot 0 = .ok (.iconst 0, 1) := by decide +kernel
theorem dX4_ceilingSlot_1 : decode cX4_ceilingSlot 1 = .ok (.istore_n 2, 1) := by decide +kernel
theorem dX4_ceilingSlot_2 : decode cX4_ceilingSlot 2 = .ok (.aload_n 0, 1) := by decide +kernel
theorem dX4_ceilingSlot_3 : decode cX4_ceilingSlot 3 = .ok (.getfield 30, 3) := by decide +kernel
theorem dX4_ceilingSlot_6 : decode cX4_ceilingSlot 6 = .ok (.istore_n 3, 1) := by decide +kernel
theorem dX4_ceilingSlot_7 : decode cX4_ceilingSlot 7 = .ok (.iconst 0, 1) := by decide +kernel
theorem dX4_ceilingSlot_8 : decode cX4_ceilingSlot 8 = .ok (.istore 4, 2) := by decide +kernel
theorem dX4_ceilingSlot_10 : decode cX4_ceilingSlot 10 = .ok (.iload 4, 2) := by decide +kernel
theorem dX4_ceilingSlot_12 : decode cX4_ceilingSlot 12 = .ok (.bipush 24, 2) := by decide +kernel
theorem dX4_ceilingSlot_14 : decode cX4_ceilingSlot 14 = .ok (.if_icmp .ge 48, 3) := by decide +kernel
theorem dX4_ceilingSlot_17 : decode cX4_ceilingSlot 17 = .ok (.iload_n 3, 1) := by decide +kernel
theorem dX4_ceilingSlot_18 : decode cX4_ceilingSlot 18 = .ok (.ifCond .eq 44, 3) := by decide +kernel
theorem dX4_ceilingSlot_21 : decode cX4_ceilingSlot 21 = .ok (.aload_n 0, 1) := by decide +kernel
theorem dX4_ceilingSlot_22 : decode cX4_ceilingSlot 22 = .ok (.getfield 9, 3) := by decide +kernel
theorem dX4_ceilingSlot_25 : decode cX4_ceilingSlot 25 = .ok (.iload_n 3, 1) := by decide +kernel
theorem dX4_ceilingSlot_26 : decode cX4_ceilingSlot 26 = .ok (.invokestatic 38, 3) := by decide +kernel
theorem dX4_ceilingSlot_29 : decode cX4_ceilingSlot 29 = .ok (.iload_n 1, 1) := by decide +kernel
theorem dX4_ceilingSlot_30 : decode cX4_ceilingSlot 30 = .ok (.if_icmp .lt 17, 3) := by decide +kernel
theorem dX4_ceilingSlot_33 : decode cX4_ceilingSlot 33 = .ok (.iload_n 3, 1) := by decide +kernel
theorem dX4_ceilingSlot_34 : decode cX4_ceilingSlot 34 = .ok (.istore_n 2, 1) := by decide +kernel
theorem dX4_ceilingSlot_35 : decode cX4_ceilingSlot 35 = .ok (.aload_n 0, 1) := by decide +kernel
theorem dX4_ceilingSlot_36 : decode cX4_ceilingSlot 36 = .ok (.getfield 21, 3) := by decide +kernel
theorem dX4_ceilingSlot_39 : decode cX4_ceilingSlot 39 = .ok (.iload_n 3, 1) := by decide +kernel
theorem dX4_ceilingSlot_40 : decode cX4_ceilingSlot 40 = .ok (.invokestatic 38, 3) := by decide +kernel
theorem dX4_ceilingSlot_43 : decode cX4_ceilingSlot 43 = .ok (.istore_n 3, 1) := by decide +kernel
theorem dX4_ceilingSlot_44 : decode cX4_ceilingSlot 44 = .ok (.goto 12, 3) := by decide +kernel
theorem dX4_ceilingSlot_47 : decode cX4_ceilingSlot 47 = .ok (.aload_n 0, 1) := by decide +kernel
theorem dX4_ceilingSlot_48 : decode cX4_ceilingSlot 48 = .ok (.getfield 24, 3) := by decide +kernel
theorem dX4_ceilingSlot_51 : decode cX4_ceilingSlot 51 = .ok (.iload_n 3, 1) := by decide +kernel
theorem dX4_ceilingSlot_52 : decode cX4_ceilingSlot 52 = .ok (.invokestatic 38, 3) := by decide +kernel
theorem dX4_ceilingSlot_55 : decode cX4_ceilingSlot 55 = .ok (.istore_n 3, 1) := by decide +kernel
theorem dX4_ceilingSlot_56 : decode cX4_ceilingSlot 56 = .ok (.iinc 4 1, 3) := by decide +kernel
theorem dX4_ceilingSlot_59 : decode cX4_ceilingSlot 59 = .ok (.goto (-49), 3) := by decide +kernel
theorem dX4_ceilingSlot_62 : decode cX4_ceilingSlot 62 = .ok (.iload_n 2, 1) := by decide +kernel
theorem dX4_ceilingSlot_63 : decode cX4_ceilingSlot 63 = .ok (.ireturn, 1) := by decide +kernel
theorem dX4_countBelow_0 : decode cX4_countBelow 0 = .ok (.iconst 0, 1) := by decide +kernel
theorem dX4_countBelow_1 : decode cX4_countBelow 1 = .ok (.istore_n 2, 1) := by decide +kernel
theorem dX4_countBelow_2 : decode cX4_countBelow 2 = .ok (.aload_n 0, 1) := by decide +kernel
theorem dX4_countBelow_3 : decode cX4_countBelow 3 = .ok (.getfield 30, 3) := by decide +kernel
theorem dX4_countBelow_6 : decode cX4_countBelow 6 = .ok (.istore_n 3, 1) := by decide +kernel
theorem dX4_countBelow_7 : decode cX4_countBelow 7 = .ok (.iconst 0, 1) := by decide +kernel
theorem dX4_countBelow_8 : decode cX4_countBelow 8 = .ok (.istore 4, 2) := by decide +kernel
theorem dX4_countBelow_10 : decode cX4_countBelow 10 = .ok (.iload 4, 2) := by decide +kernel
theorem dX4_countBelow_12 : decode cX4_countBelow 12 = .ok (.bipush 24, 2) := by decide +kernel
theorem dX4_countBelow_14 : decode cX4_countBelow 14 = .ok (.if_icmp .ge 66, 3) := by decide +kernel
theorem dX4_countBelow_17 : decode cX4_countBelow 17 = .ok (.iload_n 3, 1) := by decide +kernel
theorem dX4_countBelow_18 : decode cX4_countBelow 18 = .ok (.ifCond .eq 62, 3) := by decide +kernel
theorem dX4_countBelow_21 : decode cX4_countBelow 21 = .ok (.aload_n 0, 1) := by decide +kernel
theorem dX4_countBelow_22 : decode cX4_countBelow 22 = .ok (.getfield 9, 3) := by decide +kernel
theorem dX4_countBelow_25 : decode cX4_countBelow 25 = .ok (.iload_n 3, 1) := by decide +kernel
theorem dX4_countBelow_26 : decode cX4_countBelow 26 = .ok (.invokestatic 38, 3) := by decide +kernel
theorem dX4_countBelow_29 : decode cX4_countBelow 29 = .ok (.iload_n 1, 1) := by decide +kernel
theorem dX4_countBelow_30 : decode cX4_countBelow 30 = .ok (.if_icmp .ge 35, 3) := by decide +kernel
theorem dX4_countBelow_33 : decode cX4_countBelow 33 = .ok (.iload_n 2, 1) := by decide +kernel
theorem dX4_countBelow_34 : decode cX4_countBelow 34 = .ok (.iconst 1, 1) := by decide +kernel
theorem dX4_countBelow_35 : decode cX4_countBelow 35 = .ok (.aload_n 0, 1) := by decide +kernel
theorem dX4_countBelow_36 : decode cX4_countBelow 36 = .ok (.getfield 27, 3) := by decide +kernel
theorem dX4_countBelow_39 : decode cX4_countBelow 39 = .ok (.aload_n 0, 1) := by decide +kernel
theorem dX4_countBelow_40 : decode cX4_countBelow 40 = .ok (.getfield 21, 3) := by decide +kernel
theorem dX4_countBelow_43 : decode cX4_countBelow 43 = .ok (.iload_n 3, 1) := by decide +kernel
theorem dX4_countBelow_44 : decode cX4_countBelow 44 = .ok (.invokestatic 38, 3) := by decide +kernel
theorem dX4_countBelow_47 : decode cX4_countBelow 47 = .ok (.invokestatic 38, 3) := by decide +kernel
theorem dX4_countBelow_50 : decode cX4_countBelow 50 = .ok (.iadd, 1) := by decide +kernel
theorem dX4_countBelow_51 : decode cX4_countBelow 51 = .ok (.iadd, 1) := by decide +kernel
theorem dX4_countBelow_52 : decode cX4_countBelow 52 = .ok (.istore_n 2, 1) := by decide +kernel
theorem dX4_countBelow_53 : decode cX4_countBelow 53 = .ok (.aload_n 0, 1) := by decide +kernel
theorem dX4_countBelow_54 : decode cX4_countBelow 54 = .ok (.getfield 24, 3) := by decide +kernel
theorem dX4_countBelow_57 : decode cX4_countBelow 57 = .ok (.iload_n 3, 1) := by decide +kernel
theorem dX4_countBelow_58 : decode cX4_countBelow 58 = .ok (.invokestatic 38, 3) := by decide +kernel
theorem dX4_countBelow_61 : decode cX4_countBelow 61 = .ok (.istore_n 3, 1) := by decide +kernel
theorem dX4_countBelow_62 : decode cX4_countBelow 62 = .ok (.goto 12, 3) := by decide +kernel
theorem dX4_countBelow_65 : decode cX4_countBelow 65 = .ok (.aload_n 0, 1) := by decide +kernel
theorem dX4_countBelow_66 : decode cX4_countBelow 66 = .ok (.getfield 21, 3) := by decide +kernel
theorem dX4_countBelow_69 : decode cX4_countBelow 69 = .ok (.iload_n 3, 1) := by decide +kernel
theorem dX4_countBelow_70 : decode cX4_countBelow 70 = .ok (.invokestatic 38, 3) := by decide +kernel
theorem dX4_countBelow_73 : decode cX4_countBelow 73 = .ok (.istore_n 3, 1) := by decide +kernel
theorem dX4_countBelow_74 : decode cX4_countBelow 74 = .ok (.iinc 4 1, 3) := by decide +kernel
theorem dX4_countBelow_77 : decode cX4_countBelow 77 = .ok (.goto (-67), 3) := by decide +kernel
theorem dX4_countBelow_80 : decode cX4_countBelow 80 = .ok (.iload_n 2, 1) := by decide +kernel
theorem dX4_countBelow_81 : decode cX4_countBelow 81 = .ok (.ireturn, 1) := by decide +kernel
theorem dX4_countBetween_0 : decode cX4_countBetween 0 = .ok (.aload_n 0, 1) := by decide +kernel
theorem dX4_countBetween_1 : decode cX4_countBetween 1 = .ok (.iload_n 2, 1) := by decide +kernel
theorem dX4_countBetween_2 : decode cX4_countBetween 2 = .ok (.iconst 1, 1) := by decide +kernel
theorem dX4_countBetween_3 : decode cX4_countBetween 3 = .ok (.iadd, 1) := by decide +kernel
theorem dX4_countBetween_4 : decode cX4_countBetween 4 = .ok (.invokevirtual 83, 3) := by decide +kernel
theorem dX4_countBetween_7 : decode cX4_countBetween 7 = .ok (.aload_n 0, 1) := by decide +kernel
theorem dX4_countBetween_8 : decode cX4_countBetween 8 = .ok (.iload_n 1, 1) := by decide +kernel
theorem dX4_countBetween_9 : decode cX4_countBetween 9 = .ok (.invokevirtual 83, 3) := by decide +kernel
theorem dX4_countBetween_12 : decode cX4_countBetween 12 = .ok (.isub, 1) := by decide +kernel
theorem dX4_countBetween_13 : decode cX4_countBetween 13 = .ok (.ireturn, 1) := by decide +kernel
theorem dX4_slotAtPosition_0 : decode cX4_slotAtPosition 0 = .ok (.iload_n 1, 1) := by decide +kernel
theorem dX4_slotAtPosition_1 : decode cX4_slotAtPosition 1 = .ok (.ifCond .ge 5, 3) := by decide +kernel
theorem dX4_slotAtPosition_4 : decode cX4_slotAtPosition 4 = .ok (.iconst 0, 1) := by decide +kernel
theorem dX4_slotAtPosition_5 : decode cX4_slotAtPosition 5 = .ok (.ireturn, 1) := by decide +kernel
theorem dX4_slotAtPosition_6 : decode cX4_slotAtPosition 6 = .ok (.iload_n 1, 1) := by decide +kernel
theorem dX4_slotAtPosition_7 : decode cX4_slotAtPosition 7 = .ok (.istore_n 2, 1) := by decide +kernel
theorem dX4_slotAtPosition_8 : decode cX4_slotAtPosition 8 = .ok (.aload_n 0, 1) := by decide +kernel
theorem dX4_slotAtPosition_9 : decode cX4_slotAtPosition 9 = .ok (.getfield 30, 3) := by decide +kernel
theorem dX4_slotAtPosition_12 : decode cX4_slotAtPosition 12 = .ok (.istore_n 3, 1) := by decide +kernel
theorem dX4_slotAtPosition_13 : decode cX4_slotAtPosition 13 = .ok (.iconst 0, 1) := by decide +kernel
theorem dX4_slotAtPosition_14 : decode cX4_slotAtPosition 14 = .ok (.istore 4, 2) := by decide +kernel
theorem dX4_slotAtPosition_16 : decode cX4_slotAtPosition 16 = .ok (.iload 4, 2) := by decide +kernel
theorem dX4_slotAtPosition_18 : decode cX4_slotAtPosition 18 = .ok (.bipush 24, 2) := by decide +kernel
theorem dX4_slotAtPosition_20 : decode cX4_slotAtPosition 20 = .ok (.if_icmp .ge 72, 3) := by decide +kernel
theorem dX4_slotAtPosition_23 : decode cX4_slotAtPosition 23 = .ok (.iload_n 3, 1) := by decide +kernel
theorem dX4_slotAtPosition_24 : decode cX4_slotAtPosition 24 = .ok (.ifCond .eq 68, 3) := by decide +kernel
theorem dX4_slotAtPosition_27 : decode cX4_slotAtPosition 27 = .ok (.aload_n 0, 1) := by decide +kernel
theorem dX4_slotAtPosition_28 : decode cX4_slotAtPosition 28 = .ok (.getfield 27, 3) := by decide +kernel
theorem dX4_slotAtPosition_31 : decode cX4_slotAtPosition 31 = .ok (.aload_n 0, 1) := by decide +kernel
theorem dX4_slotAtPosition_32 : decode cX4_slotAtPosition 32 = .ok (.getfield 21, 3) := by decide +kernel
theorem dX4_slotAtPosition_35 : decode cX4_slotAtPosition 35 = .ok (.iload_n 3, 1) := by decide +kernel
theorem dX4_slotAtPosition_36 : decode cX4_slotAtPosition 36 = .ok (.invokestatic 38, 3) := by decide +kernel
theorem dX4_slotAtPosition_39 : decode cX4_slotAtPosition 39 = .ok (.invokestatic 38, 3) := by decide +kernel
theorem dX4_slotAtPosition_42 : decode cX4_slotAtPosition 42 = .ok (.istore 5, 2) := by decide +kernel
theorem dX4_slotAtPosition_44 : decode cX4_slotAtPosition 44 = .ok (.iload_n 2, 1) := by decide +kernel
theorem dX4_slotAtPosition_45 : decode cX4_slotAtPosition 45 = .ok (.iload 5, 2) := by decide +kernel
theorem dX4_slotAtPosition_47 : decode cX4_slotAtPosition 47 = .ok (.if_icmp .ne 5, 3) := by decide +kernel
theorem dX4_slotAtPosition_50 : decode cX4_slotAtPosition 50 = .ok (.iload_n 3, 1) := by decide +kernel
theorem dX4_slotAtPosition_51 : decode cX4_slotAtPosition 51 = .ok (.ireturn, 1) := by decide +kernel
theorem dX4_slotAtPosition_52 : decode cX4_slotAtPosition 52 = .ok (.iload_n 2, 1) := by decide +kernel
theorem dX4_slotAtPosition_53 : decode cX4_slotAtPosition 53 = .ok (.iload 5, 2) := by decide +kernel
theorem dX4_slotAtPosition_55 : decode cX4_slotAtPosition 55 = .ok (.if_icmp .ge 15, 3) := by decide +kernel
theorem dX4_slotAtPosition_58 : decode cX4_slotAtPosition 58 = .ok (.aload_n 0, 1) := by decide +kernel
theorem dX4_slotAtPosition_59 : decode cX4_slotAtPosition 59 = .ok (.getfield 21, 3) := by decide +kernel
theorem dX4_slotAtPosition_62 : decode cX4_slotAtPosition 62 = .ok (.iload_n 3, 1) := by decide +kernel
theorem dX4_slotAtPosition_63 : decode cX4_slotAtPosition 63 = .ok (.invokestatic 38, 3) := by decide +kernel
theorem dX4_slotAtPosition_66 : decode cX4_slotAtPosition 66 = .ok (.istore_n 3, 1) := by decide +kernel
theorem dX4_slotAtPosition_67 : decode cX4_slotAtPosition 67 = .ok (.goto 19, 3) := by decide +kernel
theorem dX4_slotAtPosition_70 : decode cX4_slotAtPosition 70 = .ok (.iload_n 2, 1) := by decide +kernel
theorem dX4_slotAtPosition_71 : decode cX4_slotAtPosition 71 = .ok (.iload 5, 2) := by decide +kernel
theorem dX4_slotAtPosition_73 : decode cX4_slotAtPosition 73 = .ok (.iconst 1, 1) := by decide +kernel
theorem dX4_slotAtPosition_74 : decode cX4_slotAtPosition 74 = .ok (.iadd, 1) := by decide +kernel
theorem dX4_slotAtPosition_75 : decode cX4_slotAtPosition 75 = .ok (.isub, 1) := by decide +kernel
theorem dX4_slotAtPosition_76 : decode cX4_slotAtPosition 76 = .ok (.istore_n 2, 1) := by decide +kernel
theorem dX4_slotAtPosition_77 : decode cX4_slotAtPosition 77 = .ok (.aload_n 0, 1) := by decide +kernel
theorem dX4_slotAtPosition_78 : decode cX4_slotAtPosition 78 = .ok (.getfield 24, 3) := by decide +kernel
theorem dX4_slotAtPosition_81 : decode cX4_slotAtPosition 81 = .ok (.iload_n 3, 1) := by decide +kernel
theorem dX4_slotAtPosition_82 : decode cX4_slotAtPosition 82 = .ok (.invokestatic 38, 3) := by decide +kernel
theorem dX4_slotAtPosition_85 : decode cX4_slotAtPosition 85 = .ok (.istore_n 3, 1) := by decide +kernel
theorem dX4_slotAtPosition_86 : decode cX4_slotAtPosition 86 = .ok (.iinc 4 1, 3) := by decide +kernel
theorem dX4_slotAtPosition_89 : decode cX4_slotAtPosition 89 = .ok (.goto (-73), 3) := by decide +kernel
theorem dX4_slotAtPosition_92 : decode cX4_slotAtPosition 92 = .ok (.iconst 0, 1) := by decide +kernel
theorem dX4_slotAtPosition_93 : decode cX4_slotAtPosition 93 = .ok (.ireturn, 1) := by decide +kernel
theorem dX4_topSlot_0 : decode cX4_topSlot 0 = .ok (.aload_n 0, 1) := by decide +kernel
theorem dX4_topSlot_1 : decode cX4_topSlot 1 = .ok (.getfield 30, 3) := by decide +kernel
theorem dX4_topSlot_4 : decode cX4_topSlot 4 = .ok (.istore_n 3, 1) := by decide +kernel
theorem dX4_topSlot_5 : decode cX4_topSlot 5 = .ok (.iconst 0, 1) := by decide +kernel
theorem dX4_topSlot_6 : decode cX4_topSlot 6 = .ok (.istore 4, 2) := by decide +kernel
theorem dX4_topSlot_8 : decode cX4_topSlot 8 = .ok (.iload 4, 2) := by decide +kernel
theorem dX4_topSlot_10 : decode cX4_topSlot 10 = .ok (.bipush 24, 2) := by decide +kernel
theorem dX4_topSlot_12 : decode cX4_topSlot 12 = .ok (.if_icmp .ge 59, 3) := by decide +kernel
theorem dX4_topSlot_15 : decode cX4_topSlot 15 = .ok (.iload_n 3, 1) := by decide +kernel
theorem dX4_topSlot_16 : decode cX4_topSlot 16 = .ok (.ifCond .eq 55, 3) := by decide +kernel
theorem dX4_topSlot_19 : decode cX4_topSlot 19 = .ok (.aload_n 0, 1) := by decide +kernel
theorem dX4_topSlot_20 : decode cX4_topSlot 20 = .ok (.getfield 9, 3) := by decide +kernel
theorem dX4_topSlot_23 : decode cX4_topSlot 23 = .ok (.iload_n 3, 1) := by decide +kernel
theorem dX4_topSlot_24 : decode cX4_topSlot 24 = .ok (.invokestatic 38, 3) := by decide +kernel
theorem dX4_topSlot_27 : decode cX4_topSlot 27 = .ok (.istore 5, 2) := by decide +kernel
theorem dX4_topSlot_29 : decode cX4_topSlot 29 = .ok (.iload 5, 2) := by decide +kernel
theorem dX4_topSlot_31 : decode cX4_topSlot 31 = .ok (.iload_n 1, 1) := by decide +kernel
theorem dX4_topSlot_32 : decode cX4_topSlot 32 = .ok (.if_icmp .lt 11, 3) := by decide +kernel
theorem dX4_topSlot_35 : decode cX4_topSlot 35 = .ok (.iload 5, 2) := by decide +kernel
theorem dX4_topSlot_37 : decode cX4_topSlot 37 = .ok (.iload_n 2, 1) := by decide +kernel
theorem dX4_topSlot_38 : decode cX4_topSlot 38 = .ok (.if_icmp .gt 5, 3) := by decide +kernel
theorem dX4_topSlot_41 : decode cX4_topSlot 41 = .ok (.iload_n 3, 1) := by decide +kernel
theorem dX4_topSlot_42 : decode cX4_topSlot 42 = .ok (.ireturn, 1) := by decide +kernel
theorem dX4_topSlot_43 : decode cX4_topSlot 43 = .ok (.iload 5, 2) := by decide +kernel
theorem dX4_topSlot_45 : decode cX4_topSlot 45 = .ok (.iload_n 1, 1) := by decide +kernel
theorem dX4_topSlot_46 : decode cX4_topSlot 46 = .ok (.if_icmp .ge 10, 3) := by decide +kernel
theorem dX4_topSlot_49 : decode cX4_topSlot 49 = .ok (.aload_n 0, 1) := by decide +kernel
theorem dX4_topSlot_50 : decode cX4_topSlot 50 = .ok (.getfield 24, 3) := by decide +kernel
theorem dX4_topSlot_53 : decode cX4_topSlot 53 = .ok (.goto 7, 3) := by decide +kernel
theorem dX4_topSlot_56 : decode cX4_topSlot 56 = .ok (.aload_n 0, 1) := by decide +kernel
theorem dX4_topSlot_57 : decode cX4_topSlot 57 = .ok (.getfield 21, 3) := by decide +kernel
theorem dX4_topSlot_60 : decode cX4_topSlot 60 = .ok (.iload_n 3, 1) := by decide +kernel
theorem dX4_topSlot_61 : decode cX4_topSlot 61 = .ok (.invokestatic 38, 3) := by decide +kernel
theorem dX4_topSlot_64 : decode cX4_topSlot 64 = .ok (.istore_n 3, 1) := by decide +kernel
theorem dX4_topSlot_65 : decode cX4_topSlot 65 = .ok (.iinc 4 1, 3) := by decide +kernel
theorem dX4_topSlot_68 : decode cX4_topSlot 68 = .ok (.goto (-60), 3) := by decide +kernel
theorem dX4_topSlot_71 : decode cX4_topSlot 71 = .ok (.iconst 0, 1) := by decide +kernel
theorem dX4_topSlot_72 : decode cX4_topSlot 72 = .ok (.ireturn, 1) := by decide +kernel
theorem dX4_searchAbove_0 : decode cX4_searchAbove 0 = .ok (.aload_n 0, 1) := by decide +kernel
theorem dX4_searchAbove_1 : decode cX4_searchAbove 1 = .ok (.aload_n 0, 1) := by decide +kernel
theorem dX4_searchAbove_2 : decode cX4_searchAbove 2 = .ok (.getfield 30, 3) := by decide +kernel
theorem dX4_searchAbove_5 : decode cX4_searchAbove 5 = .ok (.iload_n 1, 1) := by decide +kernel
theorem dX4_searchAbove_6 : decode cX4_searchAbove 6 = .ok (.iload_n 2, 1) := by decide +kernel
theorem dX4_searchAbove_7 : decode cX4_searchAbove 7 = .ok (.iload_n 3, 1) := by decide +kernel
theorem dX4_searchAbove_8 : decode cX4_searchAbove 8 = .ok (.iconst 0, 1) := by decide +kernel
theorem dX4_searchAbove_9 : decode cX4_searchAbove 9 = .ok (.invokestatic 86, 3) := by decide +kernel
theorem dX4_searchAbove_12 : decode cX4_searchAbove 12 = .ok (.ireturn, 1) := by decide +kernel
theorem dX4_searchAboveFrom_0 : decode cX4_searchAboveFrom 0 = .ok (.aload_n 0, 1) := by decide +kernel
theorem dX4_searchAboveFrom_1 : decode cX4_searchAboveFrom 1 = .ok (.ifnull 24, 3) := by decide +kernel
theorem dX4_searchAboveFrom_4 : decode cX4_searchAboveFrom 4 = .ok (.iload_n 1, 1) := by decide +kernel
theorem dX4_searchAboveFrom_5 : decode cX4_searchAboveFrom 5 = .ok (.ifCond .eq 20, 3) := by decide +kernel
theorem dX4_searchAboveFrom_8 : decode cX4_searchAboveFrom 8 = .ok (.iload 5, 2) := by decide +kernel
theorem dX4_searchAboveFrom_10 : decode cX4_searchAboveFrom 10 = .ok (.bipush 24, 2) := by decide +kernel
theorem dX4_searchAboveFrom_12 : decode cX4_searchAboveFrom 12 = .ok (.if_icmp .ge 13, 3) := by decide +kernel
theorem dX4_searchAboveFrom_15 : decode cX4_searchAboveFrom 15 = .ok (.aload_n 0, 1) := by decide +kernel
theorem dX4_searchAboveFrom_16 : decode cX4_searchAboveFrom 16 = .ok (.iload_n 1, 1) := by decide +kernel
theorem dX4_searchAboveFrom_17 : decode cX4_searchAboveFrom 17 = .ok (.invokevirtual 90, 3) := by decide +kernel
theorem dX4_searchAboveFrom_20 : decode cX4_searchAboveFrom 20 = .ok (.iload 4, 2) := by decide +kernel
theorem dX4_searchAboveFrom_22 : decode cX4_searchAboveFrom 22 = .ok (.if_icmp .ge 5, 3) := by decide +kernel
theorem dX4_searchAboveFrom_25 : decode cX4_searchAboveFrom 25 = .ok (.iconst 0, 1) := by decide +kernel
theorem dX4_searchAboveFrom_26 : decode cX4_searchAboveFrom 26 = .ok (.ireturn, 1) := by decide +kernel
theorem dX4_searchAboveFrom_27 : decode cX4_searchAboveFrom 27 = .ok (.aload_n 0, 1) := by decide +kernel
theorem dX4_searchAboveFrom_28 : decode cX4_searchAboveFrom 28 = .ok (.iload_n 1, 1) := by decide +kernel
theorem dX4_searchAboveFrom_29 : decode cX4_searchAboveFrom 29 = .ok (.invokevirtual 93, 3) := by decide +kernel
theorem dX4_searchAboveFrom_32 : decode cX4_searchAboveFrom 32 = .ok (.istore 6, 2) := by decide +kernel
theorem dX4_searchAboveFrom_34 : decode cX4_searchAboveFrom 34 = .ok (.iload 6, 2) := by decide +kernel
theorem dX4_searchAboveFrom_36 : decode cX4_searchAboveFrom 36 = .ok (.iload_n 2, 1) := by decide +kernel
theorem dX4_searchAboveFrom_37 : decode cX4_searchAboveFrom 37 = .ok (.if_icmp .lt 13, 3) := by decide +kernel
theorem dX4_searchAboveFrom_40 : decode cX4_searchAboveFrom 40 = .ok (.iload 6, 2) := by decide +kernel
theorem dX4_searchAboveFrom_42 : decode cX4_searchAboveFrom 42 = .ok (.iload_n 3, 1) := by decide +kernel
theorem dX4_searchAboveFrom_43 : decode cX4_searchAboveFrom 43 = .ok (.if_icmp .gt 7, 3) := by decide +kernel
theorem dX4_searchAboveFrom_46 : decode cX4_searchAboveFrom 46 = .ok (.iconst 1, 1) := by decide +kernel
theorem dX4_searchAboveFrom_47 : decode cX4_searchAboveFrom 47 = .ok (.goto 4, 3) := by decide +kernel
theorem dX4_searchAboveFrom_50 : decode cX4_searchAboveFrom 50 = .ok (.iconst 0, 1) := by decide +kernel
theorem dX4_searchAboveFrom_51 : decode cX4_searchAboveFrom 51 = .ok (.istore 7, 2) := by decide +kernel
theorem dX4_searchAboveFrom_53 : decode cX4_searchAboveFrom 53 = .ok (.iload 6, 2) := by decide +kernel
theorem dX4_searchAboveFrom_55 : decode cX4_searchAboveFrom 55 = .ok (.iload_n 2, 1) := by decide +kernel
theorem dX4_searchAboveFrom_56 : decode cX4_searchAboveFrom 56 = .ok (.if_icmp .le 25, 3) := by decide +kernel
theorem dX4_searchAboveFrom_59 : decode cX4_searchAboveFrom 59 = .ok (.iload 7, 2) := by decide +kernel
theorem dX4_searchAboveFrom_61 : decode cX4_searchAboveFrom 61 = .ok (.aload_n 0, 1) := by decide +kernel
theorem dX4_searchAboveFrom_62 : decode cX4_searchAboveFrom 62 = .ok (.aload_n 0, 1) := by decide +kernel
theorem dX4_searchAboveFrom_63 : decode cX4_searchAboveFrom 63 = .ok (.iload_n 1, 1) := by decide +kernel
theorem dX4_searchAboveFrom_64 : decode cX4_searchAboveFrom 64 = .ok (.invokevirtual 96, 3) := by decide +kernel
theorem dX4_searchAboveFrom_67 : decode cX4_searchAboveFrom 67 = .ok (.iload_n 2, 1) := by decide +kernel
theorem dX4_searchAboveFrom_68 : decode cX4_searchAboveFrom 68 = .ok (.iload_n 3, 1) := by decide +kernel
theorem dX4_searchAboveFrom_69 : decode cX4_searchAboveFrom 69 = .ok (.iload 4, 2) := by decide +kernel
theorem dX4_searchAboveFrom_71 : decode cX4_searchAboveFrom 71 = .ok (.iload 5, 2) := by decide +kernel
theorem dX4_searchAboveFrom_73 : decode cX4_searchAboveFrom 73 = .ok (.iconst 1, 1) := by decide +kernel
theorem dX4_searchAboveFrom_74 : decode cX4_searchAboveFrom 74 = .ok (.iadd, 1) := by decide +kernel
theorem dX4_searchAboveFrom_75 : decode cX4_searchAboveFrom 75 = .ok (.invokestatic 86, 3) := by decide +kernel
theorem dX4_searchAboveFrom_78 : decode cX4_searchAboveFrom 78 = .ok (.iadd, 1) := by decide +kernel
theorem dX4_searchAboveFrom_79 : decode cX4_searchAboveFrom 79 = .ok (.istore 7, 2) := by decide +kernel
theorem dX4_searchAboveFrom_81 : decode cX4_searchAboveFrom 81 = .ok (.iload 6, 2) := by decide +kernel
theorem dX4_searchAboveFrom_83 : decode cX4_searchAboveFrom 83 = .ok (.iload_n 3, 1) := by decide +kernel
theorem dX4_searchAboveFrom_84 : decode cX4_searchAboveFrom 84 = .ok (.if_icmp .ge 25, 3) := by decide +kernel
theorem dX4_searchAboveFrom_87 : decode cX4_searchAboveFrom 87 = .ok (.iload 7, 2) := by decide +kernel
theorem dX4_searchAboveFrom_89 : decode cX4_searchAboveFrom 89 = .ok (.aload_n 0, 1) := by decide +kernel
theorem dX4_searchAboveFrom_90 : decode cX4_searchAboveFrom 90 = .ok (.aload_n 0, 1) := by decide +kernel
theorem dX4_searchAboveFrom_91 : decode cX4_searchAboveFrom 91 = .ok (.iload_n 1, 1) := by decide +kernel
theorem dX4_searchAboveFrom_92 : decode cX4_searchAboveFrom 92 = .ok (.invokevirtual 99, 3) := by decide +kernel
theorem dX4_searchAboveFrom_95 : decode cX4_searchAboveFrom 95 = .ok (.iload_n 2, 1) := by decide +kernel
theorem dX4_searchAboveFrom_96 : decode cX4_searchAboveFrom 96 = .ok (.iload_n 3, 1) := by decide +kernel
theorem dX4_searchAboveFrom_97 : decode cX4_searchAboveFrom 97 = .ok (.iload 4, 2) := by decide +kernel
theorem dX4_searchAboveFrom_99 : decode cX4_searchAboveFrom 99 = .ok (.iload 5, 2) := by decide +kernel
theorem dX4_searchAboveFrom_101 : decode cX4_searchAboveFrom 101 = .ok (.iconst 1, 1) := by decide +kernel
theorem dX4_searchAboveFrom_102 : decode cX4_searchAboveFrom 102 = .ok (.iadd, 1) := by decide +kernel
theorem dX4_searchAboveFrom_103 : decode cX4_searchAboveFrom 103 = .ok (.invokestatic 86, 3) := by decide +kernel
theorem dX4_searchAboveFrom_106 : decode cX4_searchAboveFrom 106 = .ok (.iadd, 1) := by decide +kernel
theorem dX4_searchAboveFrom_107 : decode cX4_searchAboveFrom 107 = .ok (.istore 7, 2) := by decide +kernel
theorem dX4_searchAboveFrom_109 : decode cX4_searchAboveFrom 109 = .ok (.iload 7, 2) := by decide +kernel
theorem dX4_searchAboveFrom_111 : decode cX4_searchAboveFrom 111 = .ok (.ireturn, 1) := by decide +kernel
theorem dX4_isInRange_0 : decode cX4_isInRange 0 = .ok (.aload_n 0, 1) := by decide +kernel
theorem dX4_isInRange_1 : decode cX4_isInRange 1 = .ok (.getfield 9, 3) := by decide +kernel
theorem dX4_isInRange_4 : decode cX4_isInRange 4 = .ok (.iload_n 1, 1) := by decide +kernel
theorem dX4_isInRange_5 : decode cX4_isInRange 5 = .ok (.invokestatic 38, 3) := by decide +kernel
theorem dX4_isInRange_8 : decode cX4_isInRange 8 = .ok (.istore 4, 2) := by decide +kernel
theorem dX4_isInRange_10 : decode cX4_isInRange 10 = .ok (.aload_n 0, 1) := by decide +kernel
theorem dX4_isInRange_11 : decode cX4_isInRange 11 = .ok (.getfield 27, 3) := by decide +kernel
theorem dX4_isInRange_14 : decode cX4_isInRange 14 = .ok (.iload_n 1, 1) := by decide +kernel
theorem dX4_isInRange_15 : decode cX4_isInRange 15 = .ok (.invokestatic 38, 3) := by decide +kernel
theorem dX4_isInRange_18 : decode cX4_isInRange 18 = .ok (.ifCond .le 19, 3) := by decide +kernel
theorem dX4_isInRange_21 : decode cX4_isInRange 21 = .ok (.iload 4, 2) := by decide +kernel
theorem dX4_isInRange_23 : decode cX4_isInRange 23 = .ok (.iload_n 2, 1) := by decide +kernel
theorem dX4_isInRange_24 : decode cX4_isInRange 24 = .ok (.if_icmp .lt 13, 3) := by decide +kernel
theorem dX4_isInRange_27 : decode cX4_isInRange 27 = .ok (.iload 4, 2) := by decide +kernel
theorem dX4_isInRange_29 : decode cX4_isInRange 29 = .ok (.iload_n 3, 1) := by decide +kernel
theorem dX4_isInRange_30 : decode cX4_isInRange 30 = .ok (.if_icmp .gt 7, 3) := by decide +kernel
theorem dX4_isInRange_33 : decode cX4_isInRange 33 = .ok (.iconst 1, 1) := by decide +kernel
theorem dX4_isInRange_34 : decode cX4_isInRange 34 = .ok (.goto 4, 3) := by decide +kernel
theorem dX4_isInRange_37 : decode cX4_isInRange 37 = .ok (.iconst 0, 1) := by decide +kernel
theorem dX4_isInRange_38 : decode cX4_isInRange 38 = .ok (.ireturn, 1) := by decide +kernel
theorem dX4_scanAbove_0 : decode cX4_scanAbove 0 = .ok (.iconst 0, 1) := by decide +kernel
theorem dX4_scanAbove_1 : decode cX4_scanAbove 1 = .ok (.istore 4, 2) := by decide +kernel
theorem dX4_scanAbove_3 : decode cX4_scanAbove 3 = .ok (.iconst 1, 1) := by decide +kernel
theorem dX4_scanAbove_4 : decode cX4_scanAbove 4 = .ok (.istore 5, 2) := by decide +kernel
theorem dX4_scanAbove_6 : decode cX4_scanAbove 6 = .ok (.iload 5, 2) := by decide +kernel
theorem dX4_scanAbove_8 : decode cX4_scanAbove 8 = .ok (.bipush 24, 2) := by decide +kernel
theorem dX4_scanAbove_10 : decode cX4_scanAbove 10 = .ok (.if_icmp .gt 72, 3) := by decide +kernel
theorem dX4_scanAbove_13 : decode cX4_scanAbove 13 = .ok (.aload_n 0, 1) := by decide +kernel
theorem dX4_scanAbove_14 : decode cX4_scanAbove 14 = .ok (.getfield 9, 3) := by decide +kernel
theorem dX4_scanAbove_17 : decode cX4_scanAbove 17 = .ok (.iload 5, 2) := by decide +kernel
theorem dX4_scanAbove_19 : decode cX4_scanAbove 19 = .ok (.invokestatic 38, 3) := by decide +kernel
theorem dX4_scanAbove_22 : decode cX4_scanAbove 22 = .ok (.istore 6, 2) := by decide +kernel
theorem dX4_scanAbove_24 : decode cX4_scanAbove 24 = .ok (.aload_n 0, 1) := by decide +kernel
theorem dX4_scanAbove_25 : decode cX4_scanAbove 25 = .ok (.getfield 27, 3) := by decide +kernel
theorem dX4_scanAbove_28 : decode cX4_scanAbove 28 = .ok (.iload 5, 2) := by decide +kernel
theorem dX4_scanAbove_30 : decode cX4_scanAbove 30 = .ok (.invokestatic 38, 3) := by decide +kernel
theorem dX4_scanAbove_33 : decode cX4_scanAbove 33 = .ok (.ifCond .le 19, 3) := by decide +kernel
theorem dX4_scanAbove_36 : decode cX4_scanAbove 36 = .ok (.iload 6, 2) := by decide +kernel
theorem dX4_scanAbove_38 : decode cX4_scanAbove 38 = .ok (.iload_n 1, 1) := by decide +kernel
theorem dX4_scanAbove_39 : decode cX4_scanAbove 39 = .ok (.if_icmp .lt 13, 3) := by decide +kernel
theorem dX4_scanAbove_42 : decode cX4_scanAbove 42 = .ok (.iload 6, 2) := by decide +kernel
theorem dX4_scanAbove_44 : decode cX4_scanAbove 44 = .ok (.iload_n 2, 1) := by decide +kernel
theorem dX4_scanAbove_45 : decode cX4_scanAbove 45 = .ok (.if_icmp .gt 7, 3) := by decide +kernel
theorem dX4_scanAbove_48 : decode cX4_scanAbove 48 = .ok (.iconst 1, 1) := by decide +kernel
theorem dX4_scanAbove_49 : decode cX4_scanAbove 49 = .ok (.goto 4, 3) := by decide +kernel
theorem dX4_scanAbove_52 : decode cX4_scanAbove 52 = .ok (.iconst 0, 1) := by decide +kernel
theorem dX4_scanAbove_53 : decode cX4_scanAbove 53 = .ok (.istore 7, 2) := by decide +kernel
theorem dX4_scanAbove_55 : decode cX4_scanAbove 55 = .ok (.iload 7, 2) := by decide +kernel
theorem dX4_scanAbove_57 : decode cX4_scanAbove 57 = .ok (.ifCond .eq 19, 3) := by decide +kernel
theorem dX4_scanAbove_60 : decode cX4_scanAbove 60 = .ok (.aload_n 0, 1) := by decide +kernel
theorem dX4_scanAbove_61 : decode cX4_scanAbove 61 = .ok (.getfield 15, 3) := by decide +kernel
theorem dX4_scanAbove_64 : decode cX4_scanAbove 64 = .ok (.iload 5, 2) := by decide +kernel
theorem dX4_scanAbove_66 : decode cX4_scanAbove 66 = .ok (.invokestatic 38, 3) := by decide +kernel
theorem dX4_scanAbove_69 : decode cX4_scanAbove 69 = .ok (.iload_n 3, 1) := by decide +kernel
theorem dX4_scanAbove_70 : decode cX4_scanAbove 70 = .ok (.if_icmp .lt 6, 3) := by decide +kernel
theorem dX4_scanAbove_73 : decode cX4_scanAbove 73 = .ok (.iinc 4 1, 3) := by decide +kernel
theorem dX4_scanAbove_76 : decode cX4_scanAbove 76 = .ok (.iinc 5 1, 3) := by decide +kernel
theorem dX4_scanAbove_79 : decode cX4_scanAbove 79 = .ok (.goto (-73), 3) := by decide +kernel
theorem dX4_scanAbove_82 : decode cX4_scanAbove 82 = .ok (.iload 4, 2) := by decide +kernel
theorem dX4_scanAbove_84 : decode cX4_scanAbove 84 = .ok (.ireturn, 1) := by decide +kernel
theorem dX4_scanTop_0 : decode cX4_scanTop 0 = .ok (.iconst 0, 1) := by decide +kernel
theorem dX4_scanTop_1 : decode cX4_scanTop 1 = .ok (.istore_n 3, 1) := by decide +kernel
theorem dX4_scanTop_2 : decode cX4_scanTop 2 = .ok (.iconst 1, 1) := by decide +kernel
theorem dX4_scanTop_3 : decode cX4_scanTop 3 = .ok (.istore 4, 2) := by decide +kernel
theorem dX4_scanTop_5 : decode cX4_scanTop 5 = .ok (.iload 4, 2) := by decide +kernel
theorem dX4_scanTop_7 : decode cX4_scanTop 7 = .ok (.bipush 24, 2) := by decide +kernel
theorem dX4_scanTop_9 : decode cX4_scanTop 9 = .ok (.if_icmp .gt 37, 3) := by decide +kernel
theorem dX4_scanTop_12 : decode cX4_scanTop 12 = .ok (.aload_n 0, 1) := by decide +kernel
theorem dX4_scanTop_13 : decode cX4_scanTop 13 = .ok (.iload 4, 2) := by decide +kernel
theorem dX4_scanTop_15 : decode cX4_scanTop 15 = .ok (.iload_n 1, 1) := by decide +kernel
theorem dX4_scanTop_16 : decode cX4_scanTop 16 = .ok (.iload_n 2, 1) := by decide +kernel
theorem dX4_scanTop_17 : decode cX4_scanTop 17 = .ok (.invokevirtual 72, 3) := by decide +kernel
theorem dX4_scanTop_20 : decode cX4_scanTop 20 = .ok (.ifCond .eq 20, 3) := by decide +kernel
theorem dX4_scanTop_23 : decode cX4_scanTop 23 = .ok (.iload_n 3, 1) := by decide +kernel
theorem dX4_scanTop_24 : decode cX4_scanTop 24 = .ok (.ifCond .eq 13, 3) := by decide +kernel
theorem dX4_scanTop_27 : decode cX4_scanTop 27 = .ok (.aload_n 0, 1) := by decide +kernel
theorem dX4_scanTop_28 : decode cX4_scanTop 28 = .ok (.iload 4, 2) := by decide +kernel
theorem dX4_scanTop_30 : decode cX4_scanTop 30 = .ok (.iload_n 3, 1) := by decide +kernel
theorem dX4_scanTop_31 : decode cX4_scanTop 31 = .ok (.invokevirtual 54, 3) := by decide +kernel
theorem dX4_scanTop_34 : decode cX4_scanTop 34 = .ok (.ifCond .eq 6, 3) := by decide +kernel
theorem dX4_scanTop_37 : decode cX4_scanTop 37 = .ok (.iload 4, 2) := by decide +kernel
theorem dX4_scanTop_39 : decode cX4_scanTop 39 = .ok (.istore_n 3, 1) := by decide +kernel
theorem dX4_scanTop_40 : decode cX4_scanTop 40 = .ok (.iinc 4 1, 3) := by decide +kernel
theorem dX4_scanTop_43 : decode cX4_scanTop 43 = .ok (.goto (-38), 3) := by decide +kernel
theorem dX4_scanTop_46 : decode cX4_scanTop 46 = .ok (.iload_n 3, 1) := by decide +kernel
theorem dX4_scanTop_47 : decode cX4_scanTop 47 = .ok (.ireturn, 1) := by decide +kernel
theorem dX4_sumBetween_0 : decode cX4_sumBetween 0 = .ok (.lconst 0, 1) := by decide +kernel
theorem dX4_sumBetween_1 : decode cX4_sumBetween 1 = .ok (.lstore_n 3, 1) := by decide +kernel
theorem dX4_sumBetween_2 : decode cX4_sumBetween 2 = .ok (.iconst 1, 1) := by decide +kernel
theorem dX4_sumBetween_3 : decode cX4_sumBetween 3 = .ok (.istore 5, 2) := by decide +kernel
theorem dX4_sumBetween_5 : decode cX4_sumBetween 5 = .ok (.iload 5, 2) := by decide +kernel
theorem dX4_sumBetween_7 : decode cX4_sumBetween 7 = .ok (.bipush 24, 2) := by decide +kernel
theorem dX4_sumBetween_9 : decode cX4_sumBetween 9 = .ok (.if_icmp .gt 33, 3) := by decide +kernel
theorem dX4_sumBetween_12 : decode cX4_sumBetween 12 = .ok (.aload_n 0, 1) := by decide +kernel
theorem dX4_sumBetween_13 : decode cX4_sumBetween 13 = .ok (.iload 5, 2) := by decide +kernel
theorem dX4_sumBetween_15 : decode cX4_sumBetween 15 = .ok (.iload_n 1, 1) := by decide +kernel
theorem dX4_sumBetween_16 : decode cX4_sumBetween 16 = .ok (.iload_n 2, 1) := by decide +kernel
theorem dX4_sumBetween_17 : decode cX4_sumBetween 17 = .ok (.invokevirtual 72, 3) := by decide +kernel
theorem dX4_sumBetween_20 : decode cX4_sumBetween 20 = .ok (.ifCond .eq 16, 3) := by decide +kernel
theorem dX4_sumBetween_23 : decode cX4_sumBetween 23 = .ok (.lload_n 3, 1) := by decide +kernel
theorem dX4_sumBetween_24 : decode cX4_sumBetween 24 = .ok (.aload_n 0, 1) := by decide +kernel
theorem dX4_sumBetween_25 : decode cX4_sumBetween 25 = .ok (.getfield 15, 3) := by decide +kernel
theorem dX4_sumBetween_28 : decode cX4_sumBetween 28 = .ok (.iload 5, 2) := by decide +kernel
theorem dX4_sumBetween_30 : decode cX4_sumBetween 30 = .ok (.invokestatic 38, 3) := by decide +kernel
theorem dX4_sumBetween_33 : decode cX4_sumBetween 33 = .ok (.i2l, 1) := by decide +kernel
theorem dX4_sumBetween_34 : decode cX4_sumBetween 34 = .ok (.ladd, 1) := by decide +kernel
theorem dX4_sumBetween_35 : decode cX4_sumBetween 35 = .ok (.lstore_n 3, 1) := by decide +kernel
theorem dX4_sumBetween_36 : decode cX4_sumBetween 36 = .ok (.iinc 5 1, 3) := by decide +kernel
theorem dX4_sumBetween_39 : decode cX4_sumBetween 39 = .ok (.goto (-34), 3) := by decide +kernel
theorem dX4_sumBetween_42 : decode cX4_sumBetween 42 = .ok (.lload_n 3, 1) := by decide +kernel
theorem dX4_sumBetween_43 : decode cX4_sumBetween 43 = .ok (.lreturn, 1) := by decide +kernel
theorem dX4_countAhead_0 : decode cX4_countAhead 0 = .ok (.iconst 0, 1) := by decide +kernel
theorem dX4_countAhead_1 : decode cX4_countAhead 1 = .ok (.istore_n 2, 1) := by decide +kernel
theorem dX4_countAhead_2 : decode cX4_countAhead 2 = .ok (.iconst 1, 1) := by decide +kernel
theorem dX4_countAhead_3 : decode cX4_countAhead 3 = .ok (.istore_n 3, 1) := by decide +kernel
theorem dX4_countAhead_4 : decode cX4_countAhead 4 = .ok (.iload_n 3, 1) := by decide +kernel
theorem dX4_countAhead_5 : decode cX4_countAhead 5 = .ok (.bipush 24, 2) := by decide +kernel
theorem dX4_countAhead_7 : decode cX4_countAhead 7 = .ok (.if_icmp .gt 32, 3) := by decide +kernel
theorem dX4_countAhead_10 : decode cX4_countAhead 10 = .ok (.aload_n 0, 1) := by decide +kernel
theorem dX4_countAhead_11 : decode cX4_countAhead 11 = .ok (.getfield 27, 3) := by decide +kernel
theorem dX4_countAhead_14 : decode cX4_countAhead 14 = .ok (.iload_n 3, 1) := by decide +kernel
theorem dX4_countAhead_15 : decode cX4_countAhead 15 = .ok (.invokestatic 38, 3) := by decide +kernel
theorem dX4_countAhead_18 : decode cX4_countAhead 18 = .ok (.ifCond .le 15, 3) := by decide +kernel
theorem dX4_countAhead_21 : decode cX4_countAhead 21 = .ok (.aload_n 0, 1) := by decide +kernel
theorem dX4_countAhead_22 : decode cX4_countAhead 22 = .ok (.iload_n 3, 1) := by decide +kernel
theorem dX4_countAhead_23 : decode cX4_countAhead 23 = .ok (.iload_n 1, 1) := by decide +kernel
theorem dX4_countAhead_24 : decode cX4_countAhead 24 = .ok (.invokevirtual 54, 3) := by decide +kernel
theorem dX4_countAhead_27 : decode cX4_countAhead 27 = .ok (.ifCond .eq 6, 3) := by decide +kernel
theorem dX4_countAhead_30 : decode cX4_countAhead 30 = .ok (.iinc 2 1, 3) := by decide +kernel
theorem dX4_countAhead_33 : decode cX4_countAhead 33 = .ok (.iinc 3 1, 3) := by decide +kernel
theorem dX4_countAhead_36 : decode cX4_countAhead 36 = .ok (.goto (-32), 3) := by decide +kernel
theorem dX4_countAhead_39 : decode cX4_countAhead 39 = .ok (.iload_n 2, 1) := by decide +kernel
theorem dX4_countAhead_40 : decode cX4_countAhead 40 = .ok (.ireturn, 1) := by decide +kernel
theorem dX4_slotByPriority_0 : decode cX4_slotByPriority 0 = .ok (.iconst 1, 1) := by decide +kernel
theorem dX4_slotByPriority_1 : decode cX4_slotByPriority 1 = .ok (.istore_n 2, 1) := by decide +kernel
theorem dX4_slotByPriority_2 : decode cX4_slotByPriority 2 = .ok (.iload_n 2, 1) := by decide +kernel
theorem dX4_slotByPriority_3 : decode cX4_slotByPriority 3 = .ok (.bipush 24, 2) := by decide +kernel
theorem dX4_slotByPriority_5 : decode cX4_slotByPriority 5 = .ok (.if_icmp .gt 31, 3) := by decide +kernel
theorem dX4_slotByPriority_8 : decode cX4_slotByPriority 8 = .ok (.aload_n 0, 1) := by decide +kernel
theorem dX4_slotByPriority_9 : decode cX4_slotByPriority 9 = .ok (.getfield 27, 3) := by decide +kernel
theorem dX4_slotByPriority_12 : decode cX4_slotByPriority 12 = .ok (.iload_n 2, 1) := by decide +kernel
theorem dX4_slotByPriority_13 : decode cX4_slotByPriority 13 = .ok (.invokestatic 38, 3) := by decide +kernel
theorem dX4_slotByPriority_16 : decode cX4_slotByPriority 16 = .ok (.ifCond .le 14, 3) := by decide +kernel
theorem dX4_slotByPriority_19 : decode cX4_slotByPriority 19 = .ok (.aload_n 0, 1) := by decide +kernel
theorem dX4_slotByPriority_20 : decode cX4_slotByPriority 20 = .ok (.iload_n 2, 1) := by decide +kernel
theorem dX4_slotByPriority_21 : decode cX4_slotByPriority 21 = .ok (.invokevirtual 102, 3) := by decide +kernel
theorem dX4_slotByPriority_24 : decode cX4_slotByPriority 24 = .ok (.iload_n 1, 1) := by decide +kernel
theorem dX4_slotByPriority_25 : decode cX4_slotByPriority 25 = .ok (.if_icmp .ne 5, 3) := by decide +kernel
theorem dX4_slotByPriority_28 : decode cX4_slotByPriority 28 = .ok (.iload_n 2, 1) := by decide +kernel
theorem dX4_slotByPriority_29 : decode cX4_slotByPriority 29 = .ok (.ireturn, 1) := by decide +kernel
theorem dX4_slotByPriority_30 : decode cX4_slotByPriority 30 = .ok (.iinc 2 1, 3) := by decide +kernel
theorem dX4_slotByPriority_33 : decode cX4_slotByPriority 33 = .ok (.goto (-31), 3) := by decide +kernel
theorem dX4_slotByPriority_36 : decode cX4_slotByPriority 36 = .ok (.iconst 0, 1) := by decide +kernel
theorem dX4_slotByPriority_37 : decode cX4_slotByPriority 37 = .ok (.ireturn, 1) := by decide +kernel
theorem dX4_depthIn_0 : decode cX4_depthIn 0 = .ok (.iconst 0, 1) := by decide +kernel
theorem dX4_depthIn_1 : decode cX4_depthIn 1 = .ok (.istore_n 2, 1) := by decide +kernel
theorem dX4_depthIn_2 : decode cX4_depthIn 2 = .ok (.aload_n 0, 1) := by decide +kernel
theorem dX4_depthIn_3 : decode cX4_depthIn 3 = .ok (.getfield 18, 3) := by decide +kernel
theorem dX4_depthIn_6 : decode cX4_depthIn 6 = .ok (.iload_n 1, 1) := by decide +kernel
theorem dX4_depthIn_7 : decode cX4_depthIn 7 = .ok (.invokestatic 38, 3) := by decide +kernel
theorem dX4_depthIn_10 : decode cX4_depthIn 10 = .ok (.istore_n 3, 1) := by decide +kernel
theorem dX4_depthIn_11 : decode cX4_depthIn 11 = .ok (.iload_n 2, 1) := by decide +kernel
theorem dX4_depthIn_12 : decode cX4_depthIn 12 = .ok (.bipush 24, 2) := by decide +kernel
theorem dX4_depthIn_14 : decode cX4_depthIn 14 = .ok (.if_icmp .ge 22, 3) := by decide +kernel
theorem dX4_depthIn_17 : decode cX4_depthIn 17 = .ok (.iload_n 3, 1) := by decide +kernel
theorem dX4_depthIn_18 : decode cX4_depthIn 18 = .ok (.ifCond .eq 18, 3) := by decide +kernel
theorem dX4_depthIn_21 : decode cX4_depthIn 21 = .ok (.iinc 2 1, 3) := by decide +kernel
theorem dX4_depthIn_24 : decode cX4_depthIn 24 = .ok (.aload_n 0, 1) := by decide +kernel
theorem dX4_depthIn_25 : decode cX4_depthIn 25 = .ok (.getfield 18, 3) := by decide +kernel
theorem dX4_depthIn_28 : decode cX4_depthIn 28 = .ok (.iload_n 3, 1) := by decide +kernel
theorem dX4_depthIn_29 : decode cX4_depthIn 29 = .ok (.invokestatic 38, 3) := by decide +kernel
theorem dX4_depthIn_32 : decode cX4_depthIn 32 = .ok (.istore_n 3, 1) := by decide +kernel
theorem dX4_depthIn_33 : decode cX4_depthIn 33 = .ok (.goto (-22), 3) := by decide +kernel
theorem dX4_depthIn_36 : decode cX4_depthIn 36 = .ok (.iload_n 2, 1) := by decide +kernel
theorem dX4_depthIn_37 : decode cX4_depthIn 37 = .ok (.ireturn, 1) := by decide +kernel
theorem dX4_greatestDepth_0 : decode cX4_greatestDepth 0 = .ok (.iconst (-1), 1) := by decide +kernel
theorem dX4_greatestDepth_1 : decode cX4_greatestDepth 1 = .ok (.istore_n 1, 1) := by decide +kernel
theorem dX4_greatestDepth_2 : decode cX4_greatestDepth 2 = .ok (.iconst 1, 1) := by decide +kernel
theorem dX4_greatestDepth_3 : decode cX4_greatestDepth 3 = .ok (.istore_n 2, 1) := by decide +kernel
theorem dX4_greatestDepth_4 : decode cX4_greatestDepth 4 = .ok (.iload_n 2, 1) := by decide +kernel
theorem dX4_greatestDepth_5 : decode cX4_greatestDepth 5 = .ok (.bipush 24, 2) := by decide +kernel
theorem dX4_greatestDepth_7 : decode cX4_greatestDepth 7 = .ok (.if_icmp .gt 30, 3) := by decide +kernel
theorem dX4_greatestDepth_10 : decode cX4_greatestDepth 10 = .ok (.aload_n 0, 1) := by decide +kernel
theorem dX4_greatestDepth_11 : decode cX4_greatestDepth 11 = .ok (.getfield 27, 3) := by decide +kernel
theorem dX4_greatestDepth_14 : decode cX4_greatestDepth 14 = .ok (.iload_n 2, 1) := by decide +kernel
theorem dX4_greatestDepth_15 : decode cX4_greatestDepth 15 = .ok (.invokestatic 38, 3) := by decide +kernel
theorem dX4_greatestDepth_18 : decode cX4_greatestDepth 18 = .ok (.ifCond .le 13, 3) := by decide +kernel
theorem dX4_greatestDepth_21 : decode cX4_greatestDepth 21 = .ok (.iload_n 1, 1) := by decide +kernel
theorem dX4_greatestDepth_22 : decode cX4_greatestDepth 22 = .ok (.aload_n 0, 1) := by decide +kernel
theorem dX4_greatestDepth_23 : decode cX4_greatestDepth 23 = .ok (.iload_n 2, 1) := by decide +kernel
theorem dX4_greatestDepth_24 : decode cX4_greatestDepth 24 = .ok (.invokevirtual 105, 3) := by decide +kernel
theorem dX4_greatestDepth_27 : decode cX4_greatestDepth 27 = .ok (.invokestatic 108, 3) := by decide +kernel
theorem dX4_greatestDepth_30 : decode cX4_greatestDepth 30 = .ok (.istore_n 1, 1) := by decide +kernel
theorem dX4_greatestDepth_31 : decode cX4_greatestDepth 31 = .ok (.iinc 2 1, 3) := by decide +kernel
theorem dX4_greatestDepth_34 : decode cX4_greatestDepth 34 = .ok (.goto (-30), 3) := by decide +kernel
theorem dX4_greatestDepth_37 : decode cX4_greatestDepth 37 = .ok (.iload_n 1, 1) := by decide +kernel
theorem dX4_greatestDepth_38 : decode cX4_greatestDepth 38 = .ok (.ireturn, 1) := by decide +kernel
theorem dX4_sumOfDepths_0 : decode cX4_sumOfDepths 0 = .ok (.iconst 0, 1) := by decide +kernel
theorem dX4_sumOfDepths_1 : decode cX4_sumOfDepths 1 = .ok (.istore_n 1, 1) := by decide +kernel
theorem dX4_sumOfDepths_2 : decode cX4_sumOfDepths 2 = .ok (.iconst 1, 1) := by decide +kernel
theorem dX4_sumOfDepths_3 : decode cX4_sumOfDepths 3 = .ok (.istore_n 2, 1) := by decide +kernel
theorem dX4_sumOfDepths_4 : decode cX4_sumOfDepths 4 = .ok (.iload_n 2, 1) := by decide +kernel
theorem dX4_sumOfDepths_5 : decode cX4_sumOfDepths 5 = .ok (.bipush 24, 2) := by decide +kernel
theorem dX4_sumOfDepths_7 : decode cX4_sumOfDepths 7 = .ok (.if_icmp .gt 28, 3) := by decide +kernel
theorem dX4_sumOfDepths_10 : decode cX4_sumOfDepths 10 = .ok (.aload_n 0, 1) := by decide +kernel
theorem dX4_sumOfDepths_11 : decode cX4_sumOfDepths 11 = .ok (.getfield 27, 3) := by decide +kernel
theorem dX4_sumOfDepths_14 : decode cX4_sumOfDepths 14 = .ok (.iload_n 2, 1) := by decide +kernel
theorem dX4_sumOfDepths_15 : decode cX4_sumOfDepths 15 = .ok (.invokestatic 38, 3) := by decide +kernel
theorem dX4_sumOfDepths_18 : decode cX4_sumOfDepths 18 = .ok (.ifCond .le 11, 3) := by decide +kernel
theorem dX4_sumOfDepths_21 : decode cX4_sumOfDepths 21 = .ok (.iload_n 1, 1) := by decide +kernel
theorem dX4_sumOfDepths_22 : decode cX4_sumOfDepths 22 = .ok (.aload_n 0, 1) := by decide +kernel
theorem dX4_sumOfDepths_23 : decode cX4_sumOfDepths 23 = .ok (.iload_n 2, 1) := by decide +kernel
theorem dX4_sumOfDepths_24 : decode cX4_sumOfDepths 24 = .ok (.invokevirtual 105, 3) := by decide +kernel
theorem dX4_sumOfDepths_27 : decode cX4_sumOfDepths 27 = .ok (.iadd, 1) := by decide +kernel
theorem dX4_sumOfDepths_28 : decode cX4_sumOfDepths 28 = .ok (.istore_n 1, 1) := by decide +kernel
theorem dX4_sumOfDepths_29 : decode cX4_sumOfDepths 29 = .ok (.iinc 2 1, 3) := by decide +kernel
theorem dX4_sumOfDepths_32 : decode cX4_sumOfDepths 32 = .ok (.goto (-28), 3) := by decide +kernel
theorem dX4_sumOfDepths_35 : decode cX4_sumOfDepths 35 = .ok (.iload_n 1, 1) := by decide +kernel
theorem dX4_sumOfDepths_36 : decode cX4_sumOfDepths 36 = .ok (.ireturn, 1) := by decide +kernel
theorem dX4_countLeaves_0 : decode cX4_countLeaves 0 = .ok (.iconst 0, 1) := by decide +kernel
theorem dX4_countLeaves_1 : decode cX4_countLeaves 1 = .ok (.istore_n 1, 1) := by decide +kernel
theorem dX4_countLeaves_2 : decode cX4_countLeaves 2 = .ok (.iconst 1, 1) := by decide +kernel
theorem dX4_countLeaves_3 : decode cX4_countLeaves 3 = .ok (.istore_n 2, 1) := by decide +kernel
theorem dX4_countLeaves_4 : decode cX4_countLeaves 4 = .ok (.iload_n 2, 1) := by decide +kernel
theorem dX4_countLeaves_5 : decode cX4_countLeaves 5 = .ok (.bipush 24, 2) := by decide +kernel
theorem dX4_countLeaves_7 : decode cX4_countLeaves 7 = .ok (.if_icmp .gt 24, 3) := by decide +kernel
theorem dX4_countLeaves_10 : decode cX4_countLeaves 10 = .ok (.aload_n 0, 1) := by decide +kernel
theorem dX4_countLeaves_11 : decode cX4_countLeaves 11 = .ok (.getfield 27, 3) := by decide +kernel
theorem dX4_countLeaves_14 : decode cX4_countLeaves 14 = .ok (.iload_n 2, 1) := by decide +kernel
theorem dX4_countLeaves_15 : decode cX4_countLeaves 15 = .ok (.invokestatic 38, 3) := by decide +kernel
theorem dX4_countLeaves_18 : decode cX4_countLeaves 18 = .ok (.iconst 1, 1) := by decide +kernel
theorem dX4_countLeaves_19 : decode cX4_countLeaves 19 = .ok (.if_icmp .ne 6, 3) := by decide +kernel
theorem dX4_countLeaves_22 : decode cX4_countLeaves 22 = .ok (.iinc 1 1, 3) := by decide +kernel
theorem dX4_countLeaves_25 : decode cX4_countLeaves 25 = .ok (.iinc 2 1, 3) := by decide +kernel
theorem dX4_countLeaves_28 : decode cX4_countLeaves 28 = .ok (.goto (-24), 3) := by decide +kernel
theorem dX4_countLeaves_31 : decode cX4_countLeaves 31 = .ok (.iload_n 1, 1) := by decide +kernel
theorem dX4_countLeaves_32 : decode cX4_countLeaves 32 = .ok (.ireturn, 1) := by decide +kernel
theorem dX4_isSound_0 : decode cX4_isSound 0 = .ok (.aload_n 0, 1) := by decide +kernel
theorem dX4_isSound_1 : decode cX4_isSound 1 = .ok (.aload_n 0, 1) := by decide +kernel
theorem dX4_isSound_2 : decode cX4_isSound 2 = .ok (.getfield 30, 3) := by decide +kernel
theorem dX4_isSound_5 : decode cX4_isSound 5 = .ok (.iconst (-1), 1) := by decide +kernel
theorem dX4_isSound_6 : decode cX4_isSound 6 = .ok (.bipush 100, 2) := by decide +kernel
theorem dX4_isSound_8 : decode cX4_isSound 8 = .ok (.iconst 0, 1) := by decide +kernel
theorem dX4_isSound_9 : decode cX4_isSound 9 = .ok (.invokestatic 114, 3) := by decide +kernel
theorem dX4_isSound_12 : decode cX4_isSound 12 = .ok (.ireturn, 1) := by decide +kernel
theorem dX4_isSoundFrom_0 : decode cX4_isSoundFrom 0 = .ok (.aload_n 0, 1) := by decide +kernel
theorem dX4_isSoundFrom_1 : decode cX4_isSoundFrom 1 = .ok (.ifnull 7, 3) := by decide +kernel
theorem dX4_isSoundFrom_4 : decode cX4_isSoundFrom 4 = .ok (.iload_n 1, 1) := by decide +kernel
theorem dX4_isSoundFrom_5 : decode cX4_isSoundFrom 5 = .ok (.ifCond .ne 5, 3) := by decide +kernel
theorem dX4_isSoundFrom_8 : decode cX4_isSoundFrom 8 = .ok (.iconst 1, 1) := by decide +kernel
theorem dX4_isSoundFrom_9 : decode cX4_isSoundFrom 9 = .ok (.ireturn, 1) := by decide +kernel
theorem dX4_isSoundFrom_10 : decode cX4_isSoundFrom 10 = .ok (.aload_n 0, 1) := by decide +kernel
theorem dX4_isSoundFrom_11 : decode cX4_isSoundFrom 11 = .ok (.iload_n 1, 1) := by decide +kernel
theorem dX4_isSoundFrom_12 : decode cX4_isSoundFrom 12 = .ok (.invokevirtual 93, 3) := by decide +kernel
theorem dX4_isSoundFrom_15 : decode cX4_isSoundFrom 15 = .ok (.istore 5, 2) := by decide +kernel
theorem dX4_isSoundFrom_17 : decode cX4_isSoundFrom 17 = .ok (.aload_n 0, 1) := by decide +kernel
theorem dX4_isSoundFrom_18 : decode cX4_isSoundFrom 18 = .ok (.iload_n 1, 1) := by decide +kernel
theorem dX4_isSoundFrom_19 : decode cX4_isSoundFrom 19 = .ok (.invokevirtual 96, 3) := by decide +kernel
theorem dX4_isSoundFrom_22 : decode cX4_isSoundFrom 22 = .ok (.istore 6, 2) := by decide +kernel
theorem dX4_isSoundFrom_24 : decode cX4_isSoundFrom 24 = .ok (.aload_n 0, 1) := by decide +kernel
theorem dX4_isSoundFrom_25 : decode cX4_isSoundFrom 25 = .ok (.iload_n 1, 1) := by decide +kernel
theorem dX4_isSoundFrom_26 : decode cX4_isSoundFrom 26 = .ok (.invokevirtual 99, 3) := by decide +kernel
theorem dX4_isSoundFrom_29 : decode cX4_isSoundFrom 29 = .ok (.istore 7, 2) := by decide +kernel
theorem dX4_isSoundFrom_31 : decode cX4_isSoundFrom 31 = .ok (.iload 4, 2) := by decide +kernel
theorem dX4_isSoundFrom_33 : decode cX4_isSoundFrom 33 = .ok (.bipush 24, 2) := by decide +kernel
theorem dX4_isSoundFrom_35 : decode cX4_isSoundFrom 35 = .ok (.if_icmp .ge 15, 3) := by decide +kernel
theorem dX4_isSoundFrom_38 : decode cX4_isSoundFrom 38 = .ok (.iload 5, 2) := by decide +kernel
theorem dX4_isSoundFrom_40 : decode cX4_isSoundFrom 40 = .ok (.iload_n 2, 1) := by decide +kernel
theorem dX4_isSoundFrom_41 : decode cX4_isSoundFrom 41 = .ok (.if_icmp .le 9, 3) := by decide +kernel
theorem dX4_isSoundFrom_44 : decode cX4_isSoundFrom 44 = .ok (.iload 5, 2) := by decide +kernel
theorem dX4_isSoundFrom_46 : decode cX4_isSoundFrom 46 = .ok (.iload_n 3, 1) := by decide +kernel
theorem dX4_isSoundFrom_47 : decode cX4_isSoundFrom 47 = .ok (.if_icmp .lt 5, 3) := by decide +kernel
theorem dX4_isSoundFrom_50 : decode cX4_isSoundFrom 50 = .ok (.iconst 0, 1) := by decide +kernel
theorem dX4_isSoundFrom_51 : decode cX4_isSoundFrom 51 = .ok (.ireturn, 1) := by decide +kernel
theorem dX4_isSoundFrom_52 : decode cX4_isSoundFrom 52 = .ok (.iload 6, 2) := by decide +kernel
theorem dX4_isSoundFrom_54 : decode cX4_isSoundFrom 54 = .ok (.ifCond .eq 13, 3) := by decide +kernel
theorem dX4_isSoundFrom_57 : decode cX4_isSoundFrom 57 = .ok (.aload_n 0, 1) := by decide +kernel
theorem dX4_isSoundFrom_58 : decode cX4_isSoundFrom 58 = .ok (.iload 6, 2) := by decide +kernel
theorem dX4_isSoundFrom_60 : decode cX4_isSoundFrom 60 = .ok (.iload_n 1, 1) := by decide +kernel
theorem dX4_isSoundFrom_61 : decode cX4_isSoundFrom 61 = .ok (.invokevirtual 54, 3) := by decide +kernel
theorem dX4_isSoundFrom_64 : decode cX4_isSoundFrom 64 = .ok (.ifCond .ne 18, 3) := by decide +kernel
theorem dX4_isSoundFrom_67 : decode cX4_isSoundFrom 67 = .ok (.iload 7, 2) := by decide +kernel
theorem dX4_isSoundFrom_69 : decode cX4_isSoundFrom 69 = .ok (.ifCond .eq 15, 3) := by decide +kernel
theorem dX4_isSoundFrom_72 : decode cX4_isSoundFrom 72 = .ok (.aload_n 0, 1) := by decide +kernel
theorem dX4_isSoundFrom_73 : decode cX4_isSoundFrom 73 = .ok (.iload 7, 2) := by decide +kernel
theorem dX4_isSoundFrom_75 : decode cX4_isSoundFrom 75 = .ok (.iload_n 1, 1) := by decide +kernel
theorem dX4_isSoundFrom_76 : decode cX4_isSoundFrom 76 = .ok (.invokevirtual 54, 3) := by decide +kernel
theorem dX4_isSoundFrom_79 : decode cX4_isSoundFrom 79 = .ok (.ifCond .eq 5, 3) := by decide +kernel
theorem dX4_isSoundFrom_82 : decode cX4_isSoundFrom 82 = .ok (.iconst 0, 1) := by decide +kernel
theorem dX4_isSoundFrom_83 : decode cX4_isSoundFrom 83 = .ok (.ireturn, 1) := by decide +kernel
theorem dX4_isSoundFrom_84 : decode cX4_isSoundFrom 84 = .ok (.aload_n 0, 1) := by decide +kernel
theorem dX4_isSoundFrom_85 : decode cX4_isSoundFrom 85 = .ok (.iload_n 1, 1) := by decide +kernel
theorem dX4_isSoundFrom_86 : decode cX4_isSoundFrom 86 = .ok (.invokevirtual 118, 3) := by decide +kernel
theorem dX4_isSoundFrom_89 : decode cX4_isSoundFrom 89 = .ok (.iconst 1, 1) := by decide +kernel
theorem dX4_isSoundFrom_90 : decode cX4_isSoundFrom 90 = .ok (.aload_n 0, 1) := by decide +kernel
theorem dX4_isSoundFrom_91 : decode cX4_isSoundFrom 91 = .ok (.iload 6, 2) := by decide +kernel
theorem dX4_isSoundFrom_93 : decode cX4_isSoundFrom 93 = .ok (.invokevirtual 118, 3) := by decide +kernel
theorem dX4_isSoundFrom_96 : decode cX4_isSoundFrom 96 = .ok (.iadd, 1) := by decide +kernel
theorem dX4_isSoundFrom_97 : decode cX4_isSoundFrom 97 = .ok (.aload_n 0, 1) := by decide +kernel
theorem dX4_isSoundFrom_98 : decode cX4_isSoundFrom 98 = .ok (.iload 7, 2) := by decide +kernel
theorem dX4_isSoundFrom_100 : decode cX4_isSoundFrom 100 = .ok (.invokevirtual 118, 3) := by decide +kernel
theorem dX4_isSoundFrom_103 : decode cX4_isSoundFrom 103 = .ok (.iadd, 1) := by decide +kernel
theorem dX4_isSoundFrom_104 : decode cX4_isSoundFrom 104 = .ok (.if_icmp .eq 5, 3) := by decide +kernel
theorem dX4_isSoundFrom_107 : decode cX4_isSoundFrom 107 = .ok (.iconst 0, 1) := by decide +kernel
theorem dX4_isSoundFrom_108 : decode cX4_isSoundFrom 108 = .ok (.ireturn, 1) := by decide +kernel
theorem dX4_isSoundFrom_109 : decode cX4_isSoundFrom 109 = .ok (.aload_n 0, 1) := by decide +kernel
theorem dX4_isSoundFrom_110 : decode cX4_isSoundFrom 110 = .ok (.iload 6, 2) := by decide +kernel
theorem dX4_isSoundFrom_112 : decode cX4_isSoundFrom 112 = .ok (.iload_n 2, 1) := by decide +kernel
theorem dX4_isSoundFrom_113 : decode cX4_isSoundFrom 113 = .ok (.iload 5, 2) := by decide +kernel
theorem dX4_isSoundFrom_115 : decode cX4_isSoundFrom 115 = .ok (.iload 4, 2) := by decide +kernel
theorem dX4_isSoundFrom_117 : decode cX4_isSoundFrom 117 = .ok (.iconst 1, 1) := by decide +kernel
theorem dX4_isSoundFrom_118 : decode cX4_isSoundFrom 118 = .ok (.iadd, 1) := by decide +kernel
theorem dX4_isSoundFrom_119 : decode cX4_isSoundFrom 119 = .ok (.invokestatic 114, 3) := by decide +kernel
theorem dX4_isSoundFrom_122 : decode cX4_isSoundFrom 122 = .ok (.ifCond .eq 23, 3) := by decide +kernel
theorem dX4_isSoundFrom_125 : decode cX4_isSoundFrom 125 = .ok (.aload_n 0, 1) := by decide +kernel
theorem dX4_isSoundFrom_126 : decode cX4_isSoundFrom 126 = .ok (.iload 7, 2) := by decide +kernel
theorem dX4_isSoundFrom_128 : decode cX4_isSoundFrom 128 = .ok (.iload 5, 2) := by decide +kernel
theorem dX4_isSoundFrom_130 : decode cX4_isSoundFrom 130 = .ok (.iload_n 3, 1) := by decide +kernel
theorem dX4_isSoundFrom_131 : decode cX4_isSoundFrom 131 = .ok (.iload 4, 2) := by decide +kernel
theorem dX4_isSoundFrom_133 : decode cX4_isSoundFrom 133 = .ok (.iconst 1, 1) := by decide +kernel
theorem dX4_isSoundFrom_134 : decode cX4_isSoundFrom 134 = .ok (.iadd, 1) := by decide +kernel
theorem dX4_isSoundFrom_135 : decode cX4_isSoundFrom 135 = .ok (.invokestatic 114, 3) := by decide +kernel
theorem dX4_isSoundFrom_138 : decode cX4_isSoundFrom 138 = .ok (.ifCond .eq 7, 3) := by decide +kernel
theorem dX4_isSoundFrom_141 : decode cX4_isSoundFrom 141 = .ok (.iconst 1, 1) := by decide +kernel
theorem dX4_isSoundFrom_142 : decode cX4_isSoundFrom 142 = .ok (.goto 4, 3) := by decide +kernel
theorem dX4_isSoundFrom_145 : decode cX4_isSoundFrom 145 = .ok (.iconst 0, 1) := by decide +kernel
theorem dX4_isSoundFrom_146 : decode cX4_isSoundFrom 146 = .ok (.ireturn, 1) := by decide +kernel
theorem dX4_bothWaysAgree_0 : decode cX4_bothWaysAgree 0 = .ok (.iconst 0, 1) := by decide +kernel
theorem dX4_bothWaysAgree_1 : decode cX4_bothWaysAgree 1 = .ok (.istore_n 1, 1) := by decide +kernel
theorem dX4_bothWaysAgree_2 : decode cX4_bothWaysAgree 2 = .ok (.iload_n 1, 1) := by decide +kernel
theorem dX4_bothWaysAgree_3 : decode cX4_bothWaysAgree 3 = .ok (.bipush 99, 2) := by decide +kernel
theorem dX4_bothWaysAgree_5 : decode cX4_bothWaysAgree 5 = .ok (.if_icmp .gt 42, 3) := by decide +kernel
theorem dX4_bothWaysAgree_8 : decode cX4_bothWaysAgree 8 = .ok (.aload_n 0, 1) := by decide +kernel
theorem dX4_bothWaysAgree_9 : decode cX4_bothWaysAgree 9 = .ok (.iconst 0, 1) := by decide +kernel
theorem dX4_bothWaysAgree_10 : decode cX4_bothWaysAgree 10 = .ok (.iload_n 1, 1) := by decide +kernel
theorem dX4_bothWaysAgree_11 : decode cX4_bothWaysAgree 11 = .ok (.invokevirtual 121, 3) := by decide +kernel
theorem dX4_bothWaysAgree_14 : decode cX4_bothWaysAgree 14 = .ok (.aload_n 0, 1) := by decide +kernel
theorem dX4_bothWaysAgree_15 : decode cX4_bothWaysAgree 15 = .ok (.iconst 0, 1) := by decide +kernel
theorem dX4_bothWaysAgree_16 : decode cX4_bothWaysAgree 16 = .ok (.iload_n 1, 1) := by decide +kernel
theorem dX4_bothWaysAgree_17 : decode cX4_bothWaysAgree 17 = .ok (.iconst 0, 1) := by decide +kernel
theorem dX4_bothWaysAgree_18 : decode cX4_bothWaysAgree 18 = .ok (.invokevirtual 124, 3) := by decide +kernel
theorem dX4_bothWaysAgree_21 : decode cX4_bothWaysAgree 21 = .ok (.if_icmp .ne 18, 3) := by decide +kernel
theorem dX4_bothWaysAgree_24 : decode cX4_bothWaysAgree 24 = .ok (.aload_n 0, 1) := by decide +kernel
theorem dX4_bothWaysAgree_25 : decode cX4_bothWaysAgree 25 = .ok (.iconst 0, 1) := by decide +kernel
theorem dX4_bothWaysAgree_26 : decode cX4_bothWaysAgree 26 = .ok (.iload_n 1, 1) := by decide +kernel
theorem dX4_bothWaysAgree_27 : decode cX4_bothWaysAgree 27 = .ok (.invokevirtual 128, 3) := by decide +kernel
theorem dX4_bothWaysAgree_30 : decode cX4_bothWaysAgree 30 = .ok (.aload_n 0, 1) := by decide +kernel
theorem dX4_bothWaysAgree_31 : decode cX4_bothWaysAgree 31 = .ok (.iconst 0, 1) := by decide +kernel
theorem dX4_bothWaysAgree_32 : decode cX4_bothWaysAgree 32 = .ok (.iload_n 1, 1) := by decide +kernel
theorem dX4_bothWaysAgree_33 : decode cX4_bothWaysAgree 33 = .ok (.invokevirtual 131, 3) := by decide +kernel
theorem dX4_bothWaysAgree_36 : decode cX4_bothWaysAgree 36 = .ok (.if_icmp .eq 5, 3) := by decide +kernel
theorem dX4_bothWaysAgree_39 : decode cX4_bothWaysAgree 39 = .ok (.iconst 0, 1) := by decide +kernel
theorem dX4_bothWaysAgree_40 : decode cX4_bothWaysAgree 40 = .ok (.ireturn, 1) := by decide +kernel
theorem dX4_bothWaysAgree_41 : decode cX4_bothWaysAgree 41 = .ok (.iinc 1 1, 3) := by decide +kernel
theorem dX4_bothWaysAgree_44 : decode cX4_bothWaysAgree 44 = .ok (.goto (-42), 3) := by decide +kernel
theorem dX4_bothWaysAgree_47 : decode cX4_bothWaysAgree 47 = .ok (.iconst 1, 1) := by decide +kernel
theorem dX4_bothWaysAgree_48 : decode cX4_bothWaysAgree 48 = .ok (.ireturn, 1) := by decide +kernel
theorem dX5_init_0 : decode cX5_init 0 = .ok (.aload_n 0, 1) := by decide +kernel
theorem dX5_init_1 : decode cX5_init 1 = .ok (.invokespecial 3, 3) := by decide +kernel
theorem dX5_init_4 : decode cX5_init 4 = .ok (.aload_n 0, 1) := by decide +kernel
theorem dX5_init_5 : decode cX5_init 5 = .ok (.iconst 4, 1) := by decide +kernel
theorem dX5_init_6 : decode cX5_init 6 = .ok (.newarray .int, 2) := by decide +kernel
theorem dX5_init_8 : decode cX5_init 8 = .ok (.putfield 9, 3) := by decide +kernel
theorem dX5_init_11 : decode cX5_init 11 = .ok (.aload_n 0, 1) := by decide +kernel
theorem dX5_init_12 : decode cX5_init 12 = .ok (.iconst 4, 1) := by decide +kernel
theorem dX5_init_13 : decode cX5_init 13 = .ok (.newarray .int, 2) := by decide +kernel
theorem dX5_init_15 : decode cX5_init 15 = .ok (.putfield 15, 3) := by decide +kernel
theorem dX5_init_18 : decode cX5_init 18 = .ok (.aload_n 0, 1) := by decide +kernel
theorem dX5_init_19 : decode cX5_init 19 = .ok (.iconst 4, 1) := by decide +kernel
theorem dX5_init_20 : decode cX5_init 20 = .ok (.newarray .int, 2) := by decide +kernel
theorem dX5_init_22 : decode cX5_init 22 = .ok (.putfield 18, 3) := by decide +kernel
theorem dX5_init_25 : decode cX5_init 25 = .ok (.aload_n 0, 1) := by decide +kernel
theorem dX5_init_26 : decode cX5_init 26 = .ok (.iconst 4, 1) := by decide +kernel
theorem dX5_init_27 : decode cX5_init 27 = .ok (.newarray .int, 2) := by decide +kernel
theorem dX5_init_29 : decode cX5_init 29 = .ok (.putfield 21, 3) := by decide +kernel
theorem dX5_init_32 : decode cX5_init 32 = .ok (.return_, 1) := by decide +kernel
theorem dX5_copyFrom_0 : decode cX5_copyFrom 0 = .ok (.aload_n 1, 1) := by decide +kernel
theorem dX5_copyFrom_1 : decode cX5_copyFrom 1 = .ok (.ifnonnull 4, 3) := by decide +kernel
theorem dX5_copyFrom_4 : decode cX5_copyFrom 4 = .ok (.return_, 1) := by decide +kernel
theorem dX5_copyFrom_5 : decode cX5_copyFrom 5 = .ok (.aload_n 1, 1) := by decide +kernel
theorem dX5_copyFrom_6 : decode cX5_copyFrom 6 = .ok (.getfield 9, 3) := by decide +kernel
theorem dX5_copyFrom_9 : decode cX5_copyFrom 9 = .ok (.aload_n 0, 1) := by decide +kernel
theorem dX5_copyFrom_10 : decode cX5_copyFrom 10 = .ok (.getfield 9, 3) := by decide +kernel
theorem dX5_copyFrom_13 : decode cX5_copyFrom 13 = .ok (.invokestatic 24, 3) := by decide +kernel
theorem dX5_copyFrom_16 : decode cX5_copyFrom 16 = .ok (.aload_n 1, 1) := by decide +kernel
theorem dX5_copyFrom_17 : decode cX5_copyFrom 17 = .ok (.getfield 15, 3) := by decide +kernel
theorem dX5_copyFrom_20 : decode cX5_copyFrom 20 = .ok (.aload_n 0, 1) := by decide +kernel
theorem dX5_copyFrom_21 : decode cX5_copyFrom 21 = .ok (.getfield 15, 3) := by decide +kernel
theorem dX5_copyFrom_24 : decode cX5_copyFrom 24 = .ok (.invokestatic 24, 3) := by decide +kernel
theorem dX5_copyFrom_27 : decode cX5_copyFrom 27 = .ok (.aload_n 1, 1) := by decide +kernel
theorem dX5_copyFrom_28 : decode cX5_copyFrom 28 = .ok (.getfield 18, 3) := by decide +kernel
theorem dX5_copyFrom_31 : decode cX5_copyFrom 31 = .ok (.aload_n 0, 1) := by decide +kernel
theorem dX5_copyFrom_32 : decode cX5_copyFrom 32 = .ok (.getfield 18, 3) := by decide +kernel
theorem dX5_copyFrom_35 : decode cX5_copyFrom 35 = .ok (.invokestatic 24, 3) := by decide +kernel
theorem dX5_copyFrom_38 : decode cX5_copyFrom 38 = .ok (.aload_n 1, 1) := by decide +kernel
theorem dX5_copyFrom_39 : decode cX5_copyFrom 39 = .ok (.getfield 21, 3) := by decide +kernel
theorem dX5_copyFrom_42 : decode cX5_copyFrom 42 = .ok (.aload_n 0, 1) := by decide +kernel
theorem dX5_copyFrom_43 : decode cX5_copyFrom 43 = .ok (.getfield 21, 3) := by decide +kernel
theorem dX5_copyFrom_46 : decode cX5_copyFrom 46 = .ok (.invokestatic 24, 3) := by decide +kernel
theorem dX5_copyFrom_49 : decode cX5_copyFrom 49 = .ok (.return_, 1) := by decide +kernel
theorem dX5_open_0 : decode cX5_open 0 = .ok (.aload_n 0, 1) := by decide +kernel
theorem dX5_open_1 : decode cX5_open 1 = .ok (.getfield 9, 3) := by decide +kernel
theorem dX5_open_4 : decode cX5_open 4 = .ok (.iload_n 1, 1) := by decide +kernel
theorem dX5_open_5 : decode cX5_open 5 = .ok (.iload_n 2, 1) := by decide +kernel
theorem dX5_open_6 : decode cX5_open 6 = .ok (.invokestatic 28, 3) := by decide +kernel
theorem dX5_open_9 : decode cX5_open 9 = .ok (.aload_n 0, 1) := by decide +kernel
theorem dX5_open_10 : decode cX5_open 10 = .ok (.getfield 15, 3) := by decide +kernel
theorem dX5_open_13 : decode cX5_open 13 = .ok (.iload_n 1, 1) := by decide +kernel
theorem dX5_open_14 : decode cX5_open 14 = .ok (.iload_n 3, 1) := by decide +kernel
theorem dX5_open_15 : decode cX5_open 15 = .ok (.invokestatic 28, 3) := by decide +kernel
theorem dX5_open_18 : decode cX5_open 18 = .ok (.aload_n 0, 1) := by decide +kernel
theorem dX5_open_19 : decode cX5_open 19 = .ok (.getfield 18, 3) := by decide +kernel
theorem dX5_open_22 : decode cX5_open 22 = .ok (.iload_n 1, 1) := by decide +kernel
theorem dX5_open_23 : decode cX5_open 23 = .ok (.iload 4, 2) := by decide +kernel
theorem dX5_open_25 : decode cX5_open 25 = .ok (.invokestatic 28, 3) := by decide +kernel
theorem dX5_open_28 : decode cX5_open 28 = .ok (.aload_n 0, 1) := by decide +kernel
theorem dX5_open_29 : decode cX5_open 29 = .ok (.getfield 21, 3) := by decide +kernel
theorem dX5_open_32 : decode cX5_open 32 = .ok (.iload_n 1, 1) := by decide +kernel
theorem dX5_open_33 : decode cX5_open 33 = .ok (.iload 5, 2) := by decide +kernel
theorem dX5_open_35 : decode cX5_open 35 = .ok (.invokestatic 28, 3) := by decide +kernel
theorem dX5_open_38 : decode cX5_open 38 = .ok (.return_, 1) := by decide +kernel
theorem dX5_close_0 : decode cX5_close 0 = .ok (.aload_n 0, 1) := by decide +kernel
theorem dX5_close_1 : decode cX5_close 1 = .ok (.getfield 21, 3) := by decide +kernel
theorem dX5_close_4 : decode cX5_close 4 = .ok (.iload_n 1, 1) := by decide +kernel
theorem dX5_close_5 : decode cX5_close 5 = .ok (.iconst 0, 1) := by decide +kernel
theorem dX5_close_6 : decode cX5_close 6 = .ok (.invokestatic 28, 3) := by decide +kernel
theorem dX5_close_9 : decode cX5_close 9 = .ok (.return_, 1) := by decide +kernel
theorem dX5_isOpen_0 : decode cX5_isOpen 0 = .ok (.aload_n 0, 1) := by decide +kernel
theorem dX5_isOpen_1 : decode cX5_isOpen 1 = .ok (.getfield 21, 3) := by decide +kernel
theorem dX5_isOpen_4 : decode cX5_isOpen 4 = .ok (.iload_n 1, 1) := by decide +kernel
theorem dX5_isOpen_5 : decode cX5_isOpen 5 = .ok (.invokestatic 32, 3) := by decide +kernel
theorem dX5_isOpen_8 : decode cX5_isOpen 8 = .ok (.ifCond .le 7, 3) := by decide +kernel
theorem dX5_isOpen_11 : decode cX5_isOpen 11 = .ok (.iconst 1, 1) := by decide +kernel
theorem dX5_isOpen_12 : decode cX5_isOpen 12 = .ok (.goto 4, 3) := by decide +kernel
theorem dX5_isOpen_15 : decode cX5_isOpen 15 = .ok (.iconst 0, 1) := by decide +kernel
theorem dX5_isOpen_16 : decode cX5_isOpen 16 = .ok (.ireturn, 1) := by decide +kernel
theorem dX5_limitIn_0 : decode cX5_limitIn 0 = .ok (.aload_n 0, 1) := by decide +kernel
theorem dX5_limitIn_1 : decode cX5_limitIn 1 = .ok (.getfield 21, 3) := by decide +kernel
theorem dX5_limitIn_4 : decode cX5_limitIn 4 = .ok (.iload_n 1, 1) := by decide +kernel
theorem dX5_limitIn_5 : decode cX5_limitIn 5 = .ok (.invokestatic 32, 3) := by decide +kernel
theorem dX5_limitIn_8 : decode cX5_limitIn 8 = .ok (.ireturn, 1) := by decide +kernel
theorem dX5_covers_0 : decode cX5_covers 0 = .ok (.iload_n 2, 1) := by decide +kernel
theorem dX5_covers_1 : decode cX5_covers 1 = .ok (.aload_n 0, 1) := by decide +kernel
theorem dX5_covers_2 : decode cX5_covers 2 = .ok (.getfield 9, 3) := by decide +kernel
theorem dX5_covers_5 : decode cX5_covers 5 = .ok (.iload_n 1, 1) := by decide +kernel
theorem dX5_covers_6 : decode cX5_covers 6 = .ok (.invokestatic 32, 3) := by decide +kernel
theorem dX5_covers_9 : decode cX5_covers 9 = .ok (.if_icmp .lt 31, 3) := by decide +kernel
theorem dX5_covers_12 : decode cX5_covers 12 = .ok (.iload_n 2, 1) := by decide +kernel
theorem dX5_covers_13 : decode cX5_covers 13 = .ok (.aload_n 0, 1) := by decide +kernel
theorem dX5_covers_14 : decode cX5_covers 14 = .ok (.getfield 15, 3) := by decide +kernel
theorem dX5_covers_17 : decode cX5_covers 17 = .ok (.iload_n 1, 1) := by decide +kernel
theorem dX5_covers_18 : decode cX5_covers 18 = .ok (.invokestatic 32, 3) := by decide +kernel
theorem dX5_covers_21 : decode cX5_covers 21 = .ok (.if_icmp .gt 19, 3) := by decide +kernel
theorem dX5_covers_24 : decode cX5_covers 24 = .ok (.iload_n 3, 1) := by decide +kernel
theorem dX5_covers_25 : decode cX5_covers 25 = .ok (.aload_n 0, 1) := by decide +kernel
theorem dX5_covers_26 : decode cX5_covers 26 = .ok (.getfield 18, 3) := by decide +kernel
theorem dX5_covers_29 : decode cX5_covers 29 = .ok (.iload_n 1, 1) := by decide +kernel
theorem dX5_covers_30 : decode cX5_covers 30 = .ok (.invokestatic 32, 3) := by decide +kernel
theorem dX5_covers_33 : decode cX5_covers 33 = .ok (.if_icmp .lt 7, 3) := by decide +kernel
theorem dX5_covers_36 : decode cX5_covers 36 = .ok (.iconst 1, 1) := by decide +kernel
theorem dX5_covers_37 : decode cX5_covers 37 = .ok (.goto 4, 3) := by decide +kernel
theorem dX5_covers_40 : decode cX5_covers 40 = .ok (.iconst 0, 1) := by decide +kernel
theorem dX5_covers_41 : decode cX5_covers 41 = .ok (.ireturn, 1) := by decide +kernel
theorem dX6_init_0 : decode cX6_init 0 = .ok (.aload_n 0, 1) := by decide +kernel
theorem dX6_init_1 : decode cX6_init 1 = .ok (.invokespecial 3, 3) := by decide +kernel
theorem dX6_init_4 : decode cX6_init 4 = .ok (.aload_n 0, 1) := by decide +kernel
theorem dX6_init_5 : decode cX6_init 5 = .ok (.new 9, 3) := by decide +kernel
theorem dX6_init_8 : decode cX6_init 8 = .ok (.dup, 1) := by decide +kernel
theorem dX6_init_9 : decode cX6_init 9 = .ok (.invokespecial 11, 3) := by decide +kernel
theorem dX6_init_12 : decode cX6_init 12 = .ok (.putfield 12, 3) := by decide +kernel
theorem dX6_init_15 : decode cX6_init 15 = .ok (.aload_n 0, 1) := by decide +kernel
theorem dX6_init_16 : decode cX6_init 16 = .ok (.new 9, 3) := by decide +kernel
theorem dX6_init_19 : decode cX6_init 19 = .ok (.dup, 1) := by decide +kernel
theorem dX6_init_20 : decode cX6_init 20 = .ok (.invokespecial 11, 3) := by decide +kernel
theorem dX6_init_23 : decode cX6_init 23 = .ok (.putfield 16, 3) := by decide +kernel
theorem dX6_init_26 : decode cX6_init 26 = .ok (.aload_n 0, 1) := by decide +kernel
theorem dX6_init_27 : decode cX6_init 27 = .ok (.new 9, 3) := by decide +kernel
theorem dX6_init_30 : decode cX6_init 30 = .ok (.dup, 1) := by decide +kernel
theorem dX6_init_31 : decode cX6_init 31 = .ok (.invokespecial 11, 3) := by decide +kernel
theorem dX6_init_34 : decode cX6_init 34 = .ok (.putfield 19, 3) := by decide +kernel
theorem dX6_init_37 : decode cX6_init 37 = .ok (.aload_n 0, 1) := by decide +kernel
theorem dX6_init_38 : decode cX6_init 38 = .ok (.new 22, 3) := by decide +kernel
theorem dX6_init_41 : decode cX6_init 41 = .ok (.dup, 1) := by decide +kernel
theorem dX6_init_42 : decode cX6_init 42 = .ok (.invokespecial 24, 3) := by decide +kernel
theorem dX6_init_45 : decode cX6_init 45 = .ok (.putfield 25, 3) := by decide +kernel
theorem dX6_init_48 : decode cX6_init 48 = .ok (.aload_n 0, 1) := by decide +kernel
theorem dX6_init_49 : decode cX6_init 49 = .ok (.new 29, 3) := by decide +kernel
theorem dX6_init_52 : decode cX6_init 52 = .ok (.dup, 1) := by decide +kernel
theorem dX6_init_53 : decode cX6_init 53 = .ok (.invokespecial 31, 3) := by decide +kernel
theorem dX6_init_56 : decode cX6_init 56 = .ok (.putfield 32, 3) := by decide +kernel
theorem dX6_init_59 : decode cX6_init 59 = .ok (.aload_n 0, 1) := by decide +kernel
theorem dX6_init_60 : decode cX6_init 60 = .ok (.new 36, 3) := by decide +kernel
theorem dX6_init_63 : decode cX6_init 63 = .ok (.dup, 1) := by decide +kernel
theorem dX6_init_64 : decode cX6_init 64 = .ok (.invokespecial 38, 3) := by decide +kernel
theorem dX6_init_67 : decode cX6_init 67 = .ok (.putfield 39, 3) := by decide +kernel
theorem dX6_init_70 : decode cX6_init 70 = .ok (.aload_n 0, 1) := by decide +kernel
theorem dX6_init_71 : decode cX6_init 71 = .ok (.iconst (-1), 1) := by decide +kernel
theorem dX6_init_72 : decode cX6_init 72 = .ok (.putfield 43, 3) := by decide +kernel
theorem dX6_init_75 : decode cX6_init 75 = .ok (.aload_n 0, 1) := by decide +kernel
theorem dX6_init_76 : decode cX6_init 76 = .ok (.iconst 0, 1) := by decide +kernel
theorem dX6_init_77 : decode cX6_init 77 = .ok (.putfield 47, 3) := by decide +kernel
theorem dX6_init_80 : decode cX6_init 80 = .ok (.aload_n 0, 1) := by decide +kernel
theorem dX6_init_81 : decode cX6_init 81 = .ok (.iconst 0, 1) := by decide +kernel
theorem dX6_init_82 : decode cX6_init 82 = .ok (.putfield 50, 3) := by decide +kernel
theorem dX6_init_85 : decode cX6_init 85 = .ok (.return_, 1) := by decide +kernel
theorem dX6_insert_0 : decode cX6_insert 0 = .ok (.iload_n 1, 1) := by decide +kernel
theorem dX6_insert_1 : decode cX6_insert 1 = .ok (.invokestatic 53, 3) := by decide +kernel
theorem dX6_insert_4 : decode cX6_insert 4 = .ok (.iload_n 2, 1) := by decide +kernel
theorem dX6_insert_5 : decode cX6_insert 5 = .ok (.invokestatic 53, 3) := by decide +kernel
theorem dX6_insert_8 : decode cX6_insert 8 = .ok (.aload_n 0, 1) := by decide +kernel
theorem dX6_insert_9 : decode cX6_insert 9 = .ok (.getfield 12, 3) := by decide +kernel
theorem dX6_insert_12 : decode cX6_insert 12 = .ok (.iload_n 1, 1) := by decide +kernel
theorem dX6_insert_13 : decode cX6_insert 13 = .ok (.iload_n 2, 1) := by decide +kernel
theorem dX6_insert_14 : decode cX6_insert 14 = .ok (.invokevirtual 57, 3) := by decide +kernel
theorem dX6_insert_17 : decode cX6_insert 17 = .ok (.istore_n 3, 1) := by decide +kernel
theorem dX6_insert_18 : decode cX6_insert 18 = .ok (.iload_n 3, 1) := by decide +kernel
theorem dX6_insert_19 : decode cX6_insert 19 = .ok (.ifCond .eq 29, 3) := by decide +kernel
theorem dX6_insert_22 : decode cX6_insert 22 = .ok (.aload_n 0, 1) := by decide +kernel
theorem dX6_insert_23 : decode cX6_insert 23 = .ok (.iload_n 3, 1) := by decide +kernel
theorem dX6_insert_24 : decode cX6_insert 24 = .ok (.aload_n 0, 1) := by decide +kernel
theorem dX6_insert_25 : decode cX6_insert 25 = .ok (.getfield 12, 3) := by decide +kernel
theorem dX6_insert_28 : decode cX6_insert 28 = .ok (.iload_n 3, 1) := by decide +kernel
theorem dX6_insert_29 : decode cX6_insert 29 = .ok (.iconst 0, 1) := by decide +kernel
theorem dX6_insert_30 : decode cX6_insert 30 = .ok (.iload_n 1, 1) := by decide +kernel
theorem dX6_insert_31 : decode cX6_insert 31 = .ok (.iload_n 2, 1) := by decide +kernel
theorem dX6_insert_32 : decode cX6_insert 32 = .ok (.invokevirtual 61, 3) := by decide +kernel
theorem dX6_insert_35 : decode cX6_insert 35 = .ok (.invokevirtual 65, 3) := by decide +kernel
theorem dX6_insert_38 : decode cX6_insert 38 = .ok (.new 69, 3) := by decide +kernel
theorem dX6_insert_41 : decode cX6_insert 41 = .ok (.dup, 1) := by decide +kernel
theorem dX6_insert_42 : decode cX6_insert 42 = .ok (.ldc 71, 2) := by decide +kernel
theorem dX6_insert_44 : decode cX6_insert 44 = .ok (.invokespecial 73, 3) := by decide +kernel
theorem dX6_insert_47 : decode cX6_insert 47 = .ok (.athrow, 1) := by decide +kernel
theorem dX6_insert_48 : decode cX6_insert 48 = .ok (.aload_n 0, 1) := by decide +kernel
theorem dX6_insert_49 : decode cX6_insert 49 = .ok (.getfield 25, 3) := by decide +kernel
theorem dX6_insert_52 : decode cX6_insert 52 = .ok (.aload_n 0, 1) := by decide +kernel
theorem dX6_insert_53 : decode cX6_insert 53 = .ok (.getfield 12, 3) := by decide +kernel
theorem dX6_insert_56 : decode cX6_insert 56 = .ok (.invokevirtual 76, 3) := by decide +kernel
theorem dX6_insert_59 : decode cX6_insert 59 = .ok (.aload_n 0, 1) := by decide +kernel
theorem dX6_insert_60 : decode cX6_insert 60 = .ok (.getfield 12, 3) := by decide +kernel
theorem dX6_insert_63 : decode cX6_insert 63 = .ok (.iload_n 1, 1) := by decide +kernel
theorem dX6_insert_64 : decode cX6_insert 64 = .ok (.iload_n 2, 1) := by decide +kernel
theorem dX6_insert_65 : decode cX6_insert 65 = .ok (.invokevirtual 80, 3) := by decide +kernel
theorem dX6_insert_68 : decode cX6_insert 68 = .ok (.ireturn, 1) := by decide +kernel
theorem dX6_delete_0 : decode cX6_delete 0 = .ok (.aload_n 0, 1) := by decide +kernel
theorem dX6_delete_1 : decode cX6_delete 1 = .ok (.iload_n 1, 1) := by decide +kernel
theorem dX6_delete_2 : decode cX6_delete 2 = .ok (.invokevirtual 83, 3) := by decide +kernel
theorem dX6_delete_5 : decode cX6_delete 5 = .ok (.istore_n 2, 1) := by decide +kernel
theorem dX6_delete_6 : decode cX6_delete 6 = .ok (.aload_n 0, 1) := by decide +kernel
theorem dX6_delete_7 : decode cX6_delete 7 = .ok (.getfield 25, 3) := by decide +kernel
theorem dX6_delete_10 : decode cX6_delete 10 = .ok (.aload_n 0, 1) := by decide +kernel
theorem dX6_delete_11 : decode cX6_delete 11 = .ok (.getfield 12, 3) := by decide +kernel
theorem dX6_delete_14 : decode cX6_delete 14 = .ok (.invokevirtual 76, 3) := by decide +kernel
theorem dX6_delete_17 : decode cX6_delete 17 = .ok (.aload_n 0, 1) := by decide +kernel
theorem dX6_delete_18 : decode cX6_delete 18 = .ok (.getfield 12, 3) := by decide +kernel
theorem dX6_delete_21 : decode cX6_delete 21 = .ok (.iload_n 2, 1) := by decide +kernel
theorem dX6_delete_22 : decode cX6_delete 22 = .ok (.invokevirtual 87, 3) := by decide +kernel
theorem dX6_delete_25 : decode cX6_delete 25 = .ok (.ireturn, 1) := by decide +kernel
theorem dX6_changePriority_0 : decode cX6_changePriority 0 = .ok (.aload_n 0, 1) := by decide +kernel
theorem dX6_changePriority_1 : decode cX6_changePriority 1 = .ok (.iload_n 1, 1) := by decide +kernel
theorem dX6_changePriority_2 : decode cX6_changePriority 2 = .ok (.invokevirtual 83, 3) := by decide +kernel
theorem dX6_changePriority_5 : decode cX6_changePriority 5 = .ok (.istore_n 3, 1) := by decide +kernel
theorem dX6_changePriority_6 : decode cX6_changePriority 6 = .ok (.iload_n 2, 1) := by decide +kernel
theorem dX6_changePriority_7 : decode cX6_changePriority 7 = .ok (.invokestatic 53, 3) := by decide +kernel
theorem dX6_changePriority_10 : decode cX6_changePriority 10 = .ok (.aload_n 0, 1) := by decide +kernel
theorem dX6_changePriority_11 : decode cX6_changePriority 11 = .ok (.getfield 12, 3) := by decide +kernel
theorem dX6_changePriority_14 : decode cX6_changePriority 14 = .ok (.iload_n 3, 1) := by decide +kernel
theorem dX6_changePriority_15 : decode cX6_changePriority 15 = .ok (.iload_n 2, 1) := by decide +kernel
theorem dX6_changePriority_16 : decode cX6_changePriority 16 = .ok (.invokevirtual 90, 3) := by decide +kernel
theorem dX6_changePriority_19 : decode cX6_changePriority 19 = .ok (.istore 4, 2) := by decide +kernel
theorem dX6_changePriority_21 : decode cX6_changePriority 21 = .ok (.iload 4, 2) := by decide +kernel
theorem dX6_changePriority_23 : decode cX6_changePriority 23 = .ok (.ifCond .eq 31, 3) := by decide +kernel
theorem dX6_changePriority_26 : decode cX6_changePriority 26 = .ok (.aload_n 0, 1) := by decide +kernel
theorem dX6_changePriority_27 : decode cX6_changePriority 27 = .ok (.iload 4, 2) := by decide +kernel
theorem dX6_changePriority_29 : decode cX6_changePriority 29 = .ok (.aload_n 0, 1) := by decide +kernel
theorem dX6_changePriority_30 : decode cX6_changePriority 30 = .ok (.getfield 12, 3) := by decide +kernel
theorem dX6_changePriority_33 : decode cX6_changePriority 33 = .ok (.iload 4, 2) := by decide +kernel
theorem dX6_changePriority_35 : decode cX6_changePriority 35 = .ok (.iload_n 3, 1) := by decide +kernel
theorem dX6_changePriority_36 : decode cX6_changePriority 36 = .ok (.iload_n 1, 1) := by decide +kernel
theorem dX6_changePriority_37 : decode cX6_changePriority 37 = .ok (.iload_n 2, 1) := by decide +kernel
theorem dX6_changePriority_38 : decode cX6_changePriority 38 = .ok (.invokevirtual 61, 3) := by decide +kernel
theorem dX6_changePriority_41 : decode cX6_changePriority 41 = .ok (.invokevirtual 65, 3) := by decide +kernel
theorem dX6_changePriority_44 : decode cX6_changePriority 44 = .ok (.new 69, 3) := by decide +kernel
theorem dX6_changePriority_47 : decode cX6_changePriority 47 = .ok (.dup, 1) := by decide +kernel
theorem dX6_changePriority_48 : decode cX6_changePriority 48 = .ok (.ldc 93, 2) := by decide +kernel
theorem dX6_changePriority_50 : decode cX6_changePriority 50 = .ok (.invokespecial 73, 3) := by decide +kernel
theorem dX6_changePriority_53 : decode cX6_changePriority 53 = .ok (.athrow, 1) := by decide +kernel
theorem dX6_changePriority_54 : decode cX6_changePriority 54 = .ok (.aload_n 0, 1) := by decide +kernel
theorem dX6_changePriority_55 : decode cX6_changePriority 55 = .ok (.getfield 25, 3) := by decide +kernel
theorem dX6_changePriority_58 : decode cX6_changePriority 58 = .ok (.aload_n 0, 1) := by decide +kernel
theorem dX6_changePriority_59 : decode cX6_changePriority 59 = .ok (.getfield 12, 3) := by decide +kernel
theorem dX6_changePriority_62 : decode cX6_changePriority 62 = .ok (.invokevirtual 76, 3) := by decide +kernel
theorem dX6_changePriority_65 : decode cX6_changePriority 65 = .ok (.aload_n 0, 1) := by decide +kernel
theorem dX6_changePriority_66 : decode cX6_changePriority 66 = .ok (.getfield 12, 3) := by decide +kernel
theorem dX6_changePriority_69 : decode cX6_changePriority 69 = .ok (.iload_n 3, 1) := by decide +kernel
theorem dX6_changePriority_70 : decode cX6_changePriority 70 = .ok (.iload_n 2, 1) := by decide +kernel
theorem dX6_changePriority_71 : decode cX6_changePriority 71 = .ok (.invokevirtual 95, 3) := by decide +kernel
theorem dX6_changePriority_74 : decode cX6_changePriority 74 = .ok (.ireturn, 1) := by decide +kernel
theorem dX6_moveKey_0 : decode cX6_moveKey 0 = .ok (.aload_n 0, 1) := by decide +kernel
theorem dX6_moveKey_1 : decode cX6_moveKey 1 = .ok (.iload_n 1, 1) := by decide +kernel
theorem dX6_moveKey_2 : decode cX6_moveKey 2 = .ok (.invokevirtual 83, 3) := by decide +kernel
theorem dX6_moveKey_5 : decode cX6_moveKey 5 = .ok (.istore_n 3, 1) := by decide +kernel
theorem dX6_moveKey_6 : decode cX6_moveKey 6 = .ok (.iload_n 2, 1) := by decide +kernel
theorem dX6_moveKey_7 : decode cX6_moveKey 7 = .ok (.invokestatic 53, 3) := by decide +kernel
theorem dX6_moveKey_10 : decode cX6_moveKey 10 = .ok (.aload_n 0, 1) := by decide +kernel
theorem dX6_moveKey_11 : decode cX6_moveKey 11 = .ok (.getfield 12, 3) := by decide +kernel
theorem dX6_moveKey_14 : decode cX6_moveKey 14 = .ok (.iload_n 3, 1) := by decide +kernel
theorem dX6_moveKey_15 : decode cX6_moveKey 15 = .ok (.iload_n 2, 1) := by decide +kernel
theorem dX6_moveKey_16 : decode cX6_moveKey 16 = .ok (.invokevirtual 98, 3) := by decide +kernel
theorem dX6_moveKey_19 : decode cX6_moveKey 19 = .ok (.istore 4, 2) := by decide +kernel
theorem dX6_moveKey_21 : decode cX6_moveKey 21 = .ok (.iload 4, 2) := by decide +kernel
theorem dX6_moveKey_23 : decode cX6_moveKey 23 = .ok (.ifCond .eq 41, 3) := by decide +kernel
theorem dX6_moveKey_26 : decode cX6_moveKey 26 = .ok (.aload_n 0, 1) := by decide +kernel
theorem dX6_moveKey_27 : decode cX6_moveKey 27 = .ok (.iload 4, 2) := by decide +kernel
theorem dX6_moveKey_29 : decode cX6_moveKey 29 = .ok (.aload_n 0, 1) := by decide +kernel
theorem dX6_moveKey_30 : decode cX6_moveKey 30 = .ok (.getfield 12, 3) := by decide +kernel
theorem dX6_moveKey_33 : decode cX6_moveKey 33 = .ok (.iload 4, 2) := by decide +kernel
theorem dX6_moveKey_35 : decode cX6_moveKey 35 = .ok (.iload_n 3, 1) := by decide +kernel
theorem dX6_moveKey_36 : decode cX6_moveKey 36 = .ok (.iload_n 2, 1) := by decide +kernel
theorem dX6_moveKey_37 : decode cX6_moveKey 37 = .ok (.aload_n 0, 1) := by decide +kernel
theorem dX6_moveKey_38 : decode cX6_moveKey 38 = .ok (.getfield 12, 3) := by decide +kernel
theorem dX6_moveKey_41 : decode cX6_moveKey 41 = .ok (.getfield 101, 3) := by decide +kernel
theorem dX6_moveKey_44 : decode cX6_moveKey 44 = .ok (.iload_n 3, 1) := by decide +kernel
theorem dX6_moveKey_45 : decode cX6_moveKey 45 = .ok (.invokevirtual 105, 3) := by decide +kernel
theorem dX6_moveKey_48 : decode cX6_moveKey 48 = .ok (.invokevirtual 61, 3) := by decide +kernel
theorem dX6_moveKey_51 : decode cX6_moveKey 51 = .ok (.invokevirtual 65, 3) := by decide +kernel
theorem dX6_moveKey_54 : decode cX6_moveKey 54 = .ok (.new 69, 3) := by decide +kernel
theorem dX6_moveKey_57 : decode cX6_moveKey 57 = .ok (.dup, 1) := by decide +kernel
theorem dX6_moveKey_58 : decode cX6_moveKey 58 = .ok (.ldc 110, 2) := by decide +kernel
theorem dX6_moveKey_60 : decode cX6_moveKey 60 = .ok (.invokespecial 73, 3) := by decide +kernel
theorem dX6_moveKey_63 : decode cX6_moveKey 63 = .ok (.athrow, 1) := by decide +kernel
theorem dX6_moveKey_64 : decode cX6_moveKey 64 = .ok (.aload_n 0, 1) := by decide +kernel
theorem dX6_moveKey_65 : decode cX6_moveKey 65 = .ok (.getfield 25, 3) := by decide +kernel
theorem dX6_moveKey_68 : decode cX6_moveKey 68 = .ok (.aload_n 0, 1) := by decide +kernel
theorem dX6_moveKey_69 : decode cX6_moveKey 69 = .ok (.getfield 12, 3) := by decide +kernel
theorem dX6_moveKey_72 : decode cX6_moveKey 72 = .ok (.invokevirtual 76, 3) := by decide +kernel
theorem dX6_moveKey_75 : decode cX6_moveKey 75 = .ok (.aload_n 0, 1) := by decide +kernel
theorem dX6_moveKey_76 : decode cX6_moveKey 76 = .ok (.getfield 12, 3) := by decide +kernel
theorem dX6_moveKey_79 : decode cX6_moveKey 79 = .ok (.iload_n 3, 1) := by decide +kernel
theorem dX6_moveKey_80 : decode cX6_moveKey 80 = .ok (.iload_n 2, 1) := by decide +kernel
theorem dX6_moveKey_81 : decode cX6_moveKey 81 = .ok (.invokevirtual 112, 3) := by decide +kernel
theorem dX6_moveKey_84 : decode cX6_moveKey 84 = .ok (.ireturn, 1) := by decide +kernel
theorem dX6_deleteRange_0 : decode cX6_deleteRange 0 = .ok (.iload_n 1, 1) := by decide +kernel
theorem dX6_deleteRange_1 : decode cX6_deleteRange 1 = .ok (.iload_n 2, 1) := by decide +kernel
theorem dX6_deleteRange_2 : decode cX6_deleteRange 2 = .ok (.invokestatic 115, 3) := by decide +kernel
theorem dX6_deleteRange_5 : decode cX6_deleteRange 5 = .ok (.aload_n 0, 1) := by decide +kernel
theorem dX6_deleteRange_6 : decode cX6_deleteRange 6 = .ok (.getfield 25, 3) := by decide +kernel
theorem dX6_deleteRange_9 : decode cX6_deleteRange 9 = .ok (.aload_n 0, 1) := by decide +kernel
theorem dX6_deleteRange_10 : decode cX6_deleteRange 10 = .ok (.getfield 12, 3) := by decide +kernel
theorem dX6_deleteRange_13 : decode cX6_deleteRange 13 = .ok (.invokevirtual 76, 3) := by decide +kernel
theorem dX6_deleteRange_16 : decode cX6_deleteRange 16 = .ok (.aload_n 0, 1) := by decide +kernel
theorem dX6_deleteRange_17 : decode cX6_deleteRange 17 = .ok (.getfield 12, 3) := by decide +kernel
theorem dX6_deleteRange_20 : decode cX6_deleteRange 20 = .ok (.getfield 101, 3) := by decide +kernel
theorem dX6_deleteRange_23 : decode cX6_deleteRange 23 = .ok (.iload_n 1, 1) := by decide +kernel
theorem dX6_deleteRange_24 : decode cX6_deleteRange 24 = .ok (.iload_n 2, 1) := by decide +kernel
theorem dX6_deleteRange_25 : decode cX6_deleteRange 25 = .ok (.invokevirtual 118, 3) := by decide +kernel
theorem dX6_deleteRange_28 : decode cX6_deleteRange 28 = .ok (.ireturn, 1) := by decide +kernel
theorem dX6_size_0 : decode cX6_size 0 = .ok (.aload_n 0, 1) := by decide +kernel
theorem dX6_size_1 : decode cX6_size 1 = .ok (.getfield 12, 3) := by decide +kernel
theorem dX6_size_4 : decode cX6_size 4 = .ok (.getfield 101, 3) := by decide +kernel
theorem dX6_size_7 : decode cX6_size 7 = .ok (.invokevirtual 121, 3) := by decide +kernel
theorem dX6_size_10 : decode cX6_size 10 = .ok (.ireturn, 1) := by decide +kernel
theorem dX6_contains_0 : decode cX6_contains 0 = .ok (.aload_n 0, 1) := by decide +kernel
theorem dX6_contains_1 : decode cX6_contains 1 = .ok (.getfield 12, 3) := by decide +kernel
theorem dX6_contains_4 : decode cX6_contains 4 = .ok (.getfield 101, 3) := by decide +kernel
theorem dX6_contains_7 : decode cX6_contains 7 = .ok (.iload_n 1, 1) := by decide +kernel
theorem dX6_contains_8 : decode cX6_contains 8 = .ok (.invokevirtual 125, 3) := by decide +kernel
theorem dX6_contains_11 : decode cX6_contains 11 = .ok (.ifCond .eq 7, 3) := by decide +kernel
theorem dX6_contains_14 : decode cX6_contains 14 = .ok (.iconst 1, 1) := by decide +kernel
theorem dX6_contains_15 : decode cX6_contains 15 = .ok (.goto 4, 3) := by decide +kernel
theorem dX6_contains_18 : decode cX6_contains 18 = .ok (.iconst 0, 1) := by decide +kernel
theorem dX6_contains_19 : decode cX6_contains 19 = .ok (.ireturn, 1) := by decide +kernel
theorem dX6_priorityOf_0 : decode cX6_priorityOf 0 = .ok (.aload_n 0, 1) := by decide +kernel
theorem dX6_priorityOf_1 : decode cX6_priorityOf 1 = .ok (.getfield 12, 3) := by decide +kernel
theorem dX6_priorityOf_4 : decode cX6_priorityOf 4 = .ok (.getfield 101, 3) := by decide +kernel
theorem dX6_priorityOf_7 : decode cX6_priorityOf 7 = .ok (.aload_n 0, 1) := by decide +kernel
theorem dX6_priorityOf_8 : decode cX6_priorityOf 8 = .ok (.iload_n 1, 1) := by decide +kernel
theorem dX6_priorityOf_9 : decode cX6_priorityOf 9 = .ok (.invokevirtual 83, 3) := by decide +kernel
theorem dX6_priorityOf_12 : decode cX6_priorityOf 12 = .ok (.invokevirtual 105, 3) := by decide +kernel
theorem dX6_priorityOf_15 : decode cX6_priorityOf 15 = .ok (.ireturn, 1) := by decide +kernel
theorem dX6_floorKey_0 : decode cX6_floorKey 0 = .ok (.aload_n 0, 1) := by decide +kernel
theorem dX6_floorKey_1 : decode cX6_floorKey 1 = .ok (.aload_n 0, 1) := by decide +kernel
theorem dX6_floorKey_2 : decode cX6_floorKey 2 = .ok (.getfield 12, 3) := by decide +kernel
theorem dX6_floorKey_5 : decode cX6_floorKey 5 = .ok (.getfield 101, 3) := by decide +kernel
theorem dX6_floorKey_8 : decode cX6_floorKey 8 = .ok (.iload_n 1, 1) := by decide +kernel
theorem dX6_floorKey_9 : decode cX6_floorKey 9 = .ok (.invokevirtual 134, 3) := by decide +kernel
theorem dX6_floorKey_12 : decode cX6_floorKey 12 = .ok (.invokevirtual 131, 3) := by decide +kernel
theorem dX6_floorKey_15 : decode cX6_floorKey 15 = .ok (.ireturn, 1) := by decide +kernel
theorem dX6_ceilingKey_0 : decode cX6_ceilingKey 0 = .ok (.aload_n 0, 1) := by decide +kernel
theorem dX6_ceilingKey_1 : decode cX6_ceilingKey 1 = .ok (.aload_n 0, 1) := by decide +kernel
theorem dX6_ceilingKey_2 : decode cX6_ceilingKey 2 = .ok (.getfield 12, 3) := by decide +kernel
theorem dX6_ceilingKey_5 : decode cX6_ceilingKey 5 = .ok (.getfield 101, 3) := by decide +kernel
theorem dX6_ceilingKey_8 : decode cX6_ceilingKey 8 = .ok (.iload_n 1, 1) := by decide +kernel
theorem dX6_ceilingKey_9 : decode cX6_ceilingKey 9 = .ok (.invokevirtual 137, 3) := by decide +kernel
theorem dX6_ceilingKey_12 : decode cX6_ceilingKey 12 = .ok (.invokevirtual 131, 3) := by decide +kernel
theorem dX6_ceilingKey_15 : decode cX6_ceilingKey 15 = .ok (.ireturn, 1) := by decide +kernel
theorem dX6_nearestKey_0 : decode cX6_nearestKey 0 = .ok (.iload_n 1, 1) := by decide +kernel
theorem dX6_nearestKey_1 : decode cX6_nearestKey 1 = .ok (.invokestatic 53, 3) := by decide +kernel
theorem dX6_nearestKey_4 : decode cX6_nearestKey 4 = .ok (.aload_n 0, 1) := by decide +kernel
theorem dX6_nearestKey_5 : decode cX6_nearestKey 5 = .ok (.getfield 12, 3) := by decide +kernel
theorem dX6_nearestKey_8 : decode cX6_nearestKey 8 = .ok (.getfield 101, 3) := by decide +kernel
theorem dX6_nearestKey_11 : decode cX6_nearestKey 11 = .ok (.iload_n 1, 1) := by decide +kernel
theorem dX6_nearestKey_12 : decode cX6_nearestKey 12 = .ok (.invokevirtual 134, 3) := by decide +kernel
theorem dX6_nearestKey_15 : decode cX6_nearestKey 15 = .ok (.istore_n 2, 1) := by decide +kernel
theorem dX6_nearestKey_16 : decode cX6_nearestKey 16 = .ok (.aload_n 0, 1) := by decide +kernel
theorem dX6_nearestKey_17 : decode cX6_nearestKey 17 = .ok (.getfield 12, 3) := by decide +kernel
theorem dX6_nearestKey_20 : decode cX6_nearestKey 20 = .ok (.getfield 101, 3) := by decide +kernel
theorem dX6_nearestKey_23 : decode cX6_nearestKey 23 = .ok (.iload_n 1, 1) := by decide +kernel
theorem dX6_nearestKey_24 : decode cX6_nearestKey 24 = .ok (.invokevirtual 137, 3) := by decide +kernel
theorem dX6_nearestKey_27 : decode cX6_nearestKey 27 = .ok (.istore_n 3, 1) := by decide +kernel
theorem dX6_nearestKey_28 : decode cX6_nearestKey 28 = .ok (.iload_n 2, 1) := by decide +kernel
theorem dX6_nearestKey_29 : decode cX6_nearestKey 29 = .ok (.ifCond .eq 7, 3) := by decide +kernel
theorem dX6_nearestKey_32 : decode cX6_nearestKey 32 = .ok (.iload_n 3, 1) := by decide +kernel
theorem dX6_nearestKey_33 : decode cX6_nearestKey 33 = .ok (.ifCond .ne 17, 3) := by decide +kernel
theorem dX6_nearestKey_36 : decode cX6_nearestKey 36 = .ok (.aload_n 0, 1) := by decide +kernel
theorem dX6_nearestKey_37 : decode cX6_nearestKey 37 = .ok (.iload_n 2, 1) := by decide +kernel
theorem dX6_nearestKey_38 : decode cX6_nearestKey 38 = .ok (.ifCond .ne 7, 3) := by decide +kernel
theorem dX6_nearestKey_41 : decode cX6_nearestKey 41 = .ok (.iload_n 3, 1) := by decide +kernel
theorem dX6_nearestKey_42 : decode cX6_nearestKey 42 = .ok (.goto 4, 3) := by decide +kernel
theorem dX6_nearestKey_45 : decode cX6_nearestKey 45 = .ok (.iload_n 2, 1) := by decide +kernel
theorem dX6_nearestKey_46 : decode cX6_nearestKey 46 = .ok (.invokevirtual 131, 3) := by decide +kernel
theorem dX6_nearestKey_49 : decode cX6_nearestKey 49 = .ok (.ireturn, 1) := by decide +kernel
theorem dX6_nearestKey_50 : decode cX6_nearestKey 50 = .ok (.aload_n 0, 1) := by decide +kernel
theorem dX6_nearestKey_51 : decode cX6_nearestKey 51 = .ok (.getfield 12, 3) := by decide +kernel
theorem dX6_nearestKey_54 : decode cX6_nearestKey 54 = .ok (.getfield 101, 3) := by decide +kernel
theorem dX6_nearestKey_57 : decode cX6_nearestKey 57 = .ok (.iload_n 2, 1) := by decide +kernel
theorem dX6_nearestKey_58 : decode cX6_nearestKey 58 = .ok (.invokevirtual 140, 3) := by decide +kernel
theorem dX6_nearestKey_61 : decode cX6_nearestKey 61 = .ok (.istore 4, 2) := by decide +kernel
theorem dX6_nearestKey_63 : decode cX6_nearestKey 63 = .ok (.aload_n 0, 1) := by decide +kernel
theorem dX6_nearestKey_64 : decode cX6_nearestKey 64 = .ok (.getfield 12, 3) := by decide +kernel
theorem dX6_nearestKey_67 : decode cX6_nearestKey 67 = .ok (.getfield 101, 3) := by decide +kernel
theorem dX6_nearestKey_70 : decode cX6_nearestKey 70 = .ok (.iload_n 3, 1) := by decide +kernel
theorem dX6_nearestKey_71 : decode cX6_nearestKey 71 = .ok (.invokevirtual 140, 3) := by decide +kernel
theorem dX6_nearestKey_74 : decode cX6_nearestKey 74 = .ok (.istore 5, 2) := by decide +kernel
theorem dX6_nearestKey_76 : decode cX6_nearestKey 76 = .ok (.iload_n 1, 1) := by decide +kernel
theorem dX6_nearestKey_77 : decode cX6_nearestKey 77 = .ok (.iload 4, 2) := by decide +kernel
theorem dX6_nearestKey_79 : decode cX6_nearestKey 79 = .ok (.isub, 1) := by decide +kernel
theorem dX6_nearestKey_80 : decode cX6_nearestKey 80 = .ok (.iload 5, 2) := by decide +kernel
theorem dX6_nearestKey_82 : decode cX6_nearestKey 82 = .ok (.iload_n 1, 1) := by decide +kernel
theorem dX6_nearestKey_83 : decode cX6_nearestKey 83 = .ok (.isub, 1) := by decide +kernel
theorem dX6_nearestKey_84 : decode cX6_nearestKey 84 = .ok (.if_icmp .gt 8, 3) := by decide +kernel
theorem dX6_nearestKey_87 : decode cX6_nearestKey 87 = .ok (.iload 4, 2) := by decide +kernel
theorem dX6_nearestKey_89 : decode cX6_nearestKey 89 = .ok (.goto 5, 3) := by decide +kernel
theorem dX6_nearestKey_92 : decode cX6_nearestKey 92 = .ok (.iload 5, 2) := by decide +kernel
theorem dX6_nearestKey_94 : decode cX6_nearestKey 94 = .ok (.ireturn, 1) := by decide +kernel
theorem dX6_rankOf_0 : decode cX6_rankOf 0 = .ok (.aload_n 0, 1) := by decide +kernel
theorem dX6_rankOf_1 : decode cX6_rankOf 1 = .ok (.getfield 12, 3) := by decide +kernel
theorem dX6_rankOf_4 : decode cX6_rankOf 4 = .ok (.getfield 101, 3) := by decide +kernel
theorem dX6_rankOf_7 : decode cX6_rankOf 7 = .ok (.iload_n 1, 1) := by decide +kernel
theorem dX6_rankOf_8 : decode cX6_rankOf 8 = .ok (.invokevirtual 143, 3) := by decide +kernel
theorem dX6_rankOf_11 : decode cX6_rankOf 11 = .ok (.ireturn, 1) := by decide +kernel
theorem dX6_keyAt_0 : decode cX6_keyAt 0 = .ok (.aload_n 0, 1) := by decide +kernel
theorem dX6_keyAt_1 : decode cX6_keyAt 1 = .ok (.aload_n 0, 1) := by decide +kernel
theorem dX6_keyAt_2 : decode cX6_keyAt 2 = .ok (.getfield 12, 3) := by decide +kernel
theorem dX6_keyAt_5 : decode cX6_keyAt 5 = .ok (.getfield 101, 3) := by decide +kernel
theorem dX6_keyAt_8 : decode cX6_keyAt 8 = .ok (.iload_n 1, 1) := by decide +kernel
theorem dX6_keyAt_9 : decode cX6_keyAt 9 = .ok (.invokevirtual 128, 3) := by decide +kernel
theorem dX6_keyAt_12 : decode cX6_keyAt 12 = .ok (.invokevirtual 131, 3) := by decide +kernel
theorem dX6_keyAt_15 : decode cX6_keyAt 15 = .ok (.ireturn, 1) := by decide +kernel
theorem dX6_keyByPriority_0 : decode cX6_keyByPriority 0 = .ok (.aload_n 0, 1) := by decide +kernel
theorem dX6_keyByPriority_1 : decode cX6_keyByPriority 1 = .ok (.aload_n 0, 1) := by decide +kernel
theorem dX6_keyByPriority_2 : decode cX6_keyByPriority 2 = .ok (.getfield 12, 3) := by decide +kernel
theorem dX6_keyByPriority_5 : decode cX6_keyByPriority 5 = .ok (.getfield 101, 3) := by decide +kernel
theorem dX6_keyByPriority_8 : decode cX6_keyByPriority 8 = .ok (.iload_n 1, 1) := by decide +kernel
theorem dX6_keyByPriority_9 : decode cX6_keyByPriority 9 = .ok (.invokevirtual 146, 3) := by decide +kernel
theorem dX6_keyByPriority_12 : decode cX6_keyByPriority 12 = .ok (.invokevirtual 131, 3) := by decide +kernel
theorem dX6_keyByPriority_15 : decode cX6_keyByPriority 15 = .ok (.ireturn, 1) := by decide +kernel
theorem dX6_root_0 : decode cX6_root 0 = .ok (.aload_n 0, 1) := by decide +kernel
theorem dX6_root_1 : decode cX6_root 1 = .ok (.aload_n 0, 1) := by decide +kernel
theorem dX6_root_2 : decode cX6_root 2 = .ok (.getfield 12, 3) := by decide +kernel
theorem dX6_root_5 : decode cX6_root 5 = .ok (.getfield 101, 3) := by decide +kernel
theorem dX6_root_8 : decode cX6_root 8 = .ok (.invokevirtual 149, 3) := by decide +kernel
theorem dX6_root_11 : decode cX6_root 11 = .ok (.invokevirtual 131, 3) := by decide +kernel
theorem dX6_root_14 : decode cX6_root 14 = .ok (.ireturn, 1) := by decide +kernel
theorem dX6_hasLeft_0 : decode cX6_hasLeft 0 = .ok (.aload_n 0, 1) := by decide +kernel
theorem dX6_hasLeft_1 : decode cX6_hasLeft 1 = .ok (.getfield 12, 3) := by decide +kernel
theorem dX6_hasLeft_4 : decode cX6_hasLeft 4 = .ok (.getfield 101, 3) := by decide +kernel
theorem dX6_hasLeft_7 : decode cX6_hasLeft 7 = .ok (.aload_n 0, 1) := by decide +kernel
theorem dX6_hasLeft_8 : decode cX6_hasLeft 8 = .ok (.iload_n 1, 1) := by decide +kernel
theorem dX6_hasLeft_9 : decode cX6_hasLeft 9 = .ok (.invokevirtual 83, 3) := by decide +kernel
theorem dX6_hasLeft_12 : decode cX6_hasLeft 12 = .ok (.invokevirtual 152, 3) := by decide +kernel
theorem dX6_hasLeft_15 : decode cX6_hasLeft 15 = .ok (.ifCond .eq 7, 3) := by decide +kernel
theorem dX6_hasLeft_18 : decode cX6_hasLeft 18 = .ok (.iconst 1, 1) := by decide +kernel
theorem dX6_hasLeft_19 : decode cX6_hasLeft 19 = .ok (.goto 4, 3) := by decide +kernel
theorem dX6_hasLeft_22 : decode cX6_hasLeft 22 = .ok (.iconst 0, 1) := by decide +kernel
theorem dX6_hasLeft_23 : decode cX6_hasLeft 23 = .ok (.ireturn, 1) := by decide +kernel
theorem dX6_hasRight_0 : decode cX6_hasRight 0 = .ok (.aload_n 0, 1) := by decide +kernel
theorem dX6_hasRight_1 : decode cX6_hasRight 1 = .ok (.getfield 12, 3) := by decide +kernel
theorem dX6_hasRight_4 : decode cX6_hasRight 4 = .ok (.getfield 101, 3) := by decide +kernel
theorem dX6_hasRight_7 : decode cX6_hasRight 7 = .ok (.aload_n 0, 1) := by decide +kernel
theorem dX6_hasRight_8 : decode cX6_hasRight 8 = .ok (.iload_n 1, 1) := by decide +kernel
theorem dX6_hasRight_9 : decode cX6_hasRight 9 = .ok (.invokevirtual 83, 3) := by decide +kernel
theorem dX6_hasRight_12 : decode cX6_hasRight 12 = .ok (.invokevirtual 155, 3) := by decide +kernel
theorem dX6_hasRight_15 : decode cX6_hasRight 15 = .ok (.ifCond .eq 7, 3) := by decide +kernel
theorem dX6_hasRight_18 : decode cX6_hasRight 18 = .ok (.iconst 1, 1) := by decide +kernel
theorem dX6_hasRight_19 : decode cX6_hasRight 19 = .ok (.goto 4, 3) := by decide +kernel
theorem dX6_hasRight_22 : decode cX6_hasRight 22 = .ok (.iconst 0, 1) := by decide +kernel
theorem dX6_hasRight_23 : decode cX6_hasRight 23 = .ok (.ireturn, 1) := by decide +kernel
theorem dX6_leftOf_0 : decode cX6_leftOf 0 = .ok (.aload_n 0, 1) := by decide +kernel
theorem dX6_leftOf_1 : decode cX6_leftOf 1 = .ok (.aload_n 0, 1) := by decide +kernel
theorem dX6_leftOf_2 : decode cX6_leftOf 2 = .ok (.getfield 12, 3) := by decide +kernel
theorem dX6_leftOf_5 : decode cX6_leftOf 5 = .ok (.getfield 101, 3) := by decide +kernel
theorem dX6_leftOf_8 : decode cX6_leftOf 8 = .ok (.aload_n 0, 1) := by decide +kernel
theorem dX6_leftOf_9 : decode cX6_leftOf 9 = .ok (.iload_n 1, 1) := by decide +kernel
theorem dX6_leftOf_10 : decode cX6_leftOf 10 = .ok (.invokevirtual 83, 3) := by decide +kernel
theorem dX6_leftOf_13 : decode cX6_leftOf 13 = .ok (.invokevirtual 152, 3) := by decide +kernel
theorem dX6_leftOf_16 : decode cX6_leftOf 16 = .ok (.invokevirtual 131, 3) := by decide +kernel
theorem dX6_leftOf_19 : decode cX6_leftOf 19 = .ok (.ireturn, 1) := by decide +kernel
theorem dX6_rightOf_0 : decode cX6_rightOf 0 = .ok (.aload_n 0, 1) := by decide +kernel
theorem dX6_rightOf_1 : decode cX6_rightOf 1 = .ok (.aload_n 0, 1) := by decide +kernel
theorem dX6_rightOf_2 : decode cX6_rightOf 2 = .ok (.getfield 12, 3) := by decide +kernel
theorem dX6_rightOf_5 : decode cX6_rightOf 5 = .ok (.getfield 101, 3) := by decide +kernel
theorem dX6_rightOf_8 : decode cX6_rightOf 8 = .ok (.aload_n 0, 1) := by decide +kernel
theorem dX6_rightOf_9 : decode cX6_rightOf 9 = .ok (.iload_n 1, 1) := by decide +kernel
theorem dX6_rightOf_10 : decode cX6_rightOf 10 = .ok (.invokevirtual 83, 3) := by decide +kernel
theorem dX6_rightOf_13 : decode cX6_rightOf 13 = .ok (.invokevirtual 155, 3) := by decide +kernel
theorem dX6_rightOf_16 : decode cX6_rightOf 16 = .ok (.invokevirtual 131, 3) := by decide +kernel
theorem dX6_rightOf_19 : decode cX6_rightOf 19 = .ok (.ireturn, 1) := by decide +kernel
theorem dX6_parentOf_0 : decode cX6_parentOf 0 = .ok (.aload_n 0, 1) := by decide +kernel
theorem dX6_parentOf_1 : decode cX6_parentOf 1 = .ok (.aload_n 0, 1) := by decide +kernel
theorem dX6_parentOf_2 : decode cX6_parentOf 2 = .ok (.getfield 12, 3) := by decide +kernel
theorem dX6_parentOf_5 : decode cX6_parentOf 5 = .ok (.getfield 101, 3) := by decide +kernel
theorem dX6_parentOf_8 : decode cX6_parentOf 8 = .ok (.aload_n 0, 1) := by decide +kernel
theorem dX6_parentOf_9 : decode cX6_parentOf 9 = .ok (.iload_n 1, 1) := by decide +kernel
theorem dX6_parentOf_10 : decode cX6_parentOf 10 = .ok (.invokevirtual 83, 3) := by decide +kernel
theorem dX6_parentOf_13 : decode cX6_parentOf 13 = .ok (.invokevirtual 158, 3) := by decide +kernel
theorem dX6_parentOf_16 : decode cX6_parentOf 16 = .ok (.invokevirtual 131, 3) := by decide +kernel
theorem dX6_parentOf_19 : decode cX6_parentOf 19 = .ok (.ireturn, 1) := by decide +kernel
theorem dX6_depthOf_0 : decode cX6_depthOf 0 = .ok (.aload_n 0, 1) := by decide +kernel
theorem dX6_depthOf_1 : decode cX6_depthOf 1 = .ok (.getfield 12, 3) := by decide +kernel
theorem dX6_depthOf_4 : decode cX6_depthOf 4 = .ok (.getfield 101, 3) := by decide +kernel
theorem dX6_depthOf_7 : decode cX6_depthOf 7 = .ok (.aload_n 0, 1) := by decide +kernel
theorem dX6_depthOf_8 : decode cX6_depthOf 8 = .ok (.iload_n 1, 1) := by decide +kernel
theorem dX6_depthOf_9 : decode cX6_depthOf 9 = .ok (.invokevirtual 83, 3) := by decide +kernel
theorem dX6_depthOf_12 : decode cX6_depthOf 12 = .ok (.invokevirtual 161, 3) := by decide +kernel
theorem dX6_depthOf_15 : decode cX6_depthOf 15 = .ok (.ireturn, 1) := by decide +kernel
theorem dX6_subtreeSize_0 : decode cX6_subtreeSize 0 = .ok (.aload_n 0, 1) := by decide +kernel
theorem dX6_subtreeSize_1 : decode cX6_subtreeSize 1 = .ok (.getfield 12, 3) := by decide +kernel
theorem dX6_subtreeSize_4 : decode cX6_subtreeSize 4 = .ok (.getfield 101, 3) := by decide +kernel
theorem dX6_subtreeSize_7 : decode cX6_subtreeSize 7 = .ok (.aload_n 0, 1) := by decide +kernel
theorem dX6_subtreeSize_8 : decode cX6_subtreeSize 8 = .ok (.iload_n 1, 1) := by decide +kernel
theorem dX6_subtreeSize_9 : decode cX6_subtreeSize 9 = .ok (.invokevirtual 83, 3) := by decide +kernel
theorem dX6_subtreeSize_12 : decode cX6_subtreeSize 12 = .ok (.invokevirtual 164, 3) := by decide +kernel
theorem dX6_subtreeSize_15 : decode cX6_subtreeSize 15 = .ok (.ireturn, 1) := by decide +kernel
theorem dX6_imbalanceOf_0 : decode cX6_imbalanceOf 0 = .ok (.aload_n 0, 1) := by decide +kernel
theorem dX6_imbalanceOf_1 : decode cX6_imbalanceOf 1 = .ok (.iload_n 1, 1) := by decide +kernel
theorem dX6_imbalanceOf_2 : decode cX6_imbalanceOf 2 = .ok (.invokevirtual 83, 3) := by decide +kernel
theorem dX6_imbalanceOf_5 : decode cX6_imbalanceOf 5 = .ok (.istore_n 2, 1) := by decide +kernel
theorem dX6_imbalanceOf_6 : decode cX6_imbalanceOf 6 = .ok (.aload_n 0, 1) := by decide +kernel
theorem dX6_imbalanceOf_7 : decode cX6_imbalanceOf 7 = .ok (.getfield 12, 3) := by decide +kernel
theorem dX6_imbalanceOf_10 : decode cX6_imbalanceOf 10 = .ok (.getfield 101, 3) := by decide +kernel
theorem dX6_imbalanceOf_13 : decode cX6_imbalanceOf 13 = .ok (.aload_n 0, 1) := by decide +kernel
theorem dX6_imbalanceOf_14 : decode cX6_imbalanceOf 14 = .ok (.getfield 12, 3) := by decide +kernel
theorem dX6_imbalanceOf_17 : decode cX6_imbalanceOf 17 = .ok (.getfield 101, 3) := by decide +kernel
theorem dX6_imbalanceOf_20 : decode cX6_imbalanceOf 20 = .ok (.iload_n 2, 1) := by decide +kernel
theorem dX6_imbalanceOf_21 : decode cX6_imbalanceOf 21 = .ok (.invokevirtual 152, 3) := by decide +kernel
theorem dX6_imbalanceOf_24 : decode cX6_imbalanceOf 24 = .ok (.invokevirtual 164, 3) := by decide +kernel
theorem dX6_imbalanceOf_27 : decode cX6_imbalanceOf 27 = .ok (.aload_n 0, 1) := by decide +kernel
theorem dX6_imbalanceOf_28 : decode cX6_imbalanceOf 28 = .ok (.getfield 12, 3) := by decide +kernel
theorem dX6_imbalanceOf_31 : decode cX6_imbalanceOf 31 = .ok (.getfield 101, 3) := by decide +kernel
theorem dX6_imbalanceOf_34 : decode cX6_imbalanceOf 34 = .ok (.aload_n 0, 1) := by decide +kernel
theorem dX6_imbalanceOf_35 : decode cX6_imbalanceOf 35 = .ok (.getfield 12, 3) := by decide +kernel
theorem dX6_imbalanceOf_38 : decode cX6_imbalanceOf 38 = .ok (.getfield 101, 3) := by decide +kernel
theorem dX6_imbalanceOf_41 : decode cX6_imbalanceOf 41 = .ok (.iload_n 2, 1) := by decide +kernel
theorem dX6_imbalanceOf_42 : decode cX6_imbalanceOf 42 = .ok (.invokevirtual 155, 3) := by decide +kernel
theorem dX6_imbalanceOf_45 : decode cX6_imbalanceOf 45 = .ok (.invokevirtual 164, 3) := by decide +kernel
theorem dX6_imbalanceOf_48 : decode cX6_imbalanceOf 48 = .ok (.isub, 1) := by decide +kernel
theorem dX6_imbalanceOf_49 : decode cX6_imbalanceOf 49 = .ok (.ireturn, 1) := by decide +kernel
theorem dX6_height_0 : decode cX6_height 0 = .ok (.aload_n 0, 1) := by decide +kernel
theorem dX6_height_1 : decode cX6_height 1 = .ok (.getfield 12, 3) := by decide +kernel
theorem dX6_height_4 : decode cX6_height 4 = .ok (.getfield 101, 3) := by decide +kernel
theorem dX6_height_7 : decode cX6_height 7 = .ok (.invokevirtual 167, 3) := by decide +kernel
theorem dX6_height_10 : decode cX6_height 10 = .ok (.ireturn, 1) := by decide +kernel
theorem dX6_leafCount_0 : decode cX6_leafCount 0 = .ok (.aload_n 0, 1) := by decide +kernel
theorem dX6_leafCount_1 : decode cX6_leafCount 1 = .ok (.getfield 12, 3) := by decide +kernel
theorem dX6_leafCount_4 : decode cX6_leafCount 4 = .ok (.getfield 101, 3) := by decide +kernel
theorem dX6_leafCount_7 : decode cX6_leafCount 7 = .ok (.invokevirtual 170, 3) := by decide +kernel
theorem dX6_leafCount_10 : decode cX6_leafCount 10 = .ok (.ireturn, 1) := by decide +kernel
theorem dX6_commonAncestor_0 : decode cX6_commonAncestor 0 = .ok (.aload_n 0, 1) := by decide +kernel
theorem dX6_commonAncestor_1 : decode cX6_commonAncestor 1 = .ok (.iload_n 1, 1) := by decide +kernel
theorem dX6_commonAncestor_2 : decode cX6_commonAncestor 2 = .ok (.invokevirtual 83, 3) := by decide +kernel
theorem dX6_commonAncestor_5 : decode cX6_commonAncestor 5 = .ok (.pop, 1) := by decide +kernel
theorem dX6_commonAncestor_6 : decode cX6_commonAncestor 6 = .ok (.aload_n 0, 1) := by decide +kernel
theorem dX6_commonAncestor_7 : decode cX6_commonAncestor 7 = .ok (.iload_n 2, 1) := by decide +kernel
theorem dX6_commonAncestor_8 : decode cX6_commonAncestor 8 = .ok (.invokevirtual 83, 3) := by decide +kernel
theorem dX6_commonAncestor_11 : decode cX6_commonAncestor 11 = .ok (.pop, 1) := by decide +kernel
theorem dX6_commonAncestor_12 : decode cX6_commonAncestor 12 = .ok (.aload_n 0, 1) := by decide +kernel
theorem dX6_commonAncestor_13 : decode cX6_commonAncestor 13 = .ok (.getfield 12, 3) := by decide +kernel
theorem dX6_commonAncestor_16 : decode cX6_commonAncestor 16 = .ok (.getfield 101, 3) := by decide +kernel
theorem dX6_commonAncestor_19 : decode cX6_commonAncestor 19 = .ok (.aload_n 0, 1) := by decide +kernel
theorem dX6_commonAncestor_20 : decode cX6_commonAncestor 20 = .ok (.getfield 12, 3) := by decide +kernel
theorem dX6_commonAncestor_23 : decode cX6_commonAncestor 23 = .ok (.getfield 101, 3) := by decide +kernel
theorem dX6_commonAncestor_26 : decode cX6_commonAncestor 26 = .ok (.iload_n 1, 1) := by decide +kernel
theorem dX6_commonAncestor_27 : decode cX6_commonAncestor 27 = .ok (.iload_n 2, 1) := by decide +kernel
theorem dX6_commonAncestor_28 : decode cX6_commonAncestor 28 = .ok (.invokestatic 173, 3) := by decide +kernel
theorem dX6_commonAncestor_31 : decode cX6_commonAncestor 31 = .ok (.iload_n 1, 1) := by decide +kernel
theorem dX6_commonAncestor_32 : decode cX6_commonAncestor 32 = .ok (.iload_n 2, 1) := by decide +kernel
theorem dX6_commonAncestor_33 : decode cX6_commonAncestor 33 = .ok (.invokestatic 178, 3) := by decide +kernel
theorem dX6_commonAncestor_36 : decode cX6_commonAncestor 36 = .ok (.invokevirtual 181, 3) := by decide +kernel
theorem dX6_commonAncestor_39 : decode cX6_commonAncestor 39 = .ok (.invokevirtual 140, 3) := by decide +kernel
theorem dX6_commonAncestor_42 : decode cX6_commonAncestor 42 = .ok (.ireturn, 1) := by decide +kernel
theorem dX6_distance_0 : decode cX6_distance 0 = .ok (.aload_n 0, 1) := by decide +kernel
theorem dX6_distance_1 : decode cX6_distance 1 = .ok (.iload_n 1, 1) := by decide +kernel
theorem dX6_distance_2 : decode cX6_distance 2 = .ok (.invokevirtual 83, 3) := by decide +kernel
theorem dX6_distance_5 : decode cX6_distance 5 = .ok (.istore_n 3, 1) := by decide +kernel
theorem dX6_distance_6 : decode cX6_distance 6 = .ok (.aload_n 0, 1) := by decide +kernel
theorem dX6_distance_7 : decode cX6_distance 7 = .ok (.iload_n 2, 1) := by decide +kernel
theorem dX6_distance_8 : decode cX6_distance 8 = .ok (.invokevirtual 83, 3) := by decide +kernel
theorem dX6_distance_11 : decode cX6_distance 11 = .ok (.istore 4, 2) := by decide +kernel
theorem dX6_distance_13 : decode cX6_distance 13 = .ok (.aload_n 0, 1) := by decide +kernel
theorem dX6_distance_14 : decode cX6_distance 14 = .ok (.getfield 12, 3) := by decide +kernel
theorem dX6_distance_17 : decode cX6_distance 17 = .ok (.getfield 101, 3) := by decide +kernel
theorem dX6_distance_20 : decode cX6_distance 20 = .ok (.iload_n 1, 1) := by decide +kernel
theorem dX6_distance_21 : decode cX6_distance 21 = .ok (.iload_n 2, 1) := by decide +kernel
theorem dX6_distance_22 : decode cX6_distance 22 = .ok (.invokestatic 173, 3) := by decide +kernel
theorem dX6_distance_25 : decode cX6_distance 25 = .ok (.iload_n 1, 1) := by decide +kernel
theorem dX6_distance_26 : decode cX6_distance 26 = .ok (.iload_n 2, 1) := by decide +kernel
theorem dX6_distance_27 : decode cX6_distance 27 = .ok (.invokestatic 178, 3) := by decide +kernel
theorem dX6_distance_30 : decode cX6_distance 30 = .ok (.invokevirtual 181, 3) := by decide +kernel
theorem dX6_distance_33 : decode cX6_distance 33 = .ok (.istore 5, 2) := by decide +kernel
theorem dX6_distance_35 : decode cX6_distance 35 = .ok (.aload_n 0, 1) := by decide +kernel
theorem dX6_distance_36 : decode cX6_distance 36 = .ok (.getfield 12, 3) := by decide +kernel
theorem dX6_distance_39 : decode cX6_distance 39 = .ok (.getfield 101, 3) := by decide +kernel
theorem dX6_distance_42 : decode cX6_distance 42 = .ok (.iload_n 3, 1) := by decide +kernel
theorem dX6_distance_43 : decode cX6_distance 43 = .ok (.invokevirtual 161, 3) := by decide +kernel
theorem dX6_distance_46 : decode cX6_distance 46 = .ok (.aload_n 0, 1) := by decide +kernel
theorem dX6_distance_47 : decode cX6_distance 47 = .ok (.getfield 12, 3) := by decide +kernel
theorem dX6_distance_50 : decode cX6_distance 50 = .ok (.getfield 101, 3) := by decide +kernel
theorem dX6_distance_53 : decode cX6_distance 53 = .ok (.iload 4, 2) := by decide +kernel
theorem dX6_distance_55 : decode cX6_distance 55 = .ok (.invokevirtual 161, 3) := by decide +kernel
theorem dX6_distance_58 : decode cX6_distance 58 = .ok (.iadd, 1) := by decide +kernel
theorem dX6_distance_59 : decode cX6_distance 59 = .ok (.iconst 2, 1) := by decide +kernel
theorem dX6_distance_60 : decode cX6_distance 60 = .ok (.aload_n 0, 1) := by decide +kernel
theorem dX6_distance_61 : decode cX6_distance 61 = .ok (.getfield 12, 3) := by decide +kernel
theorem dX6_distance_64 : decode cX6_distance 64 = .ok (.getfield 101, 3) := by decide +kernel
theorem dX6_distance_67 : decode cX6_distance 67 = .ok (.iload 5, 2) := by decide +kernel
theorem dX6_distance_69 : decode cX6_distance 69 = .ok (.invokevirtual 161, 3) := by decide +kernel
theorem dX6_distance_72 : decode cX6_distance 72 = .ok (.imul, 1) := by decide +kernel
theorem dX6_distance_73 : decode cX6_distance 73 = .ok (.isub, 1) := by decide +kernel
theorem dX6_distance_74 : decode cX6_distance 74 = .ok (.ireturn, 1) := by decide +kernel
theorem dX6_countInRange_0 : decode cX6_countInRange 0 = .ok (.iload_n 1, 1) := by decide +kernel
theorem dX6_countInRange_1 : decode cX6_countInRange 1 = .ok (.iload_n 2, 1) := by decide +kernel
theorem dX6_countInRange_2 : decode cX6_countInRange 2 = .ok (.invokestatic 115, 3) := by decide +kernel
theorem dX6_countInRange_5 : decode cX6_countInRange 5 = .ok (.aload_n 0, 1) := by decide +kernel
theorem dX6_countInRange_6 : decode cX6_countInRange 6 = .ok (.getfield 12, 3) := by decide +kernel
theorem dX6_countInRange_9 : decode cX6_countInRange 9 = .ok (.getfield 101, 3) := by decide +kernel
theorem dX6_countInRange_12 : decode cX6_countInRange 12 = .ok (.iload_n 1, 1) := by decide +kernel
theorem dX6_countInRange_13 : decode cX6_countInRange 13 = .ok (.iload_n 2, 1) := by decide +kernel
theorem dX6_countInRange_14 : decode cX6_countInRange 14 = .ok (.invokevirtual 184, 3) := by decide +kernel
theorem dX6_countInRange_17 : decode cX6_countInRange 17 = .ok (.ireturn, 1) := by decide +kernel
theorem dX6_countInRangeByScan_0 : decode cX6_countInRangeByScan 0 = .ok (.iload_n 1, 1) := by decide +kernel
theorem dX6_countInRangeByScan_1 : decode cX6_countInRangeByScan 1 = .ok (.iload_n 2, 1) := by decide +kernel
theorem dX6_countInRangeByScan_2 : decode cX6_countInRangeByScan 2 = .ok (.invokestatic 115, 3) := by decide +kernel
theorem dX6_countInRangeByScan_5 : decode cX6_countInRangeByScan 5 = .ok (.aload_n 0, 1) := by decide +kernel
theorem dX6_countInRangeByScan_6 : decode cX6_countInRangeByScan 6 = .ok (.getfield 12, 3) := by decide +kernel
theorem dX6_countInRangeByScan_9 : decode cX6_countInRangeByScan 9 = .ok (.getfield 101, 3) := by decide +kernel
theorem dX6_countInRangeByScan_12 : decode cX6_countInRangeByScan 12 = .ok (.iload_n 1, 1) := by decide +kernel
theorem dX6_countInRangeByScan_13 : decode cX6_countInRangeByScan 13 = .ok (.iload_n 2, 1) := by decide +kernel
theorem dX6_countInRangeByScan_14 : decode cX6_countInRangeByScan 14 = .ok (.iconst 0, 1) := by decide +kernel
theorem dX6_countInRangeByScan_15 : decode cX6_countInRangeByScan 15 = .ok (.invokevirtual 187, 3) := by decide +kernel
theorem dX6_countInRangeByScan_18 : decode cX6_countInRangeByScan 18 = .ok (.ireturn, 1) := by decide +kernel
theorem dX6_topInRange_0 : decode cX6_topInRange 0 = .ok (.iload_n 1, 1) := by decide +kernel
theorem dX6_topInRange_1 : decode cX6_topInRange 1 = .ok (.iload_n 2, 1) := by decide +kernel
theorem dX6_topInRange_2 : decode cX6_topInRange 2 = .ok (.invokestatic 115, 3) := by decide +kernel
theorem dX6_topInRange_5 : decode cX6_topInRange 5 = .ok (.aload_n 0, 1) := by decide +kernel
theorem dX6_topInRange_6 : decode cX6_topInRange 6 = .ok (.aload_n 0, 1) := by decide +kernel
theorem dX6_topInRange_7 : decode cX6_topInRange 7 = .ok (.getfield 12, 3) := by decide +kernel
theorem dX6_topInRange_10 : decode cX6_topInRange 10 = .ok (.getfield 101, 3) := by decide +kernel
theorem dX6_topInRange_13 : decode cX6_topInRange 13 = .ok (.iload_n 1, 1) := by decide +kernel
theorem dX6_topInRange_14 : decode cX6_topInRange 14 = .ok (.iload_n 2, 1) := by decide +kernel
theorem dX6_topInRange_15 : decode cX6_topInRange 15 = .ok (.invokevirtual 181, 3) := by decide +kernel
theorem dX6_topInRange_18 : decode cX6_topInRange 18 = .ok (.invokevirtual 131, 3) := by decide +kernel
theorem dX6_topInRange_21 : decode cX6_topInRange 21 = .ok (.ireturn, 1) := by decide +kernel
theorem dX6_topInRangeByScan_0 : decode cX6_topInRangeByScan 0 = .ok (.iload_n 1, 1) := by decide +kernel
theorem dX6_topInRangeByScan_1 : decode cX6_topInRangeByScan 1 = .ok (.iload_n 2, 1) := by decide +kernel
theorem dX6_topInRangeByScan_2 : decode cX6_topInRangeByScan 2 = .ok (.invokestatic 115, 3) := by decide +kernel
theorem dX6_topInRangeByScan_5 : decode cX6_topInRangeByScan 5 = .ok (.aload_n 0, 1) := by decide +kernel
theorem dX6_topInRangeByScan_6 : decode cX6_topInRangeByScan 6 = .ok (.aload_n 0, 1) := by decide +kernel
theorem dX6_topInRangeByScan_7 : decode cX6_topInRangeByScan 7 = .ok (.getfield 12, 3) := by decide +kernel
theorem dX6_topInRangeByScan_10 : decode cX6_topInRangeByScan 10 = .ok (.getfield 101, 3) := by decide +kernel
theorem dX6_topInRangeByScan_13 : decode cX6_topInRangeByScan 13 = .ok (.iload_n 1, 1) := by decide +kernel
theorem dX6_topInRangeByScan_14 : decode cX6_topInRangeByScan 14 = .ok (.iload_n 2, 1) := by decide +kernel
theorem dX6_topInRangeByScan_15 : decode cX6_topInRangeByScan 15 = .ok (.invokevirtual 191, 3) := by decide +kernel
theorem dX6_topInRangeByScan_18 : decode cX6_topInRangeByScan 18 = .ok (.invokevirtual 131, 3) := by decide +kernel
theorem dX6_topInRangeByScan_21 : decode cX6_topInRangeByScan 21 = .ok (.ireturn, 1) := by decide +kernel
theorem dX6_countAbove_0 : decode cX6_countAbove 0 = .ok (.iload_n 1, 1) := by decide +kernel
theorem dX6_countAbove_1 : decode cX6_countAbove 1 = .ok (.iload_n 2, 1) := by decide +kernel
theorem dX6_countAbove_2 : decode cX6_countAbove 2 = .ok (.invokestatic 115, 3) := by decide +kernel
theorem dX6_countAbove_5 : decode cX6_countAbove 5 = .ok (.iload_n 3, 1) := by decide +kernel
theorem dX6_countAbove_6 : decode cX6_countAbove 6 = .ok (.invokestatic 53, 3) := by decide +kernel
theorem dX6_countAbove_9 : decode cX6_countAbove 9 = .ok (.aload_n 0, 1) := by decide +kernel
theorem dX6_countAbove_10 : decode cX6_countAbove 10 = .ok (.getfield 12, 3) := by decide +kernel
theorem dX6_countAbove_13 : decode cX6_countAbove 13 = .ok (.getfield 101, 3) := by decide +kernel
theorem dX6_countAbove_16 : decode cX6_countAbove 16 = .ok (.iload_n 1, 1) := by decide +kernel
theorem dX6_countAbove_17 : decode cX6_countAbove 17 = .ok (.iload_n 2, 1) := by decide +kernel
theorem dX6_countAbove_18 : decode cX6_countAbove 18 = .ok (.iload_n 3, 1) := by decide +kernel
theorem dX6_countAbove_19 : decode cX6_countAbove 19 = .ok (.invokevirtual 194, 3) := by decide +kernel
theorem dX6_countAbove_22 : decode cX6_countAbove 22 = .ok (.ireturn, 1) := by decide +kernel
theorem dX6_countAboveByScan_0 : decode cX6_countAboveByScan 0 = .ok (.iload_n 1, 1) := by decide +kernel
theorem dX6_countAboveByScan_1 : decode cX6_countAboveByScan 1 = .ok (.iload_n 2, 1) := by decide +kernel
theorem dX6_countAboveByScan_2 : decode cX6_countAboveByScan 2 = .ok (.invokestatic 115, 3) := by decide +kernel
theorem dX6_countAboveByScan_5 : decode cX6_countAboveByScan 5 = .ok (.iload_n 3, 1) := by decide +kernel
theorem dX6_countAboveByScan_6 : decode cX6_countAboveByScan 6 = .ok (.invokestatic 53, 3) := by decide +kernel
theorem dX6_countAboveByScan_9 : decode cX6_countAboveByScan 9 = .ok (.aload_n 0, 1) := by decide +kernel
theorem dX6_countAboveByScan_10 : decode cX6_countAboveByScan 10 = .ok (.getfield 12, 3) := by decide +kernel
theorem dX6_countAboveByScan_13 : decode cX6_countAboveByScan 13 = .ok (.getfield 101, 3) := by decide +kernel
theorem dX6_countAboveByScan_16 : decode cX6_countAboveByScan 16 = .ok (.iload_n 1, 1) := by decide +kernel
theorem dX6_countAboveByScan_17 : decode cX6_countAboveByScan 17 = .ok (.iload_n 2, 1) := by decide +kernel
theorem dX6_countAboveByScan_18 : decode cX6_countAboveByScan 18 = .ok (.iload_n 3, 1) := by decide +kernel
theorem dX6_countAboveByScan_19 : decode cX6_countAboveByScan 19 = .ok (.invokevirtual 187, 3) := by decide +kernel
theorem dX6_countAboveByScan_22 : decode cX6_countAboveByScan 22 = .ok (.ireturn, 1) := by decide +kernel
theorem dX6_sumInRange_0 : decode cX6_sumInRange 0 = .ok (.iload_n 1, 1) := by decide +kernel
theorem dX6_sumInRange_1 : decode cX6_sumInRange 1 = .ok (.iload_n 2, 1) := by decide +kernel
theorem dX6_sumInRange_2 : decode cX6_sumInRange 2 = .ok (.invokestatic 115, 3) := by decide +kernel
theorem dX6_sumInRange_5 : decode cX6_sumInRange 5 = .ok (.aload_n 0, 1) := by decide +kernel
theorem dX6_sumInRange_6 : decode cX6_sumInRange 6 = .ok (.getfield 12, 3) := by decide +kernel
theorem dX6_sumInRange_9 : decode cX6_sumInRange 9 = .ok (.getfield 101, 3) := by decide +kernel
theorem dX6_sumInRange_12 : decode cX6_sumInRange 12 = .ok (.iload_n 1, 1) := by decide +kernel
theorem dX6_sumInRange_13 : decode cX6_sumInRange 13 = .ok (.iload_n 2, 1) := by decide +kernel
theorem dX6_sumInRange_14 : decode cX6_sumInRange 14 = .ok (.invokevirtual 197, 3) := by decide +kernel
theorem dX6_sumInRange_17 : decode cX6_sumInRange 17 = .ok (.lreturn, 1) := by decide +kernel
theorem dX6_setWindow_0 : decode cX6_setWindow 0 = .ok (.iload_n 1, 1) := by decide +kernel
theorem dX6_setWindow_1 : decode cX6_setWindow 1 = .ok (.invokestatic 201, 3) := by decide +kernel
theorem dX6_setWindow_4 : decode cX6_setWindow 4 = .ok (.iload_n 2, 1) := by decide +kernel
theorem dX6_setWindow_5 : decode cX6_setWindow 5 = .ok (.iload_n 3, 1) := by decide +kernel
theorem dX6_setWindow_6 : decode cX6_setWindow 6 = .ok (.invokestatic 115, 3) := by decide +kernel
theorem dX6_setWindow_9 : decode cX6_setWindow 9 = .ok (.iload 4, 2) := by decide +kernel
theorem dX6_setWindow_11 : decode cX6_setWindow 11 = .ok (.invokestatic 53, 3) := by decide +kernel
theorem dX6_setWindow_14 : decode cX6_setWindow 14 = .ok (.iload 5, 2) := by decide +kernel
theorem dX6_setWindow_16 : decode cX6_setWindow 16 = .ok (.invokestatic 204, 3) := by decide +kernel
theorem dX6_setWindow_19 : decode cX6_setWindow 19 = .ok (.ifCond .ne 13, 3) := by decide +kernel
theorem dX6_setWindow_22 : decode cX6_setWindow 22 = .ok (.new 208, 3) := by decide +kernel
theorem dX6_setWindow_25 : decode cX6_setWindow 25 = .ok (.dup, 1) := by decide +kernel
theorem dX6_setWindow_26 : decode cX6_setWindow 26 = .ok (.ldc 210, 2) := by decide +kernel
theorem dX6_setWindow_28 : decode cX6_setWindow 28 = .ok (.invokespecial 212, 3) := by decide +kernel
theorem dX6_setWindow_31 : decode cX6_setWindow 31 = .ok (.athrow, 1) := by decide +kernel
theorem dX6_setWindow_32 : decode cX6_setWindow 32 = .ok (.aload_n 0, 1) := by decide +kernel
theorem dX6_setWindow_33 : decode cX6_setWindow 33 = .ok (.getfield 12, 3) := by decide +kernel
theorem dX6_setWindow_36 : decode cX6_setWindow 36 = .ok (.iload_n 2, 1) := by decide +kernel
theorem dX6_setWindow_37 : decode cX6_setWindow 37 = .ok (.iload_n 3, 1) := by decide +kernel
theorem dX6_setWindow_38 : decode cX6_setWindow 38 = .ok (.iload 4, 2) := by decide +kernel
theorem dX6_setWindow_40 : decode cX6_setWindow 40 = .ok (.iload 5, 2) := by decide +kernel
theorem dX6_setWindow_42 : decode cX6_setWindow 42 = .ok (.invokevirtual 213, 3) := by decide +kernel
theorem dX6_setWindow_45 : decode cX6_setWindow 45 = .ok (.istore 6, 2) := by decide +kernel
theorem dX6_setWindow_47 : decode cX6_setWindow 47 = .ok (.iload 6, 2) := by decide +kernel
theorem dX6_setWindow_49 : decode cX6_setWindow 49 = .ok (.ifCond .eq 20, 3) := by decide +kernel
theorem dX6_setWindow_52 : decode cX6_setWindow 52 = .ok (.aload_n 0, 1) := by decide +kernel
theorem dX6_setWindow_53 : decode cX6_setWindow 53 = .ok (.iload 6, 2) := by decide +kernel
theorem dX6_setWindow_55 : decode cX6_setWindow 55 = .ok (.iload_n 1, 1) := by decide +kernel
theorem dX6_setWindow_56 : decode cX6_setWindow 56 = .ok (.invokevirtual 65, 3) := by decide +kernel
theorem dX6_setWindow_59 : decode cX6_setWindow 59 = .ok (.new 69, 3) := by decide +kernel
theorem dX6_setWindow_62 : decode cX6_setWindow 62 = .ok (.dup, 1) := by decide +kernel
theorem dX6_setWindow_63 : decode cX6_setWindow 63 = .ok (.ldc 216, 2) := by decide +kernel
theorem dX6_setWindow_65 : decode cX6_setWindow 65 = .ok (.invokespecial 73, 3) := by decide +kernel
theorem dX6_setWindow_68 : decode cX6_setWindow 68 = .ok (.athrow, 1) := by decide +kernel
theorem dX6_setWindow_69 : decode cX6_setWindow 69 = .ok (.aload_n 0, 1) := by decide +kernel
theorem dX6_setWindow_70 : decode cX6_setWindow 70 = .ok (.getfield 25, 3) := by decide +kernel
theorem dX6_setWindow_73 : decode cX6_setWindow 73 = .ok (.aload_n 0, 1) := by decide +kernel
theorem dX6_setWindow_74 : decode cX6_setWindow 74 = .ok (.getfield 12, 3) := by decide +kernel
theorem dX6_setWindow_77 : decode cX6_setWindow 77 = .ok (.invokevirtual 76, 3) := by decide +kernel
theorem dX6_setWindow_80 : decode cX6_setWindow 80 = .ok (.aload_n 0, 1) := by decide +kernel
theorem dX6_setWindow_81 : decode cX6_setWindow 81 = .ok (.getfield 12, 3) := by decide +kernel
theorem dX6_setWindow_84 : decode cX6_setWindow 84 = .ok (.getfield 218, 3) := by decide +kernel
theorem dX6_setWindow_87 : decode cX6_setWindow 87 = .ok (.iload_n 1, 1) := by decide +kernel
theorem dX6_setWindow_88 : decode cX6_setWindow 88 = .ok (.iload_n 2, 1) := by decide +kernel
theorem dX6_setWindow_89 : decode cX6_setWindow 89 = .ok (.iload_n 3, 1) := by decide +kernel
theorem dX6_setWindow_90 : decode cX6_setWindow 90 = .ok (.iload 4, 2) := by decide +kernel
theorem dX6_setWindow_92 : decode cX6_setWindow 92 = .ok (.iload 5, 2) := by decide +kernel
theorem dX6_setWindow_94 : decode cX6_setWindow 94 = .ok (.invokevirtual 222, 3) := by decide +kernel
theorem dX6_setWindow_97 : decode cX6_setWindow 97 = .ok (.aload_n 0, 1) := by decide +kernel
theorem dX6_setWindow_98 : decode cX6_setWindow 98 = .ok (.getfield 12, 3) := by decide +kernel
theorem dX6_setWindow_101 : decode cX6_setWindow 101 = .ok (.iload_n 1, 1) := by decide +kernel
theorem dX6_setWindow_102 : decode cX6_setWindow 102 = .ok (.invokevirtual 228, 3) := by decide +kernel
theorem dX6_setWindow_105 : decode cX6_setWindow 105 = .ok (.ireturn, 1) := by decide +kernel
theorem dX6_removeWindow_0 : decode cX6_removeWindow 0 = .ok (.aload_n 0, 1) := by decide +kernel
theorem dX6_removeWindow_1 : decode cX6_removeWindow 1 = .ok (.iload_n 1, 1) := by decide +kernel
theorem dX6_removeWindow_2 : decode cX6_removeWindow 2 = .ok (.invokevirtual 231, 3) := by decide +kernel
theorem dX6_removeWindow_5 : decode cX6_removeWindow 5 = .ok (.aload_n 0, 1) := by decide +kernel
theorem dX6_removeWindow_6 : decode cX6_removeWindow 6 = .ok (.getfield 12, 3) := by decide +kernel
theorem dX6_removeWindow_9 : decode cX6_removeWindow 9 = .ok (.iload_n 1, 1) := by decide +kernel
theorem dX6_removeWindow_10 : decode cX6_removeWindow 10 = .ok (.invokevirtual 228, 3) := by decide +kernel
theorem dX6_removeWindow_13 : decode cX6_removeWindow 13 = .ok (.istore_n 2, 1) := by decide +kernel
theorem dX6_removeWindow_14 : decode cX6_removeWindow 14 = .ok (.aload_n 0, 1) := by decide +kernel
theorem dX6_removeWindow_15 : decode cX6_removeWindow 15 = .ok (.getfield 25, 3) := by decide +kernel
theorem dX6_removeWindow_18 : decode cX6_removeWindow 18 = .ok (.aload_n 0, 1) := by decide +kernel
theorem dX6_removeWindow_19 : decode cX6_removeWindow 19 = .ok (.getfield 12, 3) := by decide +kernel
theorem dX6_removeWindow_22 : decode cX6_removeWindow 22 = .ok (.invokevirtual 76, 3) := by decide +kernel
theorem dX6_removeWindow_25 : decode cX6_removeWindow 25 = .ok (.aload_n 0, 1) := by decide +kernel
theorem dX6_removeWindow_26 : decode cX6_removeWindow 26 = .ok (.getfield 12, 3) := by decide +kernel
theorem dX6_removeWindow_29 : decode cX6_removeWindow 29 = .ok (.getfield 218, 3) := by decide +kernel
theorem dX6_removeWindow_32 : decode cX6_removeWindow 32 = .ok (.iload_n 1, 1) := by decide +kernel
theorem dX6_removeWindow_33 : decode cX6_removeWindow 33 = .ok (.invokevirtual 234, 3) := by decide +kernel
theorem dX6_removeWindow_36 : decode cX6_removeWindow 36 = .ok (.iload_n 2, 1) := by decide +kernel
theorem dX6_removeWindow_37 : decode cX6_removeWindow 37 = .ok (.ireturn, 1) := by decide +kernel
theorem dX6_isWindowSet_0 : decode cX6_isWindowSet 0 = .ok (.iload_n 1, 1) := by decide +kernel
theorem dX6_isWindowSet_1 : decode cX6_isWindowSet 1 = .ok (.invokestatic 201, 3) := by decide +kernel
theorem dX6_isWindowSet_4 : decode cX6_isWindowSet 4 = .ok (.aload_n 0, 1) := by decide +kernel
theorem dX6_isWindowSet_5 : decode cX6_isWindowSet 5 = .ok (.getfield 12, 3) := by decide +kernel
theorem dX6_isWindowSet_8 : decode cX6_isWindowSet 8 = .ok (.getfield 218, 3) := by decide +kernel
theorem dX6_isWindowSet_11 : decode cX6_isWindowSet 11 = .ok (.iload_n 1, 1) := by decide +kernel
theorem dX6_isWindowSet_12 : decode cX6_isWindowSet 12 = .ok (.invokevirtual 237, 3) := by decide +kernel
theorem dX6_isWindowSet_15 : decode cX6_isWindowSet 15 = .ok (.ireturn, 1) := by decide +kernel
theorem dX6_pointsInWindow_0 : decode cX6_pointsInWindow 0 = .ok (.aload_n 0, 1) := by decide +kernel
theorem dX6_pointsInWindow_1 : decode cX6_pointsInWindow 1 = .ok (.iload_n 1, 1) := by decide +kernel
theorem dX6_pointsInWindow_2 : decode cX6_pointsInWindow 2 = .ok (.invokevirtual 231, 3) := by decide +kernel
theorem dX6_pointsInWindow_5 : decode cX6_pointsInWindow 5 = .ok (.aload_n 0, 1) := by decide +kernel
theorem dX6_pointsInWindow_6 : decode cX6_pointsInWindow 6 = .ok (.getfield 12, 3) := by decide +kernel
theorem dX6_pointsInWindow_9 : decode cX6_pointsInWindow 9 = .ok (.iload_n 1, 1) := by decide +kernel
theorem dX6_pointsInWindow_10 : decode cX6_pointsInWindow 10 = .ok (.invokevirtual 228, 3) := by decide +kernel
theorem dX6_pointsInWindow_13 : decode cX6_pointsInWindow 13 = .ok (.ireturn, 1) := by decide +kernel
theorem dX6_roomInWindow_0 : decode cX6_roomInWindow 0 = .ok (.aload_n 0, 1) := by decide +kernel
theorem dX6_roomInWindow_1 : decode cX6_roomInWindow 1 = .ok (.iload_n 1, 1) := by decide +kernel
theorem dX6_roomInWindow_2 : decode cX6_roomInWindow 2 = .ok (.invokevirtual 231, 3) := by decide +kernel
theorem dX6_roomInWindow_5 : decode cX6_roomInWindow 5 = .ok (.aload_n 0, 1) := by decide +kernel
theorem dX6_roomInWindow_6 : decode cX6_roomInWindow 6 = .ok (.getfield 12, 3) := by decide +kernel
theorem dX6_roomInWindow_9 : decode cX6_roomInWindow 9 = .ok (.getfield 218, 3) := by decide +kernel
theorem dX6_roomInWindow_12 : decode cX6_roomInWindow 12 = .ok (.iload_n 1, 1) := by decide +kernel
theorem dX6_roomInWindow_13 : decode cX6_roomInWindow 13 = .ok (.invokevirtual 240, 3) := by decide +kernel
theorem dX6_roomInWindow_16 : decode cX6_roomInWindow 16 = .ok (.aload_n 0, 1) := by decide +kernel
theorem dX6_roomInWindow_17 : decode cX6_roomInWindow 17 = .ok (.getfield 12, 3) := by decide +kernel
theorem dX6_roomInWindow_20 : decode cX6_roomInWindow 20 = .ok (.iload_n 1, 1) := by decide +kernel
theorem dX6_roomInWindow_21 : decode cX6_roomInWindow 21 = .ok (.invokevirtual 228, 3) := by decide +kernel
theorem dX6_roomInWindow_24 : decode cX6_roomInWindow 24 = .ok (.isub, 1) := by decide +kernel
theorem dX6_roomInWindow_25 : decode cX6_roomInWindow 25 = .ok (.ireturn, 1) := by decide +kernel
theorem dX6_windowKeyAt_0 : decode cX6_windowKeyAt 0 = .ok (.aload_n 0, 1) := by decide +kernel
theorem dX6_windowKeyAt_1 : decode cX6_windowKeyAt 1 = .ok (.iload_n 1, 1) := by decide +kernel
theorem dX6_windowKeyAt_2 : decode cX6_windowKeyAt 2 = .ok (.invokevirtual 231, 3) := by decide +kernel
theorem dX6_windowKeyAt_5 : decode cX6_windowKeyAt 5 = .ok (.aload_n 0, 1) := by decide +kernel
theorem dX6_windowKeyAt_6 : decode cX6_windowKeyAt 6 = .ok (.aload_n 0, 1) := by decide +kernel
theorem dX6_windowKeyAt_7 : decode cX6_windowKeyAt 7 = .ok (.getfield 12, 3) := by decide +kernel
theorem dX6_windowKeyAt_10 : decode cX6_windowKeyAt 10 = .ok (.iload_n 1, 1) := by decide +kernel
theorem dX6_windowKeyAt_11 : decode cX6_windowKeyAt 11 = .ok (.iload_n 2, 1) := by decide +kernel
theorem dX6_windowKeyAt_12 : decode cX6_windowKeyAt 12 = .ok (.invokevirtual 243, 3) := by decide +kernel
theorem dX6_windowKeyAt_15 : decode cX6_windowKeyAt 15 = .ok (.invokevirtual 131, 3) := by decide +kernel
theorem dX6_windowKeyAt_18 : decode cX6_windowKeyAt 18 = .ok (.ireturn, 1) := by decide +kernel
theorem dX6_meanDepth_0 : decode cX6_meanDepth 0 = .ok (.aload_n 0, 1) := by decide +kernel
theorem dX6_meanDepth_1 : decode cX6_meanDepth 1 = .ok (.getfield 12, 3) := by decide +kernel
theorem dX6_meanDepth_4 : decode cX6_meanDepth 4 = .ok (.getfield 101, 3) := by decide +kernel
theorem dX6_meanDepth_7 : decode cX6_meanDepth 7 = .ok (.invokevirtual 121, 3) := by decide +kernel
theorem dX6_meanDepth_10 : decode cX6_meanDepth 10 = .ok (.istore_n 1, 1) := by decide +kernel
theorem dX6_meanDepth_11 : decode cX6_meanDepth 11 = .ok (.iload_n 1, 1) := by decide +kernel
theorem dX6_meanDepth_12 : decode cX6_meanDepth 12 = .ok (.ifCond .ne 13, 3) := by decide +kernel
theorem dX6_meanDepth_15 : decode cX6_meanDepth 15 = .ok (.new 249, 3) := by decide +kernel
theorem dX6_meanDepth_18 : decode cX6_meanDepth 18 = .ok (.dup, 1) := by decide +kernel
theorem dX6_meanDepth_19 : decode cX6_meanDepth 19 = .ok (.ldc 251, 2) := by decide +kernel
theorem dX6_meanDepth_21 : decode cX6_meanDepth 21 = .ok (.invokespecial 253, 3) := by decide +kernel
theorem dX6_meanDepth_24 : decode cX6_meanDepth 24 = .ok (.athrow, 1) := by decide +kernel
theorem dX6_meanDepth_25 : decode cX6_meanDepth 25 = .ok (.aload_n 0, 1) := by decide +kernel
theorem dX6_meanDepth_26 : decode cX6_meanDepth 26 = .ok (.getfield 12, 3) := by decide +kernel
theorem dX6_meanDepth_29 : decode cX6_meanDepth 29 = .ok (.getfield 101, 3) := by decide +kernel
theorem dX6_meanDepth_32 : decode cX6_meanDepth 32 = .ok (.invokevirtual 254, 3) := by decide +kernel
theorem dX6_meanDepth_35 : decode cX6_meanDepth 35 = .ok (.i2d, 1) := by decide +kernel
theorem dX6_meanDepth_36 : decode cX6_meanDepth 36 = .ok (.iload_n 1, 1) := by decide +kernel
theorem dX6_meanDepth_37 : decode cX6_meanDepth 37 = .ok (.i2d, 1) := by decide +kernel
theorem dX6_meanDepth_38 : decode cX6_meanDepth 38 = .ok (.ddiv, 1) := by decide +kernel
theorem dX6_meanDepth_39 : decode cX6_meanDepth 39 = .ok (.dreturn, 1) := by decide +kernel
theorem dX6_leafShare_0 : decode cX6_leafShare 0 = .ok (.aload_n 0, 1) := by decide +kernel
theorem dX6_leafShare_1 : decode cX6_leafShare 1 = .ok (.getfield 12, 3) := by decide +kernel
theorem dX6_leafShare_4 : decode cX6_leafShare 4 = .ok (.getfield 101, 3) := by decide +kernel
theorem dX6_leafShare_7 : decode cX6_leafShare 7 = .ok (.invokevirtual 121, 3) := by decide +kernel
theorem dX6_leafShare_10 : decode cX6_leafShare 10 = .ok (.istore_n 1, 1) := by decide +kernel
theorem dX6_leafShare_11 : decode cX6_leafShare 11 = .ok (.iload_n 1, 1) := by decide +kernel
theorem dX6_leafShare_12 : decode cX6_leafShare 12 = .ok (.ifCond .ne 13, 3) := by decide +kernel
theorem dX6_leafShare_15 : decode cX6_leafShare 15 = .ok (.new 249, 3) := by decide +kernel
theorem dX6_leafShare_18 : decode cX6_leafShare 18 = .ok (.dup, 1) := by decide +kernel
theorem dX6_leafShare_19 : decode cX6_leafShare 19 = .ok (.ldc 251, 2) := by decide +kernel
theorem dX6_leafShare_21 : decode cX6_leafShare 21 = .ok (.invokespecial 253, 3) := by decide +kernel
theorem dX6_leafShare_24 : decode cX6_leafShare 24 = .ok (.athrow, 1) := by decide +kernel
theorem dX6_leafShare_25 : decode cX6_leafShare 25 = .ok (.aload_n 0, 1) := by decide +kernel
theorem dX6_leafShare_26 : decode cX6_leafShare 26 = .ok (.getfield 12, 3) := by decide +kernel
theorem dX6_leafShare_29 : decode cX6_leafShare 29 = .ok (.getfield 101, 3) := by decide +kernel
theorem dX6_leafShare_32 : decode cX6_leafShare 32 = .ok (.invokevirtual 170, 3) := by decide +kernel
theorem dX6_leafShare_35 : decode cX6_leafShare 35 = .ok (.i2f, 1) := by decide +kernel
theorem dX6_leafShare_36 : decode cX6_leafShare 36 = .ok (.iload_n 1, 1) := by decide +kernel
theorem dX6_leafShare_37 : decode cX6_leafShare 37 = .ok (.i2f, 1) := by decide +kernel
theorem dX6_leafShare_38 : decode cX6_leafShare 38 = .ok (.fdiv, 1) := by decide +kernel
theorem dX6_leafShare_39 : decode cX6_leafShare 39 = .ok (.freturn, 1) := by decide +kernel
theorem dX6_isConsistent_0 : decode cX6_isConsistent 0 = .ok (.aload_n 0, 1) := by decide +kernel
theorem dX6_isConsistent_1 : decode cX6_isConsistent 1 = .ok (.getfield 12, 3) := by decide +kernel
theorem dX6_isConsistent_4 : decode cX6_isConsistent 4 = .ok (.getfield 101, 3) := by decide +kernel
theorem dX6_isConsistent_7 : decode cX6_isConsistent 7 = .ok (.invokevirtual 257, 3) := by decide +kernel
theorem dX6_isConsistent_10 : decode cX6_isConsistent 10 = .ok (.ifCond .eq 30, 3) := by decide +kernel
theorem dX6_isConsistent_13 : decode cX6_isConsistent 13 = .ok (.aload_n 0, 1) := by decide +kernel
theorem dX6_isConsistent_14 : decode cX6_isConsistent 14 = .ok (.getfield 12, 3) := by decide +kernel
theorem dX6_isConsistent_17 : decode cX6_isConsistent 17 = .ok (.getfield 101, 3) := by decide +kernel
theorem dX6_isConsistent_20 : decode cX6_isConsistent 20 = .ok (.invokevirtual 261, 3) := by decide +kernel
theorem dX6_isConsistent_23 : decode cX6_isConsistent 23 = .ok (.ifCond .eq 17, 3) := by decide +kernel
theorem dX6_isConsistent_26 : decode cX6_isConsistent 26 = .ok (.aload_n 0, 1) := by decide +kernel
theorem dX6_isConsistent_27 : decode cX6_isConsistent 27 = .ok (.getfield 12, 3) := by decide +kernel
theorem dX6_isConsistent_30 : decode cX6_isConsistent 30 = .ok (.invokevirtual 264, 3) := by decide +kernel
theorem dX6_isConsistent_33 : decode cX6_isConsistent 33 = .ok (.ifCond .eq 7, 3) := by decide +kernel
theorem dX6_isConsistent_36 : decode cX6_isConsistent 36 = .ok (.iconst 1, 1) := by decide +kernel
theorem dX6_isConsistent_37 : decode cX6_isConsistent 37 = .ok (.goto 4, 3) := by decide +kernel
theorem dX6_isConsistent_40 : decode cX6_isConsistent 40 = .ok (.iconst 0, 1) := by decide +kernel
theorem dX6_isConsistent_41 : decode cX6_isConsistent 41 = .ok (.ireturn, 1) := by decide +kernel
theorem dX6_writeTree_0 : decode cX6_writeTree 0 = .ok (.aload_n 0, 1) := by decide +kernel
theorem dX6_writeTree_1 : decode cX6_writeTree 1 = .ok (.getfield 39, 3) := by decide +kernel
theorem dX6_writeTree_4 : decode cX6_writeTree 4 = .ok (.invokevirtual 267, 3) := by decide +kernel
theorem dX6_writeTree_7 : decode cX6_writeTree 7 = .ok (.aload_n 0, 1) := by decide +kernel
theorem dX6_writeTree_8 : decode cX6_writeTree 8 = .ok (.getfield 12, 3) := by decide +kernel
theorem dX6_writeTree_11 : decode cX6_writeTree 11 = .ok (.getfield 101, 3) := by decide +kernel
theorem dX6_writeTree_14 : decode cX6_writeTree 14 = .ok (.aload_n 0, 1) := by decide +kernel
theorem dX6_writeTree_15 : decode cX6_writeTree 15 = .ok (.getfield 12, 3) := by decide +kernel
theorem dX6_writeTree_18 : decode cX6_writeTree 18 = .ok (.getfield 101, 3) := by decide +kernel
theorem dX6_writeTree_21 : decode cX6_writeTree 21 = .ok (.invokevirtual 149, 3) := by decide +kernel
theorem dX6_writeTree_24 : decode cX6_writeTree 24 = .ok (.aload_n 0, 1) := by decide +kernel
theorem dX6_writeTree_25 : decode cX6_writeTree 25 = .ok (.getfield 39, 3) := by decide +kernel
theorem dX6_writeTree_28 : decode cX6_writeTree 28 = .ok (.iconst 0, 1) := by decide +kernel
theorem dX6_writeTree_29 : decode cX6_writeTree 29 = .ok (.invokestatic 270, 3) := by decide +kernel
theorem dX6_writeTree_32 : decode cX6_writeTree 32 = .ok (.aload_n 0, 1) := by decide +kernel
theorem dX6_writeTree_33 : decode cX6_writeTree 33 = .ok (.getfield 39, 3) := by decide +kernel
theorem dX6_writeTree_36 : decode cX6_writeTree 36 = .ok (.getfield 274, 3) := by decide +kernel
theorem dX6_writeTree_39 : decode cX6_writeTree 39 = .ok (.ireturn, 1) := by decide +kernel
theorem dX6_writeWindow_0 : decode cX6_writeWindow 0 = .ok (.aload_n 0, 1) := by decide +kernel
theorem dX6_writeWindow_1 : decode cX6_writeWindow 1 = .ok (.iload_n 1, 1) := by decide +kernel
theorem dX6_writeWindow_2 : decode cX6_writeWindow 2 = .ok (.invokevirtual 231, 3) := by decide +kernel
theorem dX6_writeWindow_5 : decode cX6_writeWindow 5 = .ok (.aload_n 0, 1) := by decide +kernel
theorem dX6_writeWindow_6 : decode cX6_writeWindow 6 = .ok (.getfield 39, 3) := by decide +kernel
theorem dX6_writeWindow_9 : decode cX6_writeWindow 9 = .ok (.invokevirtual 267, 3) := by decide +kernel
theorem dX6_writeWindow_12 : decode cX6_writeWindow 12 = .ok (.aload_n 0, 1) := by decide +kernel
theorem dX6_writeWindow_13 : decode cX6_writeWindow 13 = .ok (.getfield 12, 3) := by decide +kernel
theorem dX6_writeWindow_16 : decode cX6_writeWindow 16 = .ok (.iload_n 1, 1) := by decide +kernel
theorem dX6_writeWindow_17 : decode cX6_writeWindow 17 = .ok (.invokevirtual 228, 3) := by decide +kernel
theorem dX6_writeWindow_20 : decode cX6_writeWindow 20 = .ok (.istore_n 2, 1) := by decide +kernel
theorem dX6_writeWindow_21 : decode cX6_writeWindow 21 = .ok (.iconst 0, 1) := by decide +kernel
theorem dX6_writeWindow_22 : decode cX6_writeWindow 22 = .ok (.istore_n 3, 1) := by decide +kernel
theorem dX6_writeWindow_23 : decode cX6_writeWindow 23 = .ok (.iload_n 3, 1) := by decide +kernel
theorem dX6_writeWindow_24 : decode cX6_writeWindow 24 = .ok (.iload_n 2, 1) := by decide +kernel
theorem dX6_writeWindow_25 : decode cX6_writeWindow 25 = .ok (.if_icmp .ge 54, 3) := by decide +kernel
theorem dX6_writeWindow_28 : decode cX6_writeWindow 28 = .ok (.iload_n 3, 1) := by decide +kernel
theorem dX6_writeWindow_29 : decode cX6_writeWindow 29 = .ok (.bipush 24, 2) := by decide +kernel
theorem dX6_writeWindow_31 : decode cX6_writeWindow 31 = .ok (.if_icmp .ge 48, 3) := by decide +kernel
theorem dX6_writeWindow_34 : decode cX6_writeWindow 34 = .ok (.iload_n 3, 1) := by decide +kernel
theorem dX6_writeWindow_35 : decode cX6_writeWindow 35 = .ok (.ifCond .le 12, 3) := by decide +kernel
theorem dX6_writeWindow_38 : decode cX6_writeWindow 38 = .ok (.aload_n 0, 1) := by decide +kernel
theorem dX6_writeWindow_39 : decode cX6_writeWindow 39 = .ok (.getfield 39, 3) := by decide +kernel
theorem dX6_writeWindow_42 : decode cX6_writeWindow 42 = .ok (.bipush 44, 2) := by decide +kernel
theorem dX6_writeWindow_44 : decode cX6_writeWindow 44 = .ok (.invokevirtual 277, 3) := by decide +kernel
theorem dX6_writeWindow_47 : decode cX6_writeWindow 47 = .ok (.aload_n 0, 1) := by decide +kernel
theorem dX6_writeWindow_48 : decode cX6_writeWindow 48 = .ok (.getfield 39, 3) := by decide +kernel
theorem dX6_writeWindow_51 : decode cX6_writeWindow 51 = .ok (.aload_n 0, 1) := by decide +kernel
theorem dX6_writeWindow_52 : decode cX6_writeWindow 52 = .ok (.getfield 12, 3) := by decide +kernel
theorem dX6_writeWindow_55 : decode cX6_writeWindow 55 = .ok (.getfield 101, 3) := by decide +kernel
theorem dX6_writeWindow_58 : decode cX6_writeWindow 58 = .ok (.aload_n 0, 1) := by decide +kernel
theorem dX6_writeWindow_59 : decode cX6_writeWindow 59 = .ok (.getfield 12, 3) := by decide +kernel
theorem dX6_writeWindow_62 : decode cX6_writeWindow 62 = .ok (.iload_n 1, 1) := by decide +kernel
theorem dX6_writeWindow_63 : decode cX6_writeWindow 63 = .ok (.iload_n 3, 1) := by decide +kernel
theorem dX6_writeWindow_64 : decode cX6_writeWindow 64 = .ok (.invokevirtual 243, 3) := by decide +kernel
theorem dX6_writeWindow_67 : decode cX6_writeWindow 67 = .ok (.invokevirtual 140, 3) := by decide +kernel
theorem dX6_writeWindow_70 : decode cX6_writeWindow 70 = .ok (.invokevirtual 280, 3) := by decide +kernel
theorem dX6_writeWindow_73 : decode cX6_writeWindow 73 = .ok (.iinc 3 1, 3) := by decide +kernel
theorem dX6_writeWindow_76 : decode cX6_writeWindow 76 = .ok (.goto (-53), 3) := by decide +kernel
theorem dX6_writeWindow_79 : decode cX6_writeWindow 79 = .ok (.aload_n 0, 1) := by decide +kernel
theorem dX6_writeWindow_80 : decode cX6_writeWindow 80 = .ok (.getfield 39, 3) := by decide +kernel
theorem dX6_writeWindow_83 : decode cX6_writeWindow 83 = .ok (.getfield 274, 3) := by decide +kernel
theorem dX6_writeWindow_86 : decode cX6_writeWindow 86 = .ok (.ireturn, 1) := by decide +kernel
theorem dX6_outputAt_0 : decode cX6_outputAt 0 = .ok (.iload_n 1, 1) := by decide +kernel
theorem dX6_outputAt_1 : decode cX6_outputAt 1 = .ok (.ifCond .lt 14, 3) := by decide +kernel
theorem dX6_outputAt_4 : decode cX6_outputAt 4 = .ok (.iload_n 1, 1) := by decide +kernel
theorem dX6_outputAt_5 : decode cX6_outputAt 5 = .ok (.aload_n 0, 1) := by decide +kernel
theorem dX6_outputAt_6 : decode cX6_outputAt 6 = .ok (.getfield 39, 3) := by decide +kernel
theorem dX6_outputAt_9 : decode cX6_outputAt 9 = .ok (.getfield 274, 3) := by decide +kernel
theorem dX6_outputAt_12 : decode cX6_outputAt 12 = .ok (.if_icmp .lt 14, 3) := by decide +kernel
theorem dX6_outputAt_15 : decode cX6_outputAt 15 = .ok (.new 283, 3) := by decide +kernel
theorem dX6_outputAt_18 : decode cX6_outputAt 18 = .ok (.dup, 1) := by decide +kernel
theorem dX6_outputAt_19 : decode cX6_outputAt 19 = .ok (.ldc_w 285, 3) := by decide +kernel
theorem dX6_outputAt_22 : decode cX6_outputAt 22 = .ok (.invokespecial 287, 3) := by decide +kernel
theorem dX6_outputAt_25 : decode cX6_outputAt 25 = .ok (.athrow, 1) := by decide +kernel
theorem dX6_outputAt_26 : decode cX6_outputAt 26 = .ok (.aload_n 0, 1) := by decide +kernel
theorem dX6_outputAt_27 : decode cX6_outputAt 27 = .ok (.getfield 39, 3) := by decide +kernel
theorem dX6_outputAt_30 : decode cX6_outputAt 30 = .ok (.iload_n 1, 1) := by decide +kernel
theorem dX6_outputAt_31 : decode cX6_outputAt 31 = .ok (.invokevirtual 288, 3) := by decide +kernel
theorem dX6_outputAt_34 : decode cX6_outputAt 34 = .ok (.i2c, 1) := by decide +kernel
theorem dX6_outputAt_35 : decode cX6_outputAt 35 = .ok (.ireturn, 1) := by decide +kernel
theorem dX6_rejectionReason_0 : decode cX6_rejectionReason 0 = .ok (.aload_n 0, 1) := by decide +kernel
theorem dX6_rejectionReason_1 : decode cX6_rejectionReason 1 = .ok (.invokevirtual 340, 3) := by decide +kernel
theorem dX6_rejectionReason_4 : decode cX6_rejectionReason 4 = .ok (.aload_n 0, 1) := by decide +kernel
theorem dX6_rejectionReason_5 : decode cX6_rejectionReason 5 = .ok (.getfield 47, 3) := by decide +kernel
theorem dX6_rejectionReason_8 : decode cX6_rejectionReason 8 = .ok (.ireturn, 1) := by decide +kernel
theorem dX6_isNumber_0 : decode cX6_isNumber 0 = .ok (.iload_n 0, 1) := by decide +kernel
theorem dX6_isNumber_1 : decode cX6_isNumber 1 = .ok (.ifCond .lt 13, 3) := by decide +kernel
theorem dX6_isNumber_4 : decode cX6_isNumber 4 = .ok (.iload_n 0, 1) := by decide +kernel
theorem dX6_isNumber_5 : decode cX6_isNumber 5 = .ok (.bipush 99, 2) := by decide +kernel
theorem dX6_isNumber_7 : decode cX6_isNumber 7 = .ok (.if_icmp .gt 7, 3) := by decide +kernel
theorem dX6_isNumber_10 : decode cX6_isNumber 10 = .ok (.iconst 1, 1) := by decide +kernel
theorem dX6_isNumber_11 : decode cX6_isNumber 11 = .ok (.goto 4, 3) := by decide +kernel
theorem dX6_isNumber_14 : decode cX6_isNumber 14 = .ok (.iconst 0, 1) := by decide +kernel
theorem dX6_isNumber_15 : decode cX6_isNumber 15 = .ok (.ireturn, 1) := by decide +kernel
theorem dX6_isWindow_0 : decode cX6_isWindow 0 = .ok (.iload_n 0, 1) := by decide +kernel
theorem dX6_isWindow_1 : decode cX6_isWindow 1 = .ok (.ifCond .lt 12, 3) := by decide +kernel
theorem dX6_isWindow_4 : decode cX6_isWindow 4 = .ok (.iload_n 0, 1) := by decide +kernel
theorem dX6_isWindow_5 : decode cX6_isWindow 5 = .ok (.iconst 4, 1) := by decide +kernel
theorem dX6_isWindow_6 : decode cX6_isWindow 6 = .ok (.if_icmp .ge 7, 3) := by decide +kernel
theorem dX6_isWindow_9 : decode cX6_isWindow 9 = .ok (.iconst 1, 1) := by decide +kernel
theorem dX6_isWindow_10 : decode cX6_isWindow 10 = .ok (.goto 4, 3) := by decide +kernel
theorem dX6_isWindow_13 : decode cX6_isWindow 13 = .ok (.iconst 0, 1) := by decide +kernel
theorem dX6_isWindow_14 : decode cX6_isWindow 14 = .ok (.ireturn, 1) := by decide +kernel
theorem dX6_isLimit_0 : decode cX6_isLimit 0 = .ok (.iload_n 0, 1) := by decide +kernel
theorem dX6_isLimit_1 : decode cX6_isLimit 1 = .ok (.iconst 1, 1) := by decide +kernel
theorem dX6_isLimit_2 : decode cX6_isLimit 2 = .ok (.if_icmp .lt 13, 3) := by decide +kernel
theorem dX6_isLimit_5 : decode cX6_isLimit 5 = .ok (.iload_n 0, 1) := by decide +kernel
theorem dX6_isLimit_6 : decode cX6_isLimit 6 = .ok (.bipush 24, 2) := by decide +kernel
theorem dX6_isLimit_8 : decode cX6_isLimit 8 = .ok (.if_icmp .gt 7, 3) := by decide +kernel
theorem dX6_isLimit_11 : decode cX6_isLimit 11 = .ok (.iconst 1, 1) := by decide +kernel
theorem dX6_isLimit_12 : decode cX6_isLimit 12 = .ok (.goto 4, 3) := by decide +kernel
theorem dX6_isLimit_15 : decode cX6_isLimit 15 = .ok (.iconst 0, 1) := by decide +kernel
theorem dX6_isLimit_16 : decode cX6_isLimit 16 = .ok (.ireturn, 1) := by decide +kernel
theorem dX6_requireNumber_0 : decode cX6_requireNumber 0 = .ok (.iload_n 0, 1) := by decide +kernel
theorem dX6_requireNumber_1 : decode cX6_requireNumber 1 = .ok (.invokestatic 361, 3) := by decide +kernel
theorem dX6_requireNumber_4 : decode cX6_requireNumber 4 = .ok (.ifCond .ne 14, 3) := by decide +kernel
theorem dX6_requireNumber_7 : decode cX6_requireNumber 7 = .ok (.new 208, 3) := by decide +kernel
theorem dX6_requireNumber_10 : decode cX6_requireNumber 10 = .ok (.dup, 1) := by decide +kernel
theorem dX6_requireNumber_11 : decode cX6_requireNumber 11 = .ok (.ldc_w 364, 3) := by decide +kernel
theorem dX6_requireNumber_14 : decode cX6_requireNumber 14 = .ok (.invokespecial 212, 3) := by decide +kernel
theorem dX6_requireNumber_17 : decode cX6_requireNumber 17 = .ok (.athrow, 1) := by decide +kernel
theorem dX6_requireNumber_18 : decode cX6_requireNumber 18 = .ok (.return_, 1) := by decide +kernel
theorem dX6_requireRange_0 : decode cX6_requireRange 0 = .ok (.iload_n 0, 1) := by decide +kernel
theorem dX6_requireRange_1 : decode cX6_requireRange 1 = .ok (.invokestatic 361, 3) := by decide +kernel
theorem dX6_requireRange_4 : decode cX6_requireRange 4 = .ok (.ifCond .eq 15, 3) := by decide +kernel
theorem dX6_requireRange_7 : decode cX6_requireRange 7 = .ok (.iload_n 1, 1) := by decide +kernel
theorem dX6_requireRange_8 : decode cX6_requireRange 8 = .ok (.invokestatic 361, 3) := by decide +kernel
theorem dX6_requireRange_11 : decode cX6_requireRange 11 = .ok (.ifCond .eq 8, 3) := by decide +kernel
theorem dX6_requireRange_14 : decode cX6_requireRange 14 = .ok (.iload_n 0, 1) := by decide +kernel
theorem dX6_requireRange_15 : decode cX6_requireRange 15 = .ok (.iload_n 1, 1) := by decide +kernel
theorem dX6_requireRange_16 : decode cX6_requireRange 16 = .ok (.if_icmp .le 14, 3) := by decide +kernel
theorem dX6_requireRange_19 : decode cX6_requireRange 19 = .ok (.new 208, 3) := by decide +kernel
theorem dX6_requireRange_22 : decode cX6_requireRange 22 = .ok (.dup, 1) := by decide +kernel
theorem dX6_requireRange_23 : decode cX6_requireRange 23 = .ok (.ldc_w 366, 3) := by decide +kernel
theorem dX6_requireRange_26 : decode cX6_requireRange 26 = .ok (.invokespecial 212, 3) := by decide +kernel
theorem dX6_requireRange_29 : decode cX6_requireRange 29 = .ok (.athrow, 1) := by decide +kernel
theorem dX6_requireRange_30 : decode cX6_requireRange 30 = .ok (.return_, 1) := by decide +kernel
theorem dX6_requireWindow_0 : decode cX6_requireWindow 0 = .ok (.iload_n 0, 1) := by decide +kernel
theorem dX6_requireWindow_1 : decode cX6_requireWindow 1 = .ok (.invokestatic 368, 3) := by decide +kernel
theorem dX6_requireWindow_4 : decode cX6_requireWindow 4 = .ok (.ifCond .ne 14, 3) := by decide +kernel
theorem dX6_requireWindow_7 : decode cX6_requireWindow 7 = .ok (.new 283, 3) := by decide +kernel
theorem dX6_requireWindow_10 : decode cX6_requireWindow 10 = .ok (.dup, 1) := by decide +kernel
theorem dX6_requireWindow_11 : decode cX6_requireWindow 11 = .ok (.ldc_w 371, 3) := by decide +kernel
theorem dX6_requireWindow_14 : decode cX6_requireWindow 14 = .ok (.invokespecial 287, 3) := by decide +kernel
theorem dX6_requireWindow_17 : decode cX6_requireWindow 17 = .ok (.athrow, 1) := by decide +kernel
theorem dX6_requireWindow_18 : decode cX6_requireWindow 18 = .ok (.return_, 1) := by decide +kernel
theorem dX6_requireOpenWindow_0 : decode cX6_requireOpenWindow 0 = .ok (.iload_n 1, 1) := by decide +kernel
theorem dX6_requireOpenWindow_1 : decode cX6_requireOpenWindow 1 = .ok (.invokestatic 201, 3) := by decide +kernel
theorem dX6_requireOpenWindow_4 : decode cX6_requireOpenWindow 4 = .ok (.aload_n 0, 1) := by decide +kernel
theorem dX6_requireOpenWindow_5 : decode cX6_requireOpenWindow 5 = .ok (.getfield 12, 3) := by decide +kernel
theorem dX6_requireOpenWindow_8 : decode cX6_requireOpenWindow 8 = .ok (.getfield 218, 3) := by decide +kernel
theorem dX6_requireOpenWindow_11 : decode cX6_requireOpenWindow 11 = .ok (.iload_n 1, 1) := by decide +kernel
theorem dX6_requireOpenWindow_12 : decode cX6_requireOpenWindow 12 = .ok (.invokevirtual 237, 3) := by decide +kernel
theorem dX6_requireOpenWindow_15 : decode cX6_requireOpenWindow 15 = .ok (.ifCond .ne 14, 3) := by decide +kernel
theorem dX6_requireOpenWindow_18 : decode cX6_requireOpenWindow 18 = .ok (.new 335, 3) := by decide +kernel
theorem dX6_requireOpenWindow_21 : decode cX6_requireOpenWindow 21 = .ok (.dup, 1) := by decide +kernel
theorem dX6_requireOpenWindow_22 : decode cX6_requireOpenWindow 22 = .ok (.ldc_w 373, 3) := by decide +kernel
theorem dX6_requireOpenWindow_25 : decode cX6_requireOpenWindow 25 = .ok (.invokespecial 339, 3) := by decide +kernel
theorem dX6_requireOpenWindow_28 : decode cX6_requireOpenWindow 28 = .ok (.athrow, 1) := by decide +kernel
theorem dX6_requireOpenWindow_29 : decode cX6_requireOpenWindow 29 = .ok (.return_, 1) := by decide +kernel
theorem dX6_requirePoint_0 : decode cX6_requirePoint 0 = .ok (.aload_n 0, 1) := by decide +kernel
theorem dX6_requirePoint_1 : decode cX6_requirePoint 1 = .ok (.getfield 12, 3) := by decide +kernel
theorem dX6_requirePoint_4 : decode cX6_requirePoint 4 = .ok (.getfield 101, 3) := by decide +kernel
theorem dX6_requirePoint_7 : decode cX6_requirePoint 7 = .ok (.iload_n 1, 1) := by decide +kernel
theorem dX6_requirePoint_8 : decode cX6_requirePoint 8 = .ok (.invokevirtual 125, 3) := by decide +kernel
theorem dX6_requirePoint_11 : decode cX6_requirePoint 11 = .ok (.istore_n 2, 1) := by decide +kernel
theorem dX6_requirePoint_12 : decode cX6_requirePoint 12 = .ok (.iload_n 2, 1) := by decide +kernel
theorem dX6_requirePoint_13 : decode cX6_requirePoint 13 = .ok (.ifCond .ne 14, 3) := by decide +kernel
theorem dX6_requirePoint_16 : decode cX6_requirePoint 16 = .ok (.new 335, 3) := by decide +kernel
theorem dX6_requirePoint_19 : decode cX6_requirePoint 19 = .ok (.dup, 1) := by decide +kernel
theorem dX6_requirePoint_20 : decode cX6_requirePoint 20 = .ok (.ldc_w 375, 3) := by decide +kernel
theorem dX6_requirePoint_23 : decode cX6_requirePoint 23 = .ok (.invokespecial 339, 3) := by decide +kernel
theorem dX6_requirePoint_26 : decode cX6_requirePoint 26 = .ok (.athrow, 1) := by decide +kernel
theorem dX6_requirePoint_27 : decode cX6_requirePoint 27 = .ok (.iload_n 2, 1) := by decide +kernel
theorem dX6_requirePoint_28 : decode cX6_requirePoint 28 = .ok (.ireturn, 1) := by decide +kernel
theorem dX6_keyInFound_0 : decode cX6_keyInFound 0 = .ok (.iload_n 1, 1) := by decide +kernel
theorem dX6_keyInFound_1 : decode cX6_keyInFound 1 = .ok (.ifCond .ne 14, 3) := by decide +kernel
theorem dX6_keyInFound_4 : decode cX6_keyInFound 4 = .ok (.new 335, 3) := by decide +kernel
theorem dX6_keyInFound_7 : decode cX6_keyInFound 7 = .ok (.dup, 1) := by decide +kernel
theorem dX6_keyInFound_8 : decode cX6_keyInFound 8 = .ok (.ldc_w 377, 3) := by decide +kernel
theorem dX6_keyInFound_11 : decode cX6_keyInFound 11 = .ok (.invokespecial 339, 3) := by decide +kernel
theorem dX6_keyInFound_14 : decode cX6_keyInFound 14 = .ok (.athrow, 1) := by decide +kernel
theorem dX6_keyInFound_15 : decode cX6_keyInFound 15 = .ok (.aload_n 0, 1) := by decide +kernel
theorem dX6_keyInFound_16 : decode cX6_keyInFound 16 = .ok (.getfield 12, 3) := by decide +kernel
theorem dX6_keyInFound_19 : decode cX6_keyInFound 19 = .ok (.getfield 101, 3) := by decide +kernel
theorem dX6_keyInFound_22 : decode cX6_keyInFound 22 = .ok (.iload_n 1, 1) := by decide +kernel
theorem dX6_keyInFound_23 : decode cX6_keyInFound 23 = .ok (.invokevirtual 140, 3) := by decide +kernel
theorem dX6_keyInFound_26 : decode cX6_keyInFound 26 = .ok (.ireturn, 1) := by decide +kernel
theorem dX6_requireRejection_0 : decode cX6_requireRejection 0 = .ok (.aload_n 0, 1) := by decide +kernel
theorem dX6_requireRejection_1 : decode cX6_requireRejection 1 = .ok (.getfield 47, 3) := by decide +kernel
theorem dX6_requireRejection_4 : decode cX6_requireRejection 4 = .ok (.ifCond .ne 14, 3) := by decide +kernel
theorem dX6_requireRejection_7 : decode cX6_requireRejection 7 = .ok (.new 335, 3) := by decide +kernel
theorem dX6_requireRejection_10 : decode cX6_requireRejection 10 = .ok (.dup, 1) := by decide +kernel
theorem dX6_requireRejection_11 : decode cX6_requireRejection 11 = .ok (.ldc_w 379, 3) := by decide +kernel
theorem dX6_requireRejection_14 : decode cX6_requireRejection 14 = .ok (.invokespecial 339, 3) := by decide +kernel
theorem dX6_requireRejection_17 : decode cX6_requireRejection 17 = .ok (.athrow, 1) := by decide +kernel
theorem dX6_requireRejection_18 : decode cX6_requireRejection 18 = .ok (.return_, 1) := by decide +kernel
theorem dX6_reject_0 : decode cX6_reject 0 = .ok (.aload_n 0, 1) := by decide +kernel
theorem dX6_reject_1 : decode cX6_reject 1 = .ok (.iload_n 1, 1) := by decide +kernel
theorem dX6_reject_2 : decode cX6_reject 2 = .ok (.putfield 47, 3) := by decide +kernel
theorem dX6_reject_5 : decode cX6_reject 5 = .ok (.aload_n 0, 1) := by decide +kernel
theorem dX6_reject_6 : decode cX6_reject 6 = .ok (.iload_n 2, 1) := by decide +kernel
theorem dX6_reject_7 : decode cX6_reject 7 = .ok (.putfield 343, 3) := by decide +kernel
theorem dX6_reject_10 : decode cX6_reject 10 = .ok (.aload_n 0, 1) := by decide +kernel
theorem dX6_reject_11 : decode cX6_reject 11 = .ok (.iconst 0, 1) := by decide +kernel
theorem dX6_reject_12 : decode cX6_reject 12 = .ok (.putfield 50, 3) := by decide +kernel
theorem dX6_reject_15 : decode cX6_reject 15 = .ok (.return_, 1) := by decide +kernel
theorem dX6_writeSubtree_0 : decode cX6_writeSubtree 0 = .ok (.aload_n 0, 1) := by decide +kernel
theorem dX6_writeSubtree_1 : decode cX6_writeSubtree 1 = .ok (.ifnull 17, 3) := by decide +kernel
theorem dX6_writeSubtree_4 : decode cX6_writeSubtree 4 = .ok (.iload_n 1, 1) := by decide +kernel
theorem dX6_writeSubtree_5 : decode cX6_writeSubtree 5 = .ok (.ifCond .eq 13, 3) := by decide +kernel
theorem dX6_writeSubtree_8 : decode cX6_writeSubtree 8 = .ok (.aload_n 2, 1) := by decide +kernel
theorem dX6_writeSubtree_9 : decode cX6_writeSubtree 9 = .ok (.ifnull 9, 3) := by decide +kernel
theorem dX6_writeSubtree_12 : decode cX6_writeSubtree 12 = .ok (.iload_n 3, 1) := by decide +kernel
theorem dX6_writeSubtree_13 : decode cX6_writeSubtree 13 = .ok (.bipush 24, 2) := by decide +kernel
theorem dX6_writeSubtree_15 : decode cX6_writeSubtree 15 = .ok (.if_icmp .lt 4, 3) := by decide +kernel
theorem dX6_writeSubtree_18 : decode cX6_writeSubtree 18 = .ok (.return_, 1) := by decide +kernel
theorem dX6_writeSubtree_19 : decode cX6_writeSubtree 19 = .ok (.aload_n 2, 1) := by decide +kernel
theorem dX6_writeSubtree_20 : decode cX6_writeSubtree 20 = .ok (.bipush 40, 2) := by decide +kernel
theorem dX6_writeSubtree_22 : decode cX6_writeSubtree 22 = .ok (.invokevirtual 277, 3) := by decide +kernel
theorem dX6_writeSubtree_25 : decode cX6_writeSubtree 25 = .ok (.aload_n 0, 1) := by decide +kernel
theorem dX6_writeSubtree_26 : decode cX6_writeSubtree 26 = .ok (.aload_n 0, 1) := by decide +kernel
theorem dX6_writeSubtree_27 : decode cX6_writeSubtree 27 = .ok (.iload_n 1, 1) := by decide +kernel
theorem dX6_writeSubtree_28 : decode cX6_writeSubtree 28 = .ok (.invokevirtual 152, 3) := by decide +kernel
theorem dX6_writeSubtree_31 : decode cX6_writeSubtree 31 = .ok (.aload_n 2, 1) := by decide +kernel
theorem dX6_writeSubtree_32 : decode cX6_writeSubtree 32 = .ok (.iload_n 3, 1) := by decide +kernel
theorem dX6_writeSubtree_33 : decode cX6_writeSubtree 33 = .ok (.iconst 1, 1) := by decide +kernel
theorem dX6_writeSubtree_34 : decode cX6_writeSubtree 34 = .ok (.iadd, 1) := by decide +kernel
theorem dX6_writeSubtree_35 : decode cX6_writeSubtree 35 = .ok (.invokestatic 270, 3) := by decide +kernel
theorem dX6_writeSubtree_38 : decode cX6_writeSubtree 38 = .ok (.aload_n 2, 1) := by decide +kernel
theorem dX6_writeSubtree_39 : decode cX6_writeSubtree 39 = .ok (.aload_n 0, 1) := by decide +kernel
theorem dX6_writeSubtree_40 : decode cX6_writeSubtree 40 = .ok (.iload_n 1, 1) := by decide +kernel
theorem dX6_writeSubtree_41 : decode cX6_writeSubtree 41 = .ok (.invokevirtual 140, 3) := by decide +kernel
theorem dX6_writeSubtree_44 : decode cX6_writeSubtree 44 = .ok (.invokevirtual 280, 3) := by decide +kernel
theorem dX6_writeSubtree_47 : decode cX6_writeSubtree 47 = .ok (.aload_n 2, 1) := by decide +kernel
theorem dX6_writeSubtree_48 : decode cX6_writeSubtree 48 = .ok (.bipush 58, 2) := by decide +kernel
theorem dX6_writeSubtree_50 : decode cX6_writeSubtree 50 = .ok (.invokevirtual 277, 3) := by decide +kernel
theorem dX6_writeSubtree_53 : decode cX6_writeSubtree 53 = .ok (.aload_n 2, 1) := by decide +kernel
theorem dX6_writeSubtree_54 : decode cX6_writeSubtree 54 = .ok (.aload_n 0, 1) := by decide +kernel
theorem dX6_writeSubtree_55 : decode cX6_writeSubtree 55 = .ok (.iload_n 1, 1) := by decide +kernel
theorem dX6_writeSubtree_56 : decode cX6_writeSubtree 56 = .ok (.invokevirtual 105, 3) := by decide +kernel
theorem dX6_writeSubtree_59 : decode cX6_writeSubtree 59 = .ok (.invokevirtual 280, 3) := by decide +kernel
theorem dX6_writeSubtree_62 : decode cX6_writeSubtree 62 = .ok (.aload_n 0, 1) := by decide +kernel
theorem dX6_writeSubtree_63 : decode cX6_writeSubtree 63 = .ok (.aload_n 0, 1) := by decide +kernel
theorem dX6_writeSubtree_64 : decode cX6_writeSubtree 64 = .ok (.iload_n 1, 1) := by decide +kernel
theorem dX6_writeSubtree_65 : decode cX6_writeSubtree 65 = .ok (.invokevirtual 155, 3) := by decide +kernel
theorem dX6_writeSubtree_68 : decode cX6_writeSubtree 68 = .ok (.aload_n 2, 1) := by decide +kernel
theorem dX6_writeSubtree_69 : decode cX6_writeSubtree 69 = .ok (.iload_n 3, 1) := by decide +kernel
theorem dX6_writeSubtree_70 : decode cX6_writeSubtree 70 = .ok (.iconst 1, 1) := by decide +kernel
theorem dX6_writeSubtree_71 : decode cX6_writeSubtree 71 = .ok (.iadd, 1) := by decide +kernel
theorem dX6_writeSubtree_72 : decode cX6_writeSubtree 72 = .ok (.invokestatic 270, 3) := by decide +kernel
theorem dX6_writeSubtree_75 : decode cX6_writeSubtree 75 = .ok (.aload_n 2, 1) := by decide +kernel
theorem dX6_writeSubtree_76 : decode cX6_writeSubtree 76 = .ok (.bipush 41, 2) := by decide +kernel
theorem dX6_writeSubtree_78 : decode cX6_writeSubtree 78 = .ok (.invokevirtual 277, 3) := by decide +kernel
theorem dX6_writeSubtree_81 : decode cX6_writeSubtree 81 = .ok (.return_, 1) := by decide +kernel
theorem dX6_at_0 : decode cX6_at 0 = .ok (.aload_n 0, 1) := by decide +kernel
theorem dX6_at_1 : decode cX6_at 1 = .ok (.ifnull 19, 3) := by decide +kernel
theorem dX6_at_4 : decode cX6_at 4 = .ok (.iload_n 1, 1) := by decide +kernel
theorem dX6_at_5 : decode cX6_at 5 = .ok (.ifCond .lt 15, 3) := by decide +kernel
theorem dX6_at_8 : decode cX6_at 8 = .ok (.iload_n 1, 1) := by decide +kernel
theorem dX6_at_9 : decode cX6_at 9 = .ok (.aload_n 0, 1) := by decide +kernel
theorem dX6_at_10 : decode cX6_at 10 = .ok (.arraylength, 1) := by decide +kernel
theorem dX6_at_11 : decode cX6_at 11 = .ok (.if_icmp .ge 9, 3) := by decide +kernel
theorem dX6_at_14 : decode cX6_at 14 = .ok (.aload_n 0, 1) := by decide +kernel
theorem dX6_at_15 : decode cX6_at 15 = .ok (.iload_n 1, 1) := by decide +kernel
theorem dX6_at_16 : decode cX6_at 16 = .ok (.iaload, 1) := by decide +kernel
theorem dX6_at_17 : decode cX6_at 17 = .ok (.goto 4, 3) := by decide +kernel
theorem dX6_at_20 : decode cX6_at 20 = .ok (.iconst 0, 1) := by decide +kernel
theorem dX6_at_21 : decode cX6_at 21 = .ok (.ireturn, 1) := by decide +kernel
theorem dX6_put_0 : decode cX6_put 0 = .ok (.aload_n 0, 1) := by decide +kernel
theorem dX6_put_1 : decode cX6_put 1 = .ok (.ifnull 17, 3) := by decide +kernel
theorem dX6_put_4 : decode cX6_put 4 = .ok (.iload_n 1, 1) := by decide +kernel
theorem dX6_put_5 : decode cX6_put 5 = .ok (.ifCond .lt 13, 3) := by decide +kernel
theorem dX6_put_8 : decode cX6_put 8 = .ok (.iload_n 1, 1) := by decide +kernel
theorem dX6_put_9 : decode cX6_put 9 = .ok (.aload_n 0, 1) := by decide +kernel
theorem dX6_put_10 : decode cX6_put 10 = .ok (.arraylength, 1) := by decide +kernel
theorem dX6_put_11 : decode cX6_put 11 = .ok (.if_icmp .ge 7, 3) := by decide +kernel
theorem dX6_put_14 : decode cX6_put 14 = .ok (.aload_n 0, 1) := by decide +kernel
theorem dX6_put_15 : decode cX6_put 15 = .ok (.iload_n 1, 1) := by decide +kernel
theorem dX6_put_16 : decode cX6_put 16 = .ok (.iload_n 2, 1) := by decide +kernel
theorem dX6_put_17 : decode cX6_put 17 = .ok (.iastore, 1) := by decide +kernel
theorem dX6_put_18 : decode cX6_put 18 = .ok (.return_, 1) := by decide +kernel
theorem dX6_copyRow_0 : decode cX6_copyRow 0 = .ok (.aload_n 0, 1) := by decide +kernel
theorem dX6_copyRow_1 : decode cX6_copyRow 1 = .ok (.ifnull 7, 3) := by decide +kernel
theorem dX6_copyRow_4 : decode cX6_copyRow 4 = .ok (.aload_n 1, 1) := by decide +kernel
theorem dX6_copyRow_5 : decode cX6_copyRow 5 = .ok (.ifnonnull 4, 3) := by decide +kernel
theorem dX6_copyRow_8 : decode cX6_copyRow 8 = .ok (.return_, 1) := by decide +kernel
theorem dX6_copyRow_9 : decode cX6_copyRow 9 = .ok (.iconst 0, 1) := by decide +kernel
theorem dX6_copyRow_10 : decode cX6_copyRow 10 = .ok (.istore_n 2, 1) := by decide +kernel
theorem dX6_copyRow_11 : decode cX6_copyRow 11 = .ok (.iload_n 2, 1) := by decide +kernel
theorem dX6_copyRow_12 : decode cX6_copyRow 12 = .ok (.aload_n 0, 1) := by decide +kernel
theorem dX6_copyRow_13 : decode cX6_copyRow 13 = .ok (.arraylength, 1) := by decide +kernel
theorem dX6_copyRow_14 : decode cX6_copyRow 14 = .ok (.if_icmp .ge 21, 3) := by decide +kernel
theorem dX6_copyRow_17 : decode cX6_copyRow 17 = .ok (.iload_n 2, 1) := by decide +kernel
theorem dX6_copyRow_18 : decode cX6_copyRow 18 = .ok (.aload_n 1, 1) := by decide +kernel
theorem dX6_copyRow_19 : decode cX6_copyRow 19 = .ok (.arraylength, 1) := by decide +kernel
theorem dX6_copyRow_20 : decode cX6_copyRow 20 = .ok (.if_icmp .ge 15, 3) := by decide +kernel
theorem dX6_copyRow_23 : decode cX6_copyRow 23 = .ok (.aload_n 1, 1) := by decide +kernel
theorem dX6_copyRow_24 : decode cX6_copyRow 24 = .ok (.iload_n 2, 1) := by decide +kernel
theorem dX6_copyRow_25 : decode cX6_copyRow 25 = .ok (.aload_n 0, 1) := by decide +kernel
theorem dX6_copyRow_26 : decode cX6_copyRow 26 = .ok (.iload_n 2, 1) := by decide +kernel
theorem dX6_copyRow_27 : decode cX6_copyRow 27 = .ok (.iaload, 1) := by decide +kernel
theorem dX6_copyRow_28 : decode cX6_copyRow 28 = .ok (.iastore, 1) := by decide +kernel
theorem dX6_copyRow_29 : decode cX6_copyRow 29 = .ok (.iinc 2 1, 3) := by decide +kernel
theorem dX6_copyRow_32 : decode cX6_copyRow 32 = .ok (.goto (-21), 3) := by decide +kernel
theorem dX6_copyRow_35 : decode cX6_copyRow 35 = .ok (.return_, 1) := by decide +kernel
