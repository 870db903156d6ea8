theorem dL_insert_0 : decode cL_insert 0 = .ok (.aload_n 3, 1) := by decide +kernel
theorem dL_insert_1 : decode cL_insert 1 = .ok (.iconst 0, 1) := by decide +kernel
theorem dL_insert_2 : decode cL_insert 2 = .ok (.aload_n 0, 1) := by decide +kernel
theorem dL_insert_3 : decode cL_insert 3 = .ok (.iload_n 1, 1) := by decide +kernel
theorem dL_insert_4 : decode cL_insert 4 = .ok (.iload_n 2, 1) := by decide +kernel
theorem dL_insert_5 : decode cL_insert 5 = .ok (.invokevirtual 7, 3) := by decide +kernel
theorem dL_insert_8 : decode cL_insert 8 = .ok (.i2l, 1) := by decide +kernel
theorem dL_insert_9 : decode cL_insert 9 = .ok (.lastore, 1) := by decide +kernel
theorem dL_insert_10 : decode cL_insert 10 = .ok (.goto 11, 3) := by decide +kernel
theorem dL_insert_13 : decode cL_insert 13 = .ok (.astore 4, 2) := by decide +kernel
theorem dL_insert_15 : decode cL_insert 15 = .ok (.iconst 1, 1) := by decide +kernel
theorem dL_insert_16 : decode cL_insert 16 = .ok (.ireturn, 1) := by decide +kernel
theorem dL_insert_17 : decode cL_insert 17 = .ok (.astore 4, 2) := by decide +kernel
theorem dL_insert_19 : decode cL_insert 19 = .ok (.iconst 2, 1) := by decide +kernel
theorem dL_insert_20 : decode cL_insert 20 = .ok (.ireturn, 1) := by decide +kernel
theorem dL_insert_21 : decode cL_insert 21 = .ok (.iconst 0, 1) := by decide +kernel
theorem dL_insert_22 : decode cL_insert 22 = .ok (.ireturn, 1) := by decide +kernel
theorem dL_delete_0 : decode cL_delete 0 = .ok (.aload_n 2, 1) := by decide +kernel
theorem dL_delete_1 : decode cL_delete 1 = .ok (.iconst 0, 1) := by decide +kernel
theorem dL_delete_2 : decode cL_delete 2 = .ok (.aload_n 0, 1) := by decide +kernel
theorem dL_delete_3 : decode cL_delete 3 = .ok (.iload_n 1, 1) := by decide +kernel
theorem dL_delete_4 : decode cL_delete 4 = .ok (.invokevirtual 17, 3) := by decide +kernel
theorem dL_delete_7 : decode cL_delete 7 = .ok (.i2l, 1) := by decide +kernel
theorem dL_delete_8 : decode cL_delete 8 = .ok (.lastore, 1) := by decide +kernel
theorem dL_delete_9 : decode cL_delete 9 = .ok (.goto 6, 3) := by decide +kernel
theorem dL_delete_12 : decode cL_delete 12 = .ok (.astore_n 3, 1) := by decide +kernel
theorem dL_delete_13 : decode cL_delete 13 = .ok (.iconst 1, 1) := by decide +kernel
theorem dL_delete_14 : decode cL_delete 14 = .ok (.ireturn, 1) := by decide +kernel
theorem dL_delete_15 : decode cL_delete 15 = .ok (.iconst 0, 1) := by decide +kernel
theorem dL_delete_16 : decode cL_delete 16 = .ok (.ireturn, 1) := by decide +kernel
theorem dL_changePriority_0 : decode cL_changePriority 0 = .ok (.aload_n 3, 1) := by decide +kernel
theorem dL_changePriority_1 : decode cL_changePriority 1 = .ok (.iconst 0, 1) := by decide +kernel
theorem dL_changePriority_2 : decode cL_changePriority 2 = .ok (.aload_n 0, 1) := by decide +kernel
theorem dL_changePriority_3 : decode cL_changePriority 3 = .ok (.iload_n 1, 1) := by decide +kernel
theorem dL_changePriority_4 : decode cL_changePriority 4 = .ok (.iload_n 2, 1) := by decide +kernel
theorem dL_changePriority_5 : decode cL_changePriority 5 = .ok (.invokevirtual 23, 3) := by decide +kernel
theorem dL_changePriority_8 : decode cL_changePriority 8 = .ok (.i2l, 1) := by decide +kernel
theorem dL_changePriority_9 : decode cL_changePriority 9 = .ok (.lastore, 1) := by decide +kernel
theorem dL_changePriority_10 : decode cL_changePriority 10 = .ok (.goto 15, 3) := by decide +kernel
theorem dL_changePriority_13 : decode cL_changePriority 13 = .ok (.astore 4, 2) := by decide +kernel
theorem dL_changePriority_15 : decode cL_changePriority 15 = .ok (.iconst 1, 1) := by decide +kernel
theorem dL_changePriority_16 : decode cL_changePriority 16 = .ok (.ireturn, 1) := by decide +kernel
theorem dL_changePriority_17 : decode cL_changePriority 17 = .ok (.astore 4, 2) := by decide +kernel
theorem dL_changePriority_19 : decode cL_changePriority 19 = .ok (.iconst 2, 1) := by decide +kernel
theorem dL_changePriority_20 : decode cL_changePriority 20 = .ok (.ireturn, 1) := by decide +kernel
theorem dL_changePriority_21 : decode cL_changePriority 21 = .ok (.astore 4, 2) := by decide +kernel
theorem dL_changePriority_23 : decode cL_changePriority 23 = .ok (.iconst 3, 1) := by decide +kernel
theorem dL_changePriority_24 : decode cL_changePriority 24 = .ok (.ireturn, 1) := by decide +kernel
theorem dL_changePriority_25 : decode cL_changePriority 25 = .ok (.iconst 0, 1) := by decide +kernel
theorem dL_changePriority_26 : decode cL_changePriority 26 = .ok (.ireturn, 1) := by decide +kernel
theorem dL_moveKey_0 : decode cL_moveKey 0 = .ok (.aload_n 3, 1) := by decide +kernel
theorem dL_moveKey_1 : decode cL_moveKey 1 = .ok (.iconst 0, 1) := by decide +kernel
theorem dL_moveKey_2 : decode cL_moveKey 2 = .ok (.aload_n 0, 1) := by decide +kernel
theorem dL_moveKey_3 : decode cL_moveKey 3 = .ok (.iload_n 1, 1) := by decide +kernel
theorem dL_moveKey_4 : decode cL_moveKey 4 = .ok (.iload_n 2, 1) := by decide +kernel
theorem dL_moveKey_5 : decode cL_moveKey 5 = .ok (.invokevirtual 26, 3) := by decide +kernel
theorem dL_moveKey_8 : decode cL_moveKey 8 = .ok (.i2l, 1) := by decide +kernel
theorem dL_moveKey_9 : decode cL_moveKey 9 = .ok (.lastore, 1) := by decide +kernel
theorem dL_moveKey_10 : decode cL_moveKey 10 = .ok (.goto 15, 3) := by decide +kernel
theorem dL_moveKey_13 : decode cL_moveKey 13 = .ok (.astore 4, 2) := by decide +kernel
theorem dL_moveKey_15 : decode cL_moveKey 15 = .ok (.iconst 1, 1) := by decide +kernel
theorem dL_moveKey_16 : decode cL_moveKey 16 = .ok (.ireturn, 1) := by decide +kernel
theorem dL_moveKey_17 : decode cL_moveKey 17 = .ok (.astore 4, 2) := by decide +kernel
theorem dL_moveKey_19 : decode cL_moveKey 19 = .ok (.iconst 2, 1) := by decide +kernel
theorem dL_moveKey_20 : decode cL_moveKey 20 = .ok (.ireturn, 1) := by decide +kernel
theorem dL_moveKey_21 : decode cL_moveKey 21 = .ok (.astore 4, 2) := by decide +kernel
theorem dL_moveKey_23 : decode cL_moveKey 23 = .ok (.iconst 3, 1) := by decide +kernel
theorem dL_moveKey_24 : decode cL_moveKey 24 = .ok (.ireturn, 1) := by decide +kernel
theorem dL_moveKey_25 : decode cL_moveKey 25 = .ok (.iconst 0, 1) := by decide +kernel
theorem dL_moveKey_26 : decode cL_moveKey 26 = .ok (.ireturn, 1) := by decide +kernel
theorem dL_deleteRange_0 : decode cL_deleteRange 0 = .ok (.aload_n 3, 1) := by decide +kernel
theorem dL_deleteRange_1 : decode cL_deleteRange 1 = .ok (.iconst 0, 1) := by decide +kernel
theorem dL_deleteRange_2 : decode cL_deleteRange 2 = .ok (.aload_n 0, 1) := by decide +kernel
theorem dL_deleteRange_3 : decode cL_deleteRange 3 = .ok (.iload_n 1, 1) := by decide +kernel
theorem dL_deleteRange_4 : decode cL_deleteRange 4 = .ok (.iload_n 2, 1) := by decide +kernel
theorem dL_deleteRange_5 : decode cL_deleteRange 5 = .ok (.invokevirtual 29, 3) := by decide +kernel
theorem dL_deleteRange_8 : decode cL_deleteRange 8 = .ok (.i2l, 1) := by decide +kernel
theorem dL_deleteRange_9 : decode cL_deleteRange 9 = .ok (.lastore, 1) := by decide +kernel
theorem dL_deleteRange_10 : decode cL_deleteRange 10 = .ok (.goto 7, 3) := by decide +kernel
theorem dL_deleteRange_13 : decode cL_deleteRange 13 = .ok (.astore 4, 2) := by decide +kernel
theorem dL_deleteRange_15 : decode cL_deleteRange 15 = .ok (.iconst 1, 1) := by decide +kernel
theorem dL_deleteRange_16 : decode cL_deleteRange 16 = .ok (.ireturn, 1) := by decide +kernel
theorem dL_deleteRange_17 : decode cL_deleteRange 17 = .ok (.iconst 0, 1) := by decide +kernel
theorem dL_deleteRange_18 : decode cL_deleteRange 18 = .ok (.ireturn, 1) := by decide +kernel
theorem dL_priorityOf_0 : decode cL_priorityOf 0 = .ok (.aload_n 2, 1) := by decide +kernel
theorem dL_priorityOf_1 : decode cL_priorityOf 1 = .ok (.iconst 0, 1) := by decide +kernel
theorem dL_priorityOf_2 : decode cL_priorityOf 2 = .ok (.aload_n 0, 1) := by decide +kernel
theorem dL_priorityOf_3 : decode cL_priorityOf 3 = .ok (.iload_n 1, 1) := by decide +kernel
theorem dL_priorityOf_4 : decode cL_priorityOf 4 = .ok (.invokevirtual 32, 3) := by decide +kernel
theorem dL_priorityOf_7 : decode cL_priorityOf 7 = .ok (.i2l, 1) := by decide +kernel
theorem dL_priorityOf_8 : decode cL_priorityOf 8 = .ok (.lastore, 1) := by decide +kernel
theorem dL_priorityOf_9 : decode cL_priorityOf 9 = .ok (.goto 6, 3) := by decide +kernel
theorem dL_priorityOf_12 : decode cL_priorityOf 12 = .ok (.astore_n 3, 1) := by decide +kernel
theorem dL_priorityOf_13 : decode cL_priorityOf 13 = .ok (.iconst 1, 1) := by decide +kernel
theorem dL_priorityOf_14 : decode cL_priorityOf 14 = .ok (.ireturn, 1) := by decide +kernel
theorem dL_priorityOf_15 : decode cL_priorityOf 15 = .ok (.iconst 0, 1) := by decide +kernel
theorem dL_priorityOf_16 : decode cL_priorityOf 16 = .ok (.ireturn, 1) := by decide +kernel
theorem dL_lowestKey_0 : decode cL_lowestKey 0 = .ok (.aload_n 1, 1) := by decide +kernel
theorem dL_lowestKey_1 : decode cL_lowestKey 1 = .ok (.iconst 0, 1) := by decide +kernel
theorem dL_lowestKey_2 : decode cL_lowestKey 2 = .ok (.aload_n 0, 1) := by decide +kernel
theorem dL_lowestKey_3 : decode cL_lowestKey 3 = .ok (.invokevirtual 35, 3) := by decide +kernel
theorem dL_lowestKey_6 : decode cL_lowestKey 6 = .ok (.i2l, 1) := by decide +kernel
theorem dL_lowestKey_7 : decode cL_lowestKey 7 = .ok (.lastore, 1) := by decide +kernel
theorem dL_lowestKey_8 : decode cL_lowestKey 8 = .ok (.goto 6, 3) := by decide +kernel
theorem dL_lowestKey_11 : decode cL_lowestKey 11 = .ok (.astore_n 2, 1) := by decide +kernel
theorem dL_lowestKey_12 : decode cL_lowestKey 12 = .ok (.iconst 1, 1) := by decide +kernel
theorem dL_lowestKey_13 : decode cL_lowestKey 13 = .ok (.ireturn, 1) := by decide +kernel
theorem dL_lowestKey_14 : decode cL_lowestKey 14 = .ok (.iconst 0, 1) := by decide +kernel
theorem dL_lowestKey_15 : decode cL_lowestKey 15 = .ok (.ireturn, 1) := by decide +kernel
theorem dL_greatestKey_0 : decode cL_greatestKey 0 = .ok (.aload_n 1, 1) := by decide +kernel
theorem dL_greatestKey_1 : decode cL_greatestKey 1 = .ok (.iconst 0, 1) := by decide +kernel
theorem dL_greatestKey_2 : decode cL_greatestKey 2 = .ok (.aload_n 0, 1) := by decide +kernel
theorem dL_greatestKey_3 : decode cL_greatestKey 3 = .ok (.invokevirtual 39, 3) := by decide +kernel
theorem dL_greatestKey_6 : decode cL_greatestKey 6 = .ok (.i2l, 1) := by decide +kernel
theorem dL_greatestKey_7 : decode cL_greatestKey 7 = .ok (.lastore, 1) := by decide +kernel
theorem dL_greatestKey_8 : decode cL_greatestKey 8 = .ok (.goto 6, 3) := by decide +kernel
theorem dL_greatestKey_11 : decode cL_greatestKey 11 = .ok (.astore_n 2, 1) := by decide +kernel
theorem dL_greatestKey_12 : decode cL_greatestKey 12 = .ok (.iconst 1, 1) := by decide +kernel
theorem dL_greatestKey_13 : decode cL_greatestKey 13 = .ok (.ireturn, 1) := by decide +kernel
theorem dL_greatestKey_14 : decode cL_greatestKey 14 = .ok (.iconst 0, 1) := by decide +kernel
theorem dL_greatestKey_15 : decode cL_greatestKey 15 = .ok (.ireturn, 1) := by decide +kernel
theorem dL_floorKey_0 : decode cL_floorKey 0 = .ok (.aload_n 2, 1) := by decide +kernel
theorem dL_floorKey_1 : decode cL_floorKey 1 = .ok (.iconst 0, 1) := by decide +kernel
theorem dL_floorKey_2 : decode cL_floorKey 2 = .ok (.aload_n 0, 1) := by decide +kernel
theorem dL_floorKey_3 : decode cL_floorKey 3 = .ok (.iload_n 1, 1) := by decide +kernel
theorem dL_floorKey_4 : decode cL_floorKey 4 = .ok (.invokevirtual 42, 3) := by decide +kernel
theorem dL_floorKey_7 : decode cL_floorKey 7 = .ok (.i2l, 1) := by decide +kernel
theorem dL_floorKey_8 : decode cL_floorKey 8 = .ok (.lastore, 1) := by decide +kernel
theorem dL_floorKey_9 : decode cL_floorKey 9 = .ok (.goto 6, 3) := by decide +kernel
theorem dL_floorKey_12 : decode cL_floorKey 12 = .ok (.astore_n 3, 1) := by decide +kernel
theorem dL_floorKey_13 : decode cL_floorKey 13 = .ok (.iconst 1, 1) := by decide +kernel
theorem dL_floorKey_14 : decode cL_floorKey 14 = .ok (.ireturn, 1) := by decide +kernel
theorem dL_floorKey_15 : decode cL_floorKey 15 = .ok (.iconst 0, 1) := by decide +kernel
theorem dL_floorKey_16 : decode cL_floorKey 16 = .ok (.ireturn, 1) := by decide +kernel
theorem dL_ceilingKey_0 : decode cL_ceilingKey 0 = .ok (.aload_n 2, 1) := by decide +kernel
theorem dL_ceilingKey_1 : decode cL_ceilingKey 1 = .ok (.iconst 0, 1) := by decide +kernel
theorem dL_ceilingKey_2 : decode cL_ceilingKey 2 = .ok (.aload_n 0, 1) := by decide +kernel
theorem dL_ceilingKey_3 : decode cL_ceilingKey 3 = .ok (.iload_n 1, 1) := by decide +kernel
theorem dL_ceilingKey_4 : decode cL_ceilingKey 4 = .ok (.invokevirtual 45, 3) := by decide +kernel
theorem dL_ceilingKey_7 : decode cL_ceilingKey 7 = .ok (.i2l, 1) := by decide +kernel
theorem dL_ceilingKey_8 : decode cL_ceilingKey 8 = .ok (.lastore, 1) := by decide +kernel
theorem dL_ceilingKey_9 : decode cL_ceilingKey 9 = .ok (.goto 6, 3) := by decide +kernel
theorem dL_ceilingKey_12 : decode cL_ceilingKey 12 = .ok (.astore_n 3, 1) := by decide +kernel
theorem dL_ceilingKey_13 : decode cL_ceilingKey 13 = .ok (.iconst 1, 1) := by decide +kernel
theorem dL_ceilingKey_14 : decode cL_ceilingKey 14 = .ok (.ireturn, 1) := by decide +kernel
theorem dL_ceilingKey_15 : decode cL_ceilingKey 15 = .ok (.iconst 0, 1) := by decide +kernel
theorem dL_ceilingKey_16 : decode cL_ceilingKey 16 = .ok (.ireturn, 1) := by decide +kernel
theorem dL_nearestKey_0 : decode cL_nearestKey 0 = .ok (.aload_n 2, 1) := by decide +kernel
theorem dL_nearestKey_1 : decode cL_nearestKey 1 = .ok (.iconst 0, 1) := by decide +kernel
theorem dL_nearestKey_2 : decode cL_nearestKey 2 = .ok (.aload_n 0, 1) := by decide +kernel
theorem dL_nearestKey_3 : decode cL_nearestKey 3 = .ok (.iload_n 1, 1) := by decide +kernel
theorem dL_nearestKey_4 : decode cL_nearestKey 4 = .ok (.invokevirtual 48, 3) := by decide +kernel
theorem dL_nearestKey_7 : decode cL_nearestKey 7 = .ok (.i2l, 1) := by decide +kernel
theorem dL_nearestKey_8 : decode cL_nearestKey 8 = .ok (.lastore, 1) := by decide +kernel
theorem dL_nearestKey_9 : decode cL_nearestKey 9 = .ok (.goto 9, 3) := by decide +kernel
theorem dL_nearestKey_12 : decode cL_nearestKey 12 = .ok (.astore_n 3, 1) := by decide +kernel
theorem dL_nearestKey_13 : decode cL_nearestKey 13 = .ok (.iconst 1, 1) := by decide +kernel
theorem dL_nearestKey_14 : decode cL_nearestKey 14 = .ok (.ireturn, 1) := by decide +kernel
theorem dL_nearestKey_15 : decode cL_nearestKey 15 = .ok (.astore_n 3, 1) := by decide +kernel
theorem dL_nearestKey_16 : decode cL_nearestKey 16 = .ok (.iconst 2, 1) := by decide +kernel
theorem dL_nearestKey_17 : decode cL_nearestKey 17 = .ok (.ireturn, 1) := by decide +kernel
theorem dL_nearestKey_18 : decode cL_nearestKey 18 = .ok (.iconst 0, 1) := by decide +kernel
theorem dL_nearestKey_19 : decode cL_nearestKey 19 = .ok (.ireturn, 1) := by decide +kernel
theorem dL_keyAt_0 : decode cL_keyAt 0 = .ok (.aload_n 2, 1) := by decide +kernel
theorem dL_keyAt_1 : decode cL_keyAt 1 = .ok (.iconst 0, 1) := by decide +kernel
theorem dL_keyAt_2 : decode cL_keyAt 2 = .ok (.aload_n 0, 1) := by decide +kernel
theorem dL_keyAt_3 : decode cL_keyAt 3 = .ok (.iload_n 1, 1) := by decide +kernel
theorem dL_keyAt_4 : decode cL_keyAt 4 = .ok (.invokevirtual 51, 3) := by decide +kernel
theorem dL_keyAt_7 : decode cL_keyAt 7 = .ok (.i2l, 1) := by decide +kernel
theorem dL_keyAt_8 : decode cL_keyAt 8 = .ok (.lastore, 1) := by decide +kernel
theorem dL_keyAt_9 : decode cL_keyAt 9 = .ok (.goto 6, 3) := by decide +kernel
theorem dL_keyAt_12 : decode cL_keyAt 12 = .ok (.astore_n 3, 1) := by decide +kernel
theorem dL_keyAt_13 : decode cL_keyAt 13 = .ok (.iconst 1, 1) := by decide +kernel
theorem dL_keyAt_14 : decode cL_keyAt 14 = .ok (.ireturn, 1) := by decide +kernel
theorem dL_keyAt_15 : decode cL_keyAt 15 = .ok (.iconst 0, 1) := by decide +kernel
theorem dL_keyAt_16 : decode cL_keyAt 16 = .ok (.ireturn, 1) := by decide +kernel
theorem dL_keyByPriority_0 : decode cL_keyByPriority 0 = .ok (.aload_n 2, 1) := by decide +kernel
theorem dL_keyByPriority_1 : decode cL_keyByPriority 1 = .ok (.iconst 0, 1) := by decide +kernel
theorem dL_keyByPriority_2 : decode cL_keyByPriority 2 = .ok (.aload_n 0, 1) := by decide +kernel
theorem dL_keyByPriority_3 : decode cL_keyByPriority 3 = .ok (.iload_n 1, 1) := by decide +kernel
theorem dL_keyByPriority_4 : decode cL_keyByPriority 4 = .ok (.invokevirtual 54, 3) := by decide +kernel
theorem dL_keyByPriority_7 : decode cL_keyByPriority 7 = .ok (.i2l, 1) := by decide +kernel
theorem dL_keyByPriority_8 : decode cL_keyByPriority 8 = .ok (.lastore, 1) := by decide +kernel
theorem dL_keyByPriority_9 : decode cL_keyByPriority 9 = .ok (.goto 6, 3) := by decide +kernel
theorem dL_keyByPriority_12 : decode cL_keyByPriority 12 = .ok (.astore_n 3, 1) := by decide +kernel
theorem dL_keyByPriority_13 : decode cL_keyByPriority 13 = .ok (.iconst 1, 1) := by decide +kernel
theorem dL_keyByPriority_14 : decode cL_keyByPriority 14 = .ok (.ireturn, 1) := by decide +kernel
theorem dL_keyByPriority_15 : decode cL_keyByPriority 15 = .ok (.iconst 0, 1) := by decide +kernel
theorem dL_keyByPriority_16 : decode cL_keyByPriority 16 = .ok (.ireturn, 1) := by decide +kernel
theorem dL_root_0 : decode cL_root 0 = .ok (.aload_n 1, 1) := by decide +kernel
theorem dL_root_1 : decode cL_root 1 = .ok (.iconst 0, 1) := by decide +kernel
theorem dL_root_2 : decode cL_root 2 = .ok (.aload_n 0, 1) := by decide +kernel
theorem dL_root_3 : decode cL_root 3 = .ok (.invokevirtual 57, 3) := by decide +kernel
theorem dL_root_6 : decode cL_root 6 = .ok (.i2l, 1) := by decide +kernel
theorem dL_root_7 : decode cL_root 7 = .ok (.lastore, 1) := by decide +kernel
theorem dL_root_8 : decode cL_root 8 = .ok (.goto 6, 3) := by decide +kernel
theorem dL_root_11 : decode cL_root 11 = .ok (.astore_n 2, 1) := by decide +kernel
theorem dL_root_12 : decode cL_root 12 = .ok (.iconst 1, 1) := by decide +kernel
theorem dL_root_13 : decode cL_root 13 = .ok (.ireturn, 1) := by decide +kernel
theorem dL_root_14 : decode cL_root 14 = .ok (.iconst 0, 1) := by decide +kernel
theorem dL_root_15 : decode cL_root 15 = .ok (.ireturn, 1) := by decide +kernel
theorem dL_hasLeft_0 : decode cL_hasLeft 0 = .ok (.aload_n 2, 1) := by decide +kernel
theorem dL_hasLeft_1 : decode cL_hasLeft 1 = .ok (.iconst 0, 1) := by decide +kernel
theorem dL_hasLeft_2 : decode cL_hasLeft 2 = .ok (.aload_n 0, 1) := by decide +kernel
theorem dL_hasLeft_3 : decode cL_hasLeft 3 = .ok (.iload_n 1, 1) := by decide +kernel
theorem dL_hasLeft_4 : decode cL_hasLeft 4 = .ok (.invokevirtual 60, 3) := by decide +kernel
theorem dL_hasLeft_7 : decode cL_hasLeft 7 = .ok (.ifCond .eq 7, 3) := by decide +kernel
theorem dL_hasLeft_10 : decode cL_hasLeft 10 = .ok (.lconst 1, 1) := by decide +kernel
theorem dL_hasLeft_11 : decode cL_hasLeft 11 = .ok (.goto 4, 3) := by decide +kernel
theorem dL_hasLeft_14 : decode cL_hasLeft 14 = .ok (.lconst 0, 1) := by decide +kernel
theorem dL_hasLeft_15 : decode cL_hasLeft 15 = .ok (.lastore, 1) := by decide +kernel
theorem dL_hasLeft_16 : decode cL_hasLeft 16 = .ok (.goto 6, 3) := by decide +kernel
theorem dL_hasLeft_19 : decode cL_hasLeft 19 = .ok (.astore_n 3, 1) := by decide +kernel
theorem dL_hasLeft_20 : decode cL_hasLeft 20 = .ok (.iconst 1, 1) := by decide +kernel
theorem dL_hasLeft_21 : decode cL_hasLeft 21 = .ok (.ireturn, 1) := by decide +kernel
theorem dL_hasLeft_22 : decode cL_hasLeft 22 = .ok (.iconst 0, 1) := by decide +kernel
theorem dL_hasLeft_23 : decode cL_hasLeft 23 = .ok (.ireturn, 1) := by decide +kernel
theorem dL_hasRight_0 : decode cL_hasRight 0 = .ok (.aload_n 2, 1) := by decide +kernel
theorem dL_hasRight_1 : decode cL_hasRight 1 = .ok (.iconst 0, 1) := by decide +kernel
theorem dL_hasRight_2 : decode cL_hasRight 2 = .ok (.aload_n 0, 1) := by decide +kernel
theorem dL_hasRight_3 : decode cL_hasRight 3 = .ok (.iload_n 1, 1) := by decide +kernel
theorem dL_hasRight_4 : decode cL_hasRight 4 = .ok (.invokevirtual 64, 3) := by decide +kernel
theorem dL_hasRight_7 : decode cL_hasRight 7 = .ok (.ifCond .eq 7, 3) := by decide +kernel
theorem dL_hasRight_10 : decode cL_hasRight 10 = .ok (.lconst 1, 1) := by decide +kernel
theorem dL_hasRight_11 : decode cL_hasRight 11 = .ok (.goto 4, 3) := by decide +kernel
theorem dL_hasRight_14 : decode cL_hasRight 14 = .ok (.lconst 0, 1) := by decide +kernel
theorem dL_hasRight_15 : decode cL_hasRight 15 = .ok (.lastore, 1) := by decide +kernel
theorem dL_hasRight_16 : decode cL_hasRight 16 = .ok (.goto 6, 3) := by decide +kernel
theorem dL_hasRight_19 : decode cL_hasRight 19 = .ok (.astore_n 3, 1) := by decide +kernel
theorem dL_hasRight_20 : decode cL_hasRight 20 = .ok (.iconst 1, 1) := by decide +kernel
theorem dL_hasRight_21 : decode cL_hasRight 21 = .ok (.ireturn, 1) := by decide +kernel
theorem dL_hasRight_22 : decode cL_hasRight 22 = .ok (.iconst 0, 1) := by decide +kernel
theorem dL_hasRight_23 : decode cL_hasRight 23 = .ok (.ireturn, 1) := by decide +kernel
theorem dL_leftOf_0 : decode cL_leftOf 0 = .ok (.aload_n 2, 1) := by decide +kernel
theorem dL_leftOf_1 : decode cL_leftOf 1 = .ok (.iconst 0, 1) := by decide +kernel
theorem dL_leftOf_2 : decode cL_leftOf 2 = .ok (.aload_n 0, 1) := by decide +kernel
theorem dL_leftOf_3 : decode cL_leftOf 3 = .ok (.iload_n 1, 1) := by decide +kernel
theorem dL_leftOf_4 : decode cL_leftOf 4 = .ok (.invokevirtual 67, 3) := by decide +kernel
theorem dL_leftOf_7 : decode cL_leftOf 7 = .ok (.i2l, 1) := by decide +kernel
theorem dL_leftOf_8 : decode cL_leftOf 8 = .ok (.lastore, 1) := by decide +kernel
theorem dL_leftOf_9 : decode cL_leftOf 9 = .ok (.goto 6, 3) := by decide +kernel
theorem dL_leftOf_12 : decode cL_leftOf 12 = .ok (.astore_n 3, 1) := by decide +kernel
theorem dL_leftOf_13 : decode cL_leftOf 13 = .ok (.iconst 1, 1) := by decide +kernel
theorem dL_leftOf_14 : decode cL_leftOf 14 = .ok (.ireturn, 1) := by decide +kernel
theorem dL_leftOf_15 : decode cL_leftOf 15 = .ok (.iconst 0, 1) := by decide +kernel
theorem dL_leftOf_16 : decode cL_leftOf 16 = .ok (.ireturn, 1) := by decide +kernel
theorem dL_rightOf_0 : decode cL_rightOf 0 = .ok (.aload_n 2, 1) := by decide +kernel
theorem dL_rightOf_1 : decode cL_rightOf 1 = .ok (.iconst 0, 1) := by decide +kernel
theorem dL_rightOf_2 : decode cL_rightOf 2 = .ok (.aload_n 0, 1) := by decide +kernel
theorem dL_rightOf_3 : decode cL_rightOf 3 = .ok (.iload_n 1, 1) := by decide +kernel
theorem dL_rightOf_4 : decode cL_rightOf 4 = .ok (.invokevirtual 70, 3) := by decide +kernel
theorem dL_rightOf_7 : decode cL_rightOf 7 = .ok (.i2l, 1) := by decide +kernel
theorem dL_rightOf_8 : decode cL_rightOf 8 = .ok (.lastore, 1) := by decide +kernel
theorem dL_rightOf_9 : decode cL_rightOf 9 = .ok (.goto 6, 3) := by decide +kernel
theorem dL_rightOf_12 : decode cL_rightOf 12 = .ok (.astore_n 3, 1) := by decide +kernel
theorem dL_rightOf_13 : decode cL_rightOf 13 = .ok (.iconst 1, 1) := by decide +kernel
theorem dL_rightOf_14 : decode cL_rightOf 14 = .ok (.ireturn, 1) := by decide +kernel
theorem dL_rightOf_15 : decode cL_rightOf 15 = .ok (.iconst 0, 1) := by decide +kernel
theorem dL_rightOf_16 : decode cL_rightOf 16 = .ok (.ireturn, 1) := by decide +kernel
theorem dL_parentOf_0 : decode cL_parentOf 0 = .ok (.aload_n 2, 1) := by decide +kernel
theorem dL_parentOf_1 : decode cL_parentOf 1 = .ok (.iconst 0, 1) := by decide +kernel
theorem dL_parentOf_2 : decode cL_parentOf 2 = .ok (.aload_n 0, 1) := by decide +kernel
theorem dL_parentOf_3 : decode cL_parentOf 3 = .ok (.iload_n 1, 1) := by decide +kernel
theorem dL_parentOf_4 : decode cL_parentOf 4 = .ok (.invokevirtual 73, 3) := by decide +kernel
theorem dL_parentOf_7 : decode cL_parentOf 7 = .ok (.i2l, 1) := by decide +kernel
theorem dL_parentOf_8 : decode cL_parentOf 8 = .ok (.lastore, 1) := by decide +kernel
theorem dL_parentOf_9 : decode cL_parentOf 9 = .ok (.goto 6, 3) := by decide +kernel
theorem dL_parentOf_12 : decode cL_parentOf 12 = .ok (.astore_n 3, 1) := by decide +kernel
theorem dL_parentOf_13 : decode cL_parentOf 13 = .ok (.iconst 1, 1) := by decide +kernel
theorem dL_parentOf_14 : decode cL_parentOf 14 = .ok (.ireturn, 1) := by decide +kernel
theorem dL_parentOf_15 : decode cL_parentOf 15 = .ok (.iconst 0, 1) := by decide +kernel
theorem dL_parentOf_16 : decode cL_parentOf 16 = .ok (.ireturn, 1) := by decide +kernel
theorem dL_depthOf_0 : decode cL_depthOf 0 = .ok (.aload_n 2, 1) := by decide +kernel
theorem dL_depthOf_1 : decode cL_depthOf 1 = .ok (.iconst 0, 1) := by decide +kernel
theorem dL_depthOf_2 : decode cL_depthOf 2 = .ok (.aload_n 0, 1) := by decide +kernel
theorem dL_depthOf_3 : decode cL_depthOf 3 = .ok (.iload_n 1, 1) := by decide +kernel
theorem dL_depthOf_4 : decode cL_depthOf 4 = .ok (.invokevirtual 76, 3) := by decide +kernel
theorem dL_depthOf_7 : decode cL_depthOf 7 = .ok (.i2l, 1) := by decide +kernel
theorem dL_depthOf_8 : decode cL_depthOf 8 = .ok (.lastore, 1) := by decide +kernel
theorem dL_depthOf_9 : decode cL_depthOf 9 = .ok (.goto 6, 3) := by decide +kernel
theorem dL_depthOf_12 : decode cL_depthOf 12 = .ok (.astore_n 3, 1) := by decide +kernel
theorem dL_depthOf_13 : decode cL_depthOf 13 = .ok (.iconst 1, 1) := by decide +kernel
theorem dL_depthOf_14 : decode cL_depthOf 14 = .ok (.ireturn, 1) := by decide +kernel
theorem dL_depthOf_15 : decode cL_depthOf 15 = .ok (.iconst 0, 1) := by decide +kernel
theorem dL_depthOf_16 : decode cL_depthOf 16 = .ok (.ireturn, 1) := by decide +kernel
theorem dL_subtreeSize_0 : decode cL_subtreeSize 0 = .ok (.aload_n 2, 1) := by decide +kernel
theorem dL_subtreeSize_1 : decode cL_subtreeSize 1 = .ok (.iconst 0, 1) := by decide +kernel
theorem dL_subtreeSize_2 : decode cL_subtreeSize 2 = .ok (.aload_n 0, 1) := by decide +kernel
theorem dL_subtreeSize_3 : decode cL_subtreeSize 3 = .ok (.iload_n 1, 1) := by decide +kernel
theorem dL_subtreeSize_4 : decode cL_subtreeSize 4 = .ok (.invokevirtual 79, 3) := by decide +kernel
theorem dL_subtreeSize_7 : decode cL_subtreeSize 7 = .ok (.i2l, 1) := by decide +kernel
theorem dL_subtreeSize_8 : decode cL_subtreeSize 8 = .ok (.lastore, 1) := by decide +kernel
theorem dL_subtreeSize_9 : decode cL_subtreeSize 9 = .ok (.goto 6, 3) := by decide +kernel
theorem dL_subtreeSize_12 : decode cL_subtreeSize 12 = .ok (.astore_n 3, 1) := by decide +kernel
theorem dL_subtreeSize_13 : decode cL_subtreeSize 13 = .ok (.iconst 1, 1) := by decide +kernel
theorem dL_subtreeSize_14 : decode cL_subtreeSize 14 = .ok (.ireturn, 1) := by decide +kernel
theorem dL_subtreeSize_15 : decode cL_subtreeSize 15 = .ok (.iconst 0, 1) := by decide +kernel
theorem dL_subtreeSize_16 : decode cL_subtreeSize 16 = .ok (.ireturn, 1) := by decide +kernel
theorem dL_imbalanceOf_0 : decode cL_imbalanceOf 0 = .ok (.aload_n 2, 1) := by decide +kernel
theorem dL_imbalanceOf_1 : decode cL_imbalanceOf 1 = .ok (.iconst 0, 1) := by decide +kernel
theorem dL_imbalanceOf_2 : decode cL_imbalanceOf 2 = .ok (.aload_n 0, 1) := by decide +kernel
theorem dL_imbalanceOf_3 : decode cL_imbalanceOf 3 = .ok (.iload_n 1, 1) := by decide +kernel
theorem dL_imbalanceOf_4 : decode cL_imbalanceOf 4 = .ok (.invokevirtual 82, 3) := by decide +kernel
theorem dL_imbalanceOf_7 : decode cL_imbalanceOf 7 = .ok (.i2l, 1) := by decide +kernel
theorem dL_imbalanceOf_8 : decode cL_imbalanceOf 8 = .ok (.lastore, 1) := by decide +kernel
theorem dL_imbalanceOf_9 : decode cL_imbalanceOf 9 = .ok (.goto 6, 3) := by decide +kernel
theorem dL_imbalanceOf_12 : decode cL_imbalanceOf 12 = .ok (.astore_n 3, 1) := by decide +kernel
theorem dL_imbalanceOf_13 : decode cL_imbalanceOf 13 = .ok (.iconst 1, 1) := by decide +kernel
theorem dL_imbalanceOf_14 : decode cL_imbalanceOf 14 = .ok (.ireturn, 1) := by decide +kernel
theorem dL_imbalanceOf_15 : decode cL_imbalanceOf 15 = .ok (.iconst 0, 1) := by decide +kernel
theorem dL_imbalanceOf_16 : decode cL_imbalanceOf 16 = .ok (.ireturn, 1) := by decide +kernel
theorem dL_commonAncestor_0 : decode cL_commonAncestor 0 = .ok (.aload_n 3, 1) := by decide +kernel
theorem dL_commonAncestor_1 : decode cL_commonAncestor 1 = .ok (.iconst 0, 1) := by decide +kernel
theorem dL_commonAncestor_2 : decode cL_commonAncestor 2 = .ok (.aload_n 0, 1) := by decide +kernel
theorem dL_commonAncestor_3 : decode cL_commonAncestor 3 = .ok (.iload_n 1, 1) := by decide +kernel
theorem dL_commonAncestor_4 : decode cL_commonAncestor 4 = .ok (.iload_n 2, 1) := by decide +kernel
theorem dL_commonAncestor_5 : decode cL_commonAncestor 5 = .ok (.invokevirtual 85, 3) := by decide +kernel
theorem dL_commonAncestor_8 : decode cL_commonAncestor 8 = .ok (.i2l, 1) := by decide +kernel
theorem dL_commonAncestor_9 : decode cL_commonAncestor 9 = .ok (.lastore, 1) := by decide +kernel
theorem dL_commonAncestor_10 : decode cL_commonAncestor 10 = .ok (.goto 7, 3) := by decide +kernel
theorem dL_commonAncestor_13 : decode cL_commonAncestor 13 = .ok (.astore 4, 2) := by decide +kernel
theorem dL_commonAncestor_15 : decode cL_commonAncestor 15 = .ok (.iconst 1, 1) := by decide +kernel
theorem dL_commonAncestor_16 : decode cL_commonAncestor 16 = .ok (.ireturn, 1) := by decide +kernel
theorem dL_commonAncestor_17 : decode cL_commonAncestor 17 = .ok (.iconst 0, 1) := by decide +kernel
theorem dL_commonAncestor_18 : decode cL_commonAncestor 18 = .ok (.ireturn, 1) := by decide +kernel
theorem dL_distance_0 : decode cL_distance 0 = .ok (.aload_n 3, 1) := by decide +kernel
theorem dL_distance_1 : decode cL_distance 1 = .ok (.iconst 0, 1) := by decide +kernel
theorem dL_distance_2 : decode cL_distance 2 = .ok (.aload_n 0, 1) := by decide +kernel
theorem dL_distance_3 : decode cL_distance 3 = .ok (.iload_n 1, 1) := by decide +kernel
theorem dL_distance_4 : decode cL_distance 4 = .ok (.iload_n 2, 1) := by decide +kernel
theorem dL_distance_5 : decode cL_distance 5 = .ok (.invokevirtual 88, 3) := by decide +kernel
theorem dL_distance_8 : decode cL_distance 8 = .ok (.i2l, 1) := by decide +kernel
theorem dL_distance_9 : decode cL_distance 9 = .ok (.lastore, 1) := by decide +kernel
theorem dL_distance_10 : decode cL_distance 10 = .ok (.goto 7, 3) := by decide +kernel
theorem dL_distance_13 : decode cL_distance 13 = .ok (.astore 4, 2) := by decide +kernel
theorem dL_distance_15 : decode cL_distance 15 = .ok (.iconst 1, 1) := by decide +kernel
theorem dL_distance_16 : decode cL_distance 16 = .ok (.ireturn, 1) := by decide +kernel
theorem dL_distance_17 : decode cL_distance 17 = .ok (.iconst 0, 1) := by decide +kernel
theorem dL_distance_18 : decode cL_distance 18 = .ok (.ireturn, 1) := by decide +kernel
theorem dL_countInRange_0 : decode cL_countInRange 0 = .ok (.aload_n 3, 1) := by decide +kernel
theorem dL_countInRange_1 : decode cL_countInRange 1 = .ok (.iconst 0, 1) := by decide +kernel
theorem dL_countInRange_2 : decode cL_countInRange 2 = .ok (.aload_n 0, 1) := by decide +kernel
theorem dL_countInRange_3 : decode cL_countInRange 3 = .ok (.iload_n 1, 1) := by decide +kernel
theorem dL_countInRange_4 : decode cL_countInRange 4 = .ok (.iload_n 2, 1) := by decide +kernel
theorem dL_countInRange_5 : decode cL_countInRange 5 = .ok (.invokevirtual 91, 3) := by decide +kernel
theorem dL_countInRange_8 : decode cL_countInRange 8 = .ok (.i2l, 1) := by decide +kernel
theorem dL_countInRange_9 : decode cL_countInRange 9 = .ok (.lastore, 1) := by decide +kernel
theorem dL_countInRange_10 : decode cL_countInRange 10 = .ok (.goto 7, 3) := by decide +kernel
theorem dL_countInRange_13 : decode cL_countInRange 13 = .ok (.astore 4, 2) := by decide +kernel
theorem dL_countInRange_15 : decode cL_countInRange 15 = .ok (.iconst 1, 1) := by decide +kernel
theorem dL_countInRange_16 : decode cL_countInRange 16 = .ok (.ireturn, 1) := by decide +kernel
theorem dL_countInRange_17 : decode cL_countInRange 17 = .ok (.iconst 0, 1) := by decide +kernel
theorem dL_countInRange_18 : decode cL_countInRange 18 = .ok (.ireturn, 1) := by decide +kernel
theorem dL_countInRangeByScan_0 : decode cL_countInRangeByScan 0 = .ok (.aload_n 3, 1) := by decide +kernel
theorem dL_countInRangeByScan_1 : decode cL_countInRangeByScan 1 = .ok (.iconst 0, 1) := by decide +kernel
theorem dL_countInRangeByScan_2 : decode cL_countInRangeByScan 2 = .ok (.aload_n 0, 1) := by decide +kernel
theorem dL_countInRangeByScan_3 : decode cL_countInRangeByScan 3 = .ok (.iload_n 1, 1) := by decide +kernel
theorem dL_countInRangeByScan_4 : decode cL_countInRangeByScan 4 = .ok (.iload_n 2, 1) := by decide +kernel
theorem dL_countInRangeByScan_5 : decode cL_countInRangeByScan 5 = .ok (.invokevirtual 94, 3) := by decide +kernel
theorem dL_countInRangeByScan_8 : decode cL_countInRangeByScan 8 = .ok (.i2l, 1) := by decide +kernel
theorem dL_countInRangeByScan_9 : decode cL_countInRangeByScan 9 = .ok (.lastore, 1) := by decide +kernel
theorem dL_countInRangeByScan_10 : decode cL_countInRangeByScan 10 = .ok (.goto 7, 3) := by decide +kernel
theorem dL_countInRangeByScan_13 : decode cL_countInRangeByScan 13 = .ok (.astore 4, 2) := by decide +kernel
theorem dL_countInRangeByScan_15 : decode cL_countInRangeByScan 15 = .ok (.iconst 1, 1) := by decide +kernel
theorem dL_countInRangeByScan_16 : decode cL_countInRangeByScan 16 = .ok (.ireturn, 1) := by decide +kernel
theorem dL_countInRangeByScan_17 : decode cL_countInRangeByScan 17 = .ok (.iconst 0, 1) := by decide +kernel
theorem dL_countInRangeByScan_18 : decode cL_countInRangeByScan 18 = .ok (.ireturn, 1) := by decide +kernel
theorem dL_topInRange_0 : decode cL_topInRange 0 = .ok (.aload_n 3, 1) := by decide +kernel
theorem dL_topInRange_1 : decode cL_topInRange 1 = .ok (.iconst 0, 1) := by decide +kernel
theorem dL_topInRange_2 : decode cL_topInRange 2 = .ok (.aload_n 0, 1) := by decide +kernel
theorem dL_topInRange_3 : decode cL_topInRange 3 = .ok (.iload_n 1, 1) := by decide +kernel
theorem dL_topInRange_4 : decode cL_topInRange 4 = .ok (.iload_n 2, 1) := by decide +kernel
theorem dL_topInRange_5 : decode cL_topInRange 5 = .ok (.invokevirtual 97, 3) := by decide +kernel
theorem dL_topInRange_8 : decode cL_topInRange 8 = .ok (.i2l, 1) := by decide +kernel
theorem dL_topInRange_9 : decode cL_topInRange 9 = .ok (.lastore, 1) := by decide +kernel
theorem dL_topInRange_10 : decode cL_topInRange 10 = .ok (.goto 11, 3) := by decide +kernel
theorem dL_topInRange_13 : decode cL_topInRange 13 = .ok (.astore 4, 2) := by decide +kernel
theorem dL_topInRange_15 : decode cL_topInRange 15 = .ok (.iconst 1, 1) := by decide +kernel
theorem dL_topInRange_16 : decode cL_topInRange 16 = .ok (.ireturn, 1) := by decide +kernel
theorem dL_topInRange_17 : decode cL_topInRange 17 = .ok (.astore 4, 2) := by decide +kernel
theorem dL_topInRange_19 : decode cL_topInRange 19 = .ok (.iconst 2, 1) := by decide +kernel
theorem dL_topInRange_20 : decode cL_topInRange 20 = .ok (.ireturn, 1) := by decide +kernel
theorem dL_topInRange_21 : decode cL_topInRange 21 = .ok (.iconst 0, 1) := by decide +kernel
theorem dL_topInRange_22 : decode cL_topInRange 22 = .ok (.ireturn, 1) := by decide +kernel
theorem dL_topInRangeByScan_0 : decode cL_topInRangeByScan 0 = .ok (.aload_n 3, 1) := by decide +kernel
theorem dL_topInRangeByScan_1 : decode cL_topInRangeByScan 1 = .ok (.iconst 0, 1) := by decide +kernel
theorem dL_topInRangeByScan_2 : decode cL_topInRangeByScan 2 = .ok (.aload_n 0, 1) := by decide +kernel
theorem dL_topInRangeByScan_3 : decode cL_topInRangeByScan 3 = .ok (.iload_n 1, 1) := by decide +kernel
theorem dL_topInRangeByScan_4 : decode cL_topInRangeByScan 4 = .ok (.iload_n 2, 1) := by decide +kernel
theorem dL_topInRangeByScan_5 : decode cL_topInRangeByScan 5 = .ok (.invokevirtual 100, 3) := by decide +kernel
theorem dL_topInRangeByScan_8 : decode cL_topInRangeByScan 8 = .ok (.i2l, 1) := by decide +kernel
theorem dL_topInRangeByScan_9 : decode cL_topInRangeByScan 9 = .ok (.lastore, 1) := by decide +kernel
theorem dL_topInRangeByScan_10 : decode cL_topInRangeByScan 10 = .ok (.goto 11, 3) := by decide +kernel
theorem dL_topInRangeByScan_13 : decode cL_topInRangeByScan 13 = .ok (.astore 4, 2) := by decide +kernel
theorem dL_topInRangeByScan_15 : decode cL_topInRangeByScan 15 = .ok (.iconst 1, 1) := by decide +kernel
theorem dL_topInRangeByScan_16 : decode cL_topInRangeByScan 16 = .ok (.ireturn, 1) := by decide +kernel
theorem dL_topInRangeByScan_17 : decode cL_topInRangeByScan 17 = .ok (.astore 4, 2) := by decide +kernel
theorem dL_topInRangeByScan_19 : decode cL_topInRangeByScan 19 = .ok (.iconst 2, 1) := by decide +kernel
theorem dL_topInRangeByScan_20 : decode cL_topInRangeByScan 20 = .ok (.ireturn, 1) := by decide +kernel
theorem dL_topInRangeByScan_21 : decode cL_topInRangeByScan 21 = .ok (.iconst 0, 1) := by decide +kernel
theorem dL_topInRangeByScan_22 : decode cL_topInRangeByScan 22 = .ok (.ireturn, 1) := by decide +kernel
theorem dL_countAbove_0 : decode cL_countAbove 0 = .ok (.aload 4, 2) := by decide +kernel
theorem dL_countAbove_2 : decode cL_countAbove 2 = .ok (.iconst 0, 1) := by decide +kernel
theorem dL_countAbove_3 : decode cL_countAbove 3 = .ok (.aload_n 0, 1) := by decide +kernel
theorem dL_countAbove_4 : decode cL_countAbove 4 = .ok (.iload_n 1, 1) := by decide +kernel
theorem dL_countAbove_5 : decode cL_countAbove 5 = .ok (.iload_n 2, 1) := by decide +kernel
theorem dL_countAbove_6 : decode cL_countAbove 6 = .ok (.iload_n 3, 1) := by decide +kernel
theorem dL_countAbove_7 : decode cL_countAbove 7 = .ok (.invokevirtual 103, 3) := by decide +kernel
theorem dL_countAbove_10 : decode cL_countAbove 10 = .ok (.i2l, 1) := by decide +kernel
theorem dL_countAbove_11 : decode cL_countAbove 11 = .ok (.lastore, 1) := by decide +kernel
theorem dL_countAbove_12 : decode cL_countAbove 12 = .ok (.goto 7, 3) := by decide +kernel
theorem dL_countAbove_15 : decode cL_countAbove 15 = .ok (.astore 5, 2) := by decide +kernel
theorem dL_countAbove_17 : decode cL_countAbove 17 = .ok (.iconst 1, 1) := by decide +kernel
theorem dL_countAbove_18 : decode cL_countAbove 18 = .ok (.ireturn, 1) := by decide +kernel
theorem dL_countAbove_19 : decode cL_countAbove 19 = .ok (.iconst 0, 1) := by decide +kernel
theorem dL_countAbove_20 : decode cL_countAbove 20 = .ok (.ireturn, 1) := by decide +kernel
theorem dL_countAboveByScan_0 : decode cL_countAboveByScan 0 = .ok (.aload 4, 2) := by decide +kernel
theorem dL_countAboveByScan_2 : decode cL_countAboveByScan 2 = .ok (.iconst 0, 1) := by decide +kernel
theorem dL_countAboveByScan_3 : decode cL_countAboveByScan 3 = .ok (.aload_n 0, 1) := by decide +kernel
theorem dL_countAboveByScan_4 : decode cL_countAboveByScan 4 = .ok (.iload_n 1, 1) := by decide +kernel
theorem dL_countAboveByScan_5 : decode cL_countAboveByScan 5 = .ok (.iload_n 2, 1) := by decide +kernel
theorem dL_countAboveByScan_6 : decode cL_countAboveByScan 6 = .ok (.iload_n 3, 1) := by decide +kernel
theorem dL_countAboveByScan_7 : decode cL_countAboveByScan 7 = .ok (.invokevirtual 107, 3) := by decide +kernel
theorem dL_countAboveByScan_10 : decode cL_countAboveByScan 10 = .ok (.i2l, 1) := by decide +kernel
theorem dL_countAboveByScan_11 : decode cL_countAboveByScan 11 = .ok (.lastore, 1) := by decide +kernel
theorem dL_countAboveByScan_12 : decode cL_countAboveByScan 12 = .ok (.goto 7, 3) := by decide +kernel
theorem dL_countAboveByScan_15 : decode cL_countAboveByScan 15 = .ok (.astore 5, 2) := by decide +kernel
theorem dL_countAboveByScan_17 : decode cL_countAboveByScan 17 = .ok (.iconst 1, 1) := by decide +kernel
theorem dL_countAboveByScan_18 : decode cL_countAboveByScan 18 = .ok (.ireturn, 1) := by decide +kernel
theorem dL_countAboveByScan_19 : decode cL_countAboveByScan 19 = .ok (.iconst 0, 1) := by decide +kernel
theorem dL_countAboveByScan_20 : decode cL_countAboveByScan 20 = .ok (.ireturn, 1) := by decide +kernel
theorem dL_sumInRange_0 : decode cL_sumInRange 0 = .ok (.aload_n 3, 1) := by decide +kernel
theorem dL_sumInRange_1 : decode cL_sumInRange 1 = .ok (.iconst 0, 1) := by decide +kernel
theorem dL_sumInRange_2 : decode cL_sumInRange 2 = .ok (.aload_n 0, 1) := by decide +kernel
theorem dL_sumInRange_3 : decode cL_sumInRange 3 = .ok (.iload_n 1, 1) := by decide +kernel
theorem dL_sumInRange_4 : decode cL_sumInRange 4 = .ok (.iload_n 2, 1) := by decide +kernel
theorem dL_sumInRange_5 : decode cL_sumInRange 5 = .ok (.invokevirtual 110, 3) := by decide +kernel
theorem dL_sumInRange_8 : decode cL_sumInRange 8 = .ok (.lastore, 1) := by decide +kernel
theorem dL_sumInRange_9 : decode cL_sumInRange 9 = .ok (.goto 7, 3) := by decide +kernel
theorem dL_sumInRange_12 : decode cL_sumInRange 12 = .ok (.astore 4, 2) := by decide +kernel
theorem dL_sumInRange_14 : decode cL_sumInRange 14 = .ok (.iconst 1, 1) := by decide +kernel
theorem dL_sumInRange_15 : decode cL_sumInRange 15 = .ok (.ireturn, 1) := by decide +kernel
theorem dL_sumInRange_16 : decode cL_sumInRange 16 = .ok (.iconst 0, 1) := by decide +kernel
theorem dL_sumInRange_17 : decode cL_sumInRange 17 = .ok (.ireturn, 1) := by decide +kernel
theorem dL_setWindow_0 : decode cL_setWindow 0 = .ok (.aload 6, 2) := by decide +kernel
theorem dL_setWindow_2 : decode cL_setWindow 2 = .ok (.iconst 0, 1) := by decide +kernel
theorem dL_setWindow_3 : decode cL_setWindow 3 = .ok (.aload_n 0, 1) := by decide +kernel
theorem dL_setWindow_4 : decode cL_setWindow 4 = .ok (.iload_n 1, 1) := by decide +kernel
theorem dL_setWindow_5 : decode cL_setWindow 5 = .ok (.iload_n 2, 1) := by decide +kernel
theorem dL_setWindow_6 : decode cL_setWindow 6 = .ok (.iload_n 3, 1) := by decide +kernel
theorem dL_setWindow_7 : decode cL_setWindow 7 = .ok (.iload 4, 2) := by decide +kernel
theorem dL_setWindow_9 : decode cL_setWindow 9 = .ok (.iload 5, 2) := by decide +kernel
theorem dL_setWindow_11 : decode cL_setWindow 11 = .ok (.invokevirtual 114, 3) := by decide +kernel
theorem dL_setWindow_14 : decode cL_setWindow 14 = .ok (.i2l, 1) := by decide +kernel
theorem dL_setWindow_15 : decode cL_setWindow 15 = .ok (.lastore, 1) := by decide +kernel
theorem dL_setWindow_16 : decode cL_setWindow 16 = .ok (.goto 15, 3) := by decide +kernel
theorem dL_setWindow_19 : decode cL_setWindow 19 = .ok (.astore 7, 2) := by decide +kernel
theorem dL_setWindow_21 : decode cL_setWindow 21 = .ok (.iconst 1, 1) := by decide +kernel
theorem dL_setWindow_22 : decode cL_setWindow 22 = .ok (.ireturn, 1) := by decide +kernel
theorem dL_setWindow_23 : decode cL_setWindow 23 = .ok (.astore 7, 2) := by decide +kernel
theorem dL_setWindow_25 : decode cL_setWindow 25 = .ok (.iconst 2, 1) := by decide +kernel
theorem dL_setWindow_26 : decode cL_setWindow 26 = .ok (.ireturn, 1) := by decide +kernel
theorem dL_setWindow_27 : decode cL_setWindow 27 = .ok (.astore 7, 2) := by decide +kernel
theorem dL_setWindow_29 : decode cL_setWindow 29 = .ok (.iconst 3, 1) := by decide +kernel
theorem dL_setWindow_30 : decode cL_setWindow 30 = .ok (.ireturn, 1) := by decide +kernel
theorem dL_setWindow_31 : decode cL_setWindow 31 = .ok (.iconst 0, 1) := by decide +kernel
theorem dL_setWindow_32 : decode cL_setWindow 32 = .ok (.ireturn, 1) := by decide +kernel
theorem dL_removeWindow_0 : decode cL_removeWindow 0 = .ok (.aload_n 2, 1) := by decide +kernel
theorem dL_removeWindow_1 : decode cL_removeWindow 1 = .ok (.iconst 0, 1) := by decide +kernel
theorem dL_removeWindow_2 : decode cL_removeWindow 2 = .ok (.aload_n 0, 1) := by decide +kernel
theorem dL_removeWindow_3 : decode cL_removeWindow 3 = .ok (.iload_n 1, 1) := by decide +kernel
theorem dL_removeWindow_4 : decode cL_removeWindow 4 = .ok (.invokevirtual 120, 3) := by decide +kernel
theorem dL_removeWindow_7 : decode cL_removeWindow 7 = .ok (.i2l, 1) := by decide +kernel
theorem dL_removeWindow_8 : decode cL_removeWindow 8 = .ok (.lastore, 1) := by decide +kernel
theorem dL_removeWindow_9 : decode cL_removeWindow 9 = .ok (.goto 9, 3) := by decide +kernel
theorem dL_removeWindow_12 : decode cL_removeWindow 12 = .ok (.astore_n 3, 1) := by decide +kernel
theorem dL_removeWindow_13 : decode cL_removeWindow 13 = .ok (.iconst 1, 1) := by decide +kernel
theorem dL_removeWindow_14 : decode cL_removeWindow 14 = .ok (.ireturn, 1) := by decide +kernel
theorem dL_removeWindow_15 : decode cL_removeWindow 15 = .ok (.astore_n 3, 1) := by decide +kernel
theorem dL_removeWindow_16 : decode cL_removeWindow 16 = .ok (.iconst 2, 1) := by decide +kernel
theorem dL_removeWindow_17 : decode cL_removeWindow 17 = .ok (.ireturn, 1) := by decide +kernel
theorem dL_removeWindow_18 : decode cL_removeWindow 18 = .ok (.iconst 0, 1) := by decide +kernel
theorem dL_removeWindow_19 : decode cL_removeWindow 19 = .ok (.ireturn, 1) := by decide +kernel
theorem dL_isWindowSet_0 : decode cL_isWindowSet 0 = .ok (.aload_n 2, 1) := by decide +kernel
theorem dL_isWindowSet_1 : decode cL_isWindowSet 1 = .ok (.iconst 0, 1) := by decide +kernel
theorem dL_isWindowSet_2 : decode cL_isWindowSet 2 = .ok (.aload_n 0, 1) := by decide +kernel
theorem dL_isWindowSet_3 : decode cL_isWindowSet 3 = .ok (.iload_n 1, 1) := by decide +kernel
theorem dL_isWindowSet_4 : decode cL_isWindowSet 4 = .ok (.invokevirtual 123, 3) := by decide +kernel
theorem dL_isWindowSet_7 : decode cL_isWindowSet 7 = .ok (.ifCond .eq 7, 3) := by decide +kernel
theorem dL_isWindowSet_10 : decode cL_isWindowSet 10 = .ok (.lconst 1, 1) := by decide +kernel
theorem dL_isWindowSet_11 : decode cL_isWindowSet 11 = .ok (.goto 4, 3) := by decide +kernel
theorem dL_isWindowSet_14 : decode cL_isWindowSet 14 = .ok (.lconst 0, 1) := by decide +kernel
theorem dL_isWindowSet_15 : decode cL_isWindowSet 15 = .ok (.lastore, 1) := by decide +kernel
theorem dL_isWindowSet_16 : decode cL_isWindowSet 16 = .ok (.goto 6, 3) := by decide +kernel
theorem dL_isWindowSet_19 : decode cL_isWindowSet 19 = .ok (.astore_n 3, 1) := by decide +kernel
theorem dL_isWindowSet_20 : decode cL_isWindowSet 20 = .ok (.iconst 1, 1) := by decide +kernel
theorem dL_isWindowSet_21 : decode cL_isWindowSet 21 = .ok (.ireturn, 1) := by decide +kernel
theorem dL_isWindowSet_22 : decode cL_isWindowSet 22 = .ok (.iconst 0, 1) := by decide +kernel
theorem dL_isWindowSet_23 : decode cL_isWindowSet 23 = .ok (.ireturn, 1) := by decide +kernel
theorem dL_pointsInWindow_0 : decode cL_pointsInWindow 0 = .ok (.aload_n 2, 1) := by decide +kernel
theorem dL_pointsInWindow_1 : decode cL_pointsInWindow 1 = .ok (.iconst 0, 1) := by decide +kernel
theorem dL_pointsInWindow_2 : decode cL_pointsInWindow 2 = .ok (.aload_n 0, 1) := by decide +kernel
theorem dL_pointsInWindow_3 : decode cL_pointsInWindow 3 = .ok (.iload_n 1, 1) := by decide +kernel
theorem dL_pointsInWindow_4 : decode cL_pointsInWindow 4 = .ok (.invokevirtual 126, 3) := by decide +kernel
theorem dL_pointsInWindow_7 : decode cL_pointsInWindow 7 = .ok (.i2l, 1) := by decide +kernel
theorem dL_pointsInWindow_8 : decode cL_pointsInWindow 8 = .ok (.lastore, 1) := by decide +kernel
theorem dL_pointsInWindow_9 : decode cL_pointsInWindow 9 = .ok (.goto 9, 3) := by decide +kernel
theorem dL_pointsInWindow_12 : decode cL_pointsInWindow 12 = .ok (.astore_n 3, 1) := by decide +kernel
theorem dL_pointsInWindow_13 : decode cL_pointsInWindow 13 = .ok (.iconst 1, 1) := by decide +kernel
theorem dL_pointsInWindow_14 : decode cL_pointsInWindow 14 = .ok (.ireturn, 1) := by decide +kernel
theorem dL_pointsInWindow_15 : decode cL_pointsInWindow 15 = .ok (.astore_n 3, 1) := by decide +kernel
theorem dL_pointsInWindow_16 : decode cL_pointsInWindow 16 = .ok (.iconst 2, 1) := by decide +kernel
theorem dL_pointsInWindow_17 : decode cL_pointsInWindow 17 = .ok (.ireturn, 1) := by decide +kernel
theorem dL_pointsInWindow_18 : decode cL_pointsInWindow 18 = .ok (.iconst 0, 1) := by decide +kernel
theorem dL_pointsInWindow_19 : decode cL_pointsInWindow 19 = .ok (.ireturn, 1) := by decide +kernel
theorem dL_roomInWindow_0 : decode cL_roomInWindow 0 = .ok (.aload_n 2, 1) := by decide +kernel
theorem dL_roomInWindow_1 : decode cL_roomInWindow 1 = .ok (.iconst 0, 1) := by decide +kernel
theorem dL_roomInWindow_2 : decode cL_roomInWindow 2 = .ok (.aload_n 0, 1) := by decide +kernel
theorem dL_roomInWindow_3 : decode cL_roomInWindow 3 = .ok (.iload_n 1, 1) := by decide +kernel
theorem dL_roomInWindow_4 : decode cL_roomInWindow 4 = .ok (.invokevirtual 129, 3) := by decide +kernel
theorem dL_roomInWindow_7 : decode cL_roomInWindow 7 = .ok (.i2l, 1) := by decide +kernel
theorem dL_roomInWindow_8 : decode cL_roomInWindow 8 = .ok (.lastore, 1) := by decide +kernel
theorem dL_roomInWindow_9 : decode cL_roomInWindow 9 = .ok (.goto 9, 3) := by decide +kernel
theorem dL_roomInWindow_12 : decode cL_roomInWindow 12 = .ok (.astore_n 3, 1) := by decide +kernel
theorem dL_roomInWindow_13 : decode cL_roomInWindow 13 = .ok (.iconst 1, 1) := by decide +kernel
theorem dL_roomInWindow_14 : decode cL_roomInWindow 14 = .ok (.ireturn, 1) := by decide +kernel
theorem dL_roomInWindow_15 : decode cL_roomInWindow 15 = .ok (.astore_n 3, 1) := by decide +kernel
theorem dL_roomInWindow_16 : decode cL_roomInWindow 16 = .ok (.iconst 2, 1) := by decide +kernel
theorem dL_roomInWindow_17 : decode cL_roomInWindow 17 = .ok (.ireturn, 1) := by decide +kernel
theorem dL_roomInWindow_18 : decode cL_roomInWindow 18 = .ok (.iconst 0, 1) := by decide +kernel
theorem dL_roomInWindow_19 : decode cL_roomInWindow 19 = .ok (.ireturn, 1) := by decide +kernel
theorem dL_windowKeyAt_0 : decode cL_windowKeyAt 0 = .ok (.aload_n 3, 1) := by decide +kernel
theorem dL_windowKeyAt_1 : decode cL_windowKeyAt 1 = .ok (.iconst 0, 1) := by decide +kernel
theorem dL_windowKeyAt_2 : decode cL_windowKeyAt 2 = .ok (.aload_n 0, 1) := by decide +kernel
theorem dL_windowKeyAt_3 : decode cL_windowKeyAt 3 = .ok (.iload_n 1, 1) := by decide +kernel
theorem dL_windowKeyAt_4 : decode cL_windowKeyAt 4 = .ok (.iload_n 2, 1) := by decide +kernel
theorem dL_windowKeyAt_5 : decode cL_windowKeyAt 5 = .ok (.invokevirtual 132, 3) := by decide +kernel
theorem dL_windowKeyAt_8 : decode cL_windowKeyAt 8 = .ok (.i2l, 1) := by decide +kernel
theorem dL_windowKeyAt_9 : decode cL_windowKeyAt 9 = .ok (.lastore, 1) := by decide +kernel
theorem dL_windowKeyAt_10 : decode cL_windowKeyAt 10 = .ok (.goto 11, 3) := by decide +kernel
theorem dL_windowKeyAt_13 : decode cL_windowKeyAt 13 = .ok (.astore 4, 2) := by decide +kernel
theorem dL_windowKeyAt_15 : decode cL_windowKeyAt 15 = .ok (.iconst 1, 1) := by decide +kernel
theorem dL_windowKeyAt_16 : decode cL_windowKeyAt 16 = .ok (.ireturn, 1) := by decide +kernel
theorem dL_windowKeyAt_17 : decode cL_windowKeyAt 17 = .ok (.astore 4, 2) := by decide +kernel
theorem dL_windowKeyAt_19 : decode cL_windowKeyAt 19 = .ok (.iconst 2, 1) := by decide +kernel
theorem dL_windowKeyAt_20 : decode cL_windowKeyAt 20 = .ok (.ireturn, 1) := by decide +kernel
theorem dL_windowKeyAt_21 : decode cL_windowKeyAt 21 = .ok (.iconst 0, 1) := by decide +kernel
theorem dL_windowKeyAt_22 : decode cL_windowKeyAt 22 = .ok (.ireturn, 1) := by decide +kernel
theorem dL_canInsert_0 : decode cL_canInsert 0 = .ok (.aload_n 3, 1) := by decide +kernel
theorem dL_canInsert_1 : decode cL_canInsert 1 = .ok (.iconst 0, 1) := by decide +kernel
theorem dL_canInsert_2 : decode cL_canInsert 2 = .ok (.aload_n 0, 1) := by decide +kernel
theorem dL_canInsert_3 : decode cL_canInsert 3 = .ok (.iload_n 1, 1) := by decide +kernel
theorem dL_canInsert_4 : decode cL_canInsert 4 = .ok (.iload_n 2, 1) := by decide +kernel
theorem dL_canInsert_5 : decode cL_canInsert 5 = .ok (.invokevirtual 135, 3) := by decide +kernel
theorem dL_canInsert_8 : decode cL_canInsert 8 = .ok (.ifCond .eq 7, 3) := by decide +kernel
theorem dL_canInsert_11 : decode cL_canInsert 11 = .ok (.lconst 1, 1) := by decide +kernel
theorem dL_canInsert_12 : decode cL_canInsert 12 = .ok (.goto 4, 3) := by decide +kernel
theorem dL_canInsert_15 : decode cL_canInsert 15 = .ok (.lconst 0, 1) := by decide +kernel
theorem dL_canInsert_16 : decode cL_canInsert 16 = .ok (.lastore, 1) := by decide +kernel
theorem dL_canInsert_17 : decode cL_canInsert 17 = .ok (.goto 7, 3) := by decide +kernel
theorem dL_canInsert_20 : decode cL_canInsert 20 = .ok (.astore 4, 2) := by decide +kernel
theorem dL_canInsert_22 : decode cL_canInsert 22 = .ok (.iconst 1, 1) := by decide +kernel
theorem dL_canInsert_23 : decode cL_canInsert 23 = .ok (.ireturn, 1) := by decide +kernel
theorem dL_canInsert_24 : decode cL_canInsert 24 = .ok (.iconst 0, 1) := by decide +kernel
theorem dL_canInsert_25 : decode cL_canInsert 25 = .ok (.ireturn, 1) := by decide +kernel
theorem dL_meanDepth_0 : decode cL_meanDepth 0 = .ok (.aload_n 1, 1) := by decide +kernel
theorem dL_meanDepth_1 : decode cL_meanDepth 1 = .ok (.iconst 0, 1) := by decide +kernel
theorem dL_meanDepth_2 : decode cL_meanDepth 2 = .ok (.aload_n 0, 1) := by decide +kernel
theorem dL_meanDepth_3 : decode cL_meanDepth 3 = .ok (.invokevirtual 139, 3) := by decide +kernel
theorem dL_meanDepth_6 : decode cL_meanDepth 6 = .ok (.dastore, 1) := by decide +kernel
theorem dL_meanDepth_7 : decode cL_meanDepth 7 = .ok (.goto 6, 3) := by decide +kernel
theorem dL_meanDepth_10 : decode cL_meanDepth 10 = .ok (.astore_n 2, 1) := by decide +kernel
theorem dL_meanDepth_11 : decode cL_meanDepth 11 = .ok (.iconst 1, 1) := by decide +kernel
theorem dL_meanDepth_12 : decode cL_meanDepth 12 = .ok (.ireturn, 1) := by decide +kernel
theorem dL_meanDepth_13 : decode cL_meanDepth 13 = .ok (.iconst 0, 1) := by decide +kernel
theorem dL_meanDepth_14 : decode cL_meanDepth 14 = .ok (.ireturn, 1) := by decide +kernel
theorem dL_leafShare_0 : decode cL_leafShare 0 = .ok (.aload_n 1, 1) := by decide +kernel
theorem dL_leafShare_1 : decode cL_leafShare 1 = .ok (.iconst 0, 1) := by decide +kernel
theorem dL_leafShare_2 : decode cL_leafShare 2 = .ok (.aload_n 0, 1) := by decide +kernel
theorem dL_leafShare_3 : decode cL_leafShare 3 = .ok (.invokevirtual 145, 3) := by decide +kernel
theorem dL_leafShare_6 : decode cL_leafShare 6 = .ok (.f2d, 1) := by decide +kernel
theorem dL_leafShare_7 : decode cL_leafShare 7 = .ok (.dastore, 1) := by decide +kernel
theorem dL_leafShare_8 : decode cL_leafShare 8 = .ok (.goto 6, 3) := by decide +kernel
theorem dL_leafShare_11 : decode cL_leafShare 11 = .ok (.astore_n 2, 1) := by decide +kernel
theorem dL_leafShare_12 : decode cL_leafShare 12 = .ok (.iconst 1, 1) := by decide +kernel
theorem dL_leafShare_13 : decode cL_leafShare 13 = .ok (.ireturn, 1) := by decide +kernel
theorem dL_leafShare_14 : decode cL_leafShare 14 = .ok (.iconst 0, 1) := by decide +kernel
theorem dL_leafShare_15 : decode cL_leafShare 15 = .ok (.ireturn, 1) := by decide +kernel
theorem dL_writeWindow_0 : decode cL_writeWindow 0 = .ok (.aload_n 2, 1) := by decide +kernel
theorem dL_writeWindow_1 : decode cL_writeWindow 1 = .ok (.iconst 0, 1) := by decide +kernel
theorem dL_writeWindow_2 : decode cL_writeWindow 2 = .ok (.aload_n 0, 1) := by decide +kernel
theorem dL_writeWindow_3 : decode cL_writeWindow 3 = .ok (.iload_n 1, 1) := by decide +kernel
theorem dL_writeWindow_4 : decode cL_writeWindow 4 = .ok (.invokevirtual 149, 3) := by decide +kernel
theorem dL_writeWindow_7 : decode cL_writeWindow 7 = .ok (.i2l, 1) := by decide +kernel
theorem dL_writeWindow_8 : decode cL_writeWindow 8 = .ok (.lastore, 1) := by decide +kernel
theorem dL_writeWindow_9 : decode cL_writeWindow 9 = .ok (.goto 9, 3) := by decide +kernel
theorem dL_writeWindow_12 : decode cL_writeWindow 12 = .ok (.astore_n 3, 1) := by decide +kernel
theorem dL_writeWindow_13 : decode cL_writeWindow 13 = .ok (.iconst 1, 1) := by decide +kernel
theorem dL_writeWindow_14 : decode cL_writeWindow 14 = .ok (.ireturn, 1) := by decide +kernel
theorem dL_writeWindow_15 : decode cL_writeWindow 15 = .ok (.astore_n 3, 1) := by decide +kernel
theorem dL_writeWindow_16 : decode cL_writeWindow 16 = .ok (.iconst 2, 1) := by decide +kernel
theorem dL_writeWindow_17 : decode cL_writeWindow 17 = .ok (.ireturn, 1) := by decide +kernel
theorem dL_writeWindow_18 : decode cL_writeWindow 18 = .ok (.iconst 0, 1) := by decide +kernel
theorem dL_writeWindow_19 : decode cL_writeWindow 19 = .ok (.ireturn, 1) := by decide +kernel
theorem dL_outputAt_0 : decode cL_outputAt 0 = .ok (.aload_n 2, 1) := by decide +kernel
theorem dL_outputAt_1 : decode cL_outputAt 1 = .ok (.iconst 0, 1) := by decide +kernel
theorem dL_outputAt_2 : decode cL_outputAt 2 = .ok (.aload_n 0, 1) := by decide +kernel
theorem dL_outputAt_3 : decode cL_outputAt 3 = .ok (.iload_n 1, 1) := by decide +kernel
theorem dL_outputAt_4 : decode cL_outputAt 4 = .ok (.invokevirtual 152, 3) := by decide +kernel
theorem dL_outputAt_7 : decode cL_outputAt 7 = .ok (.i2l, 1) := by decide +kernel
theorem dL_outputAt_8 : decode cL_outputAt 8 = .ok (.lastore, 1) := by decide +kernel
theorem dL_outputAt_9 : decode cL_outputAt 9 = .ok (.goto 6, 3) := by decide +kernel
theorem dL_outputAt_12 : decode cL_outputAt 12 = .ok (.astore_n 3, 1) := by decide +kernel
theorem dL_outputAt_13 : decode cL_outputAt 13 = .ok (.iconst 1, 1) := by decide +kernel
theorem dL_outputAt_14 : decode cL_outputAt 14 = .ok (.ireturn, 1) := by decide +kernel
theorem dL_outputAt_15 : decode cL_outputAt 15 = .ok (.iconst 0, 1) := by decide +kernel
theorem dL_outputAt_16 : decode cL_outputAt 16 = .ok (.ireturn, 1) := by decide +kernel
theorem dL_appendInput_0 : decode cL_appendInput 0 = .ok (.aload_n 2, 1) := by decide +kernel
theorem dL_appendInput_1 : decode cL_appendInput 1 = .ok (.iconst 0, 1) := by decide +kernel
theorem dL_appendInput_2 : decode cL_appendInput 2 = .ok (.aload_n 0, 1) := by decide +kernel
theorem dL_appendInput_3 : decode cL_appendInput 3 = .ok (.iload_n 1, 1) := by decide +kernel
theorem dL_appendInput_4 : decode cL_appendInput 4 = .ok (.invokevirtual 156, 3) := by decide +kernel
theorem dL_appendInput_7 : decode cL_appendInput 7 = .ok (.i2l, 1) := by decide +kernel
theorem dL_appendInput_8 : decode cL_appendInput 8 = .ok (.lastore, 1) := by decide +kernel
theorem dL_appendInput_9 : decode cL_appendInput 9 = .ok (.goto 9, 3) := by decide +kernel
theorem dL_appendInput_12 : decode cL_appendInput 12 = .ok (.astore_n 3, 1) := by decide +kernel
theorem dL_appendInput_13 : decode cL_appendInput 13 = .ok (.iconst 1, 1) := by decide +kernel
theorem dL_appendInput_14 : decode cL_appendInput 14 = .ok (.ireturn, 1) := by decide +kernel
theorem dL_appendInput_15 : decode cL_appendInput 15 = .ok (.astore_n 3, 1) := by decide +kernel
theorem dL_appendInput_16 : decode cL_appendInput 16 = .ok (.iconst 2, 1) := by decide +kernel
theorem dL_appendInput_17 : decode cL_appendInput 17 = .ok (.ireturn, 1) := by decide +kernel
theorem dL_appendInput_18 : decode cL_appendInput 18 = .ok (.iconst 0, 1) := by decide +kernel
theorem dL_appendInput_19 : decode cL_appendInput 19 = .ok (.ireturn, 1) := by decide +kernel
theorem dL_execute_0 : decode cL_execute 0 = .ok (.aload_n 1, 1) := by decide +kernel
theorem dL_execute_1 : decode cL_execute 1 = .ok (.iconst 0, 1) := by decide +kernel
theorem dL_execute_2 : decode cL_execute 2 = .ok (.aload_n 0, 1) := by decide +kernel
theorem dL_execute_3 : decode cL_execute 3 = .ok (.invokevirtual 162, 3) := by decide +kernel
theorem dL_execute_6 : decode cL_execute 6 = .ok (.i2l, 1) := by decide +kernel
theorem dL_execute_7 : decode cL_execute 7 = .ok (.lastore, 1) := by decide +kernel
theorem dL_execute_8 : decode cL_execute 8 = .ok (.goto 12, 3) := by decide +kernel
theorem dL_execute_11 : decode cL_execute 11 = .ok (.astore_n 2, 1) := by decide +kernel
theorem dL_execute_12 : decode cL_execute 12 = .ok (.iconst 1, 1) := by decide +kernel
theorem dL_execute_13 : decode cL_execute 13 = .ok (.ireturn, 1) := by decide +kernel
theorem dL_execute_14 : decode cL_execute 14 = .ok (.astore_n 2, 1) := by decide +kernel
theorem dL_execute_15 : decode cL_execute 15 = .ok (.iconst 2, 1) := by decide +kernel
theorem dL_execute_16 : decode cL_execute 16 = .ok (.ireturn, 1) := by decide +kernel
theorem dL_execute_17 : decode cL_execute 17 = .ok (.astore_n 2, 1) := by decide +kernel
theorem dL_execute_18 : decode cL_execute 18 = .ok (.iconst 3, 1) := by decide +kernel
theorem dL_execute_19 : decode cL_execute 19 = .ok (.ireturn, 1) := by decide +kernel
theorem dL_execute_20 : decode cL_execute 20 = .ok (.iconst 0, 1) := by decide +kernel
theorem dL_execute_21 : decode cL_execute 21 = .ok (.ireturn, 1) := by decide +kernel
theorem dL_syntaxErrorOffset_0 : decode cL_syntaxErrorOffset 0 = .ok (.aload_n 1, 1) := by decide +kernel
theorem dL_syntaxErrorOffset_1 : decode cL_syntaxErrorOffset 1 = .ok (.iconst 0, 1) := by decide +kernel
theorem dL_syntaxErrorOffset_2 : decode cL_syntaxErrorOffset 2 = .ok (.aload_n 0, 1) := by decide +kernel
theorem dL_syntaxErrorOffset_3 : decode cL_syntaxErrorOffset 3 = .ok (.invokevirtual 165, 3) := by decide +kernel
theorem dL_syntaxErrorOffset_6 : decode cL_syntaxErrorOffset 6 = .ok (.i2l, 1) := by decide +kernel
theorem dL_syntaxErrorOffset_7 : decode cL_syntaxErrorOffset 7 = .ok (.lastore, 1) := by decide +kernel
theorem dL_syntaxErrorOffset_8 : decode cL_syntaxErrorOffset 8 = .ok (.goto 6, 3) := by decide +kernel
theorem dL_syntaxErrorOffset_11 : decode cL_syntaxErrorOffset 11 = .ok (.astore_n 2, 1) := by decide +kernel
theorem dL_syntaxErrorOffset_12 : decode cL_syntaxErrorOffset 12 = .ok (.iconst 1, 1) := by decide +kernel
theorem dL_syntaxErrorOffset_13 : decode cL_syntaxErrorOffset 13 = .ok (.ireturn, 1) := by decide +kernel
theorem dL_syntaxErrorOffset_14 : decode cL_syntaxErrorOffset 14 = .ok (.iconst 0, 1) := by decide +kernel
theorem dL_syntaxErrorOffset_15 : decode cL_syntaxErrorOffset 15 = .ok (.ireturn, 1) := by decide +kernel
theorem dL_rejectionReason_0 : decode cL_rejectionReason 0 = .ok (.aload_n 1, 1) := by decide +kernel
theorem dL_rejectionReason_1 : decode cL_rejectionReason 1 = .ok (.iconst 0, 1) := by decide +kernel
theorem dL_rejectionReason_2 : decode cL_rejectionReason 2 = .ok (.aload_n 0, 1) := by decide +kernel
theorem dL_rejectionReason_3 : decode cL_rejectionReason 3 = .ok (.invokevirtual 168, 3) := by decide +kernel
theorem dL_rejectionReason_6 : decode cL_rejectionReason 6 = .ok (.i2l, 1) := by decide +kernel
theorem dL_rejectionReason_7 : decode cL_rejectionReason 7 = .ok (.lastore, 1) := by decide +kernel
theorem dL_rejectionReason_8 : decode cL_rejectionReason 8 = .ok (.goto 6, 3) := by decide +kernel
theorem dL_rejectionReason_11 : decode cL_rejectionReason 11 = .ok (.astore_n 2, 1) := by decide +kernel
theorem dL_rejectionReason_12 : decode cL_rejectionReason 12 = .ok (.iconst 1, 1) := by decide +kernel
theorem dL_rejectionReason_13 : decode cL_rejectionReason 13 = .ok (.ireturn, 1) := by decide +kernel
theorem dL_rejectionReason_14 : decode cL_rejectionReason 14 = .ok (.iconst 0, 1) := by decide +kernel
theorem dL_rejectionReason_15 : decode cL_rejectionReason 15 = .ok (.ireturn, 1) := by decide +kernel
theorem dL_rejectionDetail_0 : decode cL_rejectionDetail 0 = .ok (.aload_n 1, 1) := by decide +kernel
theorem dL_rejectionDetail_1 : decode cL_rejectionDetail 1 = .ok (.iconst 0, 1) := by decide +kernel
theorem dL_rejectionDetail_2 : decode cL_rejectionDetail 2 = .ok (.aload_n 0, 1) := by decide +kernel
theorem dL_rejectionDetail_3 : decode cL_rejectionDetail 3 = .ok (.invokevirtual 171, 3) := by decide +kernel
theorem dL_rejectionDetail_6 : decode cL_rejectionDetail 6 = .ok (.i2l, 1) := by decide +kernel
theorem dL_rejectionDetail_7 : decode cL_rejectionDetail 7 = .ok (.lastore, 1) := by decide +kernel
theorem dL_rejectionDetail_8 : decode cL_rejectionDetail 8 = .ok (.goto 6, 3) := by decide +kernel
theorem dL_rejectionDetail_11 : decode cL_rejectionDetail 11 = .ok (.astore_n 2, 1) := by decide +kernel
theorem dL_rejectionDetail_12 : decode cL_rejectionDetail 12 = .ok (.iconst 1, 1) := by decide +kernel
theorem dL_rejectionDetail_13 : decode cL_rejectionDetail 13 = .ok (.ireturn, 1) := by decide +kernel
theorem dL_rejectionDetail_14 : decode cL_rejectionDetail 14 = .ok (.iconst 0, 1) := by decide +kernel
theorem dL_rejectionDetail_15 : decode cL_rejectionDetail 15 = .ok (.ireturn, 1) := by decide +kernel
theorem dL_causeReason_0 : decode cL_causeReason 0 = .ok (.aload_n 1, 1) := by decide +kernel
theorem dL_causeReason_1 : decode cL_causeReason 1 = .ok (.iconst 0, 1) := by decide +kernel
theorem dL_causeReason_2 : decode cL_causeReason 2 = .ok (.aload_n 0, 1) := by decide +kernel
theorem dL_causeReason_3 : decode cL_causeReason 3 = .ok (.invokevirtual 174, 3) := by decide +kernel
theorem dL_causeReason_6 : decode cL_causeReason 6 = .ok (.i2l, 1) := by decide +kernel
theorem dL_causeReason_7 : decode cL_causeReason 7 = .ok (.lastore, 1) := by decide +kernel
theorem dL_causeReason_8 : decode cL_causeReason 8 = .ok (.goto 6, 3) := by decide +kernel
theorem dL_causeReason_11 : decode cL_causeReason 11 = .ok (.astore_n 2, 1) := by decide +kernel
theorem dL_causeReason_12 : decode cL_causeReason 12 = .ok (.iconst 1, 1) := by decide +kernel
theorem dL_causeReason_13 : decode cL_causeReason 13 = .ok (.ireturn, 1) := by decide +kernel
theorem dL_causeReason_14 : decode cL_causeReason 14 = .ok (.iconst 0, 1) := by decide +kernel
theorem dL_causeReason_15 : decode cL_causeReason 15 = .ok (.ireturn, 1) := by decide +kernel
theorem dL_undo_0 : decode cL_undo 0 = .ok (.aload_n 1, 1) := by decide +kernel
theorem dL_undo_1 : decode cL_undo 1 = .ok (.iconst 0, 1) := by decide +kernel
theorem dL_undo_2 : decode cL_undo 2 = .ok (.aload_n 0, 1) := by decide +kernel
theorem dL_undo_3 : decode cL_undo 3 = .ok (.invokevirtual 177, 3) := by decide +kernel
theorem dL_undo_6 : decode cL_undo 6 = .ok (.i2l, 1) := by decide +kernel
theorem dL_undo_7 : decode cL_undo 7 = .ok (.lastore, 1) := by decide +kernel
theorem dL_undo_8 : decode cL_undo 8 = .ok (.goto 6, 3) := by decide +kernel
theorem dL_undo_11 : decode cL_undo 11 = .ok (.astore_n 2, 1) := by decide +kernel
theorem dL_undo_12 : decode cL_undo 12 = .ok (.iconst 1, 1) := by decide +kernel
theorem dL_undo_13 : decode cL_undo 13 = .ok (.ireturn, 1) := by decide +kernel
theorem dL_undo_14 : decode cL_undo 14 = .ok (.iconst 0, 1) := by decide +kernel
theorem dL_undo_15 : decode cL_undo 15 = .ok (.ireturn, 1) := by decide +kernel
theorem dL_restoreSnapshot_0 : decode cL_restoreSnapshot 0 = .ok (.aload_n 1, 1) := by decide +kernel
theorem dL_restoreSnapshot_1 : decode cL_restoreSnapshot 1 = .ok (.iconst 0, 1) := by decide +kernel
theorem dL_restoreSnapshot_2 : decode cL_restoreSnapshot 2 = .ok (.aload_n 0, 1) := by decide +kernel
theorem dL_restoreSnapshot_3 : decode cL_restoreSnapshot 3 = .ok (.invokevirtual 180, 3) := by decide +kernel
theorem dL_restoreSnapshot_6 : decode cL_restoreSnapshot 6 = .ok (.i2l, 1) := by decide +kernel
theorem dL_restoreSnapshot_7 : decode cL_restoreSnapshot 7 = .ok (.lastore, 1) := by decide +kernel
theorem dL_restoreSnapshot_8 : decode cL_restoreSnapshot 8 = .ok (.goto 6, 3) := by decide +kernel
theorem dL_restoreSnapshot_11 : decode cL_restoreSnapshot 11 = .ok (.astore_n 2, 1) := by decide +kernel
theorem dL_restoreSnapshot_12 : decode cL_restoreSnapshot 12 = .ok (.iconst 1, 1) := by decide +kernel
theorem dL_restoreSnapshot_13 : decode cL_restoreSnapshot 13 = .ok (.ireturn, 1) := by decide +kernel
theorem dL_restoreSnapshot_14 : decode cL_restoreSnapshot 14 = .ok (.iconst 0, 1) := by decide +kernel
theorem dL_restoreSnapshot_15 : decode cL_restoreSnapshot 15 = .ok (.ireturn, 1) := by decide +kernel
theorem pq_in01 : vp_in 0 1 := by unfold vp_in; decide
theorem vc_L_13 : Cond.classLink RL 13 "java/lang/IllegalArgumentException" ∈ pq_G := pq_in 458 (by decide +kernel) (by decide +kernel)
theorem vc_L_15 : Cond.classLink RL 15 "java/lang/UnsupportedOperationException" ∈ pq_G := pq_in 459 (by decide +kernel) (by decide +kernel)
theorem vh_L_187 : pq_Hw RL 187 yL_insert cL_insert 5 [(0, 10, 13, 13), (0, 10, 17, 15)] 4 := ⟨⟨pq_in 455 (by decide +kernel) (by decide +kernel), pq_in 456 (by decide +kernel) (by decide +kernel), pq_in 75 (by decide +kernel) (by decide +kernel), pq_in 457 (by decide +kernel) (by decide +kernel)⟩, by decide +kernel, by decide +kernel, by decide +kernel⟩
theorem vc_L_21 : Cond.classLink RL 21 "java/util/NoSuchElementException" ∈ pq_G := pq_in 627 (by decide +kernel) (by decide +kernel)
theorem vh_L_196 : pq_Hw RL 196 yL_delete cL_delete 4 [(0, 9, 12, 21)] 3 := ⟨⟨pq_in 624 (by decide +kernel) (by decide +kernel), pq_in 625 (by decide +kernel) (by decide +kernel), pq_in 75 (by decide +kernel) (by decide +kernel), pq_in 626 (by decide +kernel) (by decide +kernel)⟩, by decide +kernel, by decide +kernel, by decide +kernel⟩
theorem vh_L_200 : pq_Hw RL 200 yL_changePriority cL_changePriority 5 [(0, 10, 13, 21), (0, 10, 17, 13), (0, 10, 21, 15)] 4 := ⟨⟨pq_in 668 (by decide +kernel) (by decide +kernel), pq_in 669 (by decide +kernel) (by decide +kernel), pq_in 75 (by decide +kernel) (by decide +kernel), pq_in 670 (by decide +kernel) (by decide +kernel)⟩, by decide +kernel, by decide +kernel, by decide +kernel⟩
theorem vh_L_203 : pq_Hw RL 203 yL_moveKey cL_moveKey 5 [(0, 10, 13, 21), (0, 10, 17, 13), (0, 10, 21, 15)] 4 := ⟨⟨pq_in 688 (by decide +kernel) (by decide +kernel), pq_in 689 (by decide +kernel) (by decide +kernel), pq_in 75 (by decide +kernel) (by decide +kernel), pq_in 690 (by decide +kernel) (by decide +kernel)⟩, by decide +kernel, by decide +kernel, by decide +kernel⟩
theorem vh_L_206 : pq_Hw RL 206 yL_deleteRange cL_deleteRange 5 [(0, 10, 13, 13)] 4 := ⟨⟨pq_in 704 (by decide +kernel) (by decide +kernel), pq_in 705 (by decide +kernel) (by decide +kernel), pq_in 75 (by decide +kernel) (by decide +kernel), pq_in 706 (by decide +kernel) (by decide +kernel)⟩, by decide +kernel, by decide +kernel, by decide +kernel⟩
theorem vh_L_217 : pq_Hw RL 217 yL_priorityOf cL_priorityOf 4 [(0, 9, 12, 21)] 3 := ⟨⟨pq_in 721 (by decide +kernel) (by decide +kernel), pq_in 722 (by decide +kernel) (by decide +kernel), pq_in 75 (by decide +kernel) (by decide +kernel), pq_in 723 (by decide +kernel) (by decide +kernel)⟩, by decide +kernel, by decide +kernel, by decide +kernel⟩
theorem vh_L_220 : pq_Hw RL 220 yL_lowestKey cL_lowestKey 3 [(0, 8, 11, 21)] 2 := ⟨⟨pq_in 728 (by decide +kernel) (by decide +kernel), pq_in 729 (by decide +kernel) (by decide +kernel), pq_in 75 (by decide +kernel) (by decide +kernel), pq_in 730 (by decide +kernel) (by decide +kernel)⟩, by decide +kernel, by decide +kernel, by decide +kernel⟩
theorem vh_L_224 : pq_Hw RL 224 yL_greatestKey cL_greatestKey 3 [(0, 8, 11, 21)] 2 := ⟨⟨pq_in 744 (by decide +kernel) (by decide +kernel), pq_in 745 (by decide +kernel) (by decide +kernel), pq_in 75 (by decide +kernel) (by decide +kernel), pq_in 746 (by decide +kernel) (by decide +kernel)⟩, by decide +kernel, by decide +kernel, by decide +kernel⟩
theorem vh_L_227 : pq_Hw RL 227 yL_floorKey cL_floorKey 4 [(0, 9, 12, 21)] 3 := ⟨⟨pq_in 751 (by decide +kernel) (by decide +kernel), pq_in 752 (by decide +kernel) (by decide +kernel), pq_in 75 (by decide +kernel) (by decide +kernel), pq_in 753 (by decide +kernel) (by decide +kernel)⟩, by decide +kernel, by decide +kernel, by decide +kernel⟩
theorem vh_L_230 : pq_Hw RL 230 yL_ceilingKey cL_ceilingKey 4 [(0, 9, 12, 21)] 3 := ⟨⟨pq_in 762 (by decide +kernel) (by decide +kernel), pq_in 763 (by decide +kernel) (by decide +kernel), pq_in 75 (by decide +kernel) (by decide +kernel), pq_in 764 (by decide +kernel) (by decide +kernel)⟩, by decide +kernel, by decide +kernel, by decide +kernel⟩
theorem vh_L_233 : pq_Hw RL 233 yL_nearestKey cL_nearestKey 4 [(0, 9, 12, 13), (0, 9, 15, 21)] 3 := ⟨⟨pq_in 773 (by decide +kernel) (by decide +kernel), pq_in 774 (by decide +kernel) (by decide +kernel), pq_in 75 (by decide +kernel) (by decide +kernel), pq_in 775 (by decide +kernel) (by decide +kernel)⟩, by decide +kernel, by decide +kernel, by decide +kernel⟩
theorem vh_L_240 : pq_Hw RL 240 yL_keyAt cL_keyAt 4 [(0, 9, 12, 21)] 3 := ⟨⟨pq_in 780 (by decide +kernel) (by decide +kernel), pq_in 781 (by decide +kernel) (by decide +kernel), pq_in 75 (by decide +kernel) (by decide +kernel), pq_in 782 (by decide +kernel) (by decide +kernel)⟩, by decide +kernel, by decide +kernel, by decide +kernel⟩
theorem vh_L_243 : pq_Hw RL 243 yL_keyByPriority cL_keyByPriority 4 [(0, 9, 12, 21)] 3 := ⟨⟨pq_in 787 (by decide +kernel) (by decide +kernel), pq_in 788 (by decide +kernel) (by decide +kernel), pq_in 75 (by decide +kernel) (by decide +kernel), pq_in 789 (by decide +kernel) (by decide +kernel)⟩, by decide +kernel, by decide +kernel, by decide +kernel⟩
theorem vh_L_246 : pq_Hw RL 246 yL_root cL_root 3 [(0, 8, 11, 21)] 2 := ⟨⟨pq_in 802 (by decide +kernel) (by decide +kernel), pq_in 803 (by decide +kernel) (by decide +kernel), pq_in 75 (by decide +kernel) (by decide +kernel), pq_in 804 (by decide +kernel) (by decide +kernel)⟩, by decide +kernel, by decide +kernel, by decide +kernel⟩
theorem vh_L_249 : pq_Hw RL 249 yL_hasLeft cL_hasLeft 4 [(0, 16, 19, 21)] 3 := ⟨⟨pq_in 809 (by decide +kernel) (by decide +kernel), pq_in 810 (by decide +kernel) (by decide +kernel), pq_in 75 (by decide +kernel) (by decide +kernel), pq_in 811 (by decide +kernel) (by decide +kernel)⟩, by decide +kernel, by decide +kernel, by decide +kernel⟩
theorem vh_L_252 : pq_Hw RL 252 yL_hasRight cL_hasRight 4 [(0, 16, 19, 21)] 3 := ⟨⟨pq_in 816 (by decide +kernel) (by decide +kernel), pq_in 817 (by decide +kernel) (by decide +kernel), pq_in 75 (by decide +kernel) (by decide +kernel), pq_in 818 (by decide +kernel) (by decide +kernel)⟩, by decide +kernel, by decide +kernel, by decide +kernel⟩
theorem vh_L_255 : pq_Hw RL 255 yL_leftOf cL_leftOf 4 [(0, 9, 12, 21)] 3 := ⟨⟨pq_in 823 (by decide +kernel) (by decide +kernel), pq_in 824 (by decide +kernel) (by decide +kernel), pq_in 75 (by decide +kernel) (by decide +kernel), pq_in 825 (by decide +kernel) (by decide +kernel)⟩, by decide +kernel, by decide +kernel, by decide +kernel⟩
theorem vh_L_258 : pq_Hw RL 258 yL_rightOf cL_rightOf 4 [(0, 9, 12, 21)] 3 := ⟨⟨pq_in 830 (by decide +kernel) (by decide +kernel), pq_in 831 (by decide +kernel) (by decide +kernel), pq_in 75 (by decide +kernel) (by decide +kernel), pq_in 832 (by decide +kernel) (by decide +kernel)⟩, by decide +kernel, by decide +kernel, by decide +kernel⟩
theorem vh_L_261 : pq_Hw RL 261 yL_parentOf cL_parentOf 4 [(0, 9, 12, 21)] 3 := ⟨⟨pq_in 837 (by decide +kernel) (by decide +kernel), pq_in 838 (by decide +kernel) (by decide +kernel), pq_in 75 (by decide +kernel) (by decide +kernel), pq_in 839 (by decide +kernel) (by decide +kernel)⟩, by decide +kernel, by decide +kernel, by decide +kernel⟩
theorem vh_L_264 : pq_Hw RL 264 yL_depthOf cL_depthOf 4 [(0, 9, 12, 21)] 3 := ⟨⟨pq_in 848 (by decide +kernel) (by decide +kernel), pq_in 849 (by decide +kernel) (by decide +kernel), pq_in 75 (by decide +kernel) (by decide +kernel), pq_in 850 (by decide +kernel) (by decide +kernel)⟩, by decide +kernel, by decide +kernel, by decide +kernel⟩
theorem vh_L_267 : pq_Hw RL 267 yL_subtreeSize cL_subtreeSize 4 [(0, 9, 12, 21)] 3 := ⟨⟨pq_in 856 (by decide +kernel) (by decide +kernel), pq_in 857 (by decide +kernel) (by decide +kernel), pq_in 75 (by decide +kernel) (by decide +kernel), pq_in 858 (by decide +kernel) (by decide +kernel)⟩, by decide +kernel, by decide +kernel, by decide +kernel⟩
theorem vh_L_270 : pq_Hw RL 270 yL_imbalanceOf cL_imbalanceOf 4 [(0, 9, 12, 21)] 3 := ⟨⟨pq_in 864 (by decide +kernel) (by decide +kernel), pq_in 865 (by decide +kernel) (by decide +kernel), pq_in 75 (by decide +kernel) (by decide +kernel), pq_in 866 (by decide +kernel) (by decide +kernel)⟩, by decide +kernel, by decide +kernel, by decide +kernel⟩
theorem vh_L_281 : pq_Hw RL 281 yL_commonAncestor cL_commonAncestor 5 [(0, 10, 13, 21)] 4 := ⟨⟨pq_in 871 (by decide +kernel) (by decide +kernel), pq_in 872 (by decide +kernel) (by decide +kernel), pq_in 75 (by decide +kernel) (by decide +kernel), pq_in 873 (by decide +kernel) (by decide +kernel)⟩, by decide +kernel, by decide +kernel, by decide +kernel⟩
theorem vh_L_284 : pq_Hw RL 284 yL_distance cL_distance 5 [(0, 10, 13, 21)] 4 := ⟨⟨pq_in 883 (by decide +kernel) (by decide +kernel), pq_in 884 (by decide +kernel) (by decide +kernel), pq_in 75 (by decide +kernel) (by decide +kernel), pq_in 885 (by decide +kernel) (by decide +kernel)⟩, by decide +kernel, by decide +kernel, by decide +kernel⟩
theorem vh_L_287 : pq_Hw RL 287 yL_countInRange cL_countInRange 5 [(0, 10, 13, 13)] 4 := ⟨⟨pq_in 890 (by decide +kernel) (by decide +kernel), pq_in 891 (by decide +kernel) (by decide +kernel), pq_in 75 (by decide +kernel) (by decide +kernel), pq_in 892 (by decide +kernel) (by decide +kernel)⟩, by decide +kernel, by decide +kernel, by decide +kernel⟩
theorem vh_L_290 : pq_Hw RL 290 yL_countInRangeByScan cL_countInRangeByScan 5 [(0, 10, 13, 13)] 4 := ⟨⟨pq_in 898 (by decide +kernel) (by decide +kernel), pq_in 899 (by decide +kernel) (by decide +kernel), pq_in 75 (by decide +kernel) (by decide +kernel), pq_in 900 (by decide +kernel) (by decide +kernel)⟩, by decide +kernel, by decide +kernel, by decide +kernel⟩
theorem vh_L_293 : pq_Hw RL 293 yL_topInRange cL_topInRange 5 [(0, 10, 13, 13), (0, 10, 17, 21)] 4 := ⟨⟨pq_in 906 (by decide +kernel) (by decide +kernel), pq_in 907 (by decide +kernel) (by decide +kernel), pq_in 75 (by decide +kernel) (by decide +kernel), pq_in 908 (by decide +kernel) (by decide +kernel)⟩, by decide +kernel, by decide +kernel, by decide +kernel⟩
theorem vh_L_296 : pq_Hw RL 296 yL_topInRangeByScan cL_topInRangeByScan 5 [(0, 10, 13, 13), (0, 10, 17, 21)] 4 := ⟨⟨pq_in 913 (by decide +kernel) (by decide +kernel), pq_in 914 (by decide +kernel) (by decide +kernel), pq_in 75 (by decide +kernel) (by decide +kernel), pq_in 915 (by decide +kernel) (by decide +kernel)⟩, by decide +kernel, by decide +kernel, by decide +kernel⟩
theorem vh_L_299 : pq_Hw RL 299 yL_countAbove cL_countAbove 6 [(0, 12, 15, 13)] 5 := ⟨⟨pq_in 921 (by decide +kernel) (by decide +kernel), pq_in 922 (by decide +kernel) (by decide +kernel), pq_in 75 (by decide +kernel) (by decide +kernel), pq_in 923 (by decide +kernel) (by decide +kernel)⟩, by decide +kernel, by decide +kernel, by decide +kernel⟩
theorem vh_L_303 : pq_Hw RL 303 yL_countAboveByScan cL_countAboveByScan 6 [(0, 12, 15, 13)] 5 := ⟨⟨pq_in 936 (by decide +kernel) (by decide +kernel), pq_in 937 (by decide +kernel) (by decide +kernel), pq_in 75 (by decide +kernel) (by decide +kernel), pq_in 938 (by decide +kernel) (by decide +kernel)⟩, by decide +kernel, by decide +kernel, by decide +kernel⟩
theorem vh_L_306 : pq_Hw RL 306 yL_sumInRange cL_sumInRange 5 [(0, 9, 12, 13)] 4 := ⟨⟨pq_in 943 (by decide +kernel) (by decide +kernel), pq_in 944 (by decide +kernel) (by decide +kernel), pq_in 75 (by decide +kernel) (by decide +kernel), pq_in 945 (by decide +kernel) (by decide +kernel)⟩, by decide +kernel, by decide +kernel, by decide +kernel⟩
theorem vc_L_118 : Cond.classLink RL 118 "java/lang/IndexOutOfBoundsException" ∈ pq_G := pq_in 957 (by decide +kernel) (by decide +kernel)
theorem vh_L_309 : pq_Hw RL 309 yL_setWindow cL_setWindow 8 [(0, 16, 19, 118), (0, 16, 23, 13), (0, 16, 27, 15)] 7 := ⟨⟨pq_in 954 (by decide +kernel) (by decide +kernel), pq_in 955 (by decide +kernel) (by decide +kernel), pq_in 75 (by decide +kernel) (by decide +kernel), pq_in 956 (by decide +kernel) (by decide +kernel)⟩, by decide +kernel, by decide +kernel, by decide +kernel⟩
theorem vh_L_313 : pq_Hw RL 313 yL_removeWindow cL_removeWindow 4 [(0, 9, 12, 118), (0, 9, 15, 21)] 3 := ⟨⟨pq_in 1019 (by decide +kernel) (by decide +kernel), pq_in 1020 (by decide +kernel) (by decide +kernel), pq_in 75 (by decide +kernel) (by decide +kernel), pq_in 1021 (by decide +kernel) (by decide +kernel)⟩, by decide +kernel, by decide +kernel, by decide +kernel⟩
theorem vh_L_316 : pq_Hw RL 316 yL_isWindowSet cL_isWindowSet 4 [(0, 16, 19, 118)] 3 := ⟨⟨pq_in 1036 (by decide +kernel) (by decide +kernel), pq_in 1037 (by decide +kernel) (by decide +kernel), pq_in 75 (by decide +kernel) (by decide +kernel), pq_in 1038 (by decide +kernel) (by decide +kernel)⟩, by decide +kernel, by decide +kernel, by decide +kernel⟩
theorem vh_L_319 : pq_Hw RL 319 yL_pointsInWindow cL_pointsInWindow 4 [(0, 9, 12, 118), (0, 9, 15, 21)] 3 := ⟨⟨pq_in 1043 (by decide +kernel) (by decide +kernel), pq_in 1044 (by decide +kernel) (by decide +kernel), pq_in 75 (by decide +kernel) (by decide +kernel), pq_in 1045 (by decide +kernel) (by decide +kernel)⟩, by decide +kernel, by decide +kernel, by decide +kernel⟩
theorem vh_L_322 : pq_Hw RL 322 yL_roomInWindow cL_roomInWindow 4 [(0, 9, 12, 118), (0, 9, 15, 21)] 3 := ⟨⟨pq_in 1050 (by decide +kernel) (by decide +kernel), pq_in 1051 (by decide +kernel) (by decide +kernel), pq_in 75 (by decide +kernel) (by decide +kernel), pq_in 1052 (by decide +kernel) (by decide +kernel)⟩, by decide +kernel, by decide +kernel, by decide +kernel⟩
theorem vh_L_325 : pq_Hw RL 325 yL_windowKeyAt cL_windowKeyAt 5 [(0, 10, 13, 118), (0, 10, 17, 21)] 4 := ⟨⟨pq_in 1058 (by decide +kernel) (by decide +kernel), pq_in 1059 (by decide +kernel) (by decide +kernel), pq_in 75 (by decide +kernel) (by decide +kernel), pq_in 1060 (by decide +kernel) (by decide +kernel)⟩, by decide +kernel, by decide +kernel, by decide +kernel⟩
theorem vh_L_328 : pq_Hw RL 328 yL_canInsert cL_canInsert 5 [(0, 17, 20, 13)] 4 := ⟨⟨pq_in 1070 (by decide +kernel) (by decide +kernel), pq_in 1071 (by decide +kernel) (by decide +kernel), pq_in 75 (by decide +kernel) (by decide +kernel), pq_in 1072 (by decide +kernel) (by decide +kernel)⟩, by decide +kernel, by decide +kernel, by decide +kernel⟩
theorem vc_L_143 : Cond.classLink RL 143 "java/lang/ArithmeticException" ∈ pq_G := pq_in 1080 (by decide +kernel) (by decide +kernel)
theorem vh_L_335 : pq_Hw RL 335 yL_meanDepth cL_meanDepth 3 [(0, 7, 10, 143)] 2 := ⟨⟨pq_in 1077 (by decide +kernel) (by decide +kernel), pq_in 1078 (by decide +kernel) (by decide +kernel), pq_in 75 (by decide +kernel) (by decide +kernel), pq_in 1079 (by decide +kernel) (by decide +kernel)⟩, by decide +kernel, by decide +kernel, by decide +kernel⟩
theorem vh_L_339 : pq_Hw RL 339 yL_leafShare cL_leafShare 3 [(0, 8, 11, 143)] 2 := ⟨⟨pq_in 1105 (by decide +kernel) (by decide +kernel), pq_in 1106 (by decide +kernel) (by decide +kernel), pq_in 75 (by decide +kernel) (by decide +kernel), pq_in 1107 (by decide +kernel) (by decide +kernel)⟩, by decide +kernel, by decide +kernel, by decide +kernel⟩
theorem vh_L_351 : pq_Hw RL 351 yL_writeWindow cL_writeWindow 4 [(0, 9, 12, 118), (0, 9, 15, 21)] 3 := ⟨⟨pq_in 1112 (by decide +kernel) (by decide +kernel), pq_in 1113 (by decide +kernel) (by decide +kernel), pq_in 75 (by decide +kernel) (by decide +kernel), pq_in 1114 (by decide +kernel) (by decide +kernel)⟩, by decide +kernel, by decide +kernel, by decide +kernel⟩
theorem vh_L_354 : pq_Hw RL 354 yL_outputAt cL_outputAt 4 [(0, 9, 12, 118)] 3 := ⟨⟨pq_in 1119 (by decide +kernel) (by decide +kernel), pq_in 1120 (by decide +kernel) (by decide +kernel), pq_in 75 (by decide +kernel) (by decide +kernel), pq_in 1121 (by decide +kernel) (by decide +kernel)⟩, by decide +kernel, by decide +kernel, by decide +kernel⟩
theorem vc_L_160 : Cond.classLink RL 160 "java/lang/IllegalStateException" ∈ pq_G := pq_in 1135 (by decide +kernel) (by decide +kernel)
theorem vh_L_357 : pq_Hw RL 357 yL_appendInput cL_appendInput 4 [(0, 9, 12, 13), (0, 9, 15, 160)] 3 := ⟨⟨pq_in 1132 (by decide +kernel) (by decide +kernel), pq_in 1133 (by decide +kernel) (by decide +kernel), pq_in 75 (by decide +kernel) (by decide +kernel), pq_in 1134 (by decide +kernel) (by decide +kernel)⟩, by decide +kernel, by decide +kernel, by decide +kernel⟩
theorem vh_L_361 : pq_Hw RL 361 yL_execute cL_execute 3 [(0, 8, 11, 13), (0, 8, 14, 160), (0, 8, 17, 15)] 2 := ⟨⟨pq_in 1166 (by decide +kernel) (by decide +kernel), pq_in 1167 (by decide +kernel) (by decide +kernel), pq_in 75 (by decide +kernel) (by decide +kernel), pq_in 1168 (by decide +kernel) (by decide +kernel)⟩, by decide +kernel, by decide +kernel, by decide +kernel⟩
theorem vh_L_364 : pq_Hw RL 364 yL_syntaxErrorOffset cL_syntaxErrorOffset 3 [(0, 8, 11, 21)] 2 := ⟨⟨pq_in 1283 (by decide +kernel) (by decide +kernel), pq_in 1284 (by decide +kernel) (by decide +kernel), pq_in 75 (by decide +kernel) (by decide +kernel), pq_in 1285 (by decide +kernel) (by decide +kernel)⟩, by decide +kernel, by decide +kernel, by decide +kernel⟩
theorem vh_L_367 : pq_Hw RL 367 yL_rejectionReason cL_rejectionReason 3 [(0, 8, 11, 21)] 2 := ⟨⟨pq_in 1291 (by decide +kernel) (by decide +kernel), pq_in 1292 (by decide +kernel) (by decide +kernel), pq_in 75 (by decide +kernel) (by decide +kernel), pq_in 1293 (by decide +kernel) (by decide +kernel)⟩, by decide +kernel, by decide +kernel, by decide +kernel⟩
theorem vh_L_370 : pq_Hw RL 370 yL_rejectionDetail cL_rejectionDetail 3 [(0, 8, 11, 21)] 2 := ⟨⟨pq_in 1303 (by decide +kernel) (by decide +kernel), pq_in 1304 (by decide +kernel) (by decide +kernel), pq_in 75 (by decide +kernel) (by decide +kernel), pq_in 1305 (by decide +kernel) (by decide +kernel)⟩, by decide +kernel, by decide +kernel, by decide +kernel⟩
theorem vh_L_373 : pq_Hw RL 373 yL_causeReason cL_causeReason 3 [(0, 8, 11, 21)] 2 := ⟨⟨pq_in 1310 (by decide +kernel) (by decide +kernel), pq_in 1311 (by decide +kernel) (by decide +kernel), pq_in 75 (by decide +kernel) (by decide +kernel), pq_in 1312 (by decide +kernel) (by decide +kernel)⟩, by decide +kernel, by decide +kernel, by decide +kernel⟩
theorem vh_L_376 : pq_Hw RL 376 yL_undo cL_undo 3 [(0, 8, 11, 160)] 2 := ⟨⟨pq_in 1318 (by decide +kernel) (by decide +kernel), pq_in 1319 (by decide +kernel) (by decide +kernel), pq_in 75 (by decide +kernel) (by decide +kernel), pq_in 1320 (by decide +kernel) (by decide +kernel)⟩, by decide +kernel, by decide +kernel, by decide +kernel⟩
theorem vh_L_383 : pq_Hw RL 383 yL_restoreSnapshot cL_restoreSnapshot 3 [(0, 8, 11, 160)] 2 := ⟨⟨pq_in 1330 (by decide +kernel) (by decide +kernel), pq_in 1331 (by decide +kernel) (by decide +kernel), pq_in 75 (by decide +kernel) (by decide +kernel), pq_in 1332 (by decide +kernel) (by decide +kernel)⟩, by decide +kernel, by decide +kernel, by decide +kernel⟩
