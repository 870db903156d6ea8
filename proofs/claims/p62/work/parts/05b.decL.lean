theorem dL_cell_0 : decode cL_cell 0 = .ok (.iload_n 1, 1) := by decide +kernel
theorem dL_cell_1 : decode cL_cell 1 = .ok (.aload_n 0, 1) := by decide +kernel
theorem dL_cell_2 : decode cL_cell 2 = .ok (.arraylength, 1) := by decide +kernel
theorem dL_cell_3 : decode cL_cell 3 = .ok (.if_icmp .ge 9, 3) := by decide +kernel
theorem dL_cell_6 : decode cL_cell 6 = .ok (.aload_n 0, 1) := by decide +kernel
theorem dL_cell_7 : decode cL_cell 7 = .ok (.iload_n 1, 1) := by decide +kernel
theorem dL_cell_8 : decode cL_cell 8 = .ok (.iaload, 1) := by decide +kernel
theorem dL_cell_9 : decode cL_cell 9 = .ok (.goto 11, 3) := by decide +kernel
theorem dL_cell_12 : decode cL_cell 12 = .ok (.sipush 7919, 3) := by decide +kernel
theorem dL_cell_15 : decode cL_cell 15 = .ok (.iload_n 1, 1) := by decide +kernel
theorem dL_cell_16 : decode cL_cell 16 = .ok (.imul, 1) := by decide +kernel
theorem dL_cell_17 : decode cL_cell 17 = .ok (.bipush 12, 2) := by decide +kernel
theorem dL_cell_19 : decode cL_cell 19 = .ok (.iadd, 1) := by decide +kernel
theorem dL_cell_20 : decode cL_cell 20 = .ok (.ireturn, 1) := by decide +kernel
theorem dL_some_0 : decode cL_some 0 = .ok (.aload_n 0, 1) := by decide +kernel
theorem dL_some_1 : decode cL_some 1 = .ok (.iload_n 1, 1) := by decide +kernel
theorem dL_some_2 : decode cL_some 2 = .ok (.invokestatic 7, 3) := by decide +kernel
theorem dL_some_5 : decode cL_some 5 = .ok (.iconst 3, 1) := by decide +kernel
theorem dL_some_6 : decode cL_some 6 = .ok (.iushr, 1) := by decide +kernel
theorem dL_some_7 : decode cL_some 7 = .ok (.iload_n 2, 1) := by decide +kernel
theorem dL_some_8 : decode cL_some 8 = .ok (.irem, 1) := by decide +kernel
theorem dL_some_9 : decode cL_some 9 = .ok (.ireturn, 1) := by decide +kernel
theorem dL_insert_0 : decode cL_insert 0 = .ok (.aload_n 0, 1) := by decide +kernel
theorem dL_insert_1 : decode cL_insert 1 = .ok (.iload_n 1, 1) := by decide +kernel
theorem dL_insert_2 : decode cL_insert 2 = .ok (.iload_n 2, 1) := by decide +kernel
theorem dL_insert_3 : decode cL_insert 3 = .ok (.invokevirtual 13, 3) := by decide +kernel
theorem dL_insert_6 : decode cL_insert 6 = .ok (.ireturn, 1) := by decide +kernel
theorem dL_insert_7 : decode cL_insert 7 = .ok (.astore_n 3, 1) := by decide +kernel
theorem dL_insert_8 : decode cL_insert 8 = .ok (.sipush (-20000), 3) := by decide +kernel
theorem dL_insert_11 : decode cL_insert 11 = .ok (.ireturn, 1) := by decide +kernel
theorem dL_insert_12 : decode cL_insert 12 = .ok (.astore_n 3, 1) := by decide +kernel
theorem dL_insert_13 : decode cL_insert 13 = .ok (.sipush (-10000), 3) := by decide +kernel
theorem dL_insert_16 : decode cL_insert 16 = .ok (.aload_n 0, 1) := by decide +kernel
theorem dL_insert_17 : decode cL_insert 17 = .ok (.invokevirtual 23, 3) := by decide +kernel
theorem dL_insert_20 : decode cL_insert 20 = .ok (.isub, 1) := by decide +kernel
theorem dL_insert_21 : decode cL_insert 21 = .ok (.ireturn, 1) := by decide +kernel
theorem dL_delete_0 : decode cL_delete 0 = .ok (.aload_n 0, 1) := by decide +kernel
theorem dL_delete_1 : decode cL_delete 1 = .ok (.iload_n 1, 1) := by decide +kernel
theorem dL_delete_2 : decode cL_delete 2 = .ok (.invokevirtual 27, 3) := by decide +kernel
theorem dL_delete_5 : decode cL_delete 5 = .ok (.ireturn, 1) := by decide +kernel
theorem dL_delete_6 : decode cL_delete 6 = .ok (.astore_n 2, 1) := by decide +kernel
theorem dL_delete_7 : decode cL_delete 7 = .ok (.sipush (-30000), 3) := by decide +kernel
theorem dL_delete_10 : decode cL_delete 10 = .ok (.ireturn, 1) := by decide +kernel
theorem dL_changePriority_0 : decode cL_changePriority 0 = .ok (.aload_n 0, 1) := by decide +kernel
theorem dL_changePriority_1 : decode cL_changePriority 1 = .ok (.iload_n 1, 1) := by decide +kernel
theorem dL_changePriority_2 : decode cL_changePriority 2 = .ok (.iload_n 2, 1) := by decide +kernel
theorem dL_changePriority_3 : decode cL_changePriority 3 = .ok (.invokevirtual 33, 3) := by decide +kernel
theorem dL_changePriority_6 : decode cL_changePriority 6 = .ok (.ireturn, 1) := by decide +kernel
theorem dL_changePriority_7 : decode cL_changePriority 7 = .ok (.astore_n 3, 1) := by decide +kernel
theorem dL_changePriority_8 : decode cL_changePriority 8 = .ok (.sipush (-30000), 3) := by decide +kernel
theorem dL_changePriority_11 : decode cL_changePriority 11 = .ok (.ireturn, 1) := by decide +kernel
theorem dL_changePriority_12 : decode cL_changePriority 12 = .ok (.astore_n 3, 1) := by decide +kernel
theorem dL_changePriority_13 : decode cL_changePriority 13 = .ok (.sipush (-20000), 3) := by decide +kernel
theorem dL_changePriority_16 : decode cL_changePriority 16 = .ok (.ireturn, 1) := by decide +kernel
theorem dL_changePriority_17 : decode cL_changePriority 17 = .ok (.astore_n 3, 1) := by decide +kernel
theorem dL_changePriority_18 : decode cL_changePriority 18 = .ok (.sipush (-10000), 3) := by decide +kernel
theorem dL_changePriority_21 : decode cL_changePriority 21 = .ok (.aload_n 0, 1) := by decide +kernel
theorem dL_changePriority_22 : decode cL_changePriority 22 = .ok (.invokevirtual 23, 3) := by decide +kernel
theorem dL_changePriority_25 : decode cL_changePriority 25 = .ok (.isub, 1) := by decide +kernel
theorem dL_changePriority_26 : decode cL_changePriority 26 = .ok (.ireturn, 1) := by decide +kernel
theorem dL_moveKey_0 : decode cL_moveKey 0 = .ok (.aload_n 0, 1) := by decide +kernel
theorem dL_moveKey_1 : decode cL_moveKey 1 = .ok (.iload_n 1, 1) := by decide +kernel
theorem dL_moveKey_2 : decode cL_moveKey 2 = .ok (.iload_n 2, 1) := by decide +kernel
theorem dL_moveKey_3 : decode cL_moveKey 3 = .ok (.invokevirtual 36, 3) := by decide +kernel
theorem dL_moveKey_6 : decode cL_moveKey 6 = .ok (.ireturn, 1) := by decide +kernel
theorem dL_moveKey_7 : decode cL_moveKey 7 = .ok (.astore_n 3, 1) := by decide +kernel
theorem dL_moveKey_8 : decode cL_moveKey 8 = .ok (.sipush (-30000), 3) := by decide +kernel
theorem dL_moveKey_11 : decode cL_moveKey 11 = .ok (.ireturn, 1) := by decide +kernel
theorem dL_moveKey_12 : decode cL_moveKey 12 = .ok (.astore_n 3, 1) := by decide +kernel
theorem dL_moveKey_13 : decode cL_moveKey 13 = .ok (.sipush (-20000), 3) := by decide +kernel
theorem dL_moveKey_16 : decode cL_moveKey 16 = .ok (.ireturn, 1) := by decide +kernel
theorem dL_moveKey_17 : decode cL_moveKey 17 = .ok (.astore_n 3, 1) := by decide +kernel
theorem dL_moveKey_18 : decode cL_moveKey 18 = .ok (.sipush (-10000), 3) := by decide +kernel
theorem dL_moveKey_21 : decode cL_moveKey 21 = .ok (.aload_n 0, 1) := by decide +kernel
theorem dL_moveKey_22 : decode cL_moveKey 22 = .ok (.invokevirtual 23, 3) := by decide +kernel
theorem dL_moveKey_25 : decode cL_moveKey 25 = .ok (.isub, 1) := by decide +kernel
theorem dL_moveKey_26 : decode cL_moveKey 26 = .ok (.ireturn, 1) := by decide +kernel
theorem dL_deleteRange_0 : decode cL_deleteRange 0 = .ok (.aload_n 0, 1) := by decide +kernel
theorem dL_deleteRange_1 : decode cL_deleteRange 1 = .ok (.iload_n 1, 1) := by decide +kernel
theorem dL_deleteRange_2 : decode cL_deleteRange 2 = .ok (.iload_n 2, 1) := by decide +kernel
theorem dL_deleteRange_3 : decode cL_deleteRange 3 = .ok (.invokevirtual 39, 3) := by decide +kernel
theorem dL_deleteRange_6 : decode cL_deleteRange 6 = .ok (.ireturn, 1) := by decide +kernel
theorem dL_deleteRange_7 : decode cL_deleteRange 7 = .ok (.astore_n 3, 1) := by decide +kernel
theorem dL_deleteRange_8 : decode cL_deleteRange 8 = .ok (.sipush (-20000), 3) := by decide +kernel
theorem dL_deleteRange_11 : decode cL_deleteRange 11 = .ok (.ireturn, 1) := by decide +kernel
theorem dL_setWindow_0 : decode cL_setWindow 0 = .ok (.aload_n 0, 1) := by decide +kernel
theorem dL_setWindow_1 : decode cL_setWindow 1 = .ok (.iload_n 1, 1) := by decide +kernel
theorem dL_setWindow_2 : decode cL_setWindow 2 = .ok (.iload_n 2, 1) := by decide +kernel
theorem dL_setWindow_3 : decode cL_setWindow 3 = .ok (.iload_n 3, 1) := by decide +kernel
theorem dL_setWindow_4 : decode cL_setWindow 4 = .ok (.iload 4, 2) := by decide +kernel
theorem dL_setWindow_6 : decode cL_setWindow 6 = .ok (.iload 5, 2) := by decide +kernel
theorem dL_setWindow_8 : decode cL_setWindow 8 = .ok (.invokevirtual 42, 3) := by decide +kernel
theorem dL_setWindow_11 : decode cL_setWindow 11 = .ok (.ireturn, 1) := by decide +kernel
theorem dL_setWindow_12 : decode cL_setWindow 12 = .ok (.astore 6, 2) := by decide +kernel
theorem dL_setWindow_14 : decode cL_setWindow 14 = .ok (.sipush (-25000), 3) := by decide +kernel
theorem dL_setWindow_17 : decode cL_setWindow 17 = .ok (.ireturn, 1) := by decide +kernel
theorem dL_setWindow_18 : decode cL_setWindow 18 = .ok (.astore 6, 2) := by decide +kernel
theorem dL_setWindow_20 : decode cL_setWindow 20 = .ok (.sipush (-20000), 3) := by decide +kernel
theorem dL_setWindow_23 : decode cL_setWindow 23 = .ok (.ireturn, 1) := by decide +kernel
theorem dL_setWindow_24 : decode cL_setWindow 24 = .ok (.astore 6, 2) := by decide +kernel
theorem dL_setWindow_26 : decode cL_setWindow 26 = .ok (.sipush (-10000), 3) := by decide +kernel
theorem dL_setWindow_29 : decode cL_setWindow 29 = .ok (.aload_n 0, 1) := by decide +kernel
theorem dL_setWindow_30 : decode cL_setWindow 30 = .ok (.invokevirtual 23, 3) := by decide +kernel
theorem dL_setWindow_33 : decode cL_setWindow 33 = .ok (.isub, 1) := by decide +kernel
theorem dL_setWindow_34 : decode cL_setWindow 34 = .ok (.ireturn, 1) := by decide +kernel
theorem dL_removeWindow_0 : decode cL_removeWindow 0 = .ok (.aload_n 0, 1) := by decide +kernel
theorem dL_removeWindow_1 : decode cL_removeWindow 1 = .ok (.iload_n 1, 1) := by decide +kernel
theorem dL_removeWindow_2 : decode cL_removeWindow 2 = .ok (.invokevirtual 48, 3) := by decide +kernel
theorem dL_removeWindow_5 : decode cL_removeWindow 5 = .ok (.ireturn, 1) := by decide +kernel
theorem dL_removeWindow_6 : decode cL_removeWindow 6 = .ok (.astore_n 2, 1) := by decide +kernel
theorem dL_removeWindow_7 : decode cL_removeWindow 7 = .ok (.sipush (-25000), 3) := by decide +kernel
theorem dL_removeWindow_10 : decode cL_removeWindow 10 = .ok (.ireturn, 1) := by decide +kernel
theorem dL_removeWindow_11 : decode cL_removeWindow 11 = .ok (.astore_n 2, 1) := by decide +kernel
theorem dL_removeWindow_12 : decode cL_removeWindow 12 = .ok (.sipush (-30000), 3) := by decide +kernel
theorem dL_removeWindow_15 : decode cL_removeWindow 15 = .ok (.ireturn, 1) := by decide +kernel
theorem dL_pointsInWindow_0 : decode cL_pointsInWindow 0 = .ok (.aload_n 0, 1) := by decide +kernel
theorem dL_pointsInWindow_1 : decode cL_pointsInWindow 1 = .ok (.iload_n 1, 1) := by decide +kernel
theorem dL_pointsInWindow_2 : decode cL_pointsInWindow 2 = .ok (.invokevirtual 51, 3) := by decide +kernel
theorem dL_pointsInWindow_5 : decode cL_pointsInWindow 5 = .ok (.ireturn, 1) := by decide +kernel
theorem dL_pointsInWindow_6 : decode cL_pointsInWindow 6 = .ok (.astore_n 2, 1) := by decide +kernel
theorem dL_pointsInWindow_7 : decode cL_pointsInWindow 7 = .ok (.sipush (-25000), 3) := by decide +kernel
theorem dL_pointsInWindow_10 : decode cL_pointsInWindow 10 = .ok (.ireturn, 1) := by decide +kernel
theorem dL_pointsInWindow_11 : decode cL_pointsInWindow 11 = .ok (.astore_n 2, 1) := by decide +kernel
theorem dL_pointsInWindow_12 : decode cL_pointsInWindow 12 = .ok (.sipush (-30000), 3) := by decide +kernel
theorem dL_pointsInWindow_15 : decode cL_pointsInWindow 15 = .ok (.ireturn, 1) := by decide +kernel
theorem dL_windowKeyAt_0 : decode cL_windowKeyAt 0 = .ok (.aload_n 0, 1) := by decide +kernel
theorem dL_windowKeyAt_1 : decode cL_windowKeyAt 1 = .ok (.iload_n 1, 1) := by decide +kernel
theorem dL_windowKeyAt_2 : decode cL_windowKeyAt 2 = .ok (.iload_n 2, 1) := by decide +kernel
theorem dL_windowKeyAt_3 : decode cL_windowKeyAt 3 = .ok (.invokevirtual 54, 3) := by decide +kernel
theorem dL_windowKeyAt_6 : decode cL_windowKeyAt 6 = .ok (.ireturn, 1) := by decide +kernel
theorem dL_windowKeyAt_7 : decode cL_windowKeyAt 7 = .ok (.astore_n 3, 1) := by decide +kernel
theorem dL_windowKeyAt_8 : decode cL_windowKeyAt 8 = .ok (.sipush (-25000), 3) := by decide +kernel
theorem dL_windowKeyAt_11 : decode cL_windowKeyAt 11 = .ok (.ireturn, 1) := by decide +kernel
theorem dL_windowKeyAt_12 : decode cL_windowKeyAt 12 = .ok (.astore_n 3, 1) := by decide +kernel
theorem dL_windowKeyAt_13 : decode cL_windowKeyAt 13 = .ok (.sipush (-30000), 3) := by decide +kernel
theorem dL_windowKeyAt_16 : decode cL_windowKeyAt 16 = .ok (.ireturn, 1) := by decide +kernel
theorem dL_floorKey_0 : decode cL_floorKey 0 = .ok (.aload_n 0, 1) := by decide +kernel
theorem dL_floorKey_1 : decode cL_floorKey 1 = .ok (.iload_n 1, 1) := by decide +kernel
theorem dL_floorKey_2 : decode cL_floorKey 2 = .ok (.invokevirtual 57, 3) := by decide +kernel
theorem dL_floorKey_5 : decode cL_floorKey 5 = .ok (.ireturn, 1) := by decide +kernel
theorem dL_floorKey_6 : decode cL_floorKey 6 = .ok (.astore_n 2, 1) := by decide +kernel
theorem dL_floorKey_7 : decode cL_floorKey 7 = .ok (.sipush (-30000), 3) := by decide +kernel
theorem dL_floorKey_10 : decode cL_floorKey 10 = .ok (.ireturn, 1) := by decide +kernel
theorem dL_ceilingKey_0 : decode cL_ceilingKey 0 = .ok (.aload_n 0, 1) := by decide +kernel
theorem dL_ceilingKey_1 : decode cL_ceilingKey 1 = .ok (.iload_n 1, 1) := by decide +kernel
theorem dL_ceilingKey_2 : decode cL_ceilingKey 2 = .ok (.invokevirtual 60, 3) := by decide +kernel
theorem dL_ceilingKey_5 : decode cL_ceilingKey 5 = .ok (.ireturn, 1) := by decide +kernel
theorem dL_ceilingKey_6 : decode cL_ceilingKey 6 = .ok (.astore_n 2, 1) := by decide +kernel
theorem dL_ceilingKey_7 : decode cL_ceilingKey 7 = .ok (.sipush (-30000), 3) := by decide +kernel
theorem dL_ceilingKey_10 : decode cL_ceilingKey 10 = .ok (.ireturn, 1) := by decide +kernel
theorem dL_nearestKey_0 : decode cL_nearestKey 0 = .ok (.aload_n 0, 1) := by decide +kernel
theorem dL_nearestKey_1 : decode cL_nearestKey 1 = .ok (.iload_n 1, 1) := by decide +kernel
theorem dL_nearestKey_2 : decode cL_nearestKey 2 = .ok (.invokevirtual 63, 3) := by decide +kernel
theorem dL_nearestKey_5 : decode cL_nearestKey 5 = .ok (.ireturn, 1) := by decide +kernel
theorem dL_nearestKey_6 : decode cL_nearestKey 6 = .ok (.astore_n 2, 1) := by decide +kernel
theorem dL_nearestKey_7 : decode cL_nearestKey 7 = .ok (.sipush (-20000), 3) := by decide +kernel
theorem dL_nearestKey_10 : decode cL_nearestKey 10 = .ok (.ireturn, 1) := by decide +kernel
theorem dL_nearestKey_11 : decode cL_nearestKey 11 = .ok (.astore_n 2, 1) := by decide +kernel
theorem dL_nearestKey_12 : decode cL_nearestKey 12 = .ok (.sipush (-30000), 3) := by decide +kernel
theorem dL_nearestKey_15 : decode cL_nearestKey 15 = .ok (.ireturn, 1) := by decide +kernel
theorem dL_keyAt_0 : decode cL_keyAt 0 = .ok (.aload_n 0, 1) := by decide +kernel
theorem dL_keyAt_1 : decode cL_keyAt 1 = .ok (.iload_n 1, 1) := by decide +kernel
theorem dL_keyAt_2 : decode cL_keyAt 2 = .ok (.invokevirtual 66, 3) := by decide +kernel
theorem dL_keyAt_5 : decode cL_keyAt 5 = .ok (.ireturn, 1) := by decide +kernel
theorem dL_keyAt_6 : decode cL_keyAt 6 = .ok (.astore_n 2, 1) := by decide +kernel
theorem dL_keyAt_7 : decode cL_keyAt 7 = .ok (.sipush (-30000), 3) := by decide +kernel
theorem dL_keyAt_10 : decode cL_keyAt 10 = .ok (.ireturn, 1) := by decide +kernel
theorem dL_keyByPriority_0 : decode cL_keyByPriority 0 = .ok (.aload_n 0, 1) := by decide +kernel
theorem dL_keyByPriority_1 : decode cL_keyByPriority 1 = .ok (.iload_n 1, 1) := by decide +kernel
theorem dL_keyByPriority_2 : decode cL_keyByPriority 2 = .ok (.invokevirtual 69, 3) := by decide +kernel
theorem dL_keyByPriority_5 : decode cL_keyByPriority 5 = .ok (.ireturn, 1) := by decide +kernel
theorem dL_keyByPriority_6 : decode cL_keyByPriority 6 = .ok (.astore_n 2, 1) := by decide +kernel
theorem dL_keyByPriority_7 : decode cL_keyByPriority 7 = .ok (.sipush (-30000), 3) := by decide +kernel
theorem dL_keyByPriority_10 : decode cL_keyByPriority 10 = .ok (.ireturn, 1) := by decide +kernel
theorem dL_root_0 : decode cL_root 0 = .ok (.aload_n 0, 1) := by decide +kernel
theorem dL_root_1 : decode cL_root 1 = .ok (.invokevirtual 72, 3) := by decide +kernel
theorem dL_root_4 : decode cL_root 4 = .ok (.ireturn, 1) := by decide +kernel
theorem dL_root_5 : decode cL_root 5 = .ok (.astore_n 1, 1) := by decide +kernel
theorem dL_root_6 : decode cL_root 6 = .ok (.sipush (-30000), 3) := by decide +kernel
theorem dL_root_9 : decode cL_root 9 = .ok (.ireturn, 1) := by decide +kernel
theorem dL_leftOf_0 : decode cL_leftOf 0 = .ok (.aload_n 0, 1) := by decide +kernel
theorem dL_leftOf_1 : decode cL_leftOf 1 = .ok (.iload_n 1, 1) := by decide +kernel
theorem dL_leftOf_2 : decode cL_leftOf 2 = .ok (.invokevirtual 75, 3) := by decide +kernel
theorem dL_leftOf_5 : decode cL_leftOf 5 = .ok (.ireturn, 1) := by decide +kernel
theorem dL_leftOf_6 : decode cL_leftOf 6 = .ok (.astore_n 2, 1) := by decide +kernel
theorem dL_leftOf_7 : decode cL_leftOf 7 = .ok (.sipush (-30000), 3) := by decide +kernel
theorem dL_leftOf_10 : decode cL_leftOf 10 = .ok (.ireturn, 1) := by decide +kernel
theorem dL_rightOf_0 : decode cL_rightOf 0 = .ok (.aload_n 0, 1) := by decide +kernel
theorem dL_rightOf_1 : decode cL_rightOf 1 = .ok (.iload_n 1, 1) := by decide +kernel
theorem dL_rightOf_2 : decode cL_rightOf 2 = .ok (.invokevirtual 78, 3) := by decide +kernel
theorem dL_rightOf_5 : decode cL_rightOf 5 = .ok (.ireturn, 1) := by decide +kernel
theorem dL_rightOf_6 : decode cL_rightOf 6 = .ok (.astore_n 2, 1) := by decide +kernel
theorem dL_rightOf_7 : decode cL_rightOf 7 = .ok (.sipush (-30000), 3) := by decide +kernel
theorem dL_rightOf_10 : decode cL_rightOf 10 = .ok (.ireturn, 1) := by decide +kernel
theorem dL_parentOf_0 : decode cL_parentOf 0 = .ok (.aload_n 0, 1) := by decide +kernel
theorem dL_parentOf_1 : decode cL_parentOf 1 = .ok (.iload_n 1, 1) := by decide +kernel
theorem dL_parentOf_2 : decode cL_parentOf 2 = .ok (.invokevirtual 81, 3) := by decide +kernel
theorem dL_parentOf_5 : decode cL_parentOf 5 = .ok (.ireturn, 1) := by decide +kernel
theorem dL_parentOf_6 : decode cL_parentOf 6 = .ok (.astore_n 2, 1) := by decide +kernel
theorem dL_parentOf_7 : decode cL_parentOf 7 = .ok (.sipush (-30000), 3) := by decide +kernel
theorem dL_parentOf_10 : decode cL_parentOf 10 = .ok (.ireturn, 1) := by decide +kernel
theorem dL_topInRange_0 : decode cL_topInRange 0 = .ok (.aload_n 0, 1) := by decide +kernel
theorem dL_topInRange_1 : decode cL_topInRange 1 = .ok (.iload_n 1, 1) := by decide +kernel
theorem dL_topInRange_2 : decode cL_topInRange 2 = .ok (.iload_n 2, 1) := by decide +kernel
theorem dL_topInRange_3 : decode cL_topInRange 3 = .ok (.invokevirtual 84, 3) := by decide +kernel
theorem dL_topInRange_6 : decode cL_topInRange 6 = .ok (.ireturn, 1) := by decide +kernel
theorem dL_topInRange_7 : decode cL_topInRange 7 = .ok (.astore_n 3, 1) := by decide +kernel
theorem dL_topInRange_8 : decode cL_topInRange 8 = .ok (.sipush (-20000), 3) := by decide +kernel
theorem dL_topInRange_11 : decode cL_topInRange 11 = .ok (.ireturn, 1) := by decide +kernel
theorem dL_topInRange_12 : decode cL_topInRange 12 = .ok (.astore_n 3, 1) := by decide +kernel
theorem dL_topInRange_13 : decode cL_topInRange 13 = .ok (.sipush (-30000), 3) := by decide +kernel
theorem dL_topInRange_16 : decode cL_topInRange 16 = .ok (.ireturn, 1) := by decide +kernel
theorem dL_topInRangeByScan_0 : decode cL_topInRangeByScan 0 = .ok (.aload_n 0, 1) := by decide +kernel
theorem dL_topInRangeByScan_1 : decode cL_topInRangeByScan 1 = .ok (.iload_n 1, 1) := by decide +kernel
theorem dL_topInRangeByScan_2 : decode cL_topInRangeByScan 2 = .ok (.iload_n 2, 1) := by decide +kernel
theorem dL_topInRangeByScan_3 : decode cL_topInRangeByScan 3 = .ok (.invokevirtual 87, 3) := by decide +kernel
theorem dL_topInRangeByScan_6 : decode cL_topInRangeByScan 6 = .ok (.ireturn, 1) := by decide +kernel
theorem dL_topInRangeByScan_7 : decode cL_topInRangeByScan 7 = .ok (.astore_n 3, 1) := by decide +kernel
theorem dL_topInRangeByScan_8 : decode cL_topInRangeByScan 8 = .ok (.sipush (-20000), 3) := by decide +kernel
theorem dL_topInRangeByScan_11 : decode cL_topInRangeByScan 11 = .ok (.ireturn, 1) := by decide +kernel
theorem dL_topInRangeByScan_12 : decode cL_topInRangeByScan 12 = .ok (.astore_n 3, 1) := by decide +kernel
theorem dL_topInRangeByScan_13 : decode cL_topInRangeByScan 13 = .ok (.sipush (-30000), 3) := by decide +kernel
theorem dL_topInRangeByScan_16 : decode cL_topInRangeByScan 16 = .ok (.ireturn, 1) := by decide +kernel
theorem dL_build_0 : decode cL_build 0 = .ok (.iconst 0, 1) := by decide +kernel
theorem dL_build_1 : decode cL_build 1 = .ok (.istore_n 3, 1) := by decide +kernel
theorem dL_build_2 : decode cL_build 2 = .ok (.iload_n 3, 1) := by decide +kernel
theorem dL_build_3 : decode cL_build 3 = .ok (.bipush 10, 2) := by decide +kernel
theorem dL_build_5 : decode cL_build 5 = .ok (.if_icmp .ge 42, 3) := by decide +kernel
theorem dL_build_8 : decode cL_build 8 = .ok (.aload_n 0, 1) := by decide +kernel
theorem dL_build_9 : decode cL_build 9 = .ok (.aload_n 1, 1) := by decide +kernel
theorem dL_build_10 : decode cL_build 10 = .ok (.iload_n 3, 1) := by decide +kernel
theorem dL_build_11 : decode cL_build 11 = .ok (.bipush 100, 2) := by decide +kernel
theorem dL_build_13 : decode cL_build 13 = .ok (.invokestatic 90, 3) := by decide +kernel
theorem dL_build_16 : decode cL_build 16 = .ok (.aload_n 1, 1) := by decide +kernel
theorem dL_build_17 : decode cL_build 17 = .ok (.bipush 12, 2) := by decide +kernel
theorem dL_build_19 : decode cL_build 19 = .ok (.iload_n 3, 1) := by decide +kernel
theorem dL_build_20 : decode cL_build 20 = .ok (.iadd, 1) := by decide +kernel
theorem dL_build_21 : decode cL_build 21 = .ok (.iload_n 3, 1) := by decide +kernel
theorem dL_build_22 : decode cL_build 22 = .ok (.iconst 2, 1) := by decide +kernel
theorem dL_build_23 : decode cL_build 23 = .ok (.irem, 1) := by decide +kernel
theorem dL_build_24 : decode cL_build 24 = .ok (.ifCond .ne 8, 3) := by decide +kernel
theorem dL_build_27 : decode cL_build 27 = .ok (.bipush 100, 2) := by decide +kernel
theorem dL_build_29 : decode cL_build 29 = .ok (.goto 5, 3) := by decide +kernel
theorem dL_build_32 : decode cL_build 32 = .ok (.bipush 6, 2) := by decide +kernel
theorem dL_build_34 : decode cL_build 34 = .ok (.invokestatic 90, 3) := by decide +kernel
theorem dL_build_37 : decode cL_build 37 = .ok (.invokestatic 94, 3) := by decide +kernel
theorem dL_build_40 : decode cL_build 40 = .ok (.istore_n 2, 1) := by decide +kernel
theorem dL_build_41 : decode cL_build 41 = .ok (.iinc 3 1, 3) := by decide +kernel
theorem dL_build_44 : decode cL_build 44 = .ok (.goto (-42), 3) := by decide +kernel
theorem dL_build_47 : decode cL_build 47 = .ok (.iconst 0, 1) := by decide +kernel
theorem dL_build_48 : decode cL_build 48 = .ok (.istore_n 3, 1) := by decide +kernel
theorem dL_build_49 : decode cL_build 49 = .ok (.iload_n 3, 1) := by decide +kernel
theorem dL_build_50 : decode cL_build 50 = .ok (.bipush 14, 2) := by decide +kernel
theorem dL_build_52 : decode cL_build 52 = .ok (.if_icmp .ge 20, 3) := by decide +kernel
theorem dL_build_55 : decode cL_build 55 = .ok (.aload_n 0, 1) := by decide +kernel
theorem dL_build_56 : decode cL_build 56 = .ok (.aload_n 1, 1) := by decide +kernel
theorem dL_build_57 : decode cL_build 57 = .ok (.bipush 24, 2) := by decide +kernel
theorem dL_build_59 : decode cL_build 59 = .ok (.iconst 4, 1) := by decide +kernel
theorem dL_build_60 : decode cL_build 60 = .ok (.iload_n 3, 1) := by decide +kernel
theorem dL_build_61 : decode cL_build 61 = .ok (.imul, 1) := by decide +kernel
theorem dL_build_62 : decode cL_build 62 = .ok (.iadd, 1) := by decide +kernel
theorem dL_build_63 : decode cL_build 63 = .ok (.invokestatic 97, 3) := by decide +kernel
theorem dL_build_66 : decode cL_build 66 = .ok (.iinc 3 1, 3) := by decide +kernel
theorem dL_build_69 : decode cL_build 69 = .ok (.goto (-20), 3) := by decide +kernel
theorem dL_build_72 : decode cL_build 72 = .ok (.return_, 1) := by decide +kernel
theorem dL_isAbove_0 : decode cL_isAbove 0 = .ok (.aload_n 0, 1) := by decide +kernel
theorem dL_isAbove_1 : decode cL_isAbove 1 = .ok (.iload_n 1, 1) := by decide +kernel
theorem dL_isAbove_2 : decode cL_isAbove 2 = .ok (.invokevirtual 123, 3) := by decide +kernel
theorem dL_isAbove_5 : decode cL_isAbove 5 = .ok (.aload_n 0, 1) := by decide +kernel
theorem dL_isAbove_6 : decode cL_isAbove 6 = .ok (.iload_n 2, 1) := by decide +kernel
theorem dL_isAbove_7 : decode cL_isAbove 7 = .ok (.invokevirtual 123, 3) := by decide +kernel
theorem dL_isAbove_10 : decode cL_isAbove 10 = .ok (.isub, 1) := by decide +kernel
theorem dL_isAbove_11 : decode cL_isAbove 11 = .ok (.istore_n 3, 1) := by decide +kernel
theorem dL_isAbove_12 : decode cL_isAbove 12 = .ok (.iload_n 3, 1) := by decide +kernel
theorem dL_isAbove_13 : decode cL_isAbove 13 = .ok (.ifCond .gt 12, 3) := by decide +kernel
theorem dL_isAbove_16 : decode cL_isAbove 16 = .ok (.iload_n 3, 1) := by decide +kernel
theorem dL_isAbove_17 : decode cL_isAbove 17 = .ok (.ifCond .ne 12, 3) := by decide +kernel
theorem dL_isAbove_20 : decode cL_isAbove 20 = .ok (.iload_n 1, 1) := by decide +kernel
theorem dL_isAbove_21 : decode cL_isAbove 21 = .ok (.iload_n 2, 1) := by decide +kernel
theorem dL_isAbove_22 : decode cL_isAbove 22 = .ok (.if_icmp .ge 7, 3) := by decide +kernel
theorem dL_isAbove_25 : decode cL_isAbove 25 = .ok (.iconst 1, 1) := by decide +kernel
theorem dL_isAbove_26 : decode cL_isAbove 26 = .ok (.goto 4, 3) := by decide +kernel
theorem dL_isAbove_29 : decode cL_isAbove 29 = .ok (.iconst 0, 1) := by decide +kernel
theorem dL_isAbove_30 : decode cL_isAbove 30 = .ok (.ireturn, 1) := by decide +kernel
theorem dL_isLine_0 : decode cL_isLine 0 = .ok (.iload_n 1, 1) := by decide +kernel
theorem dL_isLine_1 : decode cL_isLine 1 = .ok (.aload_n 2, 1) := by decide +kernel
theorem dL_isLine_2 : decode cL_isLine 2 = .ok (.invokevirtual 126, 3) := by decide +kernel
theorem dL_isLine_5 : decode cL_isLine 5 = .ok (.if_icmp .eq 5, 3) := by decide +kernel
theorem dL_isLine_8 : decode cL_isLine 8 = .ok (.iconst 0, 1) := by decide +kernel
theorem dL_isLine_9 : decode cL_isLine 9 = .ok (.ireturn, 1) := by decide +kernel
theorem dL_isLine_10 : decode cL_isLine 10 = .ok (.iconst 0, 1) := by decide +kernel
theorem dL_isLine_11 : decode cL_isLine 11 = .ok (.istore_n 3, 1) := by decide +kernel
theorem dL_isLine_12 : decode cL_isLine 12 = .ok (.iload_n 3, 1) := by decide +kernel
theorem dL_isLine_13 : decode cL_isLine 13 = .ok (.iload_n 1, 1) := by decide +kernel
theorem dL_isLine_14 : decode cL_isLine 14 = .ok (.if_icmp .ge 24, 3) := by decide +kernel
theorem dL_isLine_17 : decode cL_isLine 17 = .ok (.aload_n 0, 1) := by decide +kernel
theorem dL_isLine_18 : decode cL_isLine 18 = .ok (.iload_n 3, 1) := by decide +kernel
theorem dL_isLine_19 : decode cL_isLine 19 = .ok (.invokevirtual 131, 3) := by decide +kernel
theorem dL_isLine_22 : decode cL_isLine 22 = .ok (.aload_n 2, 1) := by decide +kernel
theorem dL_isLine_23 : decode cL_isLine 23 = .ok (.iload_n 3, 1) := by decide +kernel
theorem dL_isLine_24 : decode cL_isLine 24 = .ok (.invokevirtual 135, 3) := by decide +kernel
theorem dL_isLine_27 : decode cL_isLine 27 = .ok (.if_icmp .eq 5, 3) := by decide +kernel
theorem dL_isLine_30 : decode cL_isLine 30 = .ok (.iconst 0, 1) := by decide +kernel
theorem dL_isLine_31 : decode cL_isLine 31 = .ok (.ireturn, 1) := by decide +kernel
theorem dL_isLine_32 : decode cL_isLine 32 = .ok (.iinc 3 1, 3) := by decide +kernel
theorem dL_isLine_35 : decode cL_isLine 35 = .ok (.goto (-23), 3) := by decide +kernel
theorem dL_isLine_38 : decode cL_isLine 38 = .ok (.iconst 1, 1) := by decide +kernel
theorem dL_isLine_39 : decode cL_isLine 39 = .ok (.ireturn, 1) := by decide +kernel
theorem dL_written_0 : decode cL_written 0 = .ok (.iload_n 1, 1) := by decide +kernel
theorem dL_written_1 : decode cL_written 1 = .ok (.sipush (-30000), 3) := by decide +kernel
theorem dL_written_4 : decode cL_written 4 = .ok (.if_icmp .ne 8, 3) := by decide +kernel
theorem dL_written_7 : decode cL_written 7 = .ok (.ldc 138, 2) := by decide +kernel
theorem dL_written_9 : decode cL_written 9 = .ok (.goto 64, 3) := by decide +kernel
theorem dL_written_12 : decode cL_written 12 = .ok (.new 140, 3) := by decide +kernel
theorem dL_written_15 : decode cL_written 15 = .ok (.dup, 1) := by decide +kernel
theorem dL_written_16 : decode cL_written 16 = .ok (.invokespecial 142, 3) := by decide +kernel
theorem dL_written_19 : decode cL_written 19 = .ok (.ldc 143, 2) := by decide +kernel
theorem dL_written_21 : decode cL_written 21 = .ok (.invokevirtual 145, 3) := by decide +kernel
theorem dL_written_24 : decode cL_written 24 = .ok (.aload_n 0, 1) := by decide +kernel
theorem dL_written_25 : decode cL_written 25 = .ok (.aload_n 0, 1) := by decide +kernel
theorem dL_written_26 : decode cL_written 26 = .ok (.iload_n 1, 1) := by decide +kernel
theorem dL_written_27 : decode cL_written 27 = .ok (.invokestatic 149, 3) := by decide +kernel
theorem dL_written_30 : decode cL_written 30 = .ok (.invokestatic 151, 3) := by decide +kernel
theorem dL_written_33 : decode cL_written 33 = .ok (.invokevirtual 145, 3) := by decide +kernel
theorem dL_written_36 : decode cL_written 36 = .ok (.iload_n 1, 1) := by decide +kernel
theorem dL_written_37 : decode cL_written 37 = .ok (.invokevirtual 155, 3) := by decide +kernel
theorem dL_written_40 : decode cL_written 40 = .ok (.ldc 158, 2) := by decide +kernel
theorem dL_written_42 : decode cL_written 42 = .ok (.invokevirtual 145, 3) := by decide +kernel
theorem dL_written_45 : decode cL_written 45 = .ok (.aload_n 0, 1) := by decide +kernel
theorem dL_written_46 : decode cL_written 46 = .ok (.iload_n 1, 1) := by decide +kernel
theorem dL_written_47 : decode cL_written 47 = .ok (.invokevirtual 123, 3) := by decide +kernel
theorem dL_written_50 : decode cL_written 50 = .ok (.invokevirtual 155, 3) := by decide +kernel
theorem dL_written_53 : decode cL_written 53 = .ok (.aload_n 0, 1) := by decide +kernel
theorem dL_written_54 : decode cL_written 54 = .ok (.aload_n 0, 1) := by decide +kernel
theorem dL_written_55 : decode cL_written 55 = .ok (.iload_n 1, 1) := by decide +kernel
theorem dL_written_56 : decode cL_written 56 = .ok (.invokestatic 160, 3) := by decide +kernel
theorem dL_written_59 : decode cL_written 59 = .ok (.invokestatic 151, 3) := by decide +kernel
theorem dL_written_62 : decode cL_written 62 = .ok (.invokevirtual 145, 3) := by decide +kernel
theorem dL_written_65 : decode cL_written 65 = .ok (.ldc 162, 2) := by decide +kernel
theorem dL_written_67 : decode cL_written 67 = .ok (.invokevirtual 145, 3) := by decide +kernel
theorem dL_written_70 : decode cL_written 70 = .ok (.invokevirtual 164, 3) := by decide +kernel
theorem dL_written_73 : decode cL_written 73 = .ok (.areturn, 1) := by decide +kernel
