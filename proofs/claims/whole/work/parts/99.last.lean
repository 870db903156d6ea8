theorem t1 : (vx_atS RX6 212 "java/lang/IllegalArgumentException" ["java/lang/RuntimeException", "java/lang/Exception"]).all (fun w => vx_ot w) = true := by decide +kernel
theorem t2 : ((vx_atS RX6 212 "java/lang/IllegalArgumentException" ["java/lang/RuntimeException", "java/lang/Exception"]).filter (fun w => !goodWord w)).length = 0 := by decide +kernel
theorem t3 : ((vx_atS RX6 212 "java/lang/IllegalArgumentException" ["java/lang/RuntimeException", "java/lang/Exception"])).length = 33 := by decide +kernel
theorem t4 : (vx_atS RX6 212 "java/lang/IllegalArgumentException" ["java/lang/RuntimeException", "java/lang/Exception"]).all (fun w => decide (w ∈ lw_tbl)) = true := by decide +kernel
