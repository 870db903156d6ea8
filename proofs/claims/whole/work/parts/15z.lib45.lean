theorem pq_apA {X B1 B2 : va_W} (h1 : pq_ap X B1) (h2 : pq_ap X B2) : pq_ap X (B1 ++ B2) := fun p hp q hq => (List.mem_append.mp hq).elim (h1 p hp q) (h2 p hp q)
theorem pq_apl1 {X1 X2 Y : va_W} (h : pq_ap (X1 ++ X2) Y) : pq_ap X1 Y := fun p hp q hq => h p (List.mem_append_left _ hp) q hq
theorem pq_apl2 {X1 X2 Y : va_W} (h : pq_ap (X1 ++ X2) Y) : pq_ap X2 Y := fun p hp q hq => h p (List.mem_append_right _ hp) q hq
