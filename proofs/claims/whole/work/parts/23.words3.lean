set_option maxRecDepth 100000 in
theorem vt_69_73 : pq_Tw 69 73 "java/lang/UnsupportedOperationException" := ⟨by decide, by decide +kernel, pq_in 564 (by decide +kernel) (by decide +kernel), pq_in 91 (by decide +kernel) (by decide +kernel), by decide +kernel, by decide +kernel⟩
set_option maxRecDepth 100000 in
theorem vt_208_212 : pq_Tw 208 212 "java/lang/IllegalArgumentException" := ⟨by decide, by decide +kernel, pq_in 468 (by decide +kernel) (by decide +kernel), pq_in 90 (by decide +kernel) (by decide +kernel), by decide +kernel, by decide +kernel⟩
set_option maxRecDepth 100000 in
theorem vt_249_253 : pq_Tw 249 253 "java/lang/ArithmeticException" := ⟨by decide, by decide +kernel, pq_in 1099 (by decide +kernel) (by decide +kernel), pq_in 97 (by decide +kernel) (by decide +kernel), by decide +kernel, by decide +kernel⟩
set_option maxRecDepth 100000 in
theorem vt_282_286 : pq_Tw 282 286 "java/lang/IndexOutOfBoundsException" := ⟨by decide, by decide +kernel, pq_in 992 (by decide +kernel) (by decide +kernel), pq_in 94 (by decide +kernel) (by decide +kernel), by decide +kernel, by decide +kernel⟩
set_option maxRecDepth 100000 in
theorem vt_295_299 : pq_Tw 295 299 "java/lang/IllegalStateException" := ⟨by decide, by decide +kernel, pq_in 1146 (by decide +kernel) (by decide +kernel), pq_in 98 (by decide +kernel) (by decide +kernel), by decide +kernel, by decide +kernel⟩
set_option maxRecDepth 100000 in
theorem vt_334_338 : pq_Tw 334 338 "java/util/NoSuchElementException" := ⟨by decide, by decide +kernel, pq_in 634 (by decide +kernel) (by decide +kernel), pq_in 92 (by decide +kernel) (by decide +kernel), by decide +kernel, by decide +kernel⟩
