set_option maxRecDepth 100000 in
theorem vt_69_73 : pq_Tw 69 73 "java/lang/UnsupportedOperationException" := ⟨by decide, by decide +kernel, pq_in 804 (by decide +kernel) (by decide +kernel), pq_in 29 (by decide +kernel) (by decide +kernel), by decide +kernel, by decide +kernel⟩
set_option maxRecDepth 100000 in
theorem vt_208_212 : pq_Tw 208 212 "java/lang/IllegalArgumentException" := ⟨by decide, by decide +kernel, pq_in 444 (by decide +kernel) (by decide +kernel), pq_in 28 (by decide +kernel) (by decide +kernel), by decide +kernel, by decide +kernel⟩
set_option maxRecDepth 100000 in
theorem vt_249_253 : pq_Tw 249 253 "java/lang/ArithmeticException" := ⟨by decide, by decide +kernel, pq_in 578 (by decide +kernel) (by decide +kernel), pq_in 35 (by decide +kernel) (by decide +kernel), by decide +kernel, by decide +kernel⟩
set_option maxRecDepth 100000 in
theorem vt_283_287 : pq_Tw 283 287 "java/lang/IndexOutOfBoundsException" := ⟨by decide, by decide +kernel, pq_in 518 (by decide +kernel) (by decide +kernel), pq_in 32 (by decide +kernel) (by decide +kernel), by decide +kernel, by decide +kernel⟩
set_option maxRecDepth 100000 in
theorem vt_335_339 : pq_Tw 335 339 "java/util/NoSuchElementException" := ⟨by decide, by decide +kernel, pq_in 238 (by decide +kernel) (by decide +kernel), pq_in 30 (by decide +kernel) (by decide +kernel), by decide +kernel, by decide +kernel⟩
