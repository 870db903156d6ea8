set_option maxRecDepth 100000 in
theorem vt_69_73 : pq_Tw 69 73 "java/lang/UnsupportedOperationException" := ⟨by decide, by decide +kernel, pq_in 566 (by decide +kernel) (by decide +kernel), pq_in 88 (by decide +kernel) (by decide +kernel), by decide +kernel, by decide +kernel⟩
set_option maxRecDepth 100000 in
theorem vt_208_212 : pq_Tw 208 212 "java/lang/IllegalArgumentException" := ⟨by decide, by decide +kernel, pq_in 470 (by decide +kernel) (by decide +kernel), pq_in 87 (by decide +kernel) (by decide +kernel), by decide +kernel, by decide +kernel⟩
set_option maxRecDepth 100000 in
theorem vt_249_253 : pq_Tw 249 253 "java/lang/ArithmeticException" := ⟨by decide, by decide +kernel, pq_in 1098 (by decide +kernel) (by decide +kernel), pq_in 94 (by decide +kernel) (by decide +kernel), by decide +kernel, by decide +kernel⟩
set_option maxRecDepth 100000 in
theorem vt_283_287 : pq_Tw 283 287 "java/lang/IndexOutOfBoundsException" := ⟨by decide, by decide +kernel, pq_in 991 (by decide +kernel) (by decide +kernel), pq_in 91 (by decide +kernel) (by decide +kernel), by decide +kernel, by decide +kernel⟩
set_option maxRecDepth 100000 in
theorem vt_296_300 : pq_Tw 296 300 "java/lang/IllegalStateException" := ⟨by decide, by decide +kernel, pq_in 1145 (by decide +kernel) (by decide +kernel), pq_in 95 (by decide +kernel) (by decide +kernel), by decide +kernel, by decide +kernel⟩
set_option maxRecDepth 100000 in
theorem vt_335_339 : pq_Tw 335 339 "java/util/NoSuchElementException" := ⟨by decide, by decide +kernel, pq_in 636 (by decide +kernel) (by decide +kernel), pq_in 89 (by decide +kernel) (by decide +kernel), by decide +kernel, by decide +kernel⟩
