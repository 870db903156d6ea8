theorem dL_law_3087 : decode cL_law 3087 = .ok (.lcmp, 1) := by decide +kernel
theorem dL_law_3088 : decode cL_law 3088 = .ok (.ifCond .eq 5, 3) := by decide +kernel
theorem dL_law_3091 : decode cL_law 3091 = .ok (.iconst 0, 1) := by decide +kernel
theorem dL_law_3092 : decode cL_law 3092 = .ok (.ireturn, 1) := by decide +kernel
theorem dL_law_3093 : decode cL_law 3093 = .ok (.goto 324, 3) := by decide +kernel
theorem dL_law_3096 : decode cL_law 3096 = .ok (.aload_n 1, 1) := by decide +kernel
theorem dL_law_3097 : decode cL_law 3097 = .ok (.aload_n 3, 1) := by decide +kernel
theorem dL_law_3098 : decode cL_law 3098 = .ok (.invokestatic 361, 3) := by decide +kernel
theorem dL_law_3101 : decode cL_law 3101 = .ok (.istore 6, 2) := by decide +kernel
theorem dL_law_3103 : decode cL_law 3103 = .ok (.aload_n 2, 1) := by decide +kernel
theorem dL_law_3104 : decode cL_law 3104 = .ok (.invokevirtual 363, 3) := by decide +kernel
theorem dL_law_3107 : decode cL_law 3107 = .ok (.istore 7, 2) := by decide +kernel
theorem dL_law_3109 : decode cL_law 3109 = .ok (.aload_n 2, 1) := by decide +kernel
theorem dL_law_3110 : decode cL_law 3110 = .ok (.invokevirtual 193, 3) := by decide +kernel
theorem dL_law_3113 : decode cL_law 3113 = .ok (.iload 6, 2) := by decide +kernel
theorem dL_law_3115 : decode cL_law 3115 = .ok (.if_icmp .eq 5, 3) := by decide +kernel
theorem dL_law_3118 : decode cL_law 3118 = .ok (.iconst 0, 1) := by decide +kernel
theorem dL_law_3119 : decode cL_law 3119 = .ok (.ireturn, 1) := by decide +kernel
theorem dL_law_3120 : decode cL_law 3120 = .ok (.iload 6, 2) := by decide +kernel
theorem dL_law_3122 : decode cL_law 3122 = .ok (.ifCond .ne 15, 3) := by decide +kernel
theorem dL_law_3125 : decode cL_law 3125 = .ok (.aload_n 3, 1) := by decide +kernel
theorem dL_law_3126 : decode cL_law 3126 = .ok (.iconst 0, 1) := by decide +kernel
theorem dL_law_3127 : decode cL_law 3127 = .ok (.laload, 1) := by decide +kernel
theorem dL_law_3128 : decode cL_law 3128 = .ok (.iload 7, 2) := by decide +kernel
theorem dL_law_3130 : decode cL_law 3130 = .ok (.i2l, 1) := by decide +kernel
theorem dL_law_3131 : decode cL_law 3131 = .ok (.lcmp, 1) := by decide +kernel
theorem dL_law_3132 : decode cL_law 3132 = .ok (.ifCond .eq 5, 3) := by decide +kernel
theorem dL_law_3135 : decode cL_law 3135 = .ok (.iconst 0, 1) := by decide +kernel
theorem dL_law_3136 : decode cL_law 3136 = .ok (.ireturn, 1) := by decide +kernel
theorem dL_law_3137 : decode cL_law 3137 = .ok (.goto 280, 3) := by decide +kernel
theorem dL_law_3140 : decode cL_law 3140 = .ok (.aload_n 1, 1) := by decide +kernel
theorem dL_law_3141 : decode cL_law 3141 = .ok (.aload_n 3, 1) := by decide +kernel
theorem dL_law_3142 : decode cL_law 3142 = .ok (.invokestatic 364, 3) := by decide +kernel
theorem dL_law_3145 : decode cL_law 3145 = .ok (.istore 6, 2) := by decide +kernel
theorem dL_law_3147 : decode cL_law 3147 = .ok (.aload_n 2, 1) := by decide +kernel
theorem dL_law_3148 : decode cL_law 3148 = .ok (.invokevirtual 366, 3) := by decide +kernel
theorem dL_law_3151 : decode cL_law 3151 = .ok (.istore 7, 2) := by decide +kernel
theorem dL_law_3153 : decode cL_law 3153 = .ok (.aload_n 2, 1) := by decide +kernel
theorem dL_law_3154 : decode cL_law 3154 = .ok (.invokevirtual 193, 3) := by decide +kernel
theorem dL_law_3157 : decode cL_law 3157 = .ok (.iload 6, 2) := by decide +kernel
theorem dL_law_3159 : decode cL_law 3159 = .ok (.if_icmp .eq 5, 3) := by decide +kernel
theorem dL_law_3162 : decode cL_law 3162 = .ok (.iconst 0, 1) := by decide +kernel
theorem dL_law_3163 : decode cL_law 3163 = .ok (.ireturn, 1) := by decide +kernel
theorem dL_law_3164 : decode cL_law 3164 = .ok (.iload 6, 2) := by decide +kernel
theorem dL_law_3166 : decode cL_law 3166 = .ok (.ifCond .ne 15, 3) := by decide +kernel
theorem dL_law_3169 : decode cL_law 3169 = .ok (.aload_n 3, 1) := by decide +kernel
theorem dL_law_3170 : decode cL_law 3170 = .ok (.iconst 0, 1) := by decide +kernel
theorem dL_law_3171 : decode cL_law 3171 = .ok (.laload, 1) := by decide +kernel
theorem dL_law_3172 : decode cL_law 3172 = .ok (.iload 7, 2) := by decide +kernel
theorem dL_law_3174 : decode cL_law 3174 = .ok (.i2l, 1) := by decide +kernel
theorem dL_law_3175 : decode cL_law 3175 = .ok (.lcmp, 1) := by decide +kernel
theorem dL_law_3176 : decode cL_law 3176 = .ok (.ifCond .eq 5, 3) := by decide +kernel
theorem dL_law_3179 : decode cL_law 3179 = .ok (.iconst 0, 1) := by decide +kernel
theorem dL_law_3180 : decode cL_law 3180 = .ok (.ireturn, 1) := by decide +kernel
theorem dL_law_3181 : decode cL_law 3181 = .ok (.goto 236, 3) := by decide +kernel
theorem dL_law_3184 : decode cL_law 3184 = .ok (.aload_n 1, 1) := by decide +kernel
theorem dL_law_3185 : decode cL_law 3185 = .ok (.aload_n 3, 1) := by decide +kernel
theorem dL_law_3186 : decode cL_law 3186 = .ok (.invokestatic 367, 3) := by decide +kernel
theorem dL_law_3189 : decode cL_law 3189 = .ok (.istore 6, 2) := by decide +kernel
theorem dL_law_3191 : decode cL_law 3191 = .ok (.aload_n 2, 1) := by decide +kernel
theorem dL_law_3192 : decode cL_law 3192 = .ok (.invokevirtual 369, 3) := by decide +kernel
theorem dL_law_3195 : decode cL_law 3195 = .ok (.istore 7, 2) := by decide +kernel
theorem dL_law_3197 : decode cL_law 3197 = .ok (.aload_n 2, 1) := by decide +kernel
theorem dL_law_3198 : decode cL_law 3198 = .ok (.invokevirtual 193, 3) := by decide +kernel
theorem dL_law_3201 : decode cL_law 3201 = .ok (.iload 6, 2) := by decide +kernel
theorem dL_law_3203 : decode cL_law 3203 = .ok (.if_icmp .eq 5, 3) := by decide +kernel
theorem dL_law_3206 : decode cL_law 3206 = .ok (.iconst 0, 1) := by decide +kernel
theorem dL_law_3207 : decode cL_law 3207 = .ok (.ireturn, 1) := by decide +kernel
theorem dL_law_3208 : decode cL_law 3208 = .ok (.iload 6, 2) := by decide +kernel
theorem dL_law_3210 : decode cL_law 3210 = .ok (.ifCond .ne 15, 3) := by decide +kernel
theorem dL_law_3213 : decode cL_law 3213 = .ok (.aload_n 3, 1) := by decide +kernel
theorem dL_law_3214 : decode cL_law 3214 = .ok (.iconst 0, 1) := by decide +kernel
theorem dL_law_3215 : decode cL_law 3215 = .ok (.laload, 1) := by decide +kernel
theorem dL_law_3216 : decode cL_law 3216 = .ok (.iload 7, 2) := by decide +kernel
theorem dL_law_3218 : decode cL_law 3218 = .ok (.i2l, 1) := by decide +kernel
theorem dL_law_3219 : decode cL_law 3219 = .ok (.lcmp, 1) := by decide +kernel
theorem dL_law_3220 : decode cL_law 3220 = .ok (.ifCond .eq 5, 3) := by decide +kernel
theorem dL_law_3223 : decode cL_law 3223 = .ok (.iconst 0, 1) := by decide +kernel
theorem dL_law_3224 : decode cL_law 3224 = .ok (.ireturn, 1) := by decide +kernel
theorem dL_law_3225 : decode cL_law 3225 = .ok (.goto 192, 3) := by decide +kernel
theorem dL_law_3228 : decode cL_law 3228 = .ok (.aload_n 1, 1) := by decide +kernel
theorem dL_law_3229 : decode cL_law 3229 = .ok (.aload_n 3, 1) := by decide +kernel
theorem dL_law_3230 : decode cL_law 3230 = .ok (.invokestatic 370, 3) := by decide +kernel
theorem dL_law_3233 : decode cL_law 3233 = .ok (.istore 6, 2) := by decide +kernel
theorem dL_law_3235 : decode cL_law 3235 = .ok (.aload_n 2, 1) := by decide +kernel
theorem dL_law_3236 : decode cL_law 3236 = .ok (.invokevirtual 372, 3) := by decide +kernel
theorem dL_law_3239 : decode cL_law 3239 = .ok (.istore 7, 2) := by decide +kernel
theorem dL_law_3241 : decode cL_law 3241 = .ok (.aload_n 2, 1) := by decide +kernel
theorem dL_law_3242 : decode cL_law 3242 = .ok (.invokevirtual 193, 3) := by decide +kernel
theorem dL_law_3245 : decode cL_law 3245 = .ok (.iload 6, 2) := by decide +kernel
theorem dL_law_3247 : decode cL_law 3247 = .ok (.if_icmp .eq 5, 3) := by decide +kernel
theorem dL_law_3250 : decode cL_law 3250 = .ok (.iconst 0, 1) := by decide +kernel
theorem dL_law_3251 : decode cL_law 3251 = .ok (.ireturn, 1) := by decide +kernel
theorem dL_law_3252 : decode cL_law 3252 = .ok (.iload 6, 2) := by decide +kernel
theorem dL_law_3254 : decode cL_law 3254 = .ok (.ifCond .ne 15, 3) := by decide +kernel
theorem dL_law_3257 : decode cL_law 3257 = .ok (.aload_n 3, 1) := by decide +kernel
theorem dL_law_3258 : decode cL_law 3258 = .ok (.iconst 0, 1) := by decide +kernel
theorem dL_law_3259 : decode cL_law 3259 = .ok (.laload, 1) := by decide +kernel
theorem dL_law_3260 : decode cL_law 3260 = .ok (.iload 7, 2) := by decide +kernel
theorem dL_law_3262 : decode cL_law 3262 = .ok (.i2l, 1) := by decide +kernel
theorem dL_law_3263 : decode cL_law 3263 = .ok (.lcmp, 1) := by decide +kernel
theorem dL_law_3264 : decode cL_law 3264 = .ok (.ifCond .eq 5, 3) := by decide +kernel
theorem dL_law_3267 : decode cL_law 3267 = .ok (.iconst 0, 1) := by decide +kernel
theorem dL_law_3268 : decode cL_law 3268 = .ok (.ireturn, 1) := by decide +kernel
theorem dL_law_3269 : decode cL_law 3269 = .ok (.goto 148, 3) := by decide +kernel
theorem dL_law_3272 : decode cL_law 3272 = .ok (.aload_n 1, 1) := by decide +kernel
theorem dL_law_3273 : decode cL_law 3273 = .ok (.aload_n 3, 1) := by decide +kernel
theorem dL_law_3274 : decode cL_law 3274 = .ok (.invokestatic 373, 3) := by decide +kernel
theorem dL_law_3277 : decode cL_law 3277 = .ok (.istore 6, 2) := by decide +kernel
theorem dL_law_3279 : decode cL_law 3279 = .ok (.aload_n 2, 1) := by decide +kernel
theorem dL_law_3280 : decode cL_law 3280 = .ok (.invokevirtual 375, 3) := by decide +kernel
theorem dL_law_3283 : decode cL_law 3283 = .ok (.istore 7, 2) := by decide +kernel
theorem dL_law_3285 : decode cL_law 3285 = .ok (.aload_n 2, 1) := by decide +kernel
theorem dL_law_3286 : decode cL_law 3286 = .ok (.invokevirtual 193, 3) := by decide +kernel
theorem dL_law_3289 : decode cL_law 3289 = .ok (.iload 6, 2) := by decide +kernel
theorem dL_law_3291 : decode cL_law 3291 = .ok (.if_icmp .eq 5, 3) := by decide +kernel
theorem dL_law_3294 : decode cL_law 3294 = .ok (.iconst 0, 1) := by decide +kernel
theorem dL_law_3295 : decode cL_law 3295 = .ok (.ireturn, 1) := by decide +kernel
theorem dL_law_3296 : decode cL_law 3296 = .ok (.iload 6, 2) := by decide +kernel
theorem dL_law_3298 : decode cL_law 3298 = .ok (.ifCond .ne 15, 3) := by decide +kernel
theorem dL_law_3301 : decode cL_law 3301 = .ok (.aload_n 3, 1) := by decide +kernel
theorem dL_law_3302 : decode cL_law 3302 = .ok (.iconst 0, 1) := by decide +kernel
theorem dL_law_3303 : decode cL_law 3303 = .ok (.laload, 1) := by decide +kernel
theorem dL_law_3304 : decode cL_law 3304 = .ok (.iload 7, 2) := by decide +kernel
theorem dL_law_3306 : decode cL_law 3306 = .ok (.i2l, 1) := by decide +kernel
theorem dL_law_3307 : decode cL_law 3307 = .ok (.lcmp, 1) := by decide +kernel
theorem dL_law_3308 : decode cL_law 3308 = .ok (.ifCond .eq 5, 3) := by decide +kernel
theorem dL_law_3311 : decode cL_law 3311 = .ok (.iconst 0, 1) := by decide +kernel
theorem dL_law_3312 : decode cL_law 3312 = .ok (.ireturn, 1) := by decide +kernel
theorem dL_law_3313 : decode cL_law 3313 = .ok (.goto 104, 3) := by decide +kernel
theorem dL_law_3316 : decode cL_law 3316 = .ok (.aload_n 1, 1) := by decide +kernel
theorem dL_law_3317 : decode cL_law 3317 = .ok (.aload_n 3, 1) := by decide +kernel
theorem dL_law_3318 : decode cL_law 3318 = .ok (.invokestatic 376, 3) := by decide +kernel
theorem dL_law_3321 : decode cL_law 3321 = .ok (.istore 6, 2) := by decide +kernel
theorem dL_law_3323 : decode cL_law 3323 = .ok (.aload_n 2, 1) := by decide +kernel
theorem dL_law_3324 : decode cL_law 3324 = .ok (.invokevirtual 378, 3) := by decide +kernel
theorem dL_law_3327 : decode cL_law 3327 = .ok (.istore 7, 2) := by decide +kernel
theorem dL_law_3329 : decode cL_law 3329 = .ok (.aload_n 2, 1) := by decide +kernel
theorem dL_law_3330 : decode cL_law 3330 = .ok (.invokevirtual 193, 3) := by decide +kernel
theorem dL_law_3333 : decode cL_law 3333 = .ok (.iload 6, 2) := by decide +kernel
theorem dL_law_3335 : decode cL_law 3335 = .ok (.if_icmp .eq 5, 3) := by decide +kernel
theorem dL_law_3338 : decode cL_law 3338 = .ok (.iconst 0, 1) := by decide +kernel
theorem dL_law_3339 : decode cL_law 3339 = .ok (.ireturn, 1) := by decide +kernel
theorem dL_law_3340 : decode cL_law 3340 = .ok (.iload 6, 2) := by decide +kernel
theorem dL_law_3342 : decode cL_law 3342 = .ok (.ifCond .ne 15, 3) := by decide +kernel
theorem dL_law_3345 : decode cL_law 3345 = .ok (.aload_n 3, 1) := by decide +kernel
theorem dL_law_3346 : decode cL_law 3346 = .ok (.iconst 0, 1) := by decide +kernel
theorem dL_law_3347 : decode cL_law 3347 = .ok (.laload, 1) := by decide +kernel
theorem dL_law_3348 : decode cL_law 3348 = .ok (.iload 7, 2) := by decide +kernel
theorem dL_law_3350 : decode cL_law 3350 = .ok (.i2l, 1) := by decide +kernel
theorem dL_law_3351 : decode cL_law 3351 = .ok (.lcmp, 1) := by decide +kernel
theorem dL_law_3352 : decode cL_law 3352 = .ok (.ifCond .eq 5, 3) := by decide +kernel
theorem dL_law_3355 : decode cL_law 3355 = .ok (.iconst 0, 1) := by decide +kernel
theorem dL_law_3356 : decode cL_law 3356 = .ok (.ireturn, 1) := by decide +kernel
theorem dL_law_3357 : decode cL_law 3357 = .ok (.goto 60, 3) := by decide +kernel
theorem dL_law_3360 : decode cL_law 3360 = .ok (.aload_n 1, 1) := by decide +kernel
theorem dL_law_3361 : decode cL_law 3361 = .ok (.invokevirtual 379, 3) := by decide +kernel
theorem dL_law_3364 : decode cL_law 3364 = .ok (.aload_n 2, 1) := by decide +kernel
theorem dL_law_3365 : decode cL_law 3365 = .ok (.invokevirtual 382, 3) := by decide +kernel
theorem dL_law_3368 : decode cL_law 3368 = .ok (.if_icmp .eq 49, 3) := by decide +kernel
theorem dL_law_3371 : decode cL_law 3371 = .ok (.iconst 0, 1) := by decide +kernel
theorem dL_law_3372 : decode cL_law 3372 = .ok (.ireturn, 1) := by decide +kernel
theorem dL_law_3373 : decode cL_law 3373 = .ok (.aload_n 1, 1) := by decide +kernel
theorem dL_law_3374 : decode cL_law 3374 = .ok (.aload_n 3, 1) := by decide +kernel
theorem dL_law_3375 : decode cL_law 3375 = .ok (.invokestatic 383, 3) := by decide +kernel
theorem dL_law_3378 : decode cL_law 3378 = .ok (.istore 6, 2) := by decide +kernel
theorem dL_law_3380 : decode cL_law 3380 = .ok (.aload_n 2, 1) := by decide +kernel
theorem dL_law_3381 : decode cL_law 3381 = .ok (.invokevirtual 385, 3) := by decide +kernel
theorem dL_law_3384 : decode cL_law 3384 = .ok (.istore 7, 2) := by decide +kernel
theorem dL_law_3386 : decode cL_law 3386 = .ok (.aload_n 2, 1) := by decide +kernel
theorem dL_law_3387 : decode cL_law 3387 = .ok (.invokevirtual 193, 3) := by decide +kernel
theorem dL_law_3390 : decode cL_law 3390 = .ok (.iload 6, 2) := by decide +kernel
theorem dL_law_3392 : decode cL_law 3392 = .ok (.if_icmp .eq 5, 3) := by decide +kernel
theorem dL_law_3395 : decode cL_law 3395 = .ok (.iconst 0, 1) := by decide +kernel
theorem dL_law_3396 : decode cL_law 3396 = .ok (.ireturn, 1) := by decide +kernel
theorem dL_law_3397 : decode cL_law 3397 = .ok (.iload 6, 2) := by decide +kernel
theorem dL_law_3399 : decode cL_law 3399 = .ok (.ifCond .ne 15, 3) := by decide +kernel
theorem dL_law_3402 : decode cL_law 3402 = .ok (.aload_n 3, 1) := by decide +kernel
theorem dL_law_3403 : decode cL_law 3403 = .ok (.iconst 0, 1) := by decide +kernel
theorem dL_law_3404 : decode cL_law 3404 = .ok (.laload, 1) := by decide +kernel
theorem dL_law_3405 : decode cL_law 3405 = .ok (.iload 7, 2) := by decide +kernel
theorem dL_law_3407 : decode cL_law 3407 = .ok (.i2l, 1) := by decide +kernel
theorem dL_law_3408 : decode cL_law 3408 = .ok (.lcmp, 1) := by decide +kernel
theorem dL_law_3409 : decode cL_law 3409 = .ok (.ifCond .eq 5, 3) := by decide +kernel
theorem dL_law_3412 : decode cL_law 3412 = .ok (.iconst 0, 1) := by decide +kernel
theorem dL_law_3413 : decode cL_law 3413 = .ok (.ireturn, 1) := by decide +kernel
theorem dL_law_3414 : decode cL_law 3414 = .ok (.goto 3, 3) := by decide +kernel
theorem dL_law_3417 : decode cL_law 3417 = .ok (.iinc 5 6, 3) := by decide +kernel
theorem dL_law_3420 : decode cL_law 3420 = .ok (.goto (-3392), 3) := by decide +kernel
theorem dL_law_3423 : decode cL_law 3423 = .ok (.iconst 1, 1) := by decide +kernel
theorem dL_law_3424 : decode cL_law 3424 = .ok (.ireturn, 1) := by decide +kernel
