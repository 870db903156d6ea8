/-! ===== the law's look at one point, 1: its neighbours in the tree ===== -/
set_option maxHeartbeats 8000000 in
set_option maxRecDepth 100000 in
theorem lK_c {p : Program} {l : Launch} {e : Env} {s : State} {m : MethodId} {below : List Frame} {meth : Method} {c : Code} {H : Heap} {locs : List Loc} {cells0 slots0 : Nat} {Q : State → Prop} {A : Nat → Prop} {g : pq_g} {ad av : Nat → Nat} {sb L : Nat} {xs : Nat → Int32} {E : va_W} {a : Nat → Nat} {T : MainS} {ls : Array Slot} {R : Room} (C0 : lwC p l s m #[.ref sb] c cL_law 21 A g ad av [] sb L xs) (hR : 64 ≤ R.frames ∧ 6000 ≤ R.locals) (hL : L < 2 ^ 31) {t : Tr} (hw : WF T.1.1 t) {k : Nat} (hk : k < t.size) {rt dp lf mh tn P : Int32} (hrt : rt = nI (kN T.1.1 t t.rt0)) (hP9 : (k = t.rt0 ∧ P = -30000 ∧ t.dep k = 0) ∨ ∃ p, p < t.size ∧ t.ch p k ∧ P = nI (kN T.1.1 t p) ∧ k ≠ t.rt0) (M0 : lwM g a T E A s H locs) (hf : cells0 + 60 ≤ R.cells ∧ slots0 + 360 ≤ R.slots) (hl : lv_has ls 21 [(17, .int (nI (t.zr k))), (16, .int (nI (t.zl k))), (15, .int 0), (14, .int (nI (t.sz k))), (13, .int (nI (t.dep k))), (12, .int P), (11, .int (keyR T.1.1 t k)), (10, .int (keyL T.1.1 t k)), (9, .int (nI (kN T.1.1 t k))), (8, .int (nI k)), (7, .int rt), (6, .int dp), (5, .int lf), (4, .int mh), (3, .int (nI t.size)), (2, .int tn), (1, .ref (a 0)), (0, .ref sb)]) (kk : ∀ (H : Heap) (locs : List Loc) (cells slots : Nat), lwM g a T E A s H locs → cells ≤ cells0 + 60 → slots ≤ slots0 + 360 → W p l e R s m #[.ref sb] below meth c H locs cells slots Q (F0 m 430 ls [])) : W p l e R s m #[.ref sb] below meth c H locs cells0 slots0 Q (F0 m 140 ls []) := by
  obtain ⟨hx, hb, hml, hown, hts⟩ := id C0.1
  have h24 := hw.le
  have k99 := (kN_ok hw hk).2
  have hz := sz_lr hk
  have J158 : ∀ (H : Heap) (locs : List Loc) (cells slots : Nat), lwM g a T E A s H locs → cells ≤ cells0 + 1 → slots ≤ slots0 + 6 → W p l e R s m #[.ref sb] below meth c H locs cells slots Q (F0 m 158 ls []) := by
    intro H locs cells slots M0 hc9 hs9
    refine lv_aload_n hx hb dL_law_158 rfl (lv_at hl 16 rfl) ?_
    refine lv_iload hx hb dL_law_159 (lv_at hl 8 rfl) ?_
    refine mR C0 M0 (c_X6_contains l g a T (nI (kN T.1.1 t k)) (1) (a_contains hw hk)) vv_L_184 (rest := []) rfl rfl hl.1 (Nat.le_of_ble_eq_true rfl) dL_law_161 ⟨by omega, by omega⟩ ⟨by omega, by omega⟩ ?_
    refine lv_if_eq (tgt := 428) hx hb dL_law_164 (by decide) (fun h9 => absurd h9 (by decide)) (fun _ => ?_)
    refine lv_aload_n hx hb dL_law_167 rfl (lv_at hl 16 rfl) ?_
    refine lv_iload hx hb dL_law_168 (lv_at hl 8 rfl) ?_
    refine mX C0 M0 (c_X6_hasLeft l g a T (nI (kN T.1.1 t k)) C0.2.2.2.2 (.inr (if t.fi k < k then 1 else 0)) T (a_hasLeft hw hk)) vv_L_188 (rest := []) rfl rfl hl.1 (Nat.le_of_ble_eq_true rfl) dL_law_170 ⟨by omega, by omega⟩ ⟨by omega, by omega⟩ (fun H locs M0 => ?_)
    have J189 : ∀ (H : Heap) (locs : List Loc) (cells slots : Nat), lwM g a T E A s H locs → cells ≤ cells0 + 2 → slots ≤ slots0 + 12 → W p l e R s m #[.ref sb] below meth c H locs cells slots Q (F0 m 189 ls []) := by
      intro H locs cells slots M0 hc9 hs9
      refine lv_aload_n hx hb dL_law_189 rfl (lv_at hl 16 rfl) ?_
      refine lv_iload hx hb dL_law_190 (lv_at hl 8 rfl) ?_
      refine mX C0 M0 (c_X6_hasRight l g a T (nI (kN T.1.1 t k)) C0.2.2.2.2 (.inr (if k < t.la k then 1 else 0)) T (a_hasRight hw hk)) vv_L_191 (rest := []) rfl rfl hl.1 (Nat.le_of_ble_eq_true rfl) dL_law_192 ⟨by omega, by omega⟩ ⟨by omega, by omega⟩ (fun H locs M0 => ?_)
      have J211 : ∀ (H : Heap) (locs : List Loc) (cells slots : Nat), lwM g a T E A s H locs → cells ≤ cells0 + 3 → slots ≤ slots0 + 18 → W p l e R s m #[.ref sb] below meth c H locs cells slots Q (F0 m 211 ls []) := by
        intro H locs cells slots M0 hc9 hs9
        refine lv_iload hx hb dL_law_211 (lv_at hl 7 rfl) ?_
        refine lv_iload hx hb dL_law_213 (lv_at hl 8 rfl) ?_
        refine lv_icmp_ge (tgt := 428) hx hb dL_law_215 (by decide) (fun h9 => absurd h9 (Int32.not_le.mpr (keyL_lt hw hk))) (fun _ => ?_)
        refine lv_iload hx hb dL_law_218 (lv_at hl 6 rfl) ?_
        refine lv_sipush (v := (-30000)) hx hb dL_law_220 (by decide) ?_
        have J233 : ∀ (H : Heap) (locs : List Loc) (cells slots : Nat), lwM g a T E A s H locs → cells ≤ cells0 + 3 → slots ≤ slots0 + 18 → W p l e R s m #[.ref sb] below meth c H locs cells slots Q (F0 m 233 ls []) := by
          intro H locs cells slots M0 hc9 hs9
          refine lv_iload hx hb dL_law_233 (lv_at hl 7 rfl) ?_
          refine lv_sipush (v := (-30000)) hx hb dL_law_235 (by decide) ?_
          have J263 : ∀ (H : Heap) (locs : List Loc) (cells slots : Nat), lwM g a T E A s H locs → cells ≤ cells0 + 7 → slots ≤ slots0 + 42 → W p l e R s m #[.ref sb] below meth c H locs cells slots Q (F0 m 263 ls []) := by
            intro H locs cells slots M0 hc9 hs9
            refine lv_iload hx hb dL_law_263 (lv_at hl 6 rfl) ?_
            refine lv_sipush (v := (-30000)) hx hb dL_law_265 (by decide) ?_
            have J293 : ∀ (H : Heap) (locs : List Loc) (cells slots : Nat), lwM g a T E A s H locs → cells ≤ cells0 + 11 → slots ≤ slots0 + 66 → W p l e R s m #[.ref sb] below meth c H locs cells slots Q (F0 m 293 ls []) := by
              intro H locs cells slots M0 hc9 hs9
              refine lv_iload hx hb dL_law_293 (lv_at hl 3 rfl) ?_
              refine lv_iconst (v := 1) hx hb dL_law_295 (by decide) ?_
              refine lv_iload hx hb dL_law_296 (lv_at hl 1 rfl) ?_
              refine lv_iadd hx hb dL_law_298 ?_
              rw [show ((1 + nI (t.zl k)) : Int32) = (nI (1 + t.zl k)) from nI_add 1 (t.zl k)]
              refine lv_iload hx hb dL_law_299 (lv_at hl 0 rfl) ?_
              refine lv_iadd hx hb dL_law_301 ?_
              rw [show ((nI (1 + t.zl k) + nI (t.zr k)) : Int32) = (nI (t.sz k)) from by rw [nI_add, hz]]
              refine lv_icmp_ne (tgt := 428) hx hb dL_law_302 (by decide) (fun h9 => absurd rfl h9) (fun _ => ?_)
              refine lv_aload_n hx hb dL_law_305 rfl (lv_at hl 16 rfl) ?_
              refine lv_iload hx hb dL_law_306 (lv_at hl 8 rfl) ?_
              refine mX C0 M0 (c_X6_imbalanceOf l g a T (nI (kN T.1.1 t k)) C0.2.2.2.2 (.inr (nI (t.zl k) - nI (t.zr k))) T (a_imbalanceOf hw hk)) vv_L_198 (rest := []) rfl rfl hl.1 (Nat.le_of_ble_eq_true rfl) dL_law_308 ⟨by omega, by omega⟩ ⟨by omega, by omega⟩ (fun H locs M0 => ?_)
              refine lv_iload hx hb dL_law_311 (lv_at hl 1 rfl) ?_
              refine lv_iload hx hb dL_law_313 (lv_at hl 0 rfl) ?_
              refine lv_isub hx hb dL_law_315 ?_
              refine lv_icmp_ne (tgt := 428) hx hb dL_law_316 (by decide) (fun h9 => absurd rfl h9) (fun _ => ?_)
              refine lv_iload hx hb dL_law_319 (lv_at hl 5 rfl) ?_
              refine lv_sipush (v := (-30000)) hx hb dL_law_321 (by decide) ?_
              have J347 : ∀ (H : Heap) (locs : List Loc) (cells slots : Nat), lwM g a T E A s H locs → cells ≤ cells0 + 12 → slots ≤ slots0 + 72 → W p l e R s m #[.ref sb] below meth c H locs cells slots Q (F0 m 347 ls []) := by
                intro H locs cells slots M0 hc9 hs9
                refine lv_iload hx hb dL_law_347 (lv_at hl 4 rfl) ?_
                refine lv_iload hx hb dL_law_349 (lv_at hl 5 rfl) ?_
                refine lv_sipush (v := (-30000)) hx hb dL_law_351 (by decide) ?_
                have J372 : ∀ (H : Heap) (locs : List Loc) (cells slots : Nat), lwM g a T E A s H locs → cells ≤ cells0 + 13 → slots ≤ slots0 + 78 → W p l e R s m #[.ref sb] below meth c H locs cells slots Q (F0 m 372 ls []) := by
                  intro H locs cells slots M0 hc9 hs9
                  refine lv_iload hx hb dL_law_372 (lv_at hl 5 rfl) ?_
                  refine lv_sipush (v := (-30000)) hx hb dL_law_374 (by decide) ?_
                  have J402 : ∀ (H : Heap) (locs : List Loc) (cells slots : Nat), lwM g a T E A s H locs → cells ≤ cells0 + 17 → slots ≤ slots0 + 102 → W p l e R s m #[.ref sb] below meth c H locs cells slots Q (F0 m 402 ls []) := by
                    intro H locs cells slots M0 hc9 hs9
                    refine lv_aload_n hx hb dL_law_402 rfl (lv_at hl 16 rfl) ?_
                    refine lv_iload hx hb dL_law_403 (lv_at hl 8 rfl) ?_
                    refine mR C0 M0 (c_X6_rankOf l g a T (nI (kN T.1.1 t k)) (nI k) (a_rank0 hw hk)) vv_L_201 (rest := []) rfl rfl hl.1 (Nat.le_of_ble_eq_true rfl) dL_law_405 ⟨by omega, by omega⟩ ⟨by omega, by omega⟩ ?_
                    refine lv_iload hx hb dL_law_408 (lv_at hl 9 rfl) ?_
                    refine lv_icmp_ne (tgt := 428) hx hb dL_law_410 (by decide) (fun h9 => absurd rfl h9) (fun _ => ?_)
                    refine lv_aload_n hx hb dL_law_413 rfl (lv_at hl 16 rfl) ?_
                    refine lv_iload hx hb dL_law_414 (lv_at hl 8 rfl) ?_
                    refine lv_iconst (v := 1) hx hb dL_law_416 (by decide) ?_
                    refine lv_iadd hx hb dL_law_417 ?_
                    refine mR C0 M0 (c_X6_rankOf l g a T (nI (kN T.1.1 t k) + 1) (nI (k + 1)) (a_rank1 hw hk)) vv_L_201 (rest := []) rfl rfl hl.1 (Nat.le_of_ble_eq_true rfl) dL_law_418 ⟨by omega, by omega⟩ ⟨by omega, by omega⟩ ?_
                    refine lv_iload hx hb dL_law_421 (lv_at hl 9 rfl) ?_
                    refine lv_iconst (v := 1) hx hb dL_law_423 (by decide) ?_
                    refine lv_iadd hx hb dL_law_424 ?_
                    rw [show ((nI k + 1) : Int32) = (nI (k + 1)) from nI_1 k]
                    refine lv_icmp_eq (tgt := 430) hx hb dL_law_425 (by decide) (fun _ => ?_) (fun h9 => absurd rfl h9)
                    exact kk _ _ _ _ M0 (by omega) (by omega)
                  rcases hP9 with ⟨e1, e2, e3⟩ | ⟨q, hq, hch, e2, e3⟩
                  · refine lv_icmp_eq (tgt := 402) hx hb dL_law_377 (by decide) (fun _ => ?_) (fun h9 => absurd e2 h9)
                    exact J402 _ _ _ _ M0 (by omega) (by omega)
                  · refine lv_icmp_eq (tgt := 402) hx hb dL_law_377 (by decide) (fun h9 => absurd h9 (by rw [e2]; exact no_ne (kN_ok hw hq).2)) (fun _ => ?_)
                    refine lv_aload_n hx hb dL_law_380 rfl (lv_at hl 16 rfl) ?_
                    refine lv_iload hx hb dL_law_381 (lv_at hl 5 rfl) ?_
                    rw [show (P : Int32) = (nI (kN T.1.1 t q)) from e2]
                    refine mH C0 M0 (c_L_leftOf l g a T (nI (kN T.1.1 t q)) C0.2.2.2.2 (keyL T.1.1 t q) T (hh_leftOf hw hq)) vh_L_149 (rest := []) rfl rfl hl.1 (Nat.le_of_ble_eq_true rfl) dL_law_383 ⟨by omega, by omega⟩ ⟨by omega, by omega⟩ (fun H locs M0 => ?_)
                    refine lv_iload hx hb dL_law_386 (lv_at hl 8 rfl) ?_
                    rcases hch with ⟨c1, c2⟩ | ⟨c1, c2⟩
                    · refine lv_icmp_eq (tgt := 402) hx hb dL_law_388 (by decide) (fun _ => ?_) (fun h9 => absurd (by rw [keyL_yes c1, c2]) h9)
                      exact J402 _ _ _ _ M0 (by omega) (by omega)
                    · refine lv_icmp_eq (tgt := 402) hx hb dL_law_388 (by decide) (fun h9 => absurd h9 (fun h8 => Int32.lt_irrefl (Int32.lt_trans (h8 ▸ keyL_lt hw hq) (nI_lt (kN_lt hw (by have := (rp_lt hq c1).2; omega) hk) (by omega))))) (fun _ => ?_)
                      refine lv_aload_n hx hb dL_law_391 rfl (lv_at hl 16 rfl) ?_
                      refine lv_iload hx hb dL_law_392 (lv_at hl 5 rfl) ?_
                      rw [show (P : Int32) = (nI (kN T.1.1 t q)) from e2]
                      refine mH C0 M0 (c_L_rightOf l g a T (nI (kN T.1.1 t q)) C0.2.2.2.2 (keyR T.1.1 t q) T (hh_rightOf hw hq)) vh_L_160 (rest := []) rfl rfl hl.1 (Nat.le_of_ble_eq_true rfl) dL_law_394 ⟨by omega, by omega⟩ ⟨by omega, by omega⟩ (fun H locs M0 => ?_)
                      refine lv_iload hx hb dL_law_397 (lv_at hl 8 rfl) ?_
                      refine lv_icmp_ne (tgt := 428) hx hb dL_law_399 (by decide) (fun h9 => absurd (by rw [keyR_yes c1, c2]) h9) (fun _ => ?_)
                      exact J402 _ _ _ _ M0 (by omega) (by omega)
                rcases hP9 with ⟨e1, e2, e3⟩ | ⟨q, hq, hch, e2, e3⟩
                · refine lv_icmp_ne (tgt := 361) hx hb dL_law_354 (by decide) (fun h9 => absurd e2 h9) (fun _ => ?_)
                  refine lv_iconst (v := 0) hx hb dL_law_357 (by decide) ?_
                  refine lv_goto (tgt := 369) hx hb dL_law_358 (by decide) ?_
                  refine lv_icmp_ne (tgt := 428) hx hb dL_law_369 (by decide) (fun h9 => absurd (by rw [e3]; rfl) h9) (fun _ => ?_)
                  exact J372 _ _ _ _ M0 (by omega) (by omega)
                · refine lv_icmp_ne (tgt := 361) hx hb dL_law_354 (by decide) (fun _ => ?_) (fun h9 => absurd h9 (by rw [e2]; exact no_ne (kN_ok hw hq).2))
                  refine lv_iconst (v := 1) hx hb dL_law_361 (by decide) ?_
                  refine lv_aload_n hx hb dL_law_362 rfl (lv_at hl 16 rfl) ?_
                  refine lv_iload hx hb dL_law_363 (lv_at hl 5 rfl) ?_
                  rw [show (P : Int32) = (nI (kN T.1.1 t q)) from e2]
                  refine mX C0 M0 (c_X6_depthOf l g a T (nI (kN T.1.1 t q)) C0.2.2.2.2 (.inr (nI (t.dep q))) T (a_depthOf hw hq)) vv_L_178 (rest := [.int 1, .int (nI (t.dep k))]) rfl rfl hl.1 (Nat.le_of_ble_eq_true rfl) dL_law_365 ⟨by omega, by omega⟩ ⟨by omega, by omega⟩ (fun H locs M0 => ?_)
                  refine lv_iadd hx hb dL_law_368 ?_
                  rw [show ((1 + nI (t.dep q)) : Int32) = (nI (t.dep k)) from by rw [show (1 : Int32) = nI 1 from rfl, nI_add, (ch_st hq hch).2.1, Nat.add_comm]]
                  refine lv_icmp_ne (tgt := 428) hx hb dL_law_369 (by decide) (fun h9 => absurd rfl h9) (fun _ => ?_)
                  exact J372 _ _ _ _ M0 (by omega) (by omega)
              rcases hP9 with ⟨e1, e2, e3⟩ | ⟨q, hq, hch, e2, e3⟩
              · refine lv_icmp_ne (tgt := 331) hx hb dL_law_324 (by decide) (fun h9 => absurd e2 h9) (fun _ => ?_)
                refine lv_iconst (v := 1) hx hb dL_law_327 (by decide) ?_
                refine lv_goto (tgt := 332) hx hb dL_law_328 (by decide) ?_
                refine lv_iload hx hb dL_law_332 (lv_at hl 8 rfl) ?_
                refine lv_iload hx hb dL_law_334 (lv_at hl 10 rfl) ?_
                refine lv_icmp_ne (tgt := 343) hx hb dL_law_336 (by decide) (fun h9 => absurd (by rw [hrt, e1]) h9) (fun _ => ?_)
                refine lv_iconst (v := 1) hx hb dL_law_339 (by decide) ?_
                refine lv_goto (tgt := 344) hx hb dL_law_340 (by decide) ?_
                refine lv_icmp_ne (tgt := 428) hx hb dL_law_344 (by decide) (fun h9 => absurd rfl h9) (fun _ => ?_)
                exact J347 _ _ _ _ M0 (by omega) (by omega)
              · refine lv_icmp_ne (tgt := 331) hx hb dL_law_324 (by decide) (fun _ => ?_) (fun h9 => absurd h9 (by rw [e2]; exact no_ne (kN_ok hw hq).2))
                refine lv_iconst (v := 0) hx hb dL_law_331 (by decide) ?_
                refine lv_iload hx hb dL_law_332 (lv_at hl 8 rfl) ?_
                refine lv_iload hx hb dL_law_334 (lv_at hl 10 rfl) ?_
                refine lv_icmp_ne (tgt := 343) hx hb dL_law_336 (by decide) (fun _ => ?_) (fun h9 => absurd h9 (by rw [hrt]; exact fun h8 => e3 (kN_inj hw hk (root_pl (by omega)).1 ((nI_eq (by omega) (by have := (kN_ok hw (i := t.rt0) (root_pl (by omega)).1).2; omega)).mp h8))))
                refine lv_iconst (v := 0) hx hb dL_law_343 (by decide) ?_
                refine lv_icmp_ne (tgt := 428) hx hb dL_law_344 (by decide) (fun h9 => absurd rfl h9) (fun _ => ?_)
                exact J347 _ _ _ _ M0 (by omega) (by omega)
            by_cases e1 : k < t.la k
            · have hrp := (rp_lt hk e1).1
              have hch : t.ch k (t.rp k) := Or.inr ⟨e1, rfl⟩
              have hne : ¬ keyR T.1.1 t k = -30000 := by rw [keyR_yes e1]; exact no_ne (kN_ok hw hrp).2
              refine lv_icmp_eq (tgt := 293) hx hb dL_law_268 (by decide) (fun h9 => absurd h9 hne) (fun _ => ?_)
              refine lv_aload_n hx hb dL_law_271 rfl (lv_at hl 16 rfl) ?_
              refine lv_iload hx hb dL_law_272 (lv_at hl 6 rfl) ?_
              rw [show (keyR T.1.1 t k : Int32) = (nI (kN T.1.1 t (t.rp k))) from keyR_yes e1]
              refine mX C0 M0 (c_X6_parentOf l g a T (nI (kN T.1.1 t (t.rp k))) C0.2.2.2.2 (.inr (nI (kN T.1.1 t k))) T (a_parentOf hw hk hch)) vv_L_81 (rest := []) rfl rfl hl.1 (Nat.le_of_ble_eq_true rfl) dL_law_274 ⟨by omega, by omega⟩ ⟨by omega, by omega⟩ (fun H locs M0 => ?_)
              refine lv_iload hx hb dL_law_277 (lv_at hl 8 rfl) ?_
              refine lv_icmp_ne (tgt := 428) hx hb dL_law_279 (by decide) (fun h9 => absurd rfl h9) (fun _ => ?_)
              refine lv_aload_n hx hb dL_law_282 rfl (lv_at hl 16 rfl) ?_
              refine lv_iload hx hb dL_law_283 (lv_at hl 8 rfl) ?_
              refine lv_iload hx hb dL_law_285 (lv_at hl 6 rfl) ?_
              rw [show (keyR T.1.1 t k : Int32) = (nI (kN T.1.1 t (t.rp k))) from keyR_yes e1]
              refine mAb C0 M0 hw hk hrp hl.1 (Nat.le_of_ble_eq_true rfl) dL_law_287 ⟨by omega, by omega⟩ ⟨by omega, by omega⟩ (fun H locs M0 => ?_)
              rw [if_pos (ch_abv hw hk hch)]
              refine lv_if_eq (tgt := 428) hx hb dL_law_290 (by decide) (fun h9 => absurd h9 (by decide)) (fun _ => ?_)
              exact J293 _ _ _ _ M0 (by omega) (by omega)
            · refine lv_icmp_eq (tgt := 293) hx hb dL_law_268 (by decide) (fun _ => ?_) (fun h9 => absurd (keyR_no e1) h9)
              exact J293 _ _ _ _ M0 (by omega) (by omega)
          by_cases e1 : t.fi k < k
          · have hlp : t.lp k < t.size := by have := lp_lt hk e1; omega
            have hch : t.ch k (t.lp k) := Or.inl ⟨e1, rfl⟩
            have hne : ¬ keyL T.1.1 t k = -30000 := by rw [keyL_yes e1]; exact no_ne (kN_ok hw hlp).2
            refine lv_icmp_eq (tgt := 263) hx hb dL_law_238 (by decide) (fun h9 => absurd h9 hne) (fun _ => ?_)
            refine lv_aload_n hx hb dL_law_241 rfl (lv_at hl 16 rfl) ?_
            refine lv_iload hx hb dL_law_242 (lv_at hl 7 rfl) ?_
            rw [show (keyL T.1.1 t k : Int32) = (nI (kN T.1.1 t (t.lp k))) from keyL_yes e1]
            refine mX C0 M0 (c_X6_parentOf l g a T (nI (kN T.1.1 t (t.lp k))) C0.2.2.2.2 (.inr (nI (kN T.1.1 t k))) T (a_parentOf hw hk hch)) vv_L_81 (rest := []) rfl rfl hl.1 (Nat.le_of_ble_eq_true rfl) dL_law_244 ⟨by omega, by omega⟩ ⟨by omega, by omega⟩ (fun H locs M0 => ?_)
            refine lv_iload hx hb dL_law_247 (lv_at hl 8 rfl) ?_
            refine lv_icmp_ne (tgt := 428) hx hb dL_law_249 (by decide) (fun h9 => absurd rfl h9) (fun _ => ?_)
            refine lv_aload_n hx hb dL_law_252 rfl (lv_at hl 16 rfl) ?_
            refine lv_iload hx hb dL_law_253 (lv_at hl 8 rfl) ?_
            refine lv_iload hx hb dL_law_255 (lv_at hl 7 rfl) ?_
            rw [show (keyL T.1.1 t k : Int32) = (nI (kN T.1.1 t (t.lp k))) from keyL_yes e1]
            refine mAb C0 M0 hw hk hlp hl.1 (Nat.le_of_ble_eq_true rfl) dL_law_257 ⟨by omega, by omega⟩ ⟨by omega, by omega⟩ (fun H locs M0 => ?_)
            rw [if_pos (ch_abv hw hk hch)]
            refine lv_if_eq (tgt := 428) hx hb dL_law_260 (by decide) (fun h9 => absurd h9 (by decide)) (fun _ => ?_)
            exact J263 _ _ _ _ M0 (by omega) (by omega)
          · refine lv_icmp_eq (tgt := 263) hx hb dL_law_238 (by decide) (fun _ => ?_) (fun h9 => absurd (keyL_no e1) h9)
            exact J263 _ _ _ _ M0 (by omega) (by omega)
        by_cases e1 : k < t.la k
        · have hne : ¬ keyR T.1.1 t k = -30000 := by rw [keyR_yes e1]; exact no_ne (kN_ok hw (rp_lt hk e1).1).2
          refine lv_icmp_eq (tgt := 233) hx hb dL_law_223 (by decide) (fun h9 => absurd h9 hne) (fun _ => ?_)
          refine lv_iload hx hb dL_law_226 (lv_at hl 6 rfl) ?_
          refine lv_iload hx hb dL_law_228 (lv_at hl 8 rfl) ?_
          refine lv_icmp_le (tgt := 428) hx hb dL_law_230 (by decide) (fun h9 => absurd h9 (by rw [keyR_yes e1]; exact nI_ge (kN_lt hw (rp_lt hk e1).2 (rp_lt hk e1).1) (by have := (kN_ok hw (rp_lt hk e1).1).2; omega))) (fun _ => ?_)
          exact J233 _ _ _ _ M0 (by omega) (by omega)
        · refine lv_icmp_eq (tgt := 233) hx hb dL_law_223 (by decide) (fun _ => ?_) (fun h9 => absurd (keyR_no e1) h9)
          exact J233 _ _ _ _ M0 (by omega) (by omega)
      refine lv_iload hx hb dL_law_195 (lv_at hl 6 rfl) ?_
      refine lv_sipush (v := (-30000)) hx hb dL_law_197 (by decide) ?_
      by_cases e1 : k < t.la k
      · rw [if_pos e1]
        have hne : ¬ keyR T.1.1 t k = -30000 := by rw [keyR_yes e1]; exact no_ne (kN_ok hw (rp_lt hk e1).1).2
        refine lv_icmp_eq (tgt := 207) hx hb dL_law_200 (by decide) (fun h9 => absurd h9 hne) (fun _ => ?_)
        refine lv_iconst (v := 1) hx hb dL_law_203 (by decide) ?_
        refine lv_goto (tgt := 208) hx hb dL_law_204 (by decide) ?_
        refine lv_icmp_ne (tgt := 428) hx hb dL_law_208 (by decide) (fun h9 => absurd rfl h9) (fun _ => ?_)
        exact J211 _ _ _ _ M0 (by omega) (by omega)
      · rw [if_neg e1]
        refine lv_icmp_eq (tgt := 207) hx hb dL_law_200 (by decide) (fun _ => ?_) (fun h9 => absurd (keyR_no e1) h9)
        refine lv_iconst (v := 0) hx hb dL_law_207 (by decide) ?_
        refine lv_icmp_ne (tgt := 428) hx hb dL_law_208 (by decide) (fun h9 => absurd rfl h9) (fun _ => ?_)
        exact J211 _ _ _ _ M0 (by omega) (by omega)
    refine lv_iload hx hb dL_law_173 (lv_at hl 7 rfl) ?_
    refine lv_sipush (v := (-30000)) hx hb dL_law_175 (by decide) ?_
    by_cases e1 : t.fi k < k
    · rw [if_pos e1]
      have hne : ¬ keyL T.1.1 t k = -30000 := by rw [keyL_yes e1]; exact no_ne (kN_ok hw (by have := lp_lt hk e1; omega)).2
      refine lv_icmp_eq (tgt := 185) hx hb dL_law_178 (by decide) (fun h9 => absurd h9 hne) (fun _ => ?_)
      refine lv_iconst (v := 1) hx hb dL_law_181 (by decide) ?_
      refine lv_goto (tgt := 186) hx hb dL_law_182 (by decide) ?_
      refine lv_icmp_ne (tgt := 428) hx hb dL_law_186 (by decide) (fun h9 => absurd rfl h9) (fun _ => ?_)
      exact J189 _ _ _ _ M0 (by omega) (by omega)
    · rw [if_neg e1]
      refine lv_icmp_eq (tgt := 185) hx hb dL_law_178 (by decide) (fun _ => ?_) (fun h9 => absurd (keyL_no e1) h9)
      refine lv_iconst (v := 0) hx hb dL_law_185 (by decide) ?_
      refine lv_icmp_ne (tgt := 428) hx hb dL_law_186 (by decide) (fun h9 => absurd rfl h9) (fun _ => ?_)
      exact J189 _ _ _ _ M0 (by omega) (by omega)
  refine lv_iload hx hb dL_law_140 (lv_at hl 9 rfl) ?_
  by_cases h0 : k = 0
  · refine lv_if_le (tgt := 158) hx hb dL_law_142 (by decide) (fun _ => ?_) (fun h9 => absurd (by rw [h0]; decide) h9)
    exact J158 _ _ _ _ M0 (by omega) (by omega)
  · refine lv_if_le (tgt := 158) hx hb dL_law_142 (by decide) (fun h9 => absurd h9 (nI_nle (by omega) (by omega))) (fun _ => ?_)
    refine lv_iload hx hb dL_law_145 (lv_at hl 8 rfl) ?_
    refine lv_aload_n hx hb dL_law_147 rfl (lv_at hl 16 rfl) ?_
    refine lv_iload hx hb dL_law_148 (lv_at hl 9 rfl) ?_
    refine lv_iconst (v := 1) hx hb dL_law_150 (by decide) ?_
    refine lv_isub hx hb dL_law_151 ?_
    rw [show ((nI k - 1) : Int32) = (nI (k - 1)) from nI_dec1 (by omega)]
    refine mX C0 M0 (c_X6_keyAt l g a T (nI (k - 1)) C0.2.2.2.2 (.inr (nI (kN T.1.1 t (k - 1)))) T (a_keyAt hw (by omega))) vv_L_66 (rest := [.int (nI (kN T.1.1 t k))]) rfl rfl hl.1 (Nat.le_of_ble_eq_true rfl) dL_law_152 ⟨by omega, by omega⟩ ⟨by omega, by omega⟩ (fun H locs M0 => ?_)
    refine lv_icmp_le (tgt := 428) hx hb dL_law_155 (by decide) (fun h9 => absurd h9 (nI_ge (kN_lt hw (by omega) hk) (by omega))) (fun _ => ?_)
    exact J158 _ _ _ _ M0 (by omega) (by omega)
set_option maxHeartbeats 8000000 in
set_option maxRecDepth 100000 in
theorem lK_a {p : Program} {l : Launch} {e : Env} {s : State} {m : MethodId} {below : List Frame} {meth : Method} {c : Code} {H : Heap} {locs : List Loc} {cells0 slots0 : Nat} {Q : State → Prop} {A : Nat → Prop} {g : pq_g} {ad av : Nat → Nat} {sb L : Nat} {xs : Nat → Int32} {E : va_W} {a : Nat → Nat} {T : MainS} {ls : Array Slot} {R : Room} (C0 : lwC p l s m #[.ref sb] c cL_law 21 A g ad av [] sb L xs) (hR : 64 ≤ R.frames ∧ 6000 ≤ R.locals) (hL : L < 2 ^ 31) {t : Tr} (hw : WF T.1.1 t) {k : Nat} (hk : k < t.size) {rt dp lf mh tn : Int32} (hrt : rt = nI (kN T.1.1 t t.rt0)) (M0 : lwM g a T E A s H locs) (hf : cells0 + 75 ≤ R.cells ∧ slots0 + 450 ≤ R.slots) (hl : lv_has ls 21 [(8, .int (nI k)), (7, .int rt), (6, .int dp), (5, .int lf), (4, .int mh), (3, .int (nI t.size)), (2, .int tn), (1, .ref (a 0)), (0, .ref sb)]) (kk : ∀ (P : Int32) (ls : Array Slot) (H : Heap) (locs : List Loc) (cells slots : Nat), lwM g a T E A s H locs → cells ≤ cells0 + 75 → slots ≤ slots0 + 450 → lv_has ls 21 [(17, .int (nI (t.zr k))), (16, .int (nI (t.zl k))), (15, .int 0), (14, .int (nI (t.sz k))), (13, .int (nI (t.dep k))), (12, .int P), (11, .int (keyR T.1.1 t k)), (10, .int (keyL T.1.1 t k)), (9, .int (nI (kN T.1.1 t k))), (8, .int (nI k)), (7, .int rt), (6, .int dp), (5, .int lf), (4, .int mh), (3, .int (nI t.size)), (2, .int tn), (1, .ref (a 0)), (0, .ref sb)] → W p l e R s m #[.ref sb] below meth c H locs cells slots Q (F0 m 430 ls [])) : W p l e R s m #[.ref sb] below meth c H locs cells0 slots0 Q (F0 m 43 ls []) := by
  obtain ⟨hx, hb, hml, hown, hts⟩ := id C0.1
  have h24 := hw.le
  obtain ⟨P, hP8, hP9⟩ := keyP_ex hw hk
  refine lv_iload hx hb dL_law_43 (lv_at hl 0 rfl) ?_
  refine lv_iload_n hx hb dL_law_45 rfl (lv_at hl 5 rfl) ?_
  refine lv_icmp_ge (tgt := 640) hx hb dL_law_46 (by decide) (fun h9 => absurd h9 (nI_ge hk (by omega))) (fun _ => ?_)
  refine lv_aload_n hx hb dL_law_49 rfl (lv_at hl 7 rfl) ?_
  refine lv_iload hx hb dL_law_50 (lv_at hl 0 rfl) ?_
  refine mX C0 M0 (c_X6_keyAt l g a T (nI k) C0.2.2.2.2 (.inr (nI (kN T.1.1 t k))) T (a_keyAt hw hk)) vv_L_66 (rest := []) rfl rfl hl.1 (Nat.le_of_ble_eq_true rfl) dL_law_52 ⟨by omega, by omega⟩ ⟨by omega, by omega⟩ (fun H locs M0 => ?_)
  refine lv_istore (lv' := [(9, .int (nI (kN T.1.1 t k))), (8, .int (nI k)), (7, .int rt), (6, .int dp), (5, .int lf), (4, .int mh), (3, .int (nI t.size)), (2, .int tn), (1, .ref (a 0)), (0, .ref sb)]) hx hb dL_law_55 hl (by decide) rfl (fun ls hl => ?_)
  refine lv_aload_n hx hb dL_law_57 rfl (lv_at hl 8 rfl) ?_
  refine lv_iload hx hb dL_law_58 (lv_at hl 0 rfl) ?_
  refine mH C0 M0 (c_L_leftOf l g a T (nI (kN T.1.1 t k)) C0.2.2.2.2 (keyL T.1.1 t k) T (hh_leftOf hw hk)) vh_L_149 (rest := []) rfl rfl hl.1 (Nat.le_of_ble_eq_true rfl) dL_law_60 ⟨by omega, by omega⟩ ⟨by omega, by omega⟩ (fun H locs M0 => ?_)
  refine lv_istore (lv' := [(10, .int (keyL T.1.1 t k)), (9, .int (nI (kN T.1.1 t k))), (8, .int (nI k)), (7, .int rt), (6, .int dp), (5, .int lf), (4, .int mh), (3, .int (nI t.size)), (2, .int tn), (1, .ref (a 0)), (0, .ref sb)]) hx hb dL_law_63 hl (by decide) rfl (fun ls hl => ?_)
  refine lv_aload_n hx hb dL_law_65 rfl (lv_at hl 9 rfl) ?_
  refine lv_iload hx hb dL_law_66 (lv_at hl 1 rfl) ?_
  refine mH C0 M0 (c_L_rightOf l g a T (nI (kN T.1.1 t k)) C0.2.2.2.2 (keyR T.1.1 t k) T (hh_rightOf hw hk)) vh_L_160 (rest := []) rfl rfl hl.1 (Nat.le_of_ble_eq_true rfl) dL_law_68 ⟨by omega, by omega⟩ ⟨by omega, by omega⟩ (fun H locs M0 => ?_)
  refine lv_istore (lv' := [(11, .int (keyR T.1.1 t k)), (10, .int (keyL T.1.1 t k)), (9, .int (nI (kN T.1.1 t k))), (8, .int (nI k)), (7, .int rt), (6, .int dp), (5, .int lf), (4, .int mh), (3, .int (nI t.size)), (2, .int tn), (1, .ref (a 0)), (0, .ref sb)]) hx hb dL_law_71 hl (by decide) rfl (fun ls hl => ?_)
  refine lv_aload_n hx hb dL_law_73 rfl (lv_at hl 10 rfl) ?_
  refine lv_iload hx hb dL_law_74 (lv_at hl 2 rfl) ?_
  refine mH C0 M0 (c_L_parentOf l g a T (nI (kN T.1.1 t k)) C0.2.2.2.2 P T hP8) vh_L_176 (rest := []) rfl rfl hl.1 (Nat.le_of_ble_eq_true rfl) dL_law_76 ⟨by omega, by omega⟩ ⟨by omega, by omega⟩ (fun H locs M0 => ?_)
  refine lv_istore (lv' := [(12, .int P), (11, .int (keyR T.1.1 t k)), (10, .int (keyL T.1.1 t k)), (9, .int (nI (kN T.1.1 t k))), (8, .int (nI k)), (7, .int rt), (6, .int dp), (5, .int lf), (4, .int mh), (3, .int (nI t.size)), (2, .int tn), (1, .ref (a 0)), (0, .ref sb)]) hx hb dL_law_79 hl (by decide) rfl (fun ls hl => ?_)
  refine lv_aload_n hx hb dL_law_81 rfl (lv_at hl 11 rfl) ?_
  refine lv_iload hx hb dL_law_82 (lv_at hl 3 rfl) ?_
  refine mX C0 M0 (c_X6_depthOf l g a T (nI (kN T.1.1 t k)) C0.2.2.2.2 (.inr (nI (t.dep k))) T (a_depthOf hw hk)) vv_L_178 (rest := []) rfl rfl hl.1 (Nat.le_of_ble_eq_true rfl) dL_law_84 ⟨by omega, by omega⟩ ⟨by omega, by omega⟩ (fun H locs M0 => ?_)
  refine lv_istore (lv' := [(13, .int (nI (t.dep k))), (12, .int P), (11, .int (keyR T.1.1 t k)), (10, .int (keyL T.1.1 t k)), (9, .int (nI (kN T.1.1 t k))), (8, .int (nI k)), (7, .int rt), (6, .int dp), (5, .int lf), (4, .int mh), (3, .int (nI t.size)), (2, .int tn), (1, .ref (a 0)), (0, .ref sb)]) hx hb dL_law_87 hl (by decide) rfl (fun ls hl => ?_)
  refine lv_aload_n hx hb dL_law_89 rfl (lv_at hl 12 rfl) ?_
  refine lv_iload hx hb dL_law_90 (lv_at hl 4 rfl) ?_
  refine mX C0 M0 (c_X6_subtreeSize l g a T (nI (kN T.1.1 t k)) C0.2.2.2.2 (.inr (nI (t.sz k))) T (a_subtreeSize hw hk)) vv_L_181 (rest := []) rfl rfl hl.1 (Nat.le_of_ble_eq_true rfl) dL_law_92 ⟨by omega, by omega⟩ ⟨by omega, by omega⟩ (fun H locs M0 => ?_)
  refine lv_istore (lv' := [(14, .int (nI (t.sz k))), (13, .int (nI (t.dep k))), (12, .int P), (11, .int (keyR T.1.1 t k)), (10, .int (keyL T.1.1 t k)), (9, .int (nI (kN T.1.1 t k))), (8, .int (nI k)), (7, .int rt), (6, .int dp), (5, .int lf), (4, .int mh), (3, .int (nI t.size)), (2, .int tn), (1, .ref (a 0)), (0, .ref sb)]) hx hb dL_law_95 hl (by decide) rfl (fun ls hl => ?_)
  refine lv_iconst (v := 0) hx hb dL_law_97 (by decide) ?_
  refine lv_istore (lv' := [(15, .int 0), (14, .int (nI (t.sz k))), (13, .int (nI (t.dep k))), (12, .int P), (11, .int (keyR T.1.1 t k)), (10, .int (keyL T.1.1 t k)), (9, .int (nI (kN T.1.1 t k))), (8, .int (nI k)), (7, .int rt), (6, .int dp), (5, .int lf), (4, .int mh), (3, .int (nI t.size)), (2, .int tn), (1, .ref (a 0)), (0, .ref sb)]) hx hb dL_law_98 hl (by decide) rfl (fun ls hl => ?_)
  refine lv_iload hx hb dL_law_100 (lv_at hl 5 rfl) ?_
  refine lv_sipush (v := (-30000)) hx hb dL_law_102 (by decide) ?_
  have J118 : ∀ (H : Heap) (locs : List Loc) (cells slots : Nat), lwM g a T E A s H locs → cells ≤ cells0 + 10 → slots ≤ slots0 + 60 → W p l e R s m #[.ref sb] below meth c H locs cells slots Q (F0 m 118 ls [.int (nI (t.zl k))]) := by
    intro H locs cells slots M0 hc9 hs9
    refine lv_istore (lv' := [(16, .int (nI (t.zl k))), (15, .int 0), (14, .int (nI (t.sz k))), (13, .int (nI (t.dep k))), (12, .int P), (11, .int (keyR T.1.1 t k)), (10, .int (keyL T.1.1 t k)), (9, .int (nI (kN T.1.1 t k))), (8, .int (nI k)), (7, .int rt), (6, .int dp), (5, .int lf), (4, .int mh), (3, .int (nI t.size)), (2, .int tn), (1, .ref (a 0)), (0, .ref sb)]) hx hb dL_law_118 hl (by decide) rfl (fun ls hl => ?_)
    refine lv_iload hx hb dL_law_120 (lv_at hl 5 rfl) ?_
    refine lv_sipush (v := (-30000)) hx hb dL_law_122 (by decide) ?_
    have J138 : ∀ (H : Heap) (locs : List Loc) (cells slots : Nat), lwM g a T E A s H locs → cells ≤ cells0 + 11 → slots ≤ slots0 + 66 → W p l e R s m #[.ref sb] below meth c H locs cells slots Q (F0 m 138 ls [.int (nI (t.zr k))]) := by
      intro H locs cells slots M0 hc9 hs9
      refine lv_istore (lv' := [(17, .int (nI (t.zr k))), (16, .int (nI (t.zl k))), (15, .int 0), (14, .int (nI (t.sz k))), (13, .int (nI (t.dep k))), (12, .int P), (11, .int (keyR T.1.1 t k)), (10, .int (keyL T.1.1 t k)), (9, .int (nI (kN T.1.1 t k))), (8, .int (nI k)), (7, .int rt), (6, .int dp), (5, .int lf), (4, .int mh), (3, .int (nI t.size)), (2, .int tn), (1, .ref (a 0)), (0, .ref sb)]) hx hb dL_law_138 hl (by decide) rfl (fun ls hl => ?_)
      exact lK_c C0 hR hL hw hk hrt hP9 M0 (by omega) hl (fun H locs cells slots M0 h1 h2 => kk P ls H locs cells slots M0 (by omega) (by omega) hl)
    by_cases e1 : k < t.la k
    · have hne : ¬ keyR T.1.1 t k = -30000 := by rw [keyR_yes e1]; exact no_ne (kN_ok hw (rp_lt hk e1).1).2
      refine lv_icmp_ne (tgt := 132) hx hb dL_law_125 (by decide) (fun _ => ?_) (fun h9 => absurd h9 hne)
      refine lv_aload_n hx hb dL_law_132 rfl (lv_at hl 15 rfl) ?_
      refine lv_iload hx hb dL_law_133 (lv_at hl 5 rfl) ?_
      rw [show (keyR T.1.1 t k : Int32) = (nI (kN T.1.1 t (t.rp k))) from keyR_yes e1]
      refine mX C0 M0 (c_X6_subtreeSize l g a T (nI (kN T.1.1 t (t.rp k))) C0.2.2.2.2 (.inr (nI (t.zr k))) T (by rw [a_subtreeSize hw (rp_lt hk e1).1, sz_r hk e1])) vv_L_181 (rest := []) rfl rfl hl.1 (Nat.le_of_ble_eq_true rfl) dL_law_135 ⟨by omega, by omega⟩ ⟨by omega, by omega⟩ (fun H locs M0 => ?_)
      exact J138 _ _ _ _ M0 (by omega) (by omega)
    · refine lv_icmp_ne (tgt := 132) hx hb dL_law_125 (by decide) (fun h9 => absurd (keyR_no e1) h9) (fun _ => ?_)
      refine lv_iconst (v := 0) hx hb dL_law_128 (by decide) ?_
      refine lv_goto (tgt := 138) hx hb dL_law_129 (by decide) ?_
      have e2 : t.zr k = 0 := by have := la_ge (t := t) k hk; unfold Tr.zr; omega
      rw [e2] at J138
      exact J138 _ _ _ _ M0 (by omega) (by omega)
  by_cases e1 : t.fi k < k
  · have hlp : t.lp k < t.size := by have := lp_lt hk e1; omega
    have hne : ¬ keyL T.1.1 t k = -30000 := by rw [keyL_yes e1]; exact no_ne (kN_ok hw hlp).2
    refine lv_icmp_ne (tgt := 112) hx hb dL_law_105 (by decide) (fun _ => ?_) (fun h9 => absurd h9 hne)
    refine lv_aload_n hx hb dL_law_112 rfl (lv_at hl 14 rfl) ?_
    refine lv_iload hx hb dL_law_113 (lv_at hl 5 rfl) ?_
    rw [show (keyL T.1.1 t k : Int32) = (nI (kN T.1.1 t (t.lp k))) from keyL_yes e1]
    refine mX C0 M0 (c_X6_subtreeSize l g a T (nI (kN T.1.1 t (t.lp k))) C0.2.2.2.2 (.inr (nI (t.zl k))) T (by rw [a_subtreeSize hw hlp, sz_l hk e1])) vv_L_181 (rest := []) rfl rfl hl.1 (Nat.le_of_ble_eq_true rfl) dL_law_115 ⟨by omega, by omega⟩ ⟨by omega, by omega⟩ (fun H locs M0 => ?_)
    exact J118 _ _ _ _ M0 (by omega) (by omega)
  · refine lv_icmp_ne (tgt := 112) hx hb dL_law_105 (by decide) (fun h9 => absurd (keyL_no e1) h9) (fun _ => ?_)
    refine lv_iconst (v := 0) hx hb dL_law_108 (by decide) ?_
    refine lv_goto (tgt := 118) hx hb dL_law_109 (by decide) ?_
    have e2 : t.zl k = 0 := by have := fi_le (t := t) k hk; unfold Tr.zl; omega
    rw [e2] at J118
    exact J118 _ _ _ _ M0 (by omega) (by omega)
