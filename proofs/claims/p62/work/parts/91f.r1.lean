/-! ===== the law's look at one range ===== -/
set_option maxHeartbeats 8000000 in
set_option maxRecDepth 100000 in
theorem lR_in {p : Program} {l : Launch} {e : Env} {s : State} {m : MethodId} {below : List Frame} {meth : Method} {c : Code} {H : Heap} {locs : List Loc} {cells0 slots0 : Nat} {Q : State → Prop} {A : Nat → Prop} {g : pq_g} {ad av : Nat → Nat} {sb L : Nat} {xs : Nat → Int32} {E : va_W} {a : Nat → Nat} {T : MainS} {ls : Array Slot} {R : Room} (C0 : lwC p l s m #[.ref sb] c cL_law 21 A g ad av [] sb L xs) (hR : 64 ≤ R.frames ∧ 6000 ≤ R.locals) (hL : L < 2 ^ 31) {t : Tr} (hw : WF T.1.1 t) {lo hi le u tu : Nat} (hle : le ≤ 99) (hlo : lo ≤ 99) (kk : ∀ (ls : Array Slot) (H : Heap) (locs : List Loc) (cells slots : Nat), lwM g a T E A s H locs → cells ≤ cells0 + 192 → slots ≤ slots0 + 1152 → lv_has ls 21 [(19, .int (nI t.size)), (17, .long (lN (rS T.1.1 t lo hi t.size))), (16, .int (rC T.1.1 t lo t.size)), (15, .int (rF T.1.1 t lo t.size)), (14, .int (rB T.1.1 t lo hi t.size)), (13, .int (nI (rN T.1.1 t lo hi (nI le) t.size))), (12, .int (nI (rN T.1.1 t lo hi 0 t.size))), (11, .int (nI le)), (10, .int (nI hi)), (9, .int (nI lo)), (8, .int (nI u)), (3, .int (nI t.size)), (2, .int (nI tu)), (1, .ref (a 0)), (0, .ref sb)] → W p l e R s m #[.ref sb] below meth c H locs cells slots Q (F0 m 978 ls [])) (hf : cells0 + 192 ≤ R.cells ∧ slots0 + 1152 ≤ R.slots) : ∀ (z k : Nat) (ls : Array Slot) (H : Heap) (locs : List Loc) (cells slots : Nat), k + z = t.size → lwM g a T E A s H locs → cells ≤ cells0 + 8 * k → slots ≤ slots0 + 48 * k → lv_has ls 21 [(19, .int (nI k)), (17, .long (lN (rS T.1.1 t lo hi k))), (16, .int (rC T.1.1 t lo k)), (15, .int (rF T.1.1 t lo k)), (14, .int (rB T.1.1 t lo hi k)), (13, .int (nI (rN T.1.1 t lo hi (nI le) k))), (12, .int (nI (rN T.1.1 t lo hi 0 k))), (11, .int (nI le)), (10, .int (nI hi)), (9, .int (nI lo)), (8, .int (nI u)), (3, .int (nI t.size)), (2, .int (nI tu)), (1, .ref (a 0)), (0, .ref sb)] → W p l e R s m #[.ref sb] below meth c H locs cells slots Q (F0 m 837 ls []) := by
  obtain ⟨hx, hb, hml, hown, hts⟩ := id C0.1
  have h24 := hw.le
  intro z
  induction z with
    | zero =>
      intro k ls H locs cells slots hj M0 hc1 hs1 hl
      obtain rfl : k = t.size := by omega
      refine lv_iload hx hb dL_law_837 (lv_at hl 0 rfl) ?_
      refine lv_iload_n hx hb dL_law_839 rfl (lv_at hl 11 rfl) ?_
      refine lv_icmp_ge (tgt := 978) hx hb dL_law_840 (by decide) (fun _ => ?_) (fun h9 => absurd (nI_le (Nat.le_refl _) (by omega)) h9)
      exact kk ls _ _ _ _ M0 (by omega) (by omega) hl
    | succ z ih =>
      intro k ls H locs cells slots hj M0 hc1 hs1 hl
      have hk : k < t.size := by omega
      have k99 := (kN_ok hw hk).2
      have q99 := (qN_ok hw hk).2
      have J972 : ∀ (ls : Array Slot) (H : Heap) (locs : List Loc) (cells1 slots1 : Nat), lwM g a T E A s H locs → cells1 ≤ cells + 8 → slots1 ≤ slots + 48 → lv_has ls 21 [(20, .int (nI (kN T.1.1 t k))), (19, .int (nI k)), (17, .long (lN (rS T.1.1 t lo hi (k + 1)))), (16, .int (rC T.1.1 t lo (k + 1))), (15, .int (rF T.1.1 t lo (k + 1))), (14, .int (rB T.1.1 t lo hi (k + 1))), (13, .int (nI (rN T.1.1 t lo hi (nI le) (k + 1)))), (12, .int (nI (rN T.1.1 t lo hi 0 (k + 1)))), (11, .int (nI le)), (10, .int (nI hi)), (9, .int (nI lo)), (8, .int (nI u)), (3, .int (nI t.size)), (2, .int (nI tu)), (1, .ref (a 0)), (0, .ref sb)] → W p l e R s m #[.ref sb] below meth c H locs cells1 slots1 Q (F0 m 972 ls []) := by
        intro ls H locs cells1 slots1 M0 hc2 hs2 hl
        refine lv_iinc (v := (nI (k + 1))) (lv' := [(19, .int (nI (k + 1))), (20, .int (nI (kN T.1.1 t k))), (17, .long (lN (rS T.1.1 t lo hi (k + 1)))), (16, .int (rC T.1.1 t lo (k + 1))), (15, .int (rF T.1.1 t lo (k + 1))), (14, .int (rB T.1.1 t lo hi (k + 1))), (13, .int (nI (rN T.1.1 t lo hi (nI le) (k + 1)))), (12, .int (nI (rN T.1.1 t lo hi 0 (k + 1)))), (11, .int (nI le)), (10, .int (nI hi)), (9, .int (nI lo)), (8, .int (nI u)), (3, .int (nI t.size)), (2, .int (nI tu)), (1, .ref (a 0)), (0, .ref sb)]) hx hb dL_law_972 hl (k := 1) rfl (by rw [nI_succ]; rfl) (by decide) rfl (fun ls hl => ?_)
        refine lv_goto (tgt := 837) hx hb dL_law_975 (by decide) ?_
        exact ih (k + 1) ls _ _ _ _ (by omega) M0 (by omega) (by omega) (lv_sub hl [0, 2, 3, 4, 5, 6, 7, 8, 9, 10, 11, 12, 13, 14, 15] rfl)
      have J891 : ∀ (ls : Array Slot) (H : Heap) (locs : List Loc) (cells1 slots1 : Nat), lwM g a T E A s H locs → cells1 ≤ cells + 1 → slots1 ≤ slots + 6 → lv_has ls 21 [(20, .int (nI (kN T.1.1 t k))), (19, .int (nI k)), (17, .long (lN (rS T.1.1 t lo hi k))), (16, .int (rC T.1.1 t lo (k + 1))), (15, .int (rF T.1.1 t lo (k + 1))), (14, .int (rB T.1.1 t lo hi k)), (13, .int (nI (rN T.1.1 t lo hi (nI le) k))), (12, .int (nI (rN T.1.1 t lo hi 0 k))), (11, .int (nI le)), (10, .int (nI hi)), (9, .int (nI lo)), (8, .int (nI u)), (3, .int (nI t.size)), (2, .int (nI tu)), (1, .ref (a 0)), (0, .ref sb)] → W p l e R s m #[.ref sb] below meth c H locs cells1 slots1 Q (F0 m 891 ls []) := by
        intro ls H locs cells1 slots1 M0 hc2 hs2 hl
        refine lv_iload hx hb dL_law_891 (lv_at hl 0 rfl) ?_
        refine lv_iload hx hb dL_law_893 (lv_at hl 10 rfl) ?_
        by_cases e1 : k < aLo T.1.1 t lo
        · refine lv_icmp_lt (tgt := 972) hx hb dL_law_895 (by decide) (fun _ => ?_) (fun h9 => absurd ((lt_lo hw hk lo).mpr e1) h9)
          obtain ⟨o1, o2, o3⟩ := out_s hw (hi := hi) hk (Or.inl e1) (nI le)
          obtain ⟨o4, -, -⟩ := out_s hw (hi := hi) hk (Or.inl e1) 0
          rw [← o1, ← o2, ← o3, ← o4] at hl
          exact J972 ls _ _ _ _ M0 (by omega) (by omega) (lv_sub hl [0, 1, 2, 3, 4, 5, 6, 7, 8, 9, 10, 11, 12, 13, 14, 15] rfl)
        · refine lv_icmp_lt (tgt := 972) hx hb dL_law_895 (by decide) (fun h9 => absurd ((lt_lo hw hk lo).mp h9) e1) (fun _ => ?_)
          refine lv_iload hx hb dL_law_898 (lv_at hl 0 rfl) ?_
          refine lv_iload hx hb dL_law_900 (lv_at hl 9 rfl) ?_
          by_cases e2 : k < aHi T.1.1 t hi
          · refine lv_icmp_le (tgt := 908) hx hb dL_law_902 (by decide) (fun _ => ?_) (fun h9 => absurd ((le_hi hw hk hi).mpr e2) h9)
            obtain ⟨i1, i2, i3⟩ := in_s hw hk (Nat.le_of_not_lt e1) e2 le hle
            refine lv_iinc (v := (nI (rN T.1.1 t lo hi 0 (k + 1)))) (lv' := [(12, .int (nI (rN T.1.1 t lo hi 0 (k + 1)))), (20, .int (nI (kN T.1.1 t k))), (19, .int (nI k)), (17, .long (lN (rS T.1.1 t lo hi k))), (16, .int (rC T.1.1 t lo (k + 1))), (15, .int (rF T.1.1 t lo (k + 1))), (14, .int (rB T.1.1 t lo hi k)), (13, .int (nI (rN T.1.1 t lo hi (nI le) k))), (11, .int (nI le)), (10, .int (nI hi)), (9, .int (nI lo)), (8, .int (nI u)), (3, .int (nI t.size)), (2, .int (nI tu)), (1, .ref (a 0)), (0, .ref sb)]) hx hb dL_law_908 hl (k := 7) rfl (by rw [i1, nI_succ]; rfl) (by decide) rfl (fun ls hl => ?_)
            refine lv_lload hx hb dL_law_911 (lv_at hl 3 rfl) ?_
            refine lv_aload_n hx hb dL_law_913 rfl (lv_at hl 14 rfl) ?_
            refine lv_iload hx hb dL_law_914 (lv_at hl 1 rfl) ?_
            refine mX C0 M0 (c_X6_priorityOf l g a T (nI (kN T.1.1 t k)) C0.2.2.2.2 (.inr (nI (qN T.1.1 t k))) T (a_priorityOf hw hk)) vv_L_123 (rest := [.long (lN (rS T.1.1 t lo hi k))]) rfl rfl hl.1 (Nat.le_of_ble_eq_true rfl) dL_law_916 ⟨by omega, by omega⟩ ⟨by omega, by omega⟩ (fun H locs M0 => ?_)
            refine lv_i2l hx hb dL_law_919 (nI_l (n := qN T.1.1 t k) (by omega)) ?_
            refine lv_ladd hx hb dL_law_920 ?_
            rw [lN_add, ← i2]
            refine lv_lstore (lv' := [(17, .long (lN (rS T.1.1 t lo hi (k + 1)))), (12, .int (nI (rN T.1.1 t lo hi 0 (k + 1)))), (20, .int (nI (kN T.1.1 t k))), (19, .int (nI k)), (16, .int (rC T.1.1 t lo (k + 1))), (15, .int (rF T.1.1 t lo (k + 1))), (14, .int (rB T.1.1 t lo hi k)), (13, .int (nI (rN T.1.1 t lo hi (nI le) k))), (11, .int (nI le)), (10, .int (nI hi)), (9, .int (nI lo)), (8, .int (nI u)), (3, .int (nI t.size)), (2, .int (nI tu)), (1, .ref (a 0)), (0, .ref sb)]) hx hb dL_law_921 hl (by decide) rfl (fun ls hl => ?_)
            refine lv_iload hx hb dL_law_923 (lv_at hl 7 rfl) ?_
            refine lv_aload_n hx hb dL_law_925 rfl (lv_at hl 14 rfl) ?_
            refine lv_iload hx hb dL_law_926 (lv_at hl 2 rfl) ?_
            refine mX C0 M0 (c_X6_priorityOf l g a T (nI (kN T.1.1 t k)) C0.2.2.2.2 (.inr (nI (qN T.1.1 t k))) T (a_priorityOf hw hk)) vv_L_123 (rest := [.int (nI (rN T.1.1 t lo hi (nI le) k))]) rfl rfl hl.1 (Nat.le_of_ble_eq_true rfl) dL_law_928 ⟨by omega, by omega⟩ ⟨by omega, by omega⟩ (fun H locs M0 => ?_)
            refine lv_iload hx hb dL_law_931 (lv_at hl 8 rfl) ?_
            have J944 : ∀ (ls : Array Slot) (H : Heap) (locs : List Loc) (cells1 slots1 : Nat), lwM g a T E A s H locs → cells1 ≤ cells + 4 → slots1 ≤ slots + 24 → lv_has ls 21 [(13, .int (nI (rN T.1.1 t lo hi (nI le) (k + 1)))), (17, .long (lN (rS T.1.1 t lo hi (k + 1)))), (12, .int (nI (rN T.1.1 t lo hi 0 (k + 1)))), (20, .int (nI (kN T.1.1 t k))), (19, .int (nI k)), (16, .int (rC T.1.1 t lo (k + 1))), (15, .int (rF T.1.1 t lo (k + 1))), (14, .int (rB T.1.1 t lo hi k)), (11, .int (nI le)), (10, .int (nI hi)), (9, .int (nI lo)), (8, .int (nI u)), (3, .int (nI t.size)), (2, .int (nI tu)), (1, .ref (a 0)), (0, .ref sb)] → W p l e R s m #[.ref sb] below meth c H locs cells1 slots1 Q (F0 m 944 ls []) := by
              intro ls H locs cells1 slots1 M0 hc3 hs3 hl
              refine lv_iload hx hb dL_law_944 (lv_at hl 7 rfl) ?_
              refine lv_sipush (v := (-30000)) hx hb dL_law_946 (by decide) ?_
              have J970 : ∀ (V : Int32) (H : Heap) (locs : List Loc) (cells1 slots1 : Nat), V = rB T.1.1 t lo hi (k + 1) → lwM g a T E A s H locs → cells1 ≤ cells + 7 → slots1 ≤ slots + 42 → W p l e R s m #[.ref sb] below meth c H locs cells1 slots1 Q (F0 m 970 ls [.int V]) := by
                intro V H locs cells1 slots1 hV M0 hc4 hs4
                subst hV
                refine lv_istore (lv' := [(14, .int (rB T.1.1 t lo hi (k + 1))), (13, .int (nI (rN T.1.1 t lo hi (nI le) (k + 1)))), (17, .long (lN (rS T.1.1 t lo hi (k + 1)))), (12, .int (nI (rN T.1.1 t lo hi 0 (k + 1)))), (20, .int (nI (kN T.1.1 t k))), (19, .int (nI k)), (16, .int (rC T.1.1 t lo (k + 1))), (15, .int (rF T.1.1 t lo (k + 1))), (11, .int (nI le)), (10, .int (nI hi)), (9, .int (nI lo)), (8, .int (nI u)), (3, .int (nI t.size)), (2, .int (nI tu)), (1, .ref (a 0)), (0, .ref sb)]) hx hb dL_law_970 hl (by decide) rfl (fun ls hl => ?_)
                exact J972 ls _ _ _ _ M0 (by omega) (by omega) (lv_sub hl [4, 5, 2, 6, 7, 0, 1, 3, 8, 9, 10, 11, 12, 13, 14, 15] rfl)
              by_cases e3 : aLo T.1.1 t lo = k
              · obtain ⟨b1, b2⟩ := rB_first (hi := hi) e3 e2 hk
                refine lv_icmp_eq (tgt := 963) hx hb dL_law_949 (by decide) (fun _ => ?_) (fun h9 => absurd b2 h9)
                refine lv_iload hx hb dL_law_963 (lv_at hl 3 rfl) ?_
                refine lv_goto (tgt := 970) hx hb dL_law_965 (by decide) ?_
                exact J970 _ _ _ _ _ b1.symm M0 (by omega) (by omega)
              · obtain ⟨cc9, c1, c2, c3⟩ := rB_more hw (lo := lo) (hi := hi) (by omega) e2 hk
                refine lv_icmp_eq (tgt := 963) hx hb dL_law_949 (by decide) (fun h9 => absurd h9 (by rw [c2]; exact no_ne (kN_ok hw c1).2)) (fun _ => ?_)
                refine lv_aload_n hx hb dL_law_952 rfl (lv_at hl 14 rfl) ?_
                refine lv_iload hx hb dL_law_953 (lv_at hl 3 rfl) ?_
                refine lv_iload hx hb dL_law_955 (lv_at hl 7 rfl) ?_
                rw [show (rB T.1.1 t lo hi k : Int32) = (nI (kN T.1.1 t cc9)) from c2]
                refine mAb C0 M0 hw hk c1 hl.1 (Nat.le_of_ble_eq_true rfl) dL_law_957 ⟨by omega, by omega⟩ ⟨by omega, by omega⟩ (fun H locs M0 => ?_)
                by_cases e4 : abv T.1.1 (t.sl k) (t.sl cc9)
                · rw [if_pos e4]
                  rw [if_pos e4] at c3
                  refine lv_if_eq (tgt := 968) hx hb dL_law_960 (by decide) (fun h9 => absurd h9 (by decide)) (fun _ => ?_)
                  refine lv_iload hx hb dL_law_963 (lv_at hl 3 rfl) ?_
                  refine lv_goto (tgt := 970) hx hb dL_law_965 (by decide) ?_
                  exact J970 _ _ _ _ _ c3.symm M0 (by omega) (by omega)
                · rw [if_neg e4]
                  rw [if_neg e4] at c3
                  refine lv_if_eq (tgt := 968) hx hb dL_law_960 (by decide) (fun _ => ?_) (fun h9 => absurd rfl h9)
                  refine lv_iload hx hb dL_law_968 (lv_at hl 7 rfl) ?_
                  exact J970 _ _ _ _ _ (c2.trans c3.symm) M0 (by omega) (by omega)
            by_cases e5 : nI le ≤ nI (qN T.1.1 t k)
            · rw [if_pos e5] at i3
              refine lv_icmp_lt (tgt := 940) hx hb dL_law_933 (by decide) (fun h9 => absurd h9 (Int32.not_lt.mpr e5)) (fun _ => ?_)
              refine lv_iconst (v := 1) hx hb dL_law_936 (by decide) ?_
              refine lv_goto (tgt := 941) hx hb dL_law_937 (by decide) ?_
              refine lv_iadd hx hb dL_law_941 ?_
              rw [show ((nI (rN T.1.1 t lo hi (nI le) k) + 1) : Int32) = (nI (rN T.1.1 t lo hi (nI le) (k + 1))) from by rw [i3]; exact nI_1 _]
              refine lv_istore (lv' := [(13, .int (nI (rN T.1.1 t lo hi (nI le) (k + 1)))), (17, .long (lN (rS T.1.1 t lo hi (k + 1)))), (12, .int (nI (rN T.1.1 t lo hi 0 (k + 1)))), (20, .int (nI (kN T.1.1 t k))), (19, .int (nI k)), (16, .int (rC T.1.1 t lo (k + 1))), (15, .int (rF T.1.1 t lo (k + 1))), (14, .int (rB T.1.1 t lo hi k)), (11, .int (nI le)), (10, .int (nI hi)), (9, .int (nI lo)), (8, .int (nI u)), (3, .int (nI t.size)), (2, .int (nI tu)), (1, .ref (a 0)), (0, .ref sb)]) hx hb dL_law_942 hl (by decide) rfl (fun ls hl => ?_)
              exact J944 ls _ _ _ _ M0 (by omega) (by omega) hl
            · rw [if_neg e5, Nat.add_zero] at i3
              refine lv_icmp_lt (tgt := 940) hx hb dL_law_933 (by decide) (fun _ => ?_) (fun h9 => absurd (Int32.not_le.mp e5) h9)
              refine lv_iconst (v := 0) hx hb dL_law_940 (by decide) ?_
              refine lv_iadd hx hb dL_law_941 ?_
              rw [show ((nI (rN T.1.1 t lo hi (nI le) k) + 0) : Int32) = (nI (rN T.1.1 t lo hi (nI le) (k + 1))) from by rw [i3]; exact Int32.add_zero _]
              refine lv_istore (lv' := [(13, .int (nI (rN T.1.1 t lo hi (nI le) (k + 1)))), (17, .long (lN (rS T.1.1 t lo hi (k + 1)))), (12, .int (nI (rN T.1.1 t lo hi 0 (k + 1)))), (20, .int (nI (kN T.1.1 t k))), (19, .int (nI k)), (16, .int (rC T.1.1 t lo (k + 1))), (15, .int (rF T.1.1 t lo (k + 1))), (14, .int (rB T.1.1 t lo hi k)), (11, .int (nI le)), (10, .int (nI hi)), (9, .int (nI lo)), (8, .int (nI u)), (3, .int (nI t.size)), (2, .int (nI tu)), (1, .ref (a 0)), (0, .ref sb)]) hx hb dL_law_942 hl (by decide) rfl (fun ls hl => ?_)
              exact J944 ls _ _ _ _ M0 (by omega) (by omega) hl
          · refine lv_icmp_le (tgt := 908) hx hb dL_law_902 (by decide) (fun h9 => absurd ((le_hi hw hk hi).mp h9) e2) (fun _ => ?_)
            refine lv_goto (tgt := 972) hx hb dL_law_905 (by decide) ?_
            obtain ⟨o1, o2, o3⟩ := out_s hw (lo := lo) hk (Or.inr e2) (nI le)
            obtain ⟨o4, -, -⟩ := out_s hw (lo := lo) hk (Or.inr e2) 0
            rw [← o1, ← o2, ← o3, ← o4] at hl
            exact J972 ls _ _ _ _ M0 (by omega) (by omega) (lv_sub hl [0, 1, 2, 3, 4, 5, 6, 7, 8, 9, 10, 11, 12, 13, 14, 15] rfl)
      refine lv_iload hx hb dL_law_837 (lv_at hl 0 rfl) ?_
      refine lv_iload_n hx hb dL_law_839 rfl (lv_at hl 11 rfl) ?_
      refine lv_icmp_ge (tgt := 978) hx hb dL_law_840 (by decide) (fun h9 => absurd h9 (nI_ge hk (by omega))) (fun _ => ?_)
      refine lv_aload_n hx hb dL_law_843 rfl (lv_at hl 13 rfl) ?_
      refine lv_iload hx hb dL_law_844 (lv_at hl 0 rfl) ?_
      refine mX C0 M0 (c_X6_keyAt l g a T (nI k) C0.2.2.2.2 (.inr (nI (kN T.1.1 t k))) T (a_keyAt hw hk)) vv_L_66 (rest := []) rfl rfl hl.1 (Nat.le_of_ble_eq_true rfl) dL_law_846 ⟨by omega, by omega⟩ ⟨by omega, by omega⟩ (fun H locs M0 => ?_)
      refine lv_istore (lv' := [(20, .int (nI (kN T.1.1 t k))), (19, .int (nI k)), (17, .long (lN (rS T.1.1 t lo hi k))), (16, .int (rC T.1.1 t lo k)), (15, .int (rF T.1.1 t lo k)), (14, .int (rB T.1.1 t lo hi k)), (13, .int (nI (rN T.1.1 t lo hi (nI le) k))), (12, .int (nI (rN T.1.1 t lo hi 0 k))), (11, .int (nI le)), (10, .int (nI hi)), (9, .int (nI lo)), (8, .int (nI u)), (3, .int (nI t.size)), (2, .int (nI tu)), (1, .ref (a 0)), (0, .ref sb)]) hx hb dL_law_849 hl (by decide) rfl (fun ls hl => ?_)
      refine lv_iload hx hb dL_law_851 (lv_at hl 0 rfl) ?_
      refine lv_iload hx hb dL_law_853 (lv_at hl 10 rfl) ?_
      have J865 : ∀ (V : Int32), V = rF T.1.1 t lo (k + 1) → W p l e R s m #[.ref sb] below meth c H locs (cells + 1) (slots + 6 * 1) Q (F0 m 865 ls [.int V]) := by
        intro V hV
        subst hV
        refine lv_istore (lv' := [(15, .int (rF T.1.1 t lo (k + 1))), (20, .int (nI (kN T.1.1 t k))), (19, .int (nI k)), (17, .long (lN (rS T.1.1 t lo hi k))), (16, .int (rC T.1.1 t lo k)), (14, .int (rB T.1.1 t lo hi k)), (13, .int (nI (rN T.1.1 t lo hi (nI le) k))), (12, .int (nI (rN T.1.1 t lo hi 0 k))), (11, .int (nI le)), (10, .int (nI hi)), (9, .int (nI lo)), (8, .int (nI u)), (3, .int (nI t.size)), (2, .int (nI tu)), (1, .ref (a 0)), (0, .ref sb)]) hx hb dL_law_865 hl (by decide) rfl (fun ls hl => ?_)
        refine lv_iload hx hb dL_law_867 (lv_at hl 1 rfl) ?_
        refine lv_iload hx hb dL_law_869 (lv_at hl 10 rfl) ?_
        have J889 : ∀ (ls : Array Slot) (V : Int32), lv_has ls 21 [(15, .int (rF T.1.1 t lo (k + 1))), (20, .int (nI (kN T.1.1 t k))), (19, .int (nI k)), (17, .long (lN (rS T.1.1 t lo hi k))), (16, .int (rC T.1.1 t lo k)), (14, .int (rB T.1.1 t lo hi k)), (13, .int (nI (rN T.1.1 t lo hi (nI le) k))), (12, .int (nI (rN T.1.1 t lo hi 0 k))), (11, .int (nI le)), (10, .int (nI hi)), (9, .int (nI lo)), (8, .int (nI u)), (3, .int (nI t.size)), (2, .int (nI tu)), (1, .ref (a 0)), (0, .ref sb)] → V = rC T.1.1 t lo (k + 1) → W p l e R s m #[.ref sb] below meth c H locs (cells + 1) (slots + 6 * 1) Q (F0 m 889 ls [.int V]) := by
          intro ls V hl hV
          subst hV
          refine lv_istore (lv' := [(16, .int (rC T.1.1 t lo (k + 1))), (15, .int (rF T.1.1 t lo (k + 1))), (20, .int (nI (kN T.1.1 t k))), (19, .int (nI k)), (17, .long (lN (rS T.1.1 t lo hi k))), (14, .int (rB T.1.1 t lo hi k)), (13, .int (nI (rN T.1.1 t lo hi (nI le) k))), (12, .int (nI (rN T.1.1 t lo hi 0 k))), (11, .int (nI le)), (10, .int (nI hi)), (9, .int (nI lo)), (8, .int (nI u)), (3, .int (nI t.size)), (2, .int (nI tu)), (1, .ref (a 0)), (0, .ref sb)]) hx hb dL_law_889 hl (by decide) rfl (fun ls hl => ?_)
          exact J891 ls _ _ _ _ M0 (by omega) (by omega) (lv_sub hl [2, 3, 4, 0, 1, 5, 6, 7, 8, 9, 10, 11, 12, 13, 14, 15] rfl)
        by_cases e1 : k < aLo T.1.1 t lo
        · refine lv_icmp_lt (tgt := 887) hx hb dL_law_871 (by decide) (fun _ => ?_) (fun h9 => absurd ((lt_lo hw hk lo).mpr e1) h9)
          refine lv_iload hx hb dL_law_887 (lv_at hl 4 rfl) ?_
          exact J889 ls _ hl (rC_s1 e1).symm
        · refine lv_icmp_lt (tgt := 887) hx hb dL_law_871 (by decide) (fun h9 => absurd ((lt_lo hw hk lo).mp h9) e1) (fun _ => ?_)
          refine lv_iload hx hb dL_law_874 (lv_at hl 4 rfl) ?_
          refine lv_sipush (v := (-30000)) hx hb dL_law_876 (by decide) ?_
          by_cases e2 : aLo T.1.1 t lo = k
          · obtain ⟨c1, c2⟩ := rC_s2 e2
            refine lv_icmp_ne (tgt := 887) hx hb dL_law_879 (by decide) (fun h9 => absurd c2 h9) (fun _ => ?_)
            refine lv_iload hx hb dL_law_882 (lv_at hl 1 rfl) ?_
            refine lv_goto (tgt := 889) hx hb dL_law_884 (by decide) ?_
            exact J889 ls _ hl c1.symm
          · obtain ⟨c1, c2⟩ := rC_s3 (t := t) (T := T.1.1) (lo := lo) (k := k) (by omega)
            refine lv_icmp_ne (tgt := 887) hx hb dL_law_879 (by decide) (fun _ => ?_) (fun h9 => absurd h9 (by rw [c2]; exact no_ne (kN_ok hw (by omega)).2))
            refine lv_iload hx hb dL_law_887 (lv_at hl 4 rfl) ?_
            exact J889 ls _ hl c1.symm
      by_cases e1 : k < aHi T.1.1 t lo
      · refine lv_icmp_gt (tgt := 863) hx hb dL_law_855 (by decide) (fun h9 => absurd h9 (Int32.not_lt.mpr ((le_hi hw hk lo).mpr e1))) (fun _ => ?_)
        refine lv_iload hx hb dL_law_858 (lv_at hl 0 rfl) ?_
        refine lv_goto (tgt := 865) hx hb dL_law_860 (by decide) ?_
        exact J865 _ (rF_s1 e1).symm
      · refine lv_icmp_gt (tgt := 863) hx hb dL_law_855 (by decide) (fun _ => ?_) (fun h9 => absurd (Int32.not_le.mp (fun h8 => e1 ((le_hi hw hk lo).mp h8))) h9)
        refine lv_iload hx hb dL_law_863 (lv_at hl 4 rfl) ?_
        exact J865 _ (rF_s2 e1).symm
