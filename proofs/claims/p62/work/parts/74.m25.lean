/-! ===== mathematics, 25: means, the output ===== -/
theorem meanDepth_c27 {M : ModS} {t : Tr} (hN : mNs M t.size) (h24 : t.size ≤ 24) (ht : th M 0 t) (h0 : 0 < t.size) : ∀ (n i v : Nat), i ≤ t.size → t.size - i < n → f_X7_meanDepth_c27 n M (nI v) (nI i) = some (FP.ddiv (FP.i2d (nI (v + sumR t.dep i (t.size - i)))) (FP.i2d (nI t.size)), M)
  | 0, i, v, _, hn => absurd hn (by omega)
  | n + 1, i, v, hi, hn => by
    rw [f_X7_meanDepth_c27, hN]
    by_cases e : i = t.size
    · rw [if_pos (nI_le (by omega) (by omega)), if_pos (ddiv_num _ (nI_ne0 h0 (by omega))), e, Nat.sub_self]; rfl
    · rw [if_neg (nI_ge (by omega) (by omega)), depthR_ok hN h24 ht (by omega), Option.bind_some, nI_add, nI_1, show t.size - i = (t.size - (i + 1)) + 1 by omega, sumR, ← Nat.add_assoc]
      exact meanDepth_c27 hN h24 ht h0 n (i + 1) (v + t.dep i) (by omega) (by omega)
theorem ma_meanDepth : pq_Ma_meanDepth PR := by
  intro T M h
  obtain ⟨t, hw, hM, -⟩ := h.now
  have h24 := hw.le
  unfold f_X6_meanDepth f_X7_meanDepth
  rw [pointCount_ok hw, Option.bind_some, hM.1]
  by_cases e : t.size = 0
  · rw [e, if_pos (show nI 0 = 0 from rfl), if_pos (by decide), isFine_0]
    exact ⟨_, T, _, (1, M.2), rfl, rfl, h, pcd_1 _ _, fun h9 => absurd h9 e10, fun h9 => absurd h9 e10⟩
  · have hn := nI_ne0 (n := t.size) (by omega) (by omega)
    have hm := meanDepth_c27 (M := (0, M.2)) hM.1 h24 (hw.th (M := (0, M.2)) hM) (by omega) 200 0 0 (by omega) (by omega)
    rw [Nat.zero_add, Nat.sub_zero] at hm
    rw [if_neg hn, if_neg (nI_nle (by omega) (by omega)), isFine_1, Option.bind_some, if_neg n10, sumOfDepths_ok hw.1, Option.bind_some, if_pos (ddiv_num _ hn)]
    have hm' : f_X7_meanDepth_c27 200 (0, M.2) 0 0 = _ := hm
    rw [hm']
    exact ⟨_, T, _, (0, M.2), rfl, rfl, h, rfl, fun _ => rfl, fun _ => dcmp_num (FP.Core.ddiv_out (FP.Core.i2d_fin _).notNaN (FP.Core.i2d_fin _) (fun h => FP.Core.i2d_ne_zero hn ((FP.Core.zero_bits2 _).mp h)))⟩
theorem ma_leafShare : pq_Ma_leafShare PR := by
  intro T M h
  obtain ⟨t, hw, hM, -⟩ := h.now
  have h24 := hw.le
  have hN : M.2.1 (0 : Int32).toNatClampNeg = nI t.size := hM.1
  unfold f_X6_leafShare f_X7_leafShare
  rw [pointCount_ok hw, Option.bind_some, hN]
  by_cases e : t.size = 0
  · rw [e, if_pos (show nI 0 = 0 from rfl), if_pos (by decide), isFine_0]
    exact ⟨_, T, _, (1, M.2), rfl, rfl, h, pcd_1 _ _, fun h9 => absurd h9 e10, fun h9 => absurd h9 e10⟩
  · have hn := nI_ne0 (n := t.size) (by omega) (by omega)
    rw [if_neg hn, if_neg (nI_nle (by omega) (by omega)), isFine_1, Option.bind_some, if_neg n10, countLeaves_ok hw.1, leavesR (M := (0, M.2)) hw hM, Option.bind_some, Option.bind_some]
    rw [show (((0 : Int32), M.2) : ModS).2.1 (0 : Int32).toNatClampNeg = nI t.size from hN, if_pos (fdiv_num _ hn), if_pos (fdiv_num _ hn)]
    have hnn : FP.fIsNaN (FP.fdiv (FP.i2f (nI (sumR (fun i => if t.sz i = 1 then 1 else 0) 0 t.size))) (FP.i2f (nI t.size))) = false := FP.Core.fdiv_out (FP.Core.i2f_fin _).notNaN (FP.Core.i2f_fin _) (fun h => FP.Core.i2f_ne_zero hn ((FP.Core.zero_bits232 _).mp h))
    have hd : FP.Core.dIsNaN (FP.f2d (FP.fdiv (FP.i2f (nI (sumR (fun i => if t.sz i = 1 then 1 else 0) 0 t.size))) (FP.i2f (nI t.size)))) = false := (FP.f2d_nan _).trans hnn
    exact ⟨_, T, _, (0, M.2), rfl, rfl, h, rfl, fun _ => rfl, fun _ => ⟨n64_of hd, dcmp_num hd⟩⟩
/-! the output -/
theorem ch_fin : ∀ c : Fin 127, ((nI c).toUInt32 % 65536).toInt32 = nI c ∧ vp_nar .char (nI c) = nI c := by decide +kernel
theorem ch_id {c : Nat} (h : c ≤ 126) : ((nI c).toUInt32 % 65536).toInt32 = nI c ∧ vp_nar .char (nI c) = nI c := ch_fin ⟨c, by omega⟩
theorem dg_fin : ∀ k : Fin 100, nI k / 10 = nI (k / 10) ∧ (48 + (nI k - nI k / 10 * 10) : Int32) = nI (48 + k % 10) ∧ (48 + nI k / 10 : Int32) = nI (48 + k / 10) := by decide +kernel
theorem dg_id {k : Nat} (h : k ≤ 99) : nI k / 10 = nI (k / 10) ∧ (48 + (nI k - nI k / 10 * 10) : Int32) = nI (48 + k % 10) ∧ (48 + nI k / 10 : Int32) = nI (48 + k / 10) := dg_fin ⟨k, by omega⟩
theorem ma_outputAt : pq_Ma_outputAt PR := by
  intro T M p1 h
  obtain ⟨-, -, -, ⟨n, n1, n2, n3, n4⟩, -, -, -⟩ := id h
  show QQ [IOB] _ _
  unfold f_X6_outputAt f_X7_outputAt
  rw [inR_ok, Option.bind_some, n2, n3]
  by_cases e : p1 < 0
  · rw [if_pos e, if_neg (fun h9 => Int32.not_le.mpr e h9.1), isFine_0]
    exact QQ.thr (E := IOB) (b := 0) (M := (1, M.2)) rfl rfl h (pcd_1 _ _) e10
  · obtain ⟨j, hj, rfl⟩ := nI_of e
    rw [if_neg e]
    by_cases e2 : j < n
    · obtain ⟨c1, c, c2, c3⟩ := n4 j e2
      rw [if_pos (nI_lt e2 (by omega)), if_pos (show (0 : Int32) ≤ nI j ∧ nI j ≤ nI n - 1 from ⟨nI_pos' hj, by rw [show n = (n - 1) + 1 by omega, nI_pred]; exact nI_le (by omega) (by omega)⟩), isFine_1, Option.bind_some, if_neg n10, if_neg (nI_in (by omega) (by decide)), nI_clamp (by omega), f_X3_characterAt, rdn (show j < 168 by omega) (by decide), Option.bind_some, c1]
      show QQ _ _ (if vp_nar .char (M.2.2.2.2.2.2.2.2.1 j) = M.2.2.2.2.2.2.2.2.1 j then some (M.2.2.2.2.2.2.2.2.1 j, ((0 : Int32), M.2)) else none)
      rw [c3, (ch_id c2).1, (ch_id c2).2, if_pos rfl, if_pos rfl]
      exact QQ.ret (M := (0, M.2)) rfl rfl h rfl
    · rw [if_neg (nI_nlt (by omega) hj), if_neg, isFine_0]
      · exact QQ.thr (E := IOB) (b := 0) (M := (1, M.2)) rfl rfl h (pcd_1 _ _) e10
      · rintro ⟨-, h9⟩
        exact Int32.not_le.mpr (nI_dec_lt n (by omega)) (Int32.le_trans (nI_le (by omega) hj) h9)
/-- both outputs have the same n characters -/
def OL (O : OutS) (ln : Nat → Int32) (sz : Int32) (n : Nat) : Prop := n ≤ 168 ∧ O.2 = nI n ∧ sz = nI n ∧ ∀ i, i < n → O.1 i = ln i ∧ ∃ c : Nat, c ≤ 126 ∧ ln i = nI c
abbrev ml (M : ModS) (ln : Nat → Int32) (sz : Int32) : ModS := (M.1, M.2.1, M.2.2.1, M.2.2.2.1, M.2.2.2.2.1, M.2.2.2.2.2.1, M.2.2.2.2.2.2.1, M.2.2.2.2.2.2.2.1, ln, sz, M.2.2.2.2.2.2.2.2.2.2)
abbrev mo (T : MainS) (O : OutS) : MainS := (T.1, T.2.1, T.2.2.1, T.2.2.2.1, T.2.2.2.2.1, T.2.2.2.2.2.1, O, T.2.2.2.2.2.2.2)
theorem write_ok {O : OutS} {M : ModS} {ln : Nat → Int32} {sz : Int32} {n c : Nat} (h : OL O ln sz n) (hn : n + 1 ≤ 168) (hc : c ≤ 126) : ∃ (O' : OutS) (ln' : Nat → Int32) (sz' : Int32), f_X3_write O (nI c) = some O' ∧ f_X7_writes (ml M ln sz) (nI c) = some (ml M ln' sz') ∧ OL O' ln' sz' (n + 1) := by
  obtain ⟨h1, h2, h3, h4⟩ := h
  refine ⟨(upd O.1 n (nI c), nI (n + 1)), upd ln n (nI c), nI (n + 1), ?_, ?_, hn, rfl, rfl, fun i hi => ?_⟩
  · unfold f_X3_write
    rw [h2, if_neg (show ¬ (168 : Int32) ≤ nI n from nI_ge (b := 168) (by omega) (by omega)), wrn (by omega) (by decide), nI_1]
  · unfold f_X7_writes
    show (if (sz < 0 ∨ 200 ≤ sz.toNatClampNeg) then none else some (ml M (upd ln sz.toNatClampNeg (vp_nar .char (((nI c).toUInt32 % 65536).toInt32))) (sz + 1))) = _
    rw [h3, if_neg (nI_in (by omega) (by decide)), nI_clamp (by omega), (ch_id hc).1, (ch_id hc).2, nI_1]
  · by_cases e : i = n
    · rw [e]
      show upd O.1 n (nI c) n = upd ln n (nI c) n ∧ ∃ c_1, c_1 ≤ 126 ∧ upd ln n (nI c) n = nI c_1
      rw [upd_eq, upd_eq]
      exact ⟨rfl, c, hc, rfl⟩
    · show upd O.1 n (nI c) i = upd ln n (nI c) i ∧ ∃ c_1, c_1 ≤ 126 ∧ upd ln n (nI c) i = nI c_1
      rw [upd_ne _ _ e, upd_ne _ _ e]
      exact h4 i (by omega)
theorem writeNum_ok {O : OutS} {M : ModS} {ln : Nat → Int32} {sz : Int32} {n k : Nat} (h : OL O ln sz n) (hn : n + 2 ≤ 168) (hk : k ≤ 99) : ∃ (O' : OutS) (ln' : Nat → Int32) (sz' : Int32) (n' : Nat), f_X3_writeNumber O (nI k) = some O' ∧ f_X7_writesNumber 40 (ml M ln sz) (nI k) = some (ml M ln' sz') ∧ OL O' ln' sz' n' ∧ n' ≤ n + 2 ∧ n < n' := by
  obtain ⟨d1, d2, d3⟩ := dg_id hk
  unfold f_X3_writeNumber f_X3_writeNumber_c17
  rw [d2, d3, f_X7_writesNumber, f_X7_writesNumber_c14, d1]
  by_cases e : k < 10
  · obtain ⟨O1, l1, s1, w1, w2, w3⟩ := write_ok (M := M) (c := 48 + k % 10) h (by omega) (by omega)
    refine ⟨O1, l1, s1, n + 1, ?_, ?_, w3, by omega, by omega⟩
    · rw [if_pos (show nI k < 10 from nI_lt (b := 10) e (by omega)), w1]; rfl
    · rw [if_pos (show nI k ≤ 9 from nI_le (b := 9) (by omega) (by omega)), ← d1, d2, w2]; rfl
  · obtain ⟨O1, l1, s1, w1, w2, w3⟩ := write_ok (M := M) (c := 48 + k / 10) h (by omega) (by omega)
    obtain ⟨O2, l2, s2, v1, v2, v3⟩ := write_ok (M := M) (c := 48 + k % 10) w3 (by omega) (by omega)
    have hkk : (k / 10) % 10 = k / 10 := Nat.mod_eq_of_lt (by omega)
    obtain ⟨-, f2, -⟩ := dg_id (k := k / 10) (by omega)
    rw [hkk] at f2
    refine ⟨O2, l2, s2, n + 2, ?_, ?_, v3, by omega, by omega⟩
    · rw [if_neg (show ¬ nI k < 10 from nI_nlt (b := 10) (by omega) (by omega)), w1, Option.bind_some, v1]; rfl
    · rw [if_neg (show ¬ nI k ≤ 9 from nI_ge (a := 9) (by omega) (by omega)), f_X7_writesNumber, if_pos (show nI (k / 10) ≤ 9 from nI_le (b := 9) (by omega) (by omega)), f_X7_writesNumber_c14, f2, w2, Option.bind_some, Option.bind_some, f_X7_writesNumber_c14, d2, v2]; rfl
theorem wtree_ok {T : MainS} {M : ModS} (t : Tr) : ∀ (o p v d1 d2 n : Nat) (O : OutS) (ln : Nat → Int32) (sz : Int32), trp T.1.1 p t → th M o t → MA M T.1.1 o t.slots → (∀ x ∈ t.slots, (∃ k, k ≤ 99 ∧ T.1.1.1 x = nI k) ∧ ∃ p, p ≤ 99 ∧ T.1.1.2.1 x = nI p) → v + t.size ≤ 24 → t.size < d1 → t.size < d2 → o + t.size ≤ 24 → OL O ln sz n → n + 7 * t.size ≤ 168 →
    ∃ (O' : OutS) (ln' : Nat → Int32) (sz' : Int32) (n' : Nat), f_X6_writeSubtree d1 O T.1.1 (nI t.root) (nI v) = some O' ∧ f_X7_writesTree d2 (ml M ln sz) (nI o) (nI (o + t.size) - 1) = some (ml M ln' sz') ∧ OL O' ln' sz' n' ∧ n' ≤ n + 7 * t.size := by
  induction t using Tr.ind with
  | nil =>
    intro o p v d1 d2 n O ln sz _ _ _ _ _ h1 h2 h24 hO _
    obtain ⟨d1, rfl⟩ : ∃ n', d1 = n' + 1 := ⟨d1 - 1, by omega⟩
    obtain ⟨d2, rfl⟩ : ∃ n', d2 = n' + 1 := ⟨d2 - 1, by omega⟩
    rw [Tr.size_nil] at h24
    refine ⟨O, ln, sz, n, ?_, ?_, hO, by omega⟩
    · rw [f_X6_writeSubtree, show nI Tr.nil.root = 0 from rfl, if_pos rfl]
    · rw [f_X7_writesTree, Tr.size_nil, Nat.add_zero, top_none (by omega) (nI_dec_lt o (by omega)), Option.bind_some, if_neg neg1le]
  | node l s r hl hr =>
    intro o p v d1 d2 n O ln sz ht hth hMA hrg hv h1 h2 h24 hO hn
    obtain ⟨s1, -, sl, sr, tl, tr⟩ := ht
    replace sl : T.1.1.2.2.2.1 s = nI l.root := sl
    replace sr : T.1.1.2.2.2.2.1 s = nI r.root := sr
    obtain ⟨m1, ⟨m2, m3⟩, m4⟩ := MA_node hMA
    obtain ⟨t1, t2, t3⟩ := th_node.mp hth
    simp only [Tr.slots_node, List.mem_append, List.mem_cons] at hrg
    obtain ⟨⟨k, k1, k2⟩, q, q1, q2⟩ := hrg s (by simp)
    rw [Tr.size_node] at hv h1 h2 h24 hn ⊢
    obtain ⟨d1, rfl⟩ : ∃ n', d1 = n' + 1 := ⟨d1 - 1, by omega⟩
    obtain ⟨d2, rfl⟩ : ∃ n', d2 = n' + 1 := ⟨d2 - 1, by omega⟩
    obtain ⟨O1, l1, z1, w1, w2, w3⟩ := write_ok (M := M) (c := 40) hO (by omega) (by omega)
    obtain ⟨O2, l2, z2, n2, x1, x2, x3, x4⟩ := hl o s (v + 1) d1 d2 (n + 1) O1 l1 z1 tl t2 m1 (fun x hx => hrg x (by simp [hx])) (by omega) (by omega) (by omega) (by omega) w3 (by omega)
    obtain ⟨O3, l3, z3, n3, y1, y2, y3, y4, -⟩ := writeNum_ok (M := M) x3 (by omega) k1
    obtain ⟨O4, l4, z4, u1, u2, u3⟩ := write_ok (M := M) (c := 58) y3 (by omega) (by omega)
    obtain ⟨O5, l5, z5, n5, g1, g2, g3, g4, -⟩ := writeNum_ok (M := M) u3 (by omega) q1
    obtain ⟨O6, l6, z6, n6, h6, h7, h8, h9⟩ := hr (o + l.size + 1) s (v + 1) d1 d2 n5 O5 l5 z5 tr t3 m4 (fun x hx => hrg x (by simp [hx])) (by omega) (by omega) (by omega) (by omega) g3 (by omega)
    obtain ⟨O7, l7, z7, f1, f2, f3⟩ := write_ok (M := M) (c := 41) h8 (by omega) (by omega)
    refine ⟨O7, l7, z7, n6 + 1, ?_, ?_, f3, by omega⟩
    · rw [f_X6_writeSubtree, Tr.root_node, if_neg (nI_ne0 (by omega) (by omega)), if_pos (show nI v < 24 from nI_lt (b := 24) (by omega) (by omega)), nI_1]
      show (f_X3_write O (nI 40)).bind _ = _
      rw [w1, Option.bind_some]
      show (f_X4_leftIn T.1.1 (nI s)).bind _ = _
      rw [f_X4_leftIn, rd25 s1.2, sl, Option.bind_some]
      show (f_X6_writeSubtree d1 O1 T.1.1 (nI l.root) (nI (v + 1))).bind _ = _
      rw [x1, Option.bind_some]
      show (f_X4_keyIn T.1.1 (nI s)).bind _ = _
      rw [f_X4_keyIn, rd25 s1.2, k2, Option.bind_some]
      show (f_X3_writeNumber O2 (nI k)).bind _ = _
      rw [y1, Option.bind_some]
      show (f_X3_write O3 (nI 58)).bind _ = _
      rw [u1, Option.bind_some]
      show (f_X4_priorityIn T.1.1 (nI s)).bind _ = _
      rw [f_X4_priorityIn, rd25 s1.2, q2, Option.bind_some, g1, Option.bind_some]
      show (f_X4_rightIn T.1.1 (nI s)).bind _ = _
      rw [f_X4_rightIn, rd25 s1.2, sr, Option.bind_some]
      show (f_X6_writeSubtree d1 O5 T.1.1 (nI r.root) (nI (v + 1))).bind _ = _
      rw [h6, Option.bind_some]
      show (f_X3_write O6 (nI 41)).bind _ = _
      rw [f1]; rfl
    · have htop : f_X7_top (ml M ln sz) (nI o) (nI (o + (l.size + 1 + r.size)) - 1) = some (nI (o + l.size)) := by
        rw [show o + (l.size + 1 + r.size) = (o + l.size + r.size) + 1 by omega, nI_pred]
        exact top_ok (by omega) (by omega) (by omega) (fun j j1 j2 j3 => t1 j j1 (by omega) j3)
      have er : nI (o + (l.size + 1 + r.size)) - 1 = nI (o + l.size + 1 + r.size) - 1 := by rw [show o + (l.size + 1 + r.size) = o + l.size + 1 + r.size by omega]
      rw [f_X7_writesTree, htop, Option.bind_some, if_pos (nI_pos' (by omega)), show (40 : Int32) = nI 40 from rfl, w2, Option.bind_some, x2, Option.bind_some, key_ok (M := ml M l2 z2) (by omega), Option.bind_some]
      show ((f_X7_writesNumber 40 (ml M l2 z2) (mK M (o + l.size))).bind _) = _
      rw [m2, k2, y2, Option.bind_some, show (58 : Int32) = nI 58 from rfl, u2, Option.bind_some, pri_ok (M := ml M l4 z4) (by omega), Option.bind_some]
      show ((f_X7_writesNumber 40 (ml M l4 z4) (mP M (o + l.size))).bind _) = _
      rw [m3, q2, g2, Option.bind_some, nI_1, er, h7, Option.bind_some, show (41 : Int32) = nI 41 from rfl, f2]; rfl
theorem PR.out {T : MainS} {M : ModS} (h : PR T M) {O : OutS} {ln : Nat → Int32} {sz x : Int32} {n : Nat} (hO : OL O ln sz n) : PR (mo T O) (x, (ml M ln sz).2) := by
  obtain ⟨h1, h2, h3, -, h5, h6, h7⟩ := h
  exact ⟨h1, h2, h3, ⟨n, hO.1, hO.2.1, hO.2.2.1, hO.2.2.2⟩, h5, h6, h7⟩
theorem ma_writeTree : pq_Ma_writeTree PR := by
  intro T M h
  obtain ⟨t, hw, hM, -⟩ := h.now
  have h24 := hw.le
  have hO : OL (T.2.2.2.2.2.2.1.1, 0) M.2.2.2.2.2.2.2.2.1 0 0 := ⟨by omega, rfl, rfl, fun i hi => by omega⟩
  obtain ⟨O', ln, sz, n, w1, w2, w3, w4⟩ := wtree_ok (T := T) (M := (0, M.2)) t 0 0 0 40 40 0 _ _ _ hw.1.1.2 (hw.th (M := (0, M.2)) hM) hM.2 hw.2.2.2 (by omega) (by omega) (by omega) (by omega) hO (by omega)
  refine ⟨nI n, mo T O', ml (0, M.2) ln sz, ?_, ?_, h.out (x := 0) w3⟩
  · unfold f_X6_writeTree f_X3_clear f_X4_topmost
    rw [Option.bind_some, Option.bind_some, show T.1.1.2.2.2.2.2.2 = nI t.root from hw.1.1.1]
    show (f_X6_writeSubtree 40 (T.2.2.2.2.2.2.1.1, 0) T.1.1 (nI t.root) (nI 0)).bind _ = _
    rw [w1, Option.bind_some]
    show some (O'.2, _) = _
    rw [w3.2.1]
  · unfold f_X7_writeTree
    rw [hM.1]
    show (f_X7_writesTree 40 (ml (0, M.2) M.2.2.2.2.2.2.2.2.1 0) (nI 0) (nI t.size - 1)).bind _ = _
    rw [Nat.zero_add] at w2
    rw [w2, Option.bind_some]
    show some (sz, _) = _
    rw [w3.2.2.1]
/-! a window's text -/
abbrev gW (D : DataS) (t : Tr) (w : Nat) (i : Nat) : Nat := wA D.1 (D.2.1.1 w) (D.2.1.2.1 w) (D.2.1.2.2.1 w) (t.sl i)
theorem sumR_succ (g : Nat → Nat) (n : Nat) : sumR g 0 (n + 1) = sumR g 0 n + g n := by
  rw [sumR_add, Nat.zero_add]; rfl
theorem sumR_mono0 (g : Nat → Nat) {i j : Nat} (h : i ≤ j) : sumR g 0 i ≤ sumR g 0 j := by
  rw [show j = i + (j - i) by omega, sumR_add]; omega
theorem siw_c14 {D : DataS} {t : Tr} (h : WF D.1 t) {w : Nat} (hw : w < 4) {j : Nat} (hj : j < t.size) (hin : gW D t w j = 1) : ∀ (n i : Nat), i ≤ j → j - i < n → f_X1_slotInWindow_c14 n D (nI w) (nI (sumR (gW D t w) 0 j)) (nI (sumR (gW D t w) 0 i)) (nI t.size) (nI i) = some (nI (t.sl j))
  | 0, i, _, hn => absurd hn (by omega)
  | n + 1, i, hi, hn => by
    have h24 := h.le
    have hs := (h.1.mem _ (sl_mem (t := t) (i := i) (by omega))).2
    have hB : gW D t w i ≤ 1 := wB_le _ _ _ _ _
    have hs1 := sumR_succ (gW D t w) i
    have hb := sumR_le (g := gW D t w) (B := 1) j 0 (fun i _ _ => wB_le _ _ _ _ _)
    have hmn := sumR_mono0 (gW D t w) hi
    rw [f_X1_slotInWindow_c14, if_neg (nI_ge (by omega) (by omega)), if_neg (nI_24 (by omega)), slotAt_ok h (by omega), Option.bind_some, f_X4_keyIn, f_X4_priorityIn, rd25 hs, rd25 hs, Option.bind_some, Option.bind_some, covers_ok hw, Option.bind_some, nI_1, nI_1]
    show (if nI (gW D t w i) = 0 then _ else _) = _
    by_cases e1 : gW D t w i = 0
    · have hij : i ≠ j := fun e => by rw [e] at e1; omega
      rw [e1, if_pos (show nI 0 = 0 from rfl)]
      have := siw_c14 h hw hj hin n (i + 1) (by omega) (by omega)
      rw [hs1, e1, Nat.add_zero] at this
      exact this
    · rw [if_neg (nI_ne0 (by omega) (by omega))]
      by_cases e2 : i = j
      · rw [e2, if_pos rfl]
      · have h9 := sumR_mono0 (gW D t w) (show i + 1 ≤ j by omega)
        rw [if_neg (fun h8 => by have := (nI_eq (by omega) (by omega)).mp h8; omega)]
        have := siw_c14 h hw hj hin n (i + 1) (by omega) (by omega)
        rw [hs1, show gW D t w i = 1 by omega] at this
        exact this
theorem wwin_ok {T : MainS} {M : ModS} {t : Tr} (hw : WF T.1.1 t) (hM : MR M T.1.1 t) {w : Nat} (hw4 : w < 4) (hW : WR1 T.1.2.1 M.2.1 w) (ho : T.1.2.1.2.2.2 w ≠ 0) : ∀ (n2 n1 k n : Nat) (O : OutS) (ln : Nat → Int32) (sz : Int32), k ≤ t.size → t.size - k < n2 → sumR (gW T.1 t w) k (t.size - k) < n1 → OL O ln sz n → n ≤ 3 * sumR (gW T.1 t w) 0 k → (n = 0 ↔ sumR (gW T.1 t w) 0 k = 0) →
    ∃ (O' : OutS) (ln' : Nat → Int32) (sz' : Int32) (n' : Nat), f_X6_writeWindow_c23 n1 (mo T O) (nI w) (nI (sumR (gW T.1 t w) 0 t.size)) (nI (sumR (gW T.1 t w) 0 k)) = some (.inr (nI n'), mo T O') ∧ f_X7_writeWindow_c17 n2 (ml M ln sz) (nI w) (nI k) = some (nI n', ml M ln' sz') ∧ OL O' ln' sz' n'
  | 0, n1, k, n, O, ln, sz, _, h2, _, _, _, _ => absurd h2 (by omega)
  | n2 + 1, n1, k, n, O, ln, sz, hk, h2, h1, hO, hn, hn0 => by
    have h24 := hw.le
    have hb := sumR_le (g := gW T.1 t w) (B := 1) t.size 0 (fun i _ _ => wB_le _ _ _ _ _)
    have hbk := sumR_mono0 (gW T.1 t w) hk
    have hN : M.2.1 (0 : Int32).toNatClampNeg = nI t.size := hM.1
    rw [f_X7_writeWindow_c17]
    show ∃ O' ln' sz' n', _ ∧ (if M.2.1 (0 : Int32).toNatClampNeg ≤ nI k then some (sz, ml M ln sz) else _) = _ ∧ _
    rw [hN]
    by_cases e : k = t.size
    · obtain ⟨n1, rfl⟩ : ∃ n', n1 = n' + 1 := ⟨n1 - 1, by omega⟩
      rw [f_X6_writeWindow_c23, e, if_pos (nI_le (Nat.le_refl _) (by omega)), if_pos (nI_le (Nat.le_refl _) (by omega))]
      refine ⟨O, ln, sz, n, ?_, by rw [hO.2.2.1], hO⟩
      show some (Sum.inr O.2, _) = _
      rw [hO.2.1]
    · obtain ⟨kk, k1, k2⟩ := (hw.2.2.2 _ (sl_mem (t := t) (i := k) (by omega))).1
      have hm := hM.at (i := k) (by omega)
      have hs1 := sumR_succ (gW T.1 t w) k
      have hB : gW T.1 t w k ≤ 1 := wB_le _ _ _ _ _
      have hsp : sumR (gW T.1 t w) k (t.size - k) = gW T.1 t w k + sumR (gW T.1 t w) (k + 1) (t.size - (k + 1)) := by
        rw [show t.size - k = (t.size - (k + 1)) + 1 by omega]; rfl
      have hbk1 := sumR_mono0 (gW T.1 t w) (show k + 1 ≤ t.size by omega)
      rw [if_neg (nI_ge (by omega) (by omega)), key_ok (M := ml M ln sz) (by omega), pri_ok (M := ml M ln sz) (by omega), Option.bind_some, Option.bind_some, isWithin_set (M := ml M ln sz) hw4 hW ho, Option.bind_some, nI_1]
      show ∃ O' ln' sz' n', _ ∧ (if nI (wB (T.1.2.1.1 w) (T.1.2.1.2.1 w) (T.1.2.1.2.2.1 w) (mK M k) (mP M k)) = 0 then _ else _) = _ ∧ _
      rw [hm.1, hm.2]
      show ∃ O' ln' sz' n', _ ∧ (if nI (gW T.1 t w k) = 0 then f_X7_writeWindow_c17 n2 (ml M ln sz) (nI w) (nI (k + 1)) else if sz ≤ 0 then f_X7_writeWindow_c61 (f_X7_writeWindow_c17 n2) (ml M ln sz) (nI w) (nI k) else (f_X7_writes (ml M ln sz) 44).bind fun q15 => f_X7_writeWindow_c61 (f_X7_writeWindow_c17 n2) q15 (nI w) (nI k)) = _ ∧ _
      by_cases e1 : gW T.1 t w k = 0
      · rw [e1, if_pos (show nI 0 = 0 from rfl)]
        have := wwin_ok hw hM hw4 hW ho n2 n1 (k + 1) n O ln sz (by omega) (by omega) (by omega) hO (by rw [hs1]; omega) (by rw [hs1, e1, Nat.add_zero]; exact hn0)
        rw [hs1, e1, Nat.add_zero] at this
        exact this
      · have e1' : gW T.1 t w k = 1 := by omega
        obtain ⟨n1, rfl⟩ : ∃ n', n1 = n' + 1 := ⟨n1 - 1, by omega⟩
        have hsl := siw_c14 hw hw4 (j := k) (by omega) e1' 200 0 (Nat.zero_le _) (by omega)
        have hsiw : f_X1_slotInWindow T.1 (nI w) (nI (sumR (gW T.1 t w) 0 k)) = some (nI (t.sl k)) := by
          unfold f_X1_slotInWindow
          rw [pointCount_ok hw, Option.bind_some]; exact hsl
        have hs := (hw.1.mem _ (sl_mem (t := t) (i := k) (by omega))).2
        have fin : ∀ (O1 : OutS) (l1 : Nat → Int32) (z1 : Int32) (m : Nat), OL O1 l1 z1 m → m ≤ n + 1 → ∃ (O' : OutS) (ln' : Nat → Int32) (sz' : Int32) (n' : Nat), f_X6_writeWindow_c47 (f_X6_writeWindow_c23 n1) (mo T O1) (nI w) (nI (sumR (gW T.1 t w) 0 t.size)) (nI (sumR (gW T.1 t w) 0 k)) = some (.inr (nI n'), mo T O') ∧ f_X7_writeWindow_c61 (f_X7_writeWindow_c17 n2) (ml M l1 z1) (nI w) (nI k) = some (nI n', ml M ln' sz') ∧ OL O' ln' sz' n' := fun O1 l1 z1 m hO1 hm1 => by
          obtain ⟨O2, l2, z2, n3, y1, y2, y3, y4, y5⟩ := writeNum_ok (M := M) hO1 (by omega) k1
          obtain ⟨O', ln', sz', n', r1, r2, r3⟩ := wwin_ok hw hM hw4 hW ho n2 n1 (k + 1) n3 O2 l2 z2 (by omega) (by omega) (by omega) y3 (by rw [hs1]; omega) (by rw [hs1]; omega)
          rw [hs1, e1'] at r1
          refine ⟨O', ln', sz', n', ?_, ?_, r3⟩
          · unfold f_X6_writeWindow_c47
            show (f_X1_slotInWindow T.1 (nI w) (nI (sumR (gW T.1 t w) 0 k))).bind _ = _
            rw [hsiw, Option.bind_some]
            show (f_X4_keyIn T.1.1 (nI (t.sl k))).bind _ = _
            rw [f_X4_keyIn, rd25 hs, k2, Option.bind_some]
            show (f_X3_writeNumber O1 (nI kk)).bind _ = _
            rw [y1, Option.bind_some, nI_1]
            exact r1
          · unfold f_X7_writeWindow_c61
            rw [key_ok (M := ml M l1 z1) (by omega), Option.bind_some, nI_1]
            show (f_X7_writesNumber 40 (ml M l1 z1) (mK M k)).bind _ = _
            rw [hm.1, k2, y2, Option.bind_some]
            exact r2
        rw [if_neg (nI_ne0 (by omega) (by omega)), f_X6_writeWindow_c23, if_neg (nI_ge (by omega) (by omega)), if_neg (nI_24 (by omega)), hO.2.2.1]
        by_cases e3 : n = 0
        · have e4 := hn0.mp e3
          rw [e3, if_pos (show nI 0 ≤ 0 by decide), e4, if_pos (show nI 0 ≤ 0 by decide)]
          rw [e4] at fin
          have := fin O ln sz n hO (by omega)
          rw [hO.2.2.1, e3] at this
          exact this
        · have e4 : sumR (gW T.1 t w) 0 k ≠ 0 := fun h9 => e3 (hn0.mpr h9)
          obtain ⟨O1, l1, z1, v1, v2, v3⟩ := write_ok (M := M) (c := 44) hO (by omega) (by omega)
          rw [if_neg (nI_nle (by omega) (by omega)), if_neg (nI_nle (by omega) (by omega))]
          rw [hO.2.2.1] at v2
          show ∃ O' ln' sz' n', (f_X3_write O (nI 44)).bind _ = _ ∧ (f_X7_writes (ml M ln (nI n)) (nI 44)).bind _ = _ ∧ _
          rw [v1, v2, Option.bind_some, Option.bind_some]
          exact fin O1 l1 z1 (n + 1) v3 (by omega)
theorem ma_writeWindow : pq_Ma_writeWindow PR := by
  intro T M p1 h
  obtain ⟨t, hw, hM, hD⟩ := h.now
  have h24 := hw.le
  show QQ [IOB, NSE] _ _
  unfold f_X6_writeWindow f_X7_writeWindow
  rcases open_cases hD p1 with ⟨c1, c2⟩ | ⟨c1, c2⟩ | ⟨w, hw4, rfl, ho, hW, c1, c2⟩
  · rw [c1, c2]
    exact QQ.thr (E := IOB) (b := 0) (M := (1, M.2)) rfl rfl h (pcd_1 _ _) e10
  · rw [c1, c2]
    exact QQ.thr (E := NSE) (b := 0) (M := (2, M.2)) rfl rfl h (pcd_2 _ (by decide)) e20
  · have hO : OL (T.2.2.2.2.2.2.1.1, 0) M.2.2.2.2.2.2.2.2.1 0 0 := ⟨by omega, rfl, rfl, fun i hi => by omega⟩
    have hb := sumR_le (g := gW T.1 t w) (B := 1) t.size 0 (fun i _ _ => wB_le _ _ _ _ _)
    obtain ⟨O', ln, sz, n, w1, w2, w3⟩ := wwin_ok (T := T) (M := (0, M.2)) hw hM hw4 hW ho 200 200 0 0 _ _ _ (by omega) (by omega) (by rw [Nat.sub_zero]; omega) hO (Nat.zero_le _) ⟨fun _ => rfl, fun _ => rfl⟩
    rw [c1, tr_r, c2, Option.bind_some, if_neg n10]
    have hcw : f_X1_countInWindow T.1 (nI w) = some (nI (sumR (gW T.1 t w) 0 t.size)) := by
      rw [countInWindow_ok hw hw4, wc, ← sum_pl]
    refine QQ.ret (T := mo T O') (M := ml (0, M.2) ln sz) (b := nI n) ?_ w2 (h.out (x := 0) w3) rfl
    show (f_X1_countInWindow T.1 (nI w)).bind (fun q18 => f_X6_writeWindow_c23 200 (mo T (T.2.2.2.2.2.2.1.1, 0)) (nI w) q18 0) = _
    rw [hcw, Option.bind_some]
    exact w1
theorem ma_appendInput : pq_Ma_appendInput PR := by
  intro T M p1 h h0 _
  obtain ⟨h1, h2, h3, h4, ⟨n, n1, n2, n3, n4⟩, h6, h7⟩ := id h
  show QQ [IAE, ISE] _ _
  unfold f_X6_appendInput f_X7_appendInput
  rw [inR_ok, Option.bind_some, n3]
  by_cases e : p1 < 32
  · rw [if_pos e, if_neg (show ¬ ((32 : Int32) ≤ p1 ∧ p1 ≤ 126) from fun h9 => Int32.not_le.mpr e h9.1), if_pos rfl]
    exact QQ.thr (E := IAE) (b := 0) (M := (1, M.2)) rfl (by rw [← n3]) h (pcd_1 _ _) e10
  · rw [if_neg e]
    by_cases e2 : p1 ≤ 126
    · obtain ⟨c, c1, rfl⟩ : ∃ c : Nat, c ≤ 126 ∧ p1 = nI c := by
        obtain ⟨j, j1, j2⟩ := nI_of2 (M := 126) (n := 126) rfl (Int32.not_lt.mpr h0) e2
        exact ⟨j, j1, j2⟩
      have c32 : 32 ≤ c := by
        have := Int32.not_lt.mp e
        rw [show (32 : Int32) = nI 32 from rfl, nI_leI (by omega) (by omega)] at this
        exact this
      rw [if_pos e2, if_pos (show (32 : Int32) ≤ nI c ∧ nI c ≤ 126 from ⟨Int32.not_lt.mp e, e2⟩), if_neg n10, f_X0_isFull, n2]
      by_cases e3 : n = 60
      · rw [e3, if_pos (show nI 60 = 60 from rfl), if_neg (by decide), Option.bind_some, if_neg n10]
        exact QQ.thr (E := ISE) (b := 0) (M := (2, M.2)) rfl (by rw [show nI 60 = nI n by rw [e3], ← n3]) h (pcd_2 _ (by decide)) e20
      · rw [if_pos (show nI n < 60 from nI_lt (b := 60) (by omega) (by omega)), if_neg (show ¬ nI n = 60 from fun h9 => e3 ((nI_eq (b := 60) (by omega) (by omega)).mp h9)), if_neg (nI_in (by omega) (by decide)), nI_clamp (by omega), (ch_id c1).2, nI_1, Option.bind_some, if_pos rfl]
        unfold f_X0_append
        rw [n2, wrn (by omega) (by decide), nI_1]
        refine QQ.ret (b := nI (n + 1)) (M := (0, M.2.1, M.2.2.1, M.2.2.2.1, M.2.2.2.2.1, M.2.2.2.2.2.1, M.2.2.2.2.2.2.1, M.2.2.2.2.2.2.2.1, M.2.2.2.2.2.2.2.2.1, M.2.2.2.2.2.2.2.2.2.1, upd M.2.2.2.2.2.2.2.2.2.2.1 n (nI c), nI (n + 1), M.2.2.2.2.2.2.2.2.2.2.2.2)) rfl rfl ⟨h1, h2, h3, h4, ⟨n + 1, by omega, rfl, rfl, fun i hi => ?_⟩, h6, h7⟩ rfl
        show upd T.2.2.2.2.2.1.1 n (nI c) i = upd M.2.2.2.2.2.2.2.2.2.2.1 n (nI c) i ∧ ∃ c_1 : Nat, 32 ≤ c_1 ∧ c_1 ≤ 126 ∧ upd M.2.2.2.2.2.2.2.2.2.2.1 n (nI c) i = nI c_1
        by_cases e4 : i = n
        · rw [e4, upd_eq, upd_eq]; exact ⟨rfl, c, c32, c1, rfl⟩
        · rw [upd_ne _ _ e4, upd_ne _ _ e4]; exact n4 i (by omega)
    · rw [if_neg e2, if_neg (show ¬ ((32 : Int32) ≤ p1 ∧ p1 ≤ 126) from fun h9 => e2 h9.2), if_pos rfl]
      exact QQ.thr (E := IAE) (b := 0) (M := (1, M.2)) rfl (by rw [← n3]) h (pcd_1 _ _) e10
