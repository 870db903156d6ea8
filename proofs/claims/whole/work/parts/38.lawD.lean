set_option maxHeartbeats 4000000 in
set_option maxRecDepth 100000 in
theorem lw_case30 {PR : MainS → ModS → Prop} (hM : pq_Ma PR) {p : Program} {l : Launch} {e : Env} {s : State} {m : MethodId} {below : List Frame} {meth : Method} {c : Code} {Q : State → Prop} {A : Nat → Prop} {b L : Nat} {xs : Nat → Int32} {g : pq_g} {a am : Nat → Nat} {b1 b2 : Nat} (hst : l.stackTraces = false) (S : CallFix p m c cL_law 9 s #[.ref b] pq_G RL) (hK : pq_K g s) (hT : pq_T A s s.heap) (hL9 : pq_L s) (hA : ∀ q : Nat, s.heap.size ≤ q → A q) (hX : va_X b L xs s s.heap) (hbl : b < s.heap.size) (hbA : ¬ A b) (hL : L ≤ 3072)
    {i : Nat} (hi : i + 6 ≤ L) {f : Nat → Int64} {fd : Nat → UInt64} {T : MainS} {M : ModS} {H : Heap} {locs : List Loc} {ls : Array Slot} {cells slots : Nat} (hPR : PR T M) (hP : va_P g.1 pq_cl ([(b1, .inl (g.2 3, 1, .inr (.inl (f))))] ++ ([(b2, .inl (g.2 4, 1, .inr (.inr (.inr (.inl (fd))))))] ++ (mainW g a T ++ modW g am M))) H) (hD : va_D A ([(b1, .inl (g.2 3, 1, .inr (.inl (f))))] ++ ([(b2, .inl (g.2 4, 1, .inr (.inr (.inr (.inl (fd))))))] ++ (mainW g a T ++ modW g am M)))) (hS : va_S A s.heap H locs) (hl : lv_has ls 9 [(5, .int (nI i)), (0, .ref b), (1, .ref (a 0)), (2, .ref (am 0)), (3, .ref b1), (4, .ref b2)]) (hc : cells ≤ 10000) (hs : slots ≤ 100000)
    (kk : ∀ (f1 : Nat → Int64) (fd1 : Nat → UInt64) (T1 : MainS) (M1 : ModS) (H1 : Heap) (locs1 : List Loc) (ls1 : Array Slot), PR T1 M1 → va_P g.1 pq_cl ([(b1, .inl (g.2 3, 1, .inr (.inl (f1))))] ++ ([(b2, .inl (g.2 4, 1, .inr (.inr (.inr (.inl (fd1))))))] ++ (mainW g a T1 ++ modW g am M1))) H1 → va_D A ([(b1, .inl (g.2 3, 1, .inr (.inl (f1))))] ++ ([(b2, .inl (g.2 4, 1, .inr (.inr (.inr (.inl (fd1))))))] ++ (mainW g a T1 ++ modW g am M1))) → va_S A s.heap H1 locs1 → lv_has ls1 9 [(5, .int (nI i)), (0, .ref b), (1, .ref (a 0)), (2, .ref (am 0)), (3, .ref b1), (4, .ref b2)] → W p l e room_1 s m #[.ref b] below meth c H1 locs1 (cells + 6) (slots + 36) Q (F0 m 3417 ls1 [])) : W p l e room_1 s m #[.ref b] below meth c H locs cells slots Q (F0 m 1847 ls []) := by
  obtain ⟨hx, hb, hml, hown, hts⟩ := id S
  obtain ⟨o, T1, bb, M1, h6, h7, hPR1, hcd, hbb⟩ := hM.countInRangeByScan T M (xs (i + 1)) (xs (i + 2)) hPR
  refine lv_aload_n hx hb dL_law_1847 rfl (lv_at hl 2 rfl) ?_
  refine lv_aload_n hx hb dL_law_1848 rfl (lv_at hl 1 rfl) ?_
  refine lv_iload hx hb dL_law_1849 (lv_at hl 0 rfl) ?_
  refine lv_iconst (v := 1) hx hb dL_law_1851 (by decide) ?_
  refine lv_iadd hx hb dL_law_1852 ?_
  refine pq_sld hx hb hX hbl hbA hS (j := 1) (show i + 1 < L by omega) (by omega) (by decide) dL_law_1853 ?_
  refine lv_aload_n hx hb dL_law_1854 rfl (lv_at hl 1 rfl) ?_
  refine lv_iload hx hb dL_law_1855 (lv_at hl 0 rfl) ?_
  refine lv_iconst (v := 2) hx hb dL_law_1857 (by decide) ?_
  refine lv_iadd hx hb dL_law_1858 ?_
  refine pq_sld hx hb hX hbl hbA hS (j := 2) (show i + 2 < L by omega) (by omega) (by decide) dL_law_1859 ?_
  refine lv_aload_n hx hb dL_law_1860 rfl (lv_at hl 4 rfl) ?_
  obtain ⟨hPs, hDs, hJ⟩ := pq_4a hP hD
  refine pq_cH S (c_L_countInRangeByScan l g a b1 f T (xs (i + 1)) (xs (i + 2)) hst o T1 h6 M1.1 hcd) vh_L_290 hK hT hL9 hPs hDs hS hA rfl rfl hl.1 (Nat.le_of_ble_eq_true rfl) dL_law_1861 ⟨by decide, by decide⟩ ⟨by show cells + 1 ≤ 603072; omega, by show slots + 6 ≤ 7178346; omega⟩ (fun H1 locs1 hk hP1 hS1 => ?_)
  replace hP : va_P g.1 pq_cl ([(b1, .inl (g.2 3, 1, .inr (.inl ((pq_nf f (fun v => v.toInt64) o)))))] ++ ([(b2, .inl (g.2 4, 1, .inr (.inr (.inr (.inl (fd))))))] ++ (mainW g a T1 ++ modW g am M))) H1 := hJ hk hP1
  replace hD : va_D A ([(b1, .inl (g.2 3, 1, .inr (.inl ((pq_nf f (fun v => v.toInt64) o)))))] ++ ([(b2, .inl (g.2 4, 1, .inr (.inr (.inr (.inl (fd))))))] ++ (mainW g a T1 ++ modW g am M))) := pq_adr hD (ad_app rfl (ad_app rfl (ad_app (ad_X6 _ _) (ad_X7 _ _))))
  clear hJ hk hP1 hPs hDs hS
  generalize H1 = H at hP hS1 ⊢
  have hS := hS1
  clear hS1
  refine lv_istore (lv' := [(6, .int M1.1), (5, .int (nI i)), (0, .ref b), (1, .ref (a 0)), (2, .ref (am 0)), (3, .ref b1), (4, .ref b2)]) hx hb dL_law_1864 hl (by decide) rfl (fun ls hl => ?_)
  refine lv_aload_n hx hb dL_law_1866 rfl (lv_at hl 4 rfl) ?_
  refine lv_aload_n hx hb dL_law_1867 rfl (lv_at hl 2 rfl) ?_
  refine lv_iload hx hb dL_law_1868 (lv_at hl 1 rfl) ?_
  refine lv_iconst (v := 1) hx hb dL_law_1870 (by decide) ?_
  refine lv_iadd hx hb dL_law_1871 ?_
  refine pq_sld hx hb hX hbl hbA hS (j := 1) (show i + 1 < L by omega) (by omega) (by decide) dL_law_1872 ?_
  refine lv_aload_n hx hb dL_law_1873 rfl (lv_at hl 2 rfl) ?_
  refine lv_iload hx hb dL_law_1874 (lv_at hl 1 rfl) ?_
  refine lv_iconst (v := 2) hx hb dL_law_1876 (by decide) ?_
  refine lv_iadd hx hb dL_law_1877 ?_
  refine pq_sld hx hb hX hbl hbA hS (j := 2) (show i + 2 < L by omega) (by omega) (by decide) dL_law_1878 ?_
  obtain ⟨hPs, hDs, hJ⟩ := pq_4y hP hD
  refine pq_lVi S (c_X7_countInRangeByScan l g am M (xs (i + 1)) (xs (i + 2)) bb M1 h7) vv_L_292 hK hPs hDs hS hA rfl rfl rfl rfl rfl hl.1 (Nat.le_of_ble_eq_true rfl) dL_law_1879 ⟨by decide, by decide⟩ ⟨by show cells+1 ≤ 603072; omega, by show slots+6 ≤ 7178346; omega⟩ (fun H1 locs1 hk hP1 hS1 => ?_)
  replace hP : va_P g.1 pq_cl ([(b1, .inl (g.2 3, 1, .inr (.inl ((pq_nf f (fun v => v.toInt64) o)))))] ++ ([(b2, .inl (g.2 4, 1, .inr (.inr (.inr (.inl (fd))))))] ++ (mainW g a T1 ++ modW g am M1))) H1 := hJ hk hP1
  replace hD : va_D A ([(b1, .inl (g.2 3, 1, .inr (.inl ((pq_nf f (fun v => v.toInt64) o)))))] ++ ([(b2, .inl (g.2 4, 1, .inr (.inr (.inr (.inl (fd))))))] ++ (mainW g a T1 ++ modW g am M1))) := pq_adr hD (ad_app rfl (ad_app rfl (ad_app (ad_X6 _ _) (ad_X7 _ _))))
  clear hJ hk hP1 hPs hDs hS
  generalize H1 = H at hP hS1 ⊢
  have hS := hS1
  clear hS1
  refine lv_istore (lv' := [(7, .int bb), (6, .int M1.1), (5, .int (nI i)), (0, .ref b), (1, .ref (a 0)), (2, .ref (am 0)), (3, .ref b1), (4, .ref b2)]) hx hb dL_law_1882 hl (by decide) rfl (fun ls hl => ?_)
  refine lv_aload_n hx hb dL_law_1884 rfl (lv_at hl 5 rfl) ?_
  obtain ⟨hPs, hDs, hJ⟩ := pq_4y hP hD
  refine pq_lV S (c_X7_thrown l g am M1 M1.1 rfl) vv_L_193 hK hPs rfl rfl rfl rfl rfl hl.1 (Nat.le_of_ble_eq_true rfl) dL_law_1885 ⟨by decide, by decide⟩ ⟨by show cells+1 ≤ 603072; omega, by show slots+6 ≤ 7178346; omega⟩ ?_
  clear hJ hPs hDs
  refine lv_iload hx hb dL_law_1888 (lv_at hl 1 rfl) ?_
  refine lv_icmp_eq (tgt := 1895) hx hb dL_law_1890 (by decide) (fun _ => ?_) (fun h9 => absurd rfl h9)
  refine lv_iload hx hb dL_law_1895 (lv_at hl 1 rfl) ?_
  refine lv_if_ne (tgt := 1912) hx hb dL_law_1897 (by decide) (fun h0 => ?_) (fun h0 => ?_)
  · skip
    refine lv_goto (tgt := 3417) hx hb dL_law_1912 (by decide) ?_
    exact W.widen (by omega) (by omega) (kk (pq_nf f (fun v => v.toInt64) o) fd T1 M1 H _ ls hPR1 hP hD hS (lv_sub hl [2, 3, 4, 5, 6, 7] rfl))
  · have e0 := hbb h0
    subst e0
    refine lv_aload_n hx hb dL_law_1900 rfl (lv_at hl 6 rfl) ?_
    refine lv_iconst (v := 0) hx hb dL_law_1901 (by decide) ?_
    refine va_lald hx hb hK.1 hP 0 3 rfl rfl pq_in01 dL_law_1902 ?_
    refine lv_iload hx hb dL_law_1903 (lv_at hl 0 rfl) ?_
    refine lv_i2l hx hb dL_law_1905 rfl ?_
    refine W.lcmp hx hb dL_law_1906 ?_
    refine lv_if_eq (tgt := 1912) hx hb dL_law_1907 (by decide) (fun _ => ?_) (fun h9 => absurd (pq_lcmp _) h9)
    refine lv_goto (tgt := 3417) hx hb dL_law_1912 (by decide) ?_
    exact W.widen (by omega) (by omega) (kk (pq_nf f (fun v => v.toInt64) (.inr bb)) fd T1 M1 H _ ls hPR1 hP hD hS (lv_sub hl [2, 3, 4, 5, 6, 7] rfl))
set_option maxHeartbeats 4000000 in
set_option maxRecDepth 100000 in
theorem lw_case31 {PR : MainS → ModS → Prop} (hM : pq_Ma PR) {p : Program} {l : Launch} {e : Env} {s : State} {m : MethodId} {below : List Frame} {meth : Method} {c : Code} {Q : State → Prop} {A : Nat → Prop} {b L : Nat} {xs : Nat → Int32} {g : pq_g} {a am : Nat → Nat} {b1 b2 : Nat} (hst : l.stackTraces = false) (S : CallFix p m c cL_law 9 s #[.ref b] pq_G RL) (hK : pq_K g s) (hT : pq_T A s s.heap) (hL9 : pq_L s) (hA : ∀ q : Nat, s.heap.size ≤ q → A q) (hX : va_X b L xs s s.heap) (hbl : b < s.heap.size) (hbA : ¬ A b) (hL : L ≤ 3072)
    {i : Nat} (hi : i + 6 ≤ L) {f : Nat → Int64} {fd : Nat → UInt64} {T : MainS} {M : ModS} {H : Heap} {locs : List Loc} {ls : Array Slot} {cells slots : Nat} (hPR : PR T M) (hP : va_P g.1 pq_cl ([(b1, .inl (g.2 3, 1, .inr (.inl (f))))] ++ ([(b2, .inl (g.2 4, 1, .inr (.inr (.inr (.inl (fd))))))] ++ (mainW g a T ++ modW g am M))) H) (hD : va_D A ([(b1, .inl (g.2 3, 1, .inr (.inl (f))))] ++ ([(b2, .inl (g.2 4, 1, .inr (.inr (.inr (.inl (fd))))))] ++ (mainW g a T ++ modW g am M)))) (hS : va_S A s.heap H locs) (hl : lv_has ls 9 [(5, .int (nI i)), (0, .ref b), (1, .ref (a 0)), (2, .ref (am 0)), (3, .ref b1), (4, .ref b2)]) (hc : cells ≤ 10000) (hs : slots ≤ 100000)
    (kk : ∀ (f1 : Nat → Int64) (fd1 : Nat → UInt64) (T1 : MainS) (M1 : ModS) (H1 : Heap) (locs1 : List Loc) (ls1 : Array Slot), PR T1 M1 → va_P g.1 pq_cl ([(b1, .inl (g.2 3, 1, .inr (.inl (f1))))] ++ ([(b2, .inl (g.2 4, 1, .inr (.inr (.inr (.inl (fd1))))))] ++ (mainW g a T1 ++ modW g am M1))) H1 → va_D A ([(b1, .inl (g.2 3, 1, .inr (.inl (f1))))] ++ ([(b2, .inl (g.2 4, 1, .inr (.inr (.inr (.inl (fd1))))))] ++ (mainW g a T1 ++ modW g am M1))) → va_S A s.heap H1 locs1 → lv_has ls1 9 [(5, .int (nI i)), (0, .ref b), (1, .ref (a 0)), (2, .ref (am 0)), (3, .ref b1), (4, .ref b2)] → W p l e room_1 s m #[.ref b] below meth c H1 locs1 (cells + 6) (slots + 36) Q (F0 m 3417 ls1 [])) : W p l e room_1 s m #[.ref b] below meth c H locs cells slots Q (F0 m 1915 ls []) := by
  obtain ⟨hx, hb, hml, hown, hts⟩ := id S
  obtain ⟨o, T1, bb, M1, h6, h7, hPR1, hcd, hbb⟩ := hM.topInRange T M (xs (i + 1)) (xs (i + 2)) hPR
  refine lv_aload_n hx hb dL_law_1915 rfl (lv_at hl 2 rfl) ?_
  refine lv_aload_n hx hb dL_law_1916 rfl (lv_at hl 1 rfl) ?_
  refine lv_iload hx hb dL_law_1917 (lv_at hl 0 rfl) ?_
  refine lv_iconst (v := 1) hx hb dL_law_1919 (by decide) ?_
  refine lv_iadd hx hb dL_law_1920 ?_
  refine pq_sld hx hb hX hbl hbA hS (j := 1) (show i + 1 < L by omega) (by omega) (by decide) dL_law_1921 ?_
  refine lv_aload_n hx hb dL_law_1922 rfl (lv_at hl 1 rfl) ?_
  refine lv_iload hx hb dL_law_1923 (lv_at hl 0 rfl) ?_
  refine lv_iconst (v := 2) hx hb dL_law_1925 (by decide) ?_
  refine lv_iadd hx hb dL_law_1926 ?_
  refine pq_sld hx hb hX hbl hbA hS (j := 2) (show i + 2 < L by omega) (by omega) (by decide) dL_law_1927 ?_
  refine lv_aload_n hx hb dL_law_1928 rfl (lv_at hl 4 rfl) ?_
  obtain ⟨hPs, hDs, hJ⟩ := pq_4a hP hD
  refine pq_cH S (c_L_topInRange l g a b1 f T (xs (i + 1)) (xs (i + 2)) hst o T1 h6 M1.1 hcd) vh_L_293 hK hT hL9 hPs hDs hS hA rfl rfl hl.1 (Nat.le_of_ble_eq_true rfl) dL_law_1929 ⟨by decide, by decide⟩ ⟨by show cells + 2 ≤ 603072; omega, by show slots + 12 ≤ 7178346; omega⟩ (fun H1 locs1 hk hP1 hS1 => ?_)
  replace hP : va_P g.1 pq_cl ([(b1, .inl (g.2 3, 1, .inr (.inl ((pq_nf f (fun v => v.toInt64) o)))))] ++ ([(b2, .inl (g.2 4, 1, .inr (.inr (.inr (.inl (fd))))))] ++ (mainW g a T1 ++ modW g am M))) H1 := hJ hk hP1
  replace hD : va_D A ([(b1, .inl (g.2 3, 1, .inr (.inl ((pq_nf f (fun v => v.toInt64) o)))))] ++ ([(b2, .inl (g.2 4, 1, .inr (.inr (.inr (.inl (fd))))))] ++ (mainW g a T1 ++ modW g am M))) := pq_adr hD (ad_app rfl (ad_app rfl (ad_app (ad_X6 _ _) (ad_X7 _ _))))
  clear hJ hk hP1 hPs hDs hS
  generalize H1 = H at hP hS1 ⊢
  have hS := hS1
  clear hS1
  refine lv_istore (lv' := [(6, .int M1.1), (5, .int (nI i)), (0, .ref b), (1, .ref (a 0)), (2, .ref (am 0)), (3, .ref b1), (4, .ref b2)]) hx hb dL_law_1932 hl (by decide) rfl (fun ls hl => ?_)
  refine lv_aload_n hx hb dL_law_1934 rfl (lv_at hl 4 rfl) ?_
  refine lv_aload_n hx hb dL_law_1935 rfl (lv_at hl 2 rfl) ?_
  refine lv_iload hx hb dL_law_1936 (lv_at hl 1 rfl) ?_
  refine lv_iconst (v := 1) hx hb dL_law_1938 (by decide) ?_
  refine lv_iadd hx hb dL_law_1939 ?_
  refine pq_sld hx hb hX hbl hbA hS (j := 1) (show i + 1 < L by omega) (by omega) (by decide) dL_law_1940 ?_
  refine lv_aload_n hx hb dL_law_1941 rfl (lv_at hl 2 rfl) ?_
  refine lv_iload hx hb dL_law_1942 (lv_at hl 1 rfl) ?_
  refine lv_iconst (v := 2) hx hb dL_law_1944 (by decide) ?_
  refine lv_iadd hx hb dL_law_1945 ?_
  refine pq_sld hx hb hX hbl hbA hS (j := 2) (show i + 2 < L by omega) (by omega) (by decide) dL_law_1946 ?_
  obtain ⟨hPs, hDs, hJ⟩ := pq_4y hP hD
  refine pq_lVi S (c_X7_topInRange l g am M (xs (i + 1)) (xs (i + 2)) bb M1 h7) vv_L_295 hK hPs hDs hS hA rfl rfl rfl rfl rfl hl.1 (Nat.le_of_ble_eq_true rfl) dL_law_1947 ⟨by decide, by decide⟩ ⟨by show cells+2 ≤ 603072; omega, by show slots+12 ≤ 7178346; omega⟩ (fun H1 locs1 hk hP1 hS1 => ?_)
  replace hP : va_P g.1 pq_cl ([(b1, .inl (g.2 3, 1, .inr (.inl ((pq_nf f (fun v => v.toInt64) o)))))] ++ ([(b2, .inl (g.2 4, 1, .inr (.inr (.inr (.inl (fd))))))] ++ (mainW g a T1 ++ modW g am M1))) H1 := hJ hk hP1
  replace hD : va_D A ([(b1, .inl (g.2 3, 1, .inr (.inl ((pq_nf f (fun v => v.toInt64) o)))))] ++ ([(b2, .inl (g.2 4, 1, .inr (.inr (.inr (.inl (fd))))))] ++ (mainW g a T1 ++ modW g am M1))) := pq_adr hD (ad_app rfl (ad_app rfl (ad_app (ad_X6 _ _) (ad_X7 _ _))))
  clear hJ hk hP1 hPs hDs hS
  generalize H1 = H at hP hS1 ⊢
  have hS := hS1
  clear hS1
  refine lv_istore (lv' := [(7, .int bb), (6, .int M1.1), (5, .int (nI i)), (0, .ref b), (1, .ref (a 0)), (2, .ref (am 0)), (3, .ref b1), (4, .ref b2)]) hx hb dL_law_1950 hl (by decide) rfl (fun ls hl => ?_)
  refine lv_aload_n hx hb dL_law_1952 rfl (lv_at hl 5 rfl) ?_
  obtain ⟨hPs, hDs, hJ⟩ := pq_4y hP hD
  refine pq_lV S (c_X7_thrown l g am M1 M1.1 rfl) vv_L_193 hK hPs rfl rfl rfl rfl rfl hl.1 (Nat.le_of_ble_eq_true rfl) dL_law_1953 ⟨by decide, by decide⟩ ⟨by show cells+2 ≤ 603072; omega, by show slots+12 ≤ 7178346; omega⟩ ?_
  clear hJ hPs hDs
  refine lv_iload hx hb dL_law_1956 (lv_at hl 1 rfl) ?_
  refine lv_icmp_eq (tgt := 1963) hx hb dL_law_1958 (by decide) (fun _ => ?_) (fun h9 => absurd rfl h9)
  refine lv_iload hx hb dL_law_1963 (lv_at hl 1 rfl) ?_
  refine lv_if_ne (tgt := 1980) hx hb dL_law_1965 (by decide) (fun h0 => ?_) (fun h0 => ?_)
  · skip
    refine lv_goto (tgt := 3417) hx hb dL_law_1980 (by decide) ?_
    exact W.widen (by omega) (by omega) (kk (pq_nf f (fun v => v.toInt64) o) fd T1 M1 H _ ls hPR1 hP hD hS (lv_sub hl [2, 3, 4, 5, 6, 7] rfl))
  · have e0 := hbb h0
    subst e0
    refine lv_aload_n hx hb dL_law_1968 rfl (lv_at hl 6 rfl) ?_
    refine lv_iconst (v := 0) hx hb dL_law_1969 (by decide) ?_
    refine va_lald hx hb hK.1 hP 0 3 rfl rfl pq_in01 dL_law_1970 ?_
    refine lv_iload hx hb dL_law_1971 (lv_at hl 0 rfl) ?_
    refine lv_i2l hx hb dL_law_1973 rfl ?_
    refine W.lcmp hx hb dL_law_1974 ?_
    refine lv_if_eq (tgt := 1980) hx hb dL_law_1975 (by decide) (fun _ => ?_) (fun h9 => absurd (pq_lcmp _) h9)
    refine lv_goto (tgt := 3417) hx hb dL_law_1980 (by decide) ?_
    exact W.widen (by omega) (by omega) (kk (pq_nf f (fun v => v.toInt64) (.inr bb)) fd T1 M1 H _ ls hPR1 hP hD hS (lv_sub hl [2, 3, 4, 5, 6, 7] rfl))
set_option maxHeartbeats 4000000 in
set_option maxRecDepth 100000 in
theorem lw_case32 {PR : MainS → ModS → Prop} (hM : pq_Ma PR) {p : Program} {l : Launch} {e : Env} {s : State} {m : MethodId} {below : List Frame} {meth : Method} {c : Code} {Q : State → Prop} {A : Nat → Prop} {b L : Nat} {xs : Nat → Int32} {g : pq_g} {a am : Nat → Nat} {b1 b2 : Nat} (hst : l.stackTraces = false) (S : CallFix p m c cL_law 9 s #[.ref b] pq_G RL) (hK : pq_K g s) (hT : pq_T A s s.heap) (hL9 : pq_L s) (hA : ∀ q : Nat, s.heap.size ≤ q → A q) (hX : va_X b L xs s s.heap) (hbl : b < s.heap.size) (hbA : ¬ A b) (hL : L ≤ 3072)
    {i : Nat} (hi : i + 6 ≤ L) {f : Nat → Int64} {fd : Nat → UInt64} {T : MainS} {M : ModS} {H : Heap} {locs : List Loc} {ls : Array Slot} {cells slots : Nat} (hPR : PR T M) (hP : va_P g.1 pq_cl ([(b1, .inl (g.2 3, 1, .inr (.inl (f))))] ++ ([(b2, .inl (g.2 4, 1, .inr (.inr (.inr (.inl (fd))))))] ++ (mainW g a T ++ modW g am M))) H) (hD : va_D A ([(b1, .inl (g.2 3, 1, .inr (.inl (f))))] ++ ([(b2, .inl (g.2 4, 1, .inr (.inr (.inr (.inl (fd))))))] ++ (mainW g a T ++ modW g am M)))) (hS : va_S A s.heap H locs) (hl : lv_has ls 9 [(5, .int (nI i)), (0, .ref b), (1, .ref (a 0)), (2, .ref (am 0)), (3, .ref b1), (4, .ref b2)]) (hc : cells ≤ 10000) (hs : slots ≤ 100000)
    (kk : ∀ (f1 : Nat → Int64) (fd1 : Nat → UInt64) (T1 : MainS) (M1 : ModS) (H1 : Heap) (locs1 : List Loc) (ls1 : Array Slot), PR T1 M1 → va_P g.1 pq_cl ([(b1, .inl (g.2 3, 1, .inr (.inl (f1))))] ++ ([(b2, .inl (g.2 4, 1, .inr (.inr (.inr (.inl (fd1))))))] ++ (mainW g a T1 ++ modW g am M1))) H1 → va_D A ([(b1, .inl (g.2 3, 1, .inr (.inl (f1))))] ++ ([(b2, .inl (g.2 4, 1, .inr (.inr (.inr (.inl (fd1))))))] ++ (mainW g a T1 ++ modW g am M1))) → va_S A s.heap H1 locs1 → lv_has ls1 9 [(5, .int (nI i)), (0, .ref b), (1, .ref (a 0)), (2, .ref (am 0)), (3, .ref b1), (4, .ref b2)] → W p l e room_1 s m #[.ref b] below meth c H1 locs1 (cells + 6) (slots + 36) Q (F0 m 3417 ls1 [])) : W p l e room_1 s m #[.ref b] below meth c H locs cells slots Q (F0 m 1983 ls []) := by
  obtain ⟨hx, hb, hml, hown, hts⟩ := id S
  obtain ⟨o, T1, bb, M1, h6, h7, hPR1, hcd, hbb⟩ := hM.topInRangeByScan T M (xs (i + 1)) (xs (i + 2)) hPR
  refine lv_aload_n hx hb dL_law_1983 rfl (lv_at hl 2 rfl) ?_
  refine lv_aload_n hx hb dL_law_1984 rfl (lv_at hl 1 rfl) ?_
  refine lv_iload hx hb dL_law_1985 (lv_at hl 0 rfl) ?_
  refine lv_iconst (v := 1) hx hb dL_law_1987 (by decide) ?_
  refine lv_iadd hx hb dL_law_1988 ?_
  refine pq_sld hx hb hX hbl hbA hS (j := 1) (show i + 1 < L by omega) (by omega) (by decide) dL_law_1989 ?_
  refine lv_aload_n hx hb dL_law_1990 rfl (lv_at hl 1 rfl) ?_
  refine lv_iload hx hb dL_law_1991 (lv_at hl 0 rfl) ?_
  refine lv_iconst (v := 2) hx hb dL_law_1993 (by decide) ?_
  refine lv_iadd hx hb dL_law_1994 ?_
  refine pq_sld hx hb hX hbl hbA hS (j := 2) (show i + 2 < L by omega) (by omega) (by decide) dL_law_1995 ?_
  refine lv_aload_n hx hb dL_law_1996 rfl (lv_at hl 4 rfl) ?_
  obtain ⟨hPs, hDs, hJ⟩ := pq_4a hP hD
  refine pq_cH S (c_L_topInRangeByScan l g a b1 f T (xs (i + 1)) (xs (i + 2)) hst o T1 h6 M1.1 hcd) vh_L_296 hK hT hL9 hPs hDs hS hA rfl rfl hl.1 (Nat.le_of_ble_eq_true rfl) dL_law_1997 ⟨by decide, by decide⟩ ⟨by show cells + 2 ≤ 603072; omega, by show slots + 12 ≤ 7178346; omega⟩ (fun H1 locs1 hk hP1 hS1 => ?_)
  replace hP : va_P g.1 pq_cl ([(b1, .inl (g.2 3, 1, .inr (.inl ((pq_nf f (fun v => v.toInt64) o)))))] ++ ([(b2, .inl (g.2 4, 1, .inr (.inr (.inr (.inl (fd))))))] ++ (mainW g a T1 ++ modW g am M))) H1 := hJ hk hP1
  replace hD : va_D A ([(b1, .inl (g.2 3, 1, .inr (.inl ((pq_nf f (fun v => v.toInt64) o)))))] ++ ([(b2, .inl (g.2 4, 1, .inr (.inr (.inr (.inl (fd))))))] ++ (mainW g a T1 ++ modW g am M))) := pq_adr hD (ad_app rfl (ad_app rfl (ad_app (ad_X6 _ _) (ad_X7 _ _))))
  clear hJ hk hP1 hPs hDs hS
  generalize H1 = H at hP hS1 ⊢
  have hS := hS1
  clear hS1
  refine lv_istore (lv' := [(6, .int M1.1), (5, .int (nI i)), (0, .ref b), (1, .ref (a 0)), (2, .ref (am 0)), (3, .ref b1), (4, .ref b2)]) hx hb dL_law_2000 hl (by decide) rfl (fun ls hl => ?_)
  refine lv_aload_n hx hb dL_law_2002 rfl (lv_at hl 4 rfl) ?_
  refine lv_aload_n hx hb dL_law_2003 rfl (lv_at hl 2 rfl) ?_
  refine lv_iload hx hb dL_law_2004 (lv_at hl 1 rfl) ?_
  refine lv_iconst (v := 1) hx hb dL_law_2006 (by decide) ?_
  refine lv_iadd hx hb dL_law_2007 ?_
  refine pq_sld hx hb hX hbl hbA hS (j := 1) (show i + 1 < L by omega) (by omega) (by decide) dL_law_2008 ?_
  refine lv_aload_n hx hb dL_law_2009 rfl (lv_at hl 2 rfl) ?_
  refine lv_iload hx hb dL_law_2010 (lv_at hl 1 rfl) ?_
  refine lv_iconst (v := 2) hx hb dL_law_2012 (by decide) ?_
  refine lv_iadd hx hb dL_law_2013 ?_
  refine pq_sld hx hb hX hbl hbA hS (j := 2) (show i + 2 < L by omega) (by omega) (by decide) dL_law_2014 ?_
  obtain ⟨hPs, hDs, hJ⟩ := pq_4y hP hD
  refine pq_lVi S (c_X7_topInRangeByScan l g am M (xs (i + 1)) (xs (i + 2)) bb M1 h7) vv_L_298 hK hPs hDs hS hA rfl rfl rfl rfl rfl hl.1 (Nat.le_of_ble_eq_true rfl) dL_law_2015 ⟨by decide, by decide⟩ ⟨by show cells+2 ≤ 603072; omega, by show slots+12 ≤ 7178346; omega⟩ (fun H1 locs1 hk hP1 hS1 => ?_)
  replace hP : va_P g.1 pq_cl ([(b1, .inl (g.2 3, 1, .inr (.inl ((pq_nf f (fun v => v.toInt64) o)))))] ++ ([(b2, .inl (g.2 4, 1, .inr (.inr (.inr (.inl (fd))))))] ++ (mainW g a T1 ++ modW g am M1))) H1 := hJ hk hP1
  replace hD : va_D A ([(b1, .inl (g.2 3, 1, .inr (.inl ((pq_nf f (fun v => v.toInt64) o)))))] ++ ([(b2, .inl (g.2 4, 1, .inr (.inr (.inr (.inl (fd))))))] ++ (mainW g a T1 ++ modW g am M1))) := pq_adr hD (ad_app rfl (ad_app rfl (ad_app (ad_X6 _ _) (ad_X7 _ _))))
  clear hJ hk hP1 hPs hDs hS
  generalize H1 = H at hP hS1 ⊢
  have hS := hS1
  clear hS1
  refine lv_istore (lv' := [(7, .int bb), (6, .int M1.1), (5, .int (nI i)), (0, .ref b), (1, .ref (a 0)), (2, .ref (am 0)), (3, .ref b1), (4, .ref b2)]) hx hb dL_law_2018 hl (by decide) rfl (fun ls hl => ?_)
  refine lv_aload_n hx hb dL_law_2020 rfl (lv_at hl 5 rfl) ?_
  obtain ⟨hPs, hDs, hJ⟩ := pq_4y hP hD
  refine pq_lV S (c_X7_thrown l g am M1 M1.1 rfl) vv_L_193 hK hPs rfl rfl rfl rfl rfl hl.1 (Nat.le_of_ble_eq_true rfl) dL_law_2021 ⟨by decide, by decide⟩ ⟨by show cells+2 ≤ 603072; omega, by show slots+12 ≤ 7178346; omega⟩ ?_
  clear hJ hPs hDs
  refine lv_iload hx hb dL_law_2024 (lv_at hl 1 rfl) ?_
  refine lv_icmp_eq (tgt := 2031) hx hb dL_law_2026 (by decide) (fun _ => ?_) (fun h9 => absurd rfl h9)
  refine lv_iload hx hb dL_law_2031 (lv_at hl 1 rfl) ?_
  refine lv_if_ne (tgt := 2048) hx hb dL_law_2033 (by decide) (fun h0 => ?_) (fun h0 => ?_)
  · skip
    refine lv_goto (tgt := 3417) hx hb dL_law_2048 (by decide) ?_
    exact W.widen (by omega) (by omega) (kk (pq_nf f (fun v => v.toInt64) o) fd T1 M1 H _ ls hPR1 hP hD hS (lv_sub hl [2, 3, 4, 5, 6, 7] rfl))
  · have e0 := hbb h0
    subst e0
    refine lv_aload_n hx hb dL_law_2036 rfl (lv_at hl 6 rfl) ?_
    refine lv_iconst (v := 0) hx hb dL_law_2037 (by decide) ?_
    refine va_lald hx hb hK.1 hP 0 3 rfl rfl pq_in01 dL_law_2038 ?_
    refine lv_iload hx hb dL_law_2039 (lv_at hl 0 rfl) ?_
    refine lv_i2l hx hb dL_law_2041 rfl ?_
    refine W.lcmp hx hb dL_law_2042 ?_
    refine lv_if_eq (tgt := 2048) hx hb dL_law_2043 (by decide) (fun _ => ?_) (fun h9 => absurd (pq_lcmp _) h9)
    refine lv_goto (tgt := 3417) hx hb dL_law_2048 (by decide) ?_
    exact W.widen (by omega) (by omega) (kk (pq_nf f (fun v => v.toInt64) (.inr bb)) fd T1 M1 H _ ls hPR1 hP hD hS (lv_sub hl [2, 3, 4, 5, 6, 7] rfl))
set_option maxHeartbeats 4000000 in
set_option maxRecDepth 100000 in
theorem lw_case33 {PR : MainS → ModS → Prop} (hM : pq_Ma PR) {p : Program} {l : Launch} {e : Env} {s : State} {m : MethodId} {below : List Frame} {meth : Method} {c : Code} {Q : State → Prop} {A : Nat → Prop} {b L : Nat} {xs : Nat → Int32} {g : pq_g} {a am : Nat → Nat} {b1 b2 : Nat} (hst : l.stackTraces = false) (S : CallFix p m c cL_law 9 s #[.ref b] pq_G RL) (hK : pq_K g s) (hT : pq_T A s s.heap) (hL9 : pq_L s) (hA : ∀ q : Nat, s.heap.size ≤ q → A q) (hX : va_X b L xs s s.heap) (hbl : b < s.heap.size) (hbA : ¬ A b) (hL : L ≤ 3072)
    {i : Nat} (hi : i + 6 ≤ L) {f : Nat → Int64} {fd : Nat → UInt64} {T : MainS} {M : ModS} {H : Heap} {locs : List Loc} {ls : Array Slot} {cells slots : Nat} (hPR : PR T M) (hP : va_P g.1 pq_cl ([(b1, .inl (g.2 3, 1, .inr (.inl (f))))] ++ ([(b2, .inl (g.2 4, 1, .inr (.inr (.inr (.inl (fd))))))] ++ (mainW g a T ++ modW g am M))) H) (hD : va_D A ([(b1, .inl (g.2 3, 1, .inr (.inl (f))))] ++ ([(b2, .inl (g.2 4, 1, .inr (.inr (.inr (.inl (fd))))))] ++ (mainW g a T ++ modW g am M)))) (hS : va_S A s.heap H locs) (hl : lv_has ls 9 [(5, .int (nI i)), (0, .ref b), (1, .ref (a 0)), (2, .ref (am 0)), (3, .ref b1), (4, .ref b2)]) (hc : cells ≤ 10000) (hs : slots ≤ 100000)
    (kk : ∀ (f1 : Nat → Int64) (fd1 : Nat → UInt64) (T1 : MainS) (M1 : ModS) (H1 : Heap) (locs1 : List Loc) (ls1 : Array Slot), PR T1 M1 → va_P g.1 pq_cl ([(b1, .inl (g.2 3, 1, .inr (.inl (f1))))] ++ ([(b2, .inl (g.2 4, 1, .inr (.inr (.inr (.inl (fd1))))))] ++ (mainW g a T1 ++ modW g am M1))) H1 → va_D A ([(b1, .inl (g.2 3, 1, .inr (.inl (f1))))] ++ ([(b2, .inl (g.2 4, 1, .inr (.inr (.inr (.inl (fd1))))))] ++ (mainW g a T1 ++ modW g am M1))) → va_S A s.heap H1 locs1 → lv_has ls1 9 [(5, .int (nI i)), (0, .ref b), (1, .ref (a 0)), (2, .ref (am 0)), (3, .ref b1), (4, .ref b2)] → W p l e room_1 s m #[.ref b] below meth c H1 locs1 (cells + 6) (slots + 36) Q (F0 m 3417 ls1 [])) : W p l e room_1 s m #[.ref b] below meth c H locs cells slots Q (F0 m 2051 ls []) := by
  obtain ⟨hx, hb, hml, hown, hts⟩ := id S
  obtain ⟨o, T1, bb, M1, h6, h7, hPR1, hcd, hbb⟩ := hM.countAbove T M (xs (i + 1)) (xs (i + 2)) (xs (i + 3)) hPR
  refine lv_aload_n hx hb dL_law_2051 rfl (lv_at hl 2 rfl) ?_
  refine lv_aload_n hx hb dL_law_2052 rfl (lv_at hl 1 rfl) ?_
  refine lv_iload hx hb dL_law_2053 (lv_at hl 0 rfl) ?_
  refine lv_iconst (v := 1) hx hb dL_law_2055 (by decide) ?_
  refine lv_iadd hx hb dL_law_2056 ?_
  refine pq_sld hx hb hX hbl hbA hS (j := 1) (show i + 1 < L by omega) (by omega) (by decide) dL_law_2057 ?_
  refine lv_aload_n hx hb dL_law_2058 rfl (lv_at hl 1 rfl) ?_
  refine lv_iload hx hb dL_law_2059 (lv_at hl 0 rfl) ?_
  refine lv_iconst (v := 2) hx hb dL_law_2061 (by decide) ?_
  refine lv_iadd hx hb dL_law_2062 ?_
  refine pq_sld hx hb hX hbl hbA hS (j := 2) (show i + 2 < L by omega) (by omega) (by decide) dL_law_2063 ?_
  refine lv_aload_n hx hb dL_law_2064 rfl (lv_at hl 1 rfl) ?_
  refine lv_iload hx hb dL_law_2065 (lv_at hl 0 rfl) ?_
  refine lv_iconst (v := 3) hx hb dL_law_2067 (by decide) ?_
  refine lv_iadd hx hb dL_law_2068 ?_
  refine pq_sld hx hb hX hbl hbA hS (j := 3) (show i + 3 < L by omega) (by omega) (by decide) dL_law_2069 ?_
  refine lv_aload_n hx hb dL_law_2070 rfl (lv_at hl 4 rfl) ?_
  obtain ⟨hPs, hDs, hJ⟩ := pq_4a hP hD
  refine pq_cH S (c_L_countAbove l g a b1 f T (xs (i + 1)) (xs (i + 2)) (xs (i + 3)) hst o T1 h6 M1.1 hcd) vh_L_299 hK hT hL9 hPs hDs hS hA rfl rfl hl.1 (Nat.le_of_ble_eq_true rfl) dL_law_2071 ⟨by decide, by decide⟩ ⟨by show cells + 2 ≤ 603072; omega, by show slots + 12 ≤ 7178346; omega⟩ (fun H1 locs1 hk hP1 hS1 => ?_)
  replace hP : va_P g.1 pq_cl ([(b1, .inl (g.2 3, 1, .inr (.inl ((pq_nf f (fun v => v.toInt64) o)))))] ++ ([(b2, .inl (g.2 4, 1, .inr (.inr (.inr (.inl (fd))))))] ++ (mainW g a T1 ++ modW g am M))) H1 := hJ hk hP1
  replace hD : va_D A ([(b1, .inl (g.2 3, 1, .inr (.inl ((pq_nf f (fun v => v.toInt64) o)))))] ++ ([(b2, .inl (g.2 4, 1, .inr (.inr (.inr (.inl (fd))))))] ++ (mainW g a T1 ++ modW g am M))) := pq_adr hD (ad_app rfl (ad_app rfl (ad_app (ad_X6 _ _) (ad_X7 _ _))))
  clear hJ hk hP1 hPs hDs hS
  generalize H1 = H at hP hS1 ⊢
  have hS := hS1
  clear hS1
  refine lv_istore (lv' := [(6, .int M1.1), (5, .int (nI i)), (0, .ref b), (1, .ref (a 0)), (2, .ref (am 0)), (3, .ref b1), (4, .ref b2)]) hx hb dL_law_2074 hl (by decide) rfl (fun ls hl => ?_)
  refine lv_aload_n hx hb dL_law_2076 rfl (lv_at hl 4 rfl) ?_
  refine lv_aload_n hx hb dL_law_2077 rfl (lv_at hl 2 rfl) ?_
  refine lv_iload hx hb dL_law_2078 (lv_at hl 1 rfl) ?_
  refine lv_iconst (v := 1) hx hb dL_law_2080 (by decide) ?_
  refine lv_iadd hx hb dL_law_2081 ?_
  refine pq_sld hx hb hX hbl hbA hS (j := 1) (show i + 1 < L by omega) (by omega) (by decide) dL_law_2082 ?_
  refine lv_aload_n hx hb dL_law_2083 rfl (lv_at hl 2 rfl) ?_
  refine lv_iload hx hb dL_law_2084 (lv_at hl 1 rfl) ?_
  refine lv_iconst (v := 2) hx hb dL_law_2086 (by decide) ?_
  refine lv_iadd hx hb dL_law_2087 ?_
  refine pq_sld hx hb hX hbl hbA hS (j := 2) (show i + 2 < L by omega) (by omega) (by decide) dL_law_2088 ?_
  refine lv_aload_n hx hb dL_law_2089 rfl (lv_at hl 2 rfl) ?_
  refine lv_iload hx hb dL_law_2090 (lv_at hl 1 rfl) ?_
  refine lv_iconst (v := 3) hx hb dL_law_2092 (by decide) ?_
  refine lv_iadd hx hb dL_law_2093 ?_
  refine pq_sld hx hb hX hbl hbA hS (j := 3) (show i + 3 < L by omega) (by omega) (by decide) dL_law_2094 ?_
  obtain ⟨hPs, hDs, hJ⟩ := pq_4y hP hD
  refine pq_lVi S (c_X7_countAbove l g am M (xs (i + 1)) (xs (i + 2)) (xs (i + 3)) bb M1 h7) vv_L_302 hK hPs hDs hS hA rfl rfl rfl rfl rfl hl.1 (Nat.le_of_ble_eq_true rfl) dL_law_2095 ⟨by decide, by decide⟩ ⟨by show cells+2 ≤ 603072; omega, by show slots+12 ≤ 7178346; omega⟩ (fun H1 locs1 hk hP1 hS1 => ?_)
  replace hP : va_P g.1 pq_cl ([(b1, .inl (g.2 3, 1, .inr (.inl ((pq_nf f (fun v => v.toInt64) o)))))] ++ ([(b2, .inl (g.2 4, 1, .inr (.inr (.inr (.inl (fd))))))] ++ (mainW g a T1 ++ modW g am M1))) H1 := hJ hk hP1
  replace hD : va_D A ([(b1, .inl (g.2 3, 1, .inr (.inl ((pq_nf f (fun v => v.toInt64) o)))))] ++ ([(b2, .inl (g.2 4, 1, .inr (.inr (.inr (.inl (fd))))))] ++ (mainW g a T1 ++ modW g am M1))) := pq_adr hD (ad_app rfl (ad_app rfl (ad_app (ad_X6 _ _) (ad_X7 _ _))))
  clear hJ hk hP1 hPs hDs hS
  generalize H1 = H at hP hS1 ⊢
  have hS := hS1
  clear hS1
  refine lv_istore (lv' := [(7, .int bb), (6, .int M1.1), (5, .int (nI i)), (0, .ref b), (1, .ref (a 0)), (2, .ref (am 0)), (3, .ref b1), (4, .ref b2)]) hx hb dL_law_2098 hl (by decide) rfl (fun ls hl => ?_)
  refine lv_aload_n hx hb dL_law_2100 rfl (lv_at hl 5 rfl) ?_
  obtain ⟨hPs, hDs, hJ⟩ := pq_4y hP hD
  refine pq_lV S (c_X7_thrown l g am M1 M1.1 rfl) vv_L_193 hK hPs rfl rfl rfl rfl rfl hl.1 (Nat.le_of_ble_eq_true rfl) dL_law_2101 ⟨by decide, by decide⟩ ⟨by show cells+2 ≤ 603072; omega, by show slots+12 ≤ 7178346; omega⟩ ?_
  clear hJ hPs hDs
  refine lv_iload hx hb dL_law_2104 (lv_at hl 1 rfl) ?_
  refine lv_icmp_eq (tgt := 2111) hx hb dL_law_2106 (by decide) (fun _ => ?_) (fun h9 => absurd rfl h9)
  refine lv_iload hx hb dL_law_2111 (lv_at hl 1 rfl) ?_
  refine lv_if_ne (tgt := 2128) hx hb dL_law_2113 (by decide) (fun h0 => ?_) (fun h0 => ?_)
  · skip
    refine lv_goto (tgt := 3417) hx hb dL_law_2128 (by decide) ?_
    exact W.widen (by omega) (by omega) (kk (pq_nf f (fun v => v.toInt64) o) fd T1 M1 H _ ls hPR1 hP hD hS (lv_sub hl [2, 3, 4, 5, 6, 7] rfl))
  · have e0 := hbb h0
    subst e0
    refine lv_aload_n hx hb dL_law_2116 rfl (lv_at hl 6 rfl) ?_
    refine lv_iconst (v := 0) hx hb dL_law_2117 (by decide) ?_
    refine va_lald hx hb hK.1 hP 0 3 rfl rfl pq_in01 dL_law_2118 ?_
    refine lv_iload hx hb dL_law_2119 (lv_at hl 0 rfl) ?_
    refine lv_i2l hx hb dL_law_2121 rfl ?_
    refine W.lcmp hx hb dL_law_2122 ?_
    refine lv_if_eq (tgt := 2128) hx hb dL_law_2123 (by decide) (fun _ => ?_) (fun h9 => absurd (pq_lcmp _) h9)
    refine lv_goto (tgt := 3417) hx hb dL_law_2128 (by decide) ?_
    exact W.widen (by omega) (by omega) (kk (pq_nf f (fun v => v.toInt64) (.inr bb)) fd T1 M1 H _ ls hPR1 hP hD hS (lv_sub hl [2, 3, 4, 5, 6, 7] rfl))
set_option maxHeartbeats 4000000 in
set_option maxRecDepth 100000 in
theorem lw_case34 {PR : MainS → ModS → Prop} (hM : pq_Ma PR) {p : Program} {l : Launch} {e : Env} {s : State} {m : MethodId} {below : List Frame} {meth : Method} {c : Code} {Q : State → Prop} {A : Nat → Prop} {b L : Nat} {xs : Nat → Int32} {g : pq_g} {a am : Nat → Nat} {b1 b2 : Nat} (hst : l.stackTraces = false) (S : CallFix p m c cL_law 9 s #[.ref b] pq_G RL) (hK : pq_K g s) (hT : pq_T A s s.heap) (hL9 : pq_L s) (hA : ∀ q : Nat, s.heap.size ≤ q → A q) (hX : va_X b L xs s s.heap) (hbl : b < s.heap.size) (hbA : ¬ A b) (hL : L ≤ 3072)
    {i : Nat} (hi : i + 6 ≤ L) {f : Nat → Int64} {fd : Nat → UInt64} {T : MainS} {M : ModS} {H : Heap} {locs : List Loc} {ls : Array Slot} {cells slots : Nat} (hPR : PR T M) (hP : va_P g.1 pq_cl ([(b1, .inl (g.2 3, 1, .inr (.inl (f))))] ++ ([(b2, .inl (g.2 4, 1, .inr (.inr (.inr (.inl (fd))))))] ++ (mainW g a T ++ modW g am M))) H) (hD : va_D A ([(b1, .inl (g.2 3, 1, .inr (.inl (f))))] ++ ([(b2, .inl (g.2 4, 1, .inr (.inr (.inr (.inl (fd))))))] ++ (mainW g a T ++ modW g am M)))) (hS : va_S A s.heap H locs) (hl : lv_has ls 9 [(5, .int (nI i)), (0, .ref b), (1, .ref (a 0)), (2, .ref (am 0)), (3, .ref b1), (4, .ref b2)]) (hc : cells ≤ 10000) (hs : slots ≤ 100000)
    (kk : ∀ (f1 : Nat → Int64) (fd1 : Nat → UInt64) (T1 : MainS) (M1 : ModS) (H1 : Heap) (locs1 : List Loc) (ls1 : Array Slot), PR T1 M1 → va_P g.1 pq_cl ([(b1, .inl (g.2 3, 1, .inr (.inl (f1))))] ++ ([(b2, .inl (g.2 4, 1, .inr (.inr (.inr (.inl (fd1))))))] ++ (mainW g a T1 ++ modW g am M1))) H1 → va_D A ([(b1, .inl (g.2 3, 1, .inr (.inl (f1))))] ++ ([(b2, .inl (g.2 4, 1, .inr (.inr (.inr (.inl (fd1))))))] ++ (mainW g a T1 ++ modW g am M1))) → va_S A s.heap H1 locs1 → lv_has ls1 9 [(5, .int (nI i)), (0, .ref b), (1, .ref (a 0)), (2, .ref (am 0)), (3, .ref b1), (4, .ref b2)] → W p l e room_1 s m #[.ref b] below meth c H1 locs1 (cells + 6) (slots + 36) Q (F0 m 3417 ls1 [])) : W p l e room_1 s m #[.ref b] below meth c H locs cells slots Q (F0 m 2131 ls []) := by
  obtain ⟨hx, hb, hml, hown, hts⟩ := id S
  obtain ⟨o, T1, bb, M1, h6, h7, hPR1, hcd, hbb⟩ := hM.countAboveByScan T M (xs (i + 1)) (xs (i + 2)) (xs (i + 3)) hPR
  refine lv_aload_n hx hb dL_law_2131 rfl (lv_at hl 2 rfl) ?_
  refine lv_aload_n hx hb dL_law_2132 rfl (lv_at hl 1 rfl) ?_
  refine lv_iload hx hb dL_law_2133 (lv_at hl 0 rfl) ?_
  refine lv_iconst (v := 1) hx hb dL_law_2135 (by decide) ?_
  refine lv_iadd hx hb dL_law_2136 ?_
  refine pq_sld hx hb hX hbl hbA hS (j := 1) (show i + 1 < L by omega) (by omega) (by decide) dL_law_2137 ?_
  refine lv_aload_n hx hb dL_law_2138 rfl (lv_at hl 1 rfl) ?_
  refine lv_iload hx hb dL_law_2139 (lv_at hl 0 rfl) ?_
  refine lv_iconst (v := 2) hx hb dL_law_2141 (by decide) ?_
  refine lv_iadd hx hb dL_law_2142 ?_
  refine pq_sld hx hb hX hbl hbA hS (j := 2) (show i + 2 < L by omega) (by omega) (by decide) dL_law_2143 ?_
  refine lv_aload_n hx hb dL_law_2144 rfl (lv_at hl 1 rfl) ?_
  refine lv_iload hx hb dL_law_2145 (lv_at hl 0 rfl) ?_
  refine lv_iconst (v := 3) hx hb dL_law_2147 (by decide) ?_
  refine lv_iadd hx hb dL_law_2148 ?_
  refine pq_sld hx hb hX hbl hbA hS (j := 3) (show i + 3 < L by omega) (by omega) (by decide) dL_law_2149 ?_
  refine lv_aload_n hx hb dL_law_2150 rfl (lv_at hl 4 rfl) ?_
  obtain ⟨hPs, hDs, hJ⟩ := pq_4a hP hD
  refine pq_cH S (c_L_countAboveByScan l g a b1 f T (xs (i + 1)) (xs (i + 2)) (xs (i + 3)) hst o T1 h6 M1.1 hcd) vh_L_303 hK hT hL9 hPs hDs hS hA rfl rfl hl.1 (Nat.le_of_ble_eq_true rfl) dL_law_2151 ⟨by decide, by decide⟩ ⟨by show cells + 2 ≤ 603072; omega, by show slots + 12 ≤ 7178346; omega⟩ (fun H1 locs1 hk hP1 hS1 => ?_)
  replace hP : va_P g.1 pq_cl ([(b1, .inl (g.2 3, 1, .inr (.inl ((pq_nf f (fun v => v.toInt64) o)))))] ++ ([(b2, .inl (g.2 4, 1, .inr (.inr (.inr (.inl (fd))))))] ++ (mainW g a T1 ++ modW g am M))) H1 := hJ hk hP1
  replace hD : va_D A ([(b1, .inl (g.2 3, 1, .inr (.inl ((pq_nf f (fun v => v.toInt64) o)))))] ++ ([(b2, .inl (g.2 4, 1, .inr (.inr (.inr (.inl (fd))))))] ++ (mainW g a T1 ++ modW g am M))) := pq_adr hD (ad_app rfl (ad_app rfl (ad_app (ad_X6 _ _) (ad_X7 _ _))))
  clear hJ hk hP1 hPs hDs hS
  generalize H1 = H at hP hS1 ⊢
  have hS := hS1
  clear hS1
  refine lv_istore (lv' := [(6, .int M1.1), (5, .int (nI i)), (0, .ref b), (1, .ref (a 0)), (2, .ref (am 0)), (3, .ref b1), (4, .ref b2)]) hx hb dL_law_2154 hl (by decide) rfl (fun ls hl => ?_)
  refine lv_aload_n hx hb dL_law_2156 rfl (lv_at hl 4 rfl) ?_
  refine lv_aload_n hx hb dL_law_2157 rfl (lv_at hl 2 rfl) ?_
  refine lv_iload hx hb dL_law_2158 (lv_at hl 1 rfl) ?_
  refine lv_iconst (v := 1) hx hb dL_law_2160 (by decide) ?_
  refine lv_iadd hx hb dL_law_2161 ?_
  refine pq_sld hx hb hX hbl hbA hS (j := 1) (show i + 1 < L by omega) (by omega) (by decide) dL_law_2162 ?_
  refine lv_aload_n hx hb dL_law_2163 rfl (lv_at hl 2 rfl) ?_
  refine lv_iload hx hb dL_law_2164 (lv_at hl 1 rfl) ?_
  refine lv_iconst (v := 2) hx hb dL_law_2166 (by decide) ?_
  refine lv_iadd hx hb dL_law_2167 ?_
  refine pq_sld hx hb hX hbl hbA hS (j := 2) (show i + 2 < L by omega) (by omega) (by decide) dL_law_2168 ?_
  refine lv_aload_n hx hb dL_law_2169 rfl (lv_at hl 2 rfl) ?_
  refine lv_iload hx hb dL_law_2170 (lv_at hl 1 rfl) ?_
  refine lv_iconst (v := 3) hx hb dL_law_2172 (by decide) ?_
  refine lv_iadd hx hb dL_law_2173 ?_
  refine pq_sld hx hb hX hbl hbA hS (j := 3) (show i + 3 < L by omega) (by omega) (by decide) dL_law_2174 ?_
  obtain ⟨hPs, hDs, hJ⟩ := pq_4y hP hD
  refine pq_lVi S (c_X7_countAboveByScan l g am M (xs (i + 1)) (xs (i + 2)) (xs (i + 3)) bb M1 h7) vv_L_305 hK hPs hDs hS hA rfl rfl rfl rfl rfl hl.1 (Nat.le_of_ble_eq_true rfl) dL_law_2175 ⟨by decide, by decide⟩ ⟨by show cells+2 ≤ 603072; omega, by show slots+12 ≤ 7178346; omega⟩ (fun H1 locs1 hk hP1 hS1 => ?_)
  replace hP : va_P g.1 pq_cl ([(b1, .inl (g.2 3, 1, .inr (.inl ((pq_nf f (fun v => v.toInt64) o)))))] ++ ([(b2, .inl (g.2 4, 1, .inr (.inr (.inr (.inl (fd))))))] ++ (mainW g a T1 ++ modW g am M1))) H1 := hJ hk hP1
  replace hD : va_D A ([(b1, .inl (g.2 3, 1, .inr (.inl ((pq_nf f (fun v => v.toInt64) o)))))] ++ ([(b2, .inl (g.2 4, 1, .inr (.inr (.inr (.inl (fd))))))] ++ (mainW g a T1 ++ modW g am M1))) := pq_adr hD (ad_app rfl (ad_app rfl (ad_app (ad_X6 _ _) (ad_X7 _ _))))
  clear hJ hk hP1 hPs hDs hS
  generalize H1 = H at hP hS1 ⊢
  have hS := hS1
  clear hS1
  refine lv_istore (lv' := [(7, .int bb), (6, .int M1.1), (5, .int (nI i)), (0, .ref b), (1, .ref (a 0)), (2, .ref (am 0)), (3, .ref b1), (4, .ref b2)]) hx hb dL_law_2178 hl (by decide) rfl (fun ls hl => ?_)
  refine lv_aload_n hx hb dL_law_2180 rfl (lv_at hl 5 rfl) ?_
  obtain ⟨hPs, hDs, hJ⟩ := pq_4y hP hD
  refine pq_lV S (c_X7_thrown l g am M1 M1.1 rfl) vv_L_193 hK hPs rfl rfl rfl rfl rfl hl.1 (Nat.le_of_ble_eq_true rfl) dL_law_2181 ⟨by decide, by decide⟩ ⟨by show cells+2 ≤ 603072; omega, by show slots+12 ≤ 7178346; omega⟩ ?_
  clear hJ hPs hDs
  refine lv_iload hx hb dL_law_2184 (lv_at hl 1 rfl) ?_
  refine lv_icmp_eq (tgt := 2191) hx hb dL_law_2186 (by decide) (fun _ => ?_) (fun h9 => absurd rfl h9)
  refine lv_iload hx hb dL_law_2191 (lv_at hl 1 rfl) ?_
  refine lv_if_ne (tgt := 2208) hx hb dL_law_2193 (by decide) (fun h0 => ?_) (fun h0 => ?_)
  · skip
    refine lv_goto (tgt := 3417) hx hb dL_law_2208 (by decide) ?_
    exact W.widen (by omega) (by omega) (kk (pq_nf f (fun v => v.toInt64) o) fd T1 M1 H _ ls hPR1 hP hD hS (lv_sub hl [2, 3, 4, 5, 6, 7] rfl))
  · have e0 := hbb h0
    subst e0
    refine lv_aload_n hx hb dL_law_2196 rfl (lv_at hl 6 rfl) ?_
    refine lv_iconst (v := 0) hx hb dL_law_2197 (by decide) ?_
    refine va_lald hx hb hK.1 hP 0 3 rfl rfl pq_in01 dL_law_2198 ?_
    refine lv_iload hx hb dL_law_2199 (lv_at hl 0 rfl) ?_
    refine lv_i2l hx hb dL_law_2201 rfl ?_
    refine W.lcmp hx hb dL_law_2202 ?_
    refine lv_if_eq (tgt := 2208) hx hb dL_law_2203 (by decide) (fun _ => ?_) (fun h9 => absurd (pq_lcmp _) h9)
    refine lv_goto (tgt := 3417) hx hb dL_law_2208 (by decide) ?_
    exact W.widen (by omega) (by omega) (kk (pq_nf f (fun v => v.toInt64) (.inr bb)) fd T1 M1 H _ ls hPR1 hP hD hS (lv_sub hl [2, 3, 4, 5, 6, 7] rfl))
set_option maxHeartbeats 4000000 in
set_option maxRecDepth 100000 in
theorem lw_case35 {PR : MainS → ModS → Prop} (hM : pq_Ma PR) {p : Program} {l : Launch} {e : Env} {s : State} {m : MethodId} {below : List Frame} {meth : Method} {c : Code} {Q : State → Prop} {A : Nat → Prop} {b L : Nat} {xs : Nat → Int32} {g : pq_g} {a am : Nat → Nat} {b1 b2 : Nat} (hst : l.stackTraces = false) (S : CallFix p m c cL_law 9 s #[.ref b] pq_G RL) (hK : pq_K g s) (hT : pq_T A s s.heap) (hL9 : pq_L s) (hA : ∀ q : Nat, s.heap.size ≤ q → A q) (hX : va_X b L xs s s.heap) (hbl : b < s.heap.size) (hbA : ¬ A b) (hL : L ≤ 3072)
    {i : Nat} (hi : i + 6 ≤ L) {f : Nat → Int64} {fd : Nat → UInt64} {T : MainS} {M : ModS} {H : Heap} {locs : List Loc} {ls : Array Slot} {cells slots : Nat} (hPR : PR T M) (hP : va_P g.1 pq_cl ([(b1, .inl (g.2 3, 1, .inr (.inl (f))))] ++ ([(b2, .inl (g.2 4, 1, .inr (.inr (.inr (.inl (fd))))))] ++ (mainW g a T ++ modW g am M))) H) (hD : va_D A ([(b1, .inl (g.2 3, 1, .inr (.inl (f))))] ++ ([(b2, .inl (g.2 4, 1, .inr (.inr (.inr (.inl (fd))))))] ++ (mainW g a T ++ modW g am M)))) (hS : va_S A s.heap H locs) (hl : lv_has ls 9 [(5, .int (nI i)), (0, .ref b), (1, .ref (a 0)), (2, .ref (am 0)), (3, .ref b1), (4, .ref b2)]) (hc : cells ≤ 10000) (hs : slots ≤ 100000)
    (kk : ∀ (f1 : Nat → Int64) (fd1 : Nat → UInt64) (T1 : MainS) (M1 : ModS) (H1 : Heap) (locs1 : List Loc) (ls1 : Array Slot), PR T1 M1 → va_P g.1 pq_cl ([(b1, .inl (g.2 3, 1, .inr (.inl (f1))))] ++ ([(b2, .inl (g.2 4, 1, .inr (.inr (.inr (.inl (fd1))))))] ++ (mainW g a T1 ++ modW g am M1))) H1 → va_D A ([(b1, .inl (g.2 3, 1, .inr (.inl (f1))))] ++ ([(b2, .inl (g.2 4, 1, .inr (.inr (.inr (.inl (fd1))))))] ++ (mainW g a T1 ++ modW g am M1))) → va_S A s.heap H1 locs1 → lv_has ls1 9 [(5, .int (nI i)), (0, .ref b), (1, .ref (a 0)), (2, .ref (am 0)), (3, .ref b1), (4, .ref b2)] → W p l e room_1 s m #[.ref b] below meth c H1 locs1 (cells + 6) (slots + 36) Q (F0 m 3417 ls1 [])) : W p l e room_1 s m #[.ref b] below meth c H locs cells slots Q (F0 m 2211 ls []) := by
  obtain ⟨hx, hb, hml, hown, hts⟩ := id S
  obtain ⟨o, T1, bb, M1, h6, h7, hPR1, hcd, hbb⟩ := hM.sumInRange T M (xs (i + 1)) (xs (i + 2)) hPR
  refine lv_aload_n hx hb dL_law_2211 rfl (lv_at hl 2 rfl) ?_
  refine lv_aload_n hx hb dL_law_2212 rfl (lv_at hl 1 rfl) ?_
  refine lv_iload hx hb dL_law_2213 (lv_at hl 0 rfl) ?_
  refine lv_iconst (v := 1) hx hb dL_law_2215 (by decide) ?_
  refine lv_iadd hx hb dL_law_2216 ?_
  refine pq_sld hx hb hX hbl hbA hS (j := 1) (show i + 1 < L by omega) (by omega) (by decide) dL_law_2217 ?_
  refine lv_aload_n hx hb dL_law_2218 rfl (lv_at hl 1 rfl) ?_
  refine lv_iload hx hb dL_law_2219 (lv_at hl 0 rfl) ?_
  refine lv_iconst (v := 2) hx hb dL_law_2221 (by decide) ?_
  refine lv_iadd hx hb dL_law_2222 ?_
  refine pq_sld hx hb hX hbl hbA hS (j := 2) (show i + 2 < L by omega) (by omega) (by decide) dL_law_2223 ?_
  refine lv_aload_n hx hb dL_law_2224 rfl (lv_at hl 4 rfl) ?_
  obtain ⟨hPs, hDs, hJ⟩ := pq_4a hP hD
  refine pq_cH S (c_L_sumInRange l g a b1 f T (xs (i + 1)) (xs (i + 2)) hst o T1 h6 M1.1 hcd) vh_L_306 hK hT hL9 hPs hDs hS hA rfl rfl hl.1 (Nat.le_of_ble_eq_true rfl) dL_law_2225 ⟨by decide, by decide⟩ ⟨by show cells + 1 ≤ 603072; omega, by show slots + 6 ≤ 7178346; omega⟩ (fun H1 locs1 hk hP1 hS1 => ?_)
  replace hP : va_P g.1 pq_cl ([(b1, .inl (g.2 3, 1, .inr (.inl ((pq_nf f (fun v => v) o)))))] ++ ([(b2, .inl (g.2 4, 1, .inr (.inr (.inr (.inl (fd))))))] ++ (mainW g a T1 ++ modW g am M))) H1 := hJ hk hP1
  replace hD : va_D A ([(b1, .inl (g.2 3, 1, .inr (.inl ((pq_nf f (fun v => v) o)))))] ++ ([(b2, .inl (g.2 4, 1, .inr (.inr (.inr (.inl (fd))))))] ++ (mainW g a T1 ++ modW g am M))) := pq_adr hD (ad_app rfl (ad_app rfl (ad_app (ad_X6 _ _) (ad_X7 _ _))))
  clear hJ hk hP1 hPs hDs hS
  generalize H1 = H at hP hS1 ⊢
  have hS := hS1
  clear hS1
  refine lv_istore (lv' := [(6, .int M1.1), (5, .int (nI i)), (0, .ref b), (1, .ref (a 0)), (2, .ref (am 0)), (3, .ref b1), (4, .ref b2)]) hx hb dL_law_2228 hl (by decide) rfl (fun ls hl => ?_)
  refine lv_aload_n hx hb dL_law_2230 rfl (lv_at hl 4 rfl) ?_
  refine lv_aload_n hx hb dL_law_2231 rfl (lv_at hl 2 rfl) ?_
  refine lv_iload hx hb dL_law_2232 (lv_at hl 1 rfl) ?_
  refine lv_iconst (v := 1) hx hb dL_law_2234 (by decide) ?_
  refine lv_iadd hx hb dL_law_2235 ?_
  refine pq_sld hx hb hX hbl hbA hS (j := 1) (show i + 1 < L by omega) (by omega) (by decide) dL_law_2236 ?_
  refine lv_aload_n hx hb dL_law_2237 rfl (lv_at hl 2 rfl) ?_
  refine lv_iload hx hb dL_law_2238 (lv_at hl 1 rfl) ?_
  refine lv_iconst (v := 2) hx hb dL_law_2240 (by decide) ?_
  refine lv_iadd hx hb dL_law_2241 ?_
  refine pq_sld hx hb hX hbl hbA hS (j := 2) (show i + 2 < L by omega) (by omega) (by decide) dL_law_2242 ?_
  obtain ⟨hPs, hDs, hJ⟩ := pq_4y hP hD
  refine pq_lVl S (c_X7_sumInRange l g am M (xs (i + 1)) (xs (i + 2)) bb M1 h7) vv_L_308 hK hPs hDs hS hA rfl rfl rfl rfl rfl hl.1 (Nat.le_of_ble_eq_true rfl) dL_law_2243 ⟨by decide, by decide⟩ ⟨by show cells+1 ≤ 603072; omega, by show slots+6 ≤ 7178346; omega⟩ (fun H1 locs1 hk hP1 hS1 => ?_)
  replace hP : va_P g.1 pq_cl ([(b1, .inl (g.2 3, 1, .inr (.inl ((pq_nf f (fun v => v) o)))))] ++ ([(b2, .inl (g.2 4, 1, .inr (.inr (.inr (.inl (fd))))))] ++ (mainW g a T1 ++ modW g am M1))) H1 := hJ hk hP1
  replace hD : va_D A ([(b1, .inl (g.2 3, 1, .inr (.inl ((pq_nf f (fun v => v) o)))))] ++ ([(b2, .inl (g.2 4, 1, .inr (.inr (.inr (.inl (fd))))))] ++ (mainW g a T1 ++ modW g am M1))) := pq_adr hD (ad_app rfl (ad_app rfl (ad_app (ad_X6 _ _) (ad_X7 _ _))))
  clear hJ hk hP1 hPs hDs hS
  generalize H1 = H at hP hS1 ⊢
  have hS := hS1
  clear hS1
  refine lv_lstore (lv' := [(7, .long bb), (6, .int M1.1), (5, .int (nI i)), (0, .ref b), (1, .ref (a 0)), (2, .ref (am 0)), (3, .ref b1), (4, .ref b2)]) hx hb dL_law_2246 hl (by decide) rfl (fun ls hl => ?_)
  refine lv_aload_n hx hb dL_law_2248 rfl (lv_at hl 5 rfl) ?_
  obtain ⟨hPs, hDs, hJ⟩ := pq_4y hP hD
  refine pq_lV S (c_X7_thrown l g am M1 M1.1 rfl) vv_L_193 hK hPs rfl rfl rfl rfl rfl hl.1 (Nat.le_of_ble_eq_true rfl) dL_law_2249 ⟨by decide, by decide⟩ ⟨by show cells+1 ≤ 603072; omega, by show slots+6 ≤ 7178346; omega⟩ ?_
  clear hJ hPs hDs
  refine lv_iload hx hb dL_law_2252 (lv_at hl 1 rfl) ?_
  refine lv_icmp_eq (tgt := 2259) hx hb dL_law_2254 (by decide) (fun _ => ?_) (fun h9 => absurd rfl h9)
  refine lv_iload hx hb dL_law_2259 (lv_at hl 1 rfl) ?_
  refine lv_if_ne (tgt := 2275) hx hb dL_law_2261 (by decide) (fun h0 => ?_) (fun h0 => ?_)
  · skip
    refine lv_goto (tgt := 3417) hx hb dL_law_2275 (by decide) ?_
    exact W.widen (by omega) (by omega) (kk (pq_nf f (fun v => v) o) fd T1 M1 H _ ls hPR1 hP hD hS (lv_sub hl [2, 3, 4, 5, 6, 7] rfl))
  · have e0 := hbb h0
    subst e0
    refine lv_aload_n hx hb dL_law_2264 rfl (lv_at hl 6 rfl) ?_
    refine lv_iconst (v := 0) hx hb dL_law_2265 (by decide) ?_
    refine va_lald hx hb hK.1 hP 0 3 rfl rfl pq_in01 dL_law_2266 ?_
    refine lv_lload hx hb dL_law_2267 (lv_at hl 0 rfl) ?_
    refine W.lcmp hx hb dL_law_2269 ?_
    refine lv_if_eq (tgt := 2275) hx hb dL_law_2270 (by decide) (fun _ => ?_) (fun h9 => absurd (pq_lcmp _) h9)
    refine lv_goto (tgt := 3417) hx hb dL_law_2275 (by decide) ?_
    exact W.widen (by omega) (by omega) (kk (pq_nf f (fun v => v) (.inr bb)) fd T1 M1 H _ ls hPR1 hP hD hS (lv_sub hl [2, 3, 4, 5, 6, 7] rfl))
set_option maxHeartbeats 4000000 in
set_option maxRecDepth 100000 in
theorem lw_case36 {PR : MainS → ModS → Prop} (hM : pq_Ma PR) {p : Program} {l : Launch} {e : Env} {s : State} {m : MethodId} {below : List Frame} {meth : Method} {c : Code} {Q : State → Prop} {A : Nat → Prop} {b L : Nat} {xs : Nat → Int32} {g : pq_g} {a am : Nat → Nat} {b1 b2 : Nat} (hst : l.stackTraces = false) (S : CallFix p m c cL_law 9 s #[.ref b] pq_G RL) (hK : pq_K g s) (hT : pq_T A s s.heap) (hL9 : pq_L s) (hA : ∀ q : Nat, s.heap.size ≤ q → A q) (hX : va_X b L xs s s.heap) (hbl : b < s.heap.size) (hbA : ¬ A b) (hL : L ≤ 3072)
    {i : Nat} (hi : i + 6 ≤ L) {f : Nat → Int64} {fd : Nat → UInt64} {T : MainS} {M : ModS} {H : Heap} {locs : List Loc} {ls : Array Slot} {cells slots : Nat} (hPR : PR T M) (hP : va_P g.1 pq_cl ([(b1, .inl (g.2 3, 1, .inr (.inl (f))))] ++ ([(b2, .inl (g.2 4, 1, .inr (.inr (.inr (.inl (fd))))))] ++ (mainW g a T ++ modW g am M))) H) (hD : va_D A ([(b1, .inl (g.2 3, 1, .inr (.inl (f))))] ++ ([(b2, .inl (g.2 4, 1, .inr (.inr (.inr (.inl (fd))))))] ++ (mainW g a T ++ modW g am M)))) (hS : va_S A s.heap H locs) (hl : lv_has ls 9 [(5, .int (nI i)), (0, .ref b), (1, .ref (a 0)), (2, .ref (am 0)), (3, .ref b1), (4, .ref b2)]) (hc : cells ≤ 10000) (hs : slots ≤ 100000)
    (kk : ∀ (f1 : Nat → Int64) (fd1 : Nat → UInt64) (T1 : MainS) (M1 : ModS) (H1 : Heap) (locs1 : List Loc) (ls1 : Array Slot), PR T1 M1 → va_P g.1 pq_cl ([(b1, .inl (g.2 3, 1, .inr (.inl (f1))))] ++ ([(b2, .inl (g.2 4, 1, .inr (.inr (.inr (.inl (fd1))))))] ++ (mainW g a T1 ++ modW g am M1))) H1 → va_D A ([(b1, .inl (g.2 3, 1, .inr (.inl (f1))))] ++ ([(b2, .inl (g.2 4, 1, .inr (.inr (.inr (.inl (fd1))))))] ++ (mainW g a T1 ++ modW g am M1))) → va_S A s.heap H1 locs1 → lv_has ls1 9 [(5, .int (nI i)), (0, .ref b), (1, .ref (a 0)), (2, .ref (am 0)), (3, .ref b1), (4, .ref b2)] → W p l e room_1 s m #[.ref b] below meth c H1 locs1 (cells + 6) (slots + 36) Q (F0 m 3417 ls1 [])) : W p l e room_1 s m #[.ref b] below meth c H locs cells slots Q (F0 m 2278 ls []) := by
  obtain ⟨hx, hb, hml, hown, hts⟩ := id S
  obtain ⟨o, T1, bb, M1, h6, h7, hPR1, hcd, hbb⟩ := hM.setWindow T M (xs (i + 1)) (xs (i + 2)) (xs (i + 3)) (xs (i + 4)) (xs (i + 5)) hPR
  refine lv_aload_n hx hb dL_law_2278 rfl (lv_at hl 2 rfl) ?_
  refine lv_aload_n hx hb dL_law_2279 rfl (lv_at hl 1 rfl) ?_
  refine lv_iload hx hb dL_law_2280 (lv_at hl 0 rfl) ?_
  refine lv_iconst (v := 1) hx hb dL_law_2282 (by decide) ?_
  refine lv_iadd hx hb dL_law_2283 ?_
  refine pq_sld hx hb hX hbl hbA hS (j := 1) (show i + 1 < L by omega) (by omega) (by decide) dL_law_2284 ?_
  refine lv_aload_n hx hb dL_law_2285 rfl (lv_at hl 1 rfl) ?_
  refine lv_iload hx hb dL_law_2286 (lv_at hl 0 rfl) ?_
  refine lv_iconst (v := 2) hx hb dL_law_2288 (by decide) ?_
  refine lv_iadd hx hb dL_law_2289 ?_
  refine pq_sld hx hb hX hbl hbA hS (j := 2) (show i + 2 < L by omega) (by omega) (by decide) dL_law_2290 ?_
  refine lv_aload_n hx hb dL_law_2291 rfl (lv_at hl 1 rfl) ?_
  refine lv_iload hx hb dL_law_2292 (lv_at hl 0 rfl) ?_
  refine lv_iconst (v := 3) hx hb dL_law_2294 (by decide) ?_
  refine lv_iadd hx hb dL_law_2295 ?_
  refine pq_sld hx hb hX hbl hbA hS (j := 3) (show i + 3 < L by omega) (by omega) (by decide) dL_law_2296 ?_
  refine lv_aload_n hx hb dL_law_2297 rfl (lv_at hl 1 rfl) ?_
  refine lv_iload hx hb dL_law_2298 (lv_at hl 0 rfl) ?_
  refine lv_iconst (v := 4) hx hb dL_law_2300 (by decide) ?_
  refine lv_iadd hx hb dL_law_2301 ?_
  refine pq_sld hx hb hX hbl hbA hS (j := 4) (show i + 4 < L by omega) (by omega) (by decide) dL_law_2302 ?_
  refine lv_aload_n hx hb dL_law_2303 rfl (lv_at hl 1 rfl) ?_
  refine lv_iload hx hb dL_law_2304 (lv_at hl 0 rfl) ?_
  refine lv_iconst (v := 5) hx hb dL_law_2306 (by decide) ?_
  refine lv_iadd hx hb dL_law_2307 ?_
  refine pq_sld hx hb hX hbl hbA hS (j := 5) (show i + 5 < L by omega) (by omega) (by decide) dL_law_2308 ?_
  refine lv_aload_n hx hb dL_law_2309 rfl (lv_at hl 4 rfl) ?_
  obtain ⟨hPs, hDs, hJ⟩ := pq_4a hP hD
  refine pq_cH S (c_L_setWindow l g a b1 f T (xs (i + 1)) (xs (i + 2)) (xs (i + 3)) (xs (i + 4)) (xs (i + 5)) hst o T1 h6 M1.1 hcd) vh_L_309 hK hT hL9 hPs hDs hS hA rfl rfl hl.1 (Nat.le_of_ble_eq_true rfl) dL_law_2310 ⟨by decide, by decide⟩ ⟨by show cells + 5 ≤ 603072; omega, by show slots + 30 ≤ 7178346; omega⟩ (fun H1 locs1 hk hP1 hS1 => ?_)
  replace hP : va_P g.1 pq_cl ([(b1, .inl (g.2 3, 1, .inr (.inl ((pq_nf f (fun v => v.toInt64) o)))))] ++ ([(b2, .inl (g.2 4, 1, .inr (.inr (.inr (.inl (fd))))))] ++ (mainW g a T1 ++ modW g am M))) H1 := hJ hk hP1
  replace hD : va_D A ([(b1, .inl (g.2 3, 1, .inr (.inl ((pq_nf f (fun v => v.toInt64) o)))))] ++ ([(b2, .inl (g.2 4, 1, .inr (.inr (.inr (.inl (fd))))))] ++ (mainW g a T1 ++ modW g am M))) := pq_adr hD (ad_app rfl (ad_app rfl (ad_app (ad_X6 _ _) (ad_X7 _ _))))
  clear hJ hk hP1 hPs hDs hS
  generalize H1 = H at hP hS1 ⊢
  have hS := hS1
  clear hS1
  refine lv_istore (lv' := [(6, .int M1.1), (5, .int (nI i)), (0, .ref b), (1, .ref (a 0)), (2, .ref (am 0)), (3, .ref b1), (4, .ref b2)]) hx hb dL_law_2313 hl (by decide) rfl (fun ls hl => ?_)
  refine lv_aload_n hx hb dL_law_2315 rfl (lv_at hl 4 rfl) ?_
  refine lv_aload_n hx hb dL_law_2316 rfl (lv_at hl 2 rfl) ?_
  refine lv_iload hx hb dL_law_2317 (lv_at hl 1 rfl) ?_
  refine lv_iconst (v := 1) hx hb dL_law_2319 (by decide) ?_
  refine lv_iadd hx hb dL_law_2320 ?_
  refine pq_sld hx hb hX hbl hbA hS (j := 1) (show i + 1 < L by omega) (by omega) (by decide) dL_law_2321 ?_
  refine lv_aload_n hx hb dL_law_2322 rfl (lv_at hl 2 rfl) ?_
  refine lv_iload hx hb dL_law_2323 (lv_at hl 1 rfl) ?_
  refine lv_iconst (v := 2) hx hb dL_law_2325 (by decide) ?_
  refine lv_iadd hx hb dL_law_2326 ?_
  refine pq_sld hx hb hX hbl hbA hS (j := 2) (show i + 2 < L by omega) (by omega) (by decide) dL_law_2327 ?_
  refine lv_aload_n hx hb dL_law_2328 rfl (lv_at hl 2 rfl) ?_
  refine lv_iload hx hb dL_law_2329 (lv_at hl 1 rfl) ?_
  refine lv_iconst (v := 3) hx hb dL_law_2331 (by decide) ?_
  refine lv_iadd hx hb dL_law_2332 ?_
  refine pq_sld hx hb hX hbl hbA hS (j := 3) (show i + 3 < L by omega) (by omega) (by decide) dL_law_2333 ?_
  refine lv_aload_n hx hb dL_law_2334 rfl (lv_at hl 2 rfl) ?_
  refine lv_iload hx hb dL_law_2335 (lv_at hl 1 rfl) ?_
  refine lv_iconst (v := 4) hx hb dL_law_2337 (by decide) ?_
  refine lv_iadd hx hb dL_law_2338 ?_
  refine pq_sld hx hb hX hbl hbA hS (j := 4) (show i + 4 < L by omega) (by omega) (by decide) dL_law_2339 ?_
  refine lv_aload_n hx hb dL_law_2340 rfl (lv_at hl 2 rfl) ?_
  refine lv_iload hx hb dL_law_2341 (lv_at hl 1 rfl) ?_
  refine lv_iconst (v := 5) hx hb dL_law_2343 (by decide) ?_
  refine lv_iadd hx hb dL_law_2344 ?_
  refine pq_sld hx hb hX hbl hbA hS (j := 5) (show i + 5 < L by omega) (by omega) (by decide) dL_law_2345 ?_
  obtain ⟨hPs, hDs, hJ⟩ := pq_4y hP hD
  refine pq_lVi S (c_X7_setWindow l g am M (xs (i + 1)) (xs (i + 2)) (xs (i + 3)) (xs (i + 4)) (xs (i + 5)) bb M1 h7) vv_L_312 hK hPs hDs hS hA rfl rfl rfl rfl rfl hl.1 (Nat.le_of_ble_eq_true rfl) dL_law_2346 ⟨by decide, by decide⟩ ⟨by show cells+5 ≤ 603072; omega, by show slots+30 ≤ 7178346; omega⟩ (fun H1 locs1 hk hP1 hS1 => ?_)
  replace hP : va_P g.1 pq_cl ([(b1, .inl (g.2 3, 1, .inr (.inl ((pq_nf f (fun v => v.toInt64) o)))))] ++ ([(b2, .inl (g.2 4, 1, .inr (.inr (.inr (.inl (fd))))))] ++ (mainW g a T1 ++ modW g am M1))) H1 := hJ hk hP1
  replace hD : va_D A ([(b1, .inl (g.2 3, 1, .inr (.inl ((pq_nf f (fun v => v.toInt64) o)))))] ++ ([(b2, .inl (g.2 4, 1, .inr (.inr (.inr (.inl (fd))))))] ++ (mainW g a T1 ++ modW g am M1))) := pq_adr hD (ad_app rfl (ad_app rfl (ad_app (ad_X6 _ _) (ad_X7 _ _))))
  clear hJ hk hP1 hPs hDs hS
  generalize H1 = H at hP hS1 ⊢
  have hS := hS1
  clear hS1
  refine lv_istore (lv' := [(7, .int bb), (6, .int M1.1), (5, .int (nI i)), (0, .ref b), (1, .ref (a 0)), (2, .ref (am 0)), (3, .ref b1), (4, .ref b2)]) hx hb dL_law_2349 hl (by decide) rfl (fun ls hl => ?_)
  refine lv_aload_n hx hb dL_law_2351 rfl (lv_at hl 5 rfl) ?_
  obtain ⟨hPs, hDs, hJ⟩ := pq_4y hP hD
  refine pq_lV S (c_X7_thrown l g am M1 M1.1 rfl) vv_L_193 hK hPs rfl rfl rfl rfl rfl hl.1 (Nat.le_of_ble_eq_true rfl) dL_law_2352 ⟨by decide, by decide⟩ ⟨by show cells+5 ≤ 603072; omega, by show slots+30 ≤ 7178346; omega⟩ ?_
  clear hJ hPs hDs
  refine lv_iload hx hb dL_law_2355 (lv_at hl 1 rfl) ?_
  refine lv_icmp_eq (tgt := 2362) hx hb dL_law_2357 (by decide) (fun _ => ?_) (fun h9 => absurd rfl h9)
  refine lv_iload hx hb dL_law_2362 (lv_at hl 1 rfl) ?_
  refine lv_if_ne (tgt := 2379) hx hb dL_law_2364 (by decide) (fun h0 => ?_) (fun h0 => ?_)
  · skip
    refine lv_goto (tgt := 3417) hx hb dL_law_2379 (by decide) ?_
    exact W.widen (by omega) (by omega) (kk (pq_nf f (fun v => v.toInt64) o) fd T1 M1 H _ ls hPR1 hP hD hS (lv_sub hl [2, 3, 4, 5, 6, 7] rfl))
  · have e0 := hbb h0
    subst e0
    refine lv_aload_n hx hb dL_law_2367 rfl (lv_at hl 6 rfl) ?_
    refine lv_iconst (v := 0) hx hb dL_law_2368 (by decide) ?_
    refine va_lald hx hb hK.1 hP 0 3 rfl rfl pq_in01 dL_law_2369 ?_
    refine lv_iload hx hb dL_law_2370 (lv_at hl 0 rfl) ?_
    refine lv_i2l hx hb dL_law_2372 rfl ?_
    refine W.lcmp hx hb dL_law_2373 ?_
    refine lv_if_eq (tgt := 2379) hx hb dL_law_2374 (by decide) (fun _ => ?_) (fun h9 => absurd (pq_lcmp _) h9)
    refine lv_goto (tgt := 3417) hx hb dL_law_2379 (by decide) ?_
    exact W.widen (by omega) (by omega) (kk (pq_nf f (fun v => v.toInt64) (.inr bb)) fd T1 M1 H _ ls hPR1 hP hD hS (lv_sub hl [2, 3, 4, 5, 6, 7] rfl))
set_option maxHeartbeats 4000000 in
set_option maxRecDepth 100000 in
theorem lw_case37 {PR : MainS → ModS → Prop} (hM : pq_Ma PR) {p : Program} {l : Launch} {e : Env} {s : State} {m : MethodId} {below : List Frame} {meth : Method} {c : Code} {Q : State → Prop} {A : Nat → Prop} {b L : Nat} {xs : Nat → Int32} {g : pq_g} {a am : Nat → Nat} {b1 b2 : Nat} (hst : l.stackTraces = false) (S : CallFix p m c cL_law 9 s #[.ref b] pq_G RL) (hK : pq_K g s) (hT : pq_T A s s.heap) (hL9 : pq_L s) (hA : ∀ q : Nat, s.heap.size ≤ q → A q) (hX : va_X b L xs s s.heap) (hbl : b < s.heap.size) (hbA : ¬ A b) (hL : L ≤ 3072)
    {i : Nat} (hi : i + 6 ≤ L) {f : Nat → Int64} {fd : Nat → UInt64} {T : MainS} {M : ModS} {H : Heap} {locs : List Loc} {ls : Array Slot} {cells slots : Nat} (hPR : PR T M) (hP : va_P g.1 pq_cl ([(b1, .inl (g.2 3, 1, .inr (.inl (f))))] ++ ([(b2, .inl (g.2 4, 1, .inr (.inr (.inr (.inl (fd))))))] ++ (mainW g a T ++ modW g am M))) H) (hD : va_D A ([(b1, .inl (g.2 3, 1, .inr (.inl (f))))] ++ ([(b2, .inl (g.2 4, 1, .inr (.inr (.inr (.inl (fd))))))] ++ (mainW g a T ++ modW g am M)))) (hS : va_S A s.heap H locs) (hl : lv_has ls 9 [(5, .int (nI i)), (0, .ref b), (1, .ref (a 0)), (2, .ref (am 0)), (3, .ref b1), (4, .ref b2)]) (hc : cells ≤ 10000) (hs : slots ≤ 100000)
    (kk : ∀ (f1 : Nat → Int64) (fd1 : Nat → UInt64) (T1 : MainS) (M1 : ModS) (H1 : Heap) (locs1 : List Loc) (ls1 : Array Slot), PR T1 M1 → va_P g.1 pq_cl ([(b1, .inl (g.2 3, 1, .inr (.inl (f1))))] ++ ([(b2, .inl (g.2 4, 1, .inr (.inr (.inr (.inl (fd1))))))] ++ (mainW g a T1 ++ modW g am M1))) H1 → va_D A ([(b1, .inl (g.2 3, 1, .inr (.inl (f1))))] ++ ([(b2, .inl (g.2 4, 1, .inr (.inr (.inr (.inl (fd1))))))] ++ (mainW g a T1 ++ modW g am M1))) → va_S A s.heap H1 locs1 → lv_has ls1 9 [(5, .int (nI i)), (0, .ref b), (1, .ref (a 0)), (2, .ref (am 0)), (3, .ref b1), (4, .ref b2)] → W p l e room_1 s m #[.ref b] below meth c H1 locs1 (cells + 6) (slots + 36) Q (F0 m 3417 ls1 [])) : W p l e room_1 s m #[.ref b] below meth c H locs cells slots Q (F0 m 2382 ls []) := by
  obtain ⟨hx, hb, hml, hown, hts⟩ := id S
  obtain ⟨o, T1, bb, M1, h6, h7, hPR1, hcd, hbb⟩ := hM.removeWindow T M (xs (i + 1)) hPR
  refine lv_aload_n hx hb dL_law_2382 rfl (lv_at hl 2 rfl) ?_
  refine lv_aload_n hx hb dL_law_2383 rfl (lv_at hl 1 rfl) ?_
  refine lv_iload hx hb dL_law_2384 (lv_at hl 0 rfl) ?_
  refine lv_iconst (v := 1) hx hb dL_law_2386 (by decide) ?_
  refine lv_iadd hx hb dL_law_2387 ?_
  refine pq_sld hx hb hX hbl hbA hS (j := 1) (show i + 1 < L by omega) (by omega) (by decide) dL_law_2388 ?_
  refine lv_aload_n hx hb dL_law_2389 rfl (lv_at hl 4 rfl) ?_
  obtain ⟨hPs, hDs, hJ⟩ := pq_4a hP hD
  refine pq_cH S (c_L_removeWindow l g a b1 f T (xs (i + 1)) hst o T1 h6 M1.1 hcd) vh_L_313 hK hT hL9 hPs hDs hS hA rfl rfl hl.1 (Nat.le_of_ble_eq_true rfl) dL_law_2390 ⟨by decide, by decide⟩ ⟨by show cells + 2 ≤ 603072; omega, by show slots + 12 ≤ 7178346; omega⟩ (fun H1 locs1 hk hP1 hS1 => ?_)
  replace hP : va_P g.1 pq_cl ([(b1, .inl (g.2 3, 1, .inr (.inl ((pq_nf f (fun v => v.toInt64) o)))))] ++ ([(b2, .inl (g.2 4, 1, .inr (.inr (.inr (.inl (fd))))))] ++ (mainW g a T1 ++ modW g am M))) H1 := hJ hk hP1
  replace hD : va_D A ([(b1, .inl (g.2 3, 1, .inr (.inl ((pq_nf f (fun v => v.toInt64) o)))))] ++ ([(b2, .inl (g.2 4, 1, .inr (.inr (.inr (.inl (fd))))))] ++ (mainW g a T1 ++ modW g am M))) := pq_adr hD (ad_app rfl (ad_app rfl (ad_app (ad_X6 _ _) (ad_X7 _ _))))
  clear hJ hk hP1 hPs hDs hS
  generalize H1 = H at hP hS1 ⊢
  have hS := hS1
  clear hS1
  refine lv_istore (lv' := [(6, .int M1.1), (5, .int (nI i)), (0, .ref b), (1, .ref (a 0)), (2, .ref (am 0)), (3, .ref b1), (4, .ref b2)]) hx hb dL_law_2393 hl (by decide) rfl (fun ls hl => ?_)
  refine lv_aload_n hx hb dL_law_2395 rfl (lv_at hl 4 rfl) ?_
  refine lv_aload_n hx hb dL_law_2396 rfl (lv_at hl 2 rfl) ?_
  refine lv_iload hx hb dL_law_2397 (lv_at hl 1 rfl) ?_
  refine lv_iconst (v := 1) hx hb dL_law_2399 (by decide) ?_
  refine lv_iadd hx hb dL_law_2400 ?_
  refine pq_sld hx hb hX hbl hbA hS (j := 1) (show i + 1 < L by omega) (by omega) (by decide) dL_law_2401 ?_
  obtain ⟨hPs, hDs, hJ⟩ := pq_4y hP hD
  refine pq_lVi S (c_X7_removeWindow l g am M (xs (i + 1)) bb M1 h7) vv_L_315 hK hPs hDs hS hA rfl rfl rfl rfl rfl hl.1 (Nat.le_of_ble_eq_true rfl) dL_law_2402 ⟨by decide, by decide⟩ ⟨by show cells+2 ≤ 603072; omega, by show slots+12 ≤ 7178346; omega⟩ (fun H1 locs1 hk hP1 hS1 => ?_)
  replace hP : va_P g.1 pq_cl ([(b1, .inl (g.2 3, 1, .inr (.inl ((pq_nf f (fun v => v.toInt64) o)))))] ++ ([(b2, .inl (g.2 4, 1, .inr (.inr (.inr (.inl (fd))))))] ++ (mainW g a T1 ++ modW g am M1))) H1 := hJ hk hP1
  replace hD : va_D A ([(b1, .inl (g.2 3, 1, .inr (.inl ((pq_nf f (fun v => v.toInt64) o)))))] ++ ([(b2, .inl (g.2 4, 1, .inr (.inr (.inr (.inl (fd))))))] ++ (mainW g a T1 ++ modW g am M1))) := pq_adr hD (ad_app rfl (ad_app rfl (ad_app (ad_X6 _ _) (ad_X7 _ _))))
  clear hJ hk hP1 hPs hDs hS
  generalize H1 = H at hP hS1 ⊢
  have hS := hS1
  clear hS1
  refine lv_istore (lv' := [(7, .int bb), (6, .int M1.1), (5, .int (nI i)), (0, .ref b), (1, .ref (a 0)), (2, .ref (am 0)), (3, .ref b1), (4, .ref b2)]) hx hb dL_law_2405 hl (by decide) rfl (fun ls hl => ?_)
  refine lv_aload_n hx hb dL_law_2407 rfl (lv_at hl 5 rfl) ?_
  obtain ⟨hPs, hDs, hJ⟩ := pq_4y hP hD
  refine pq_lV S (c_X7_thrown l g am M1 M1.1 rfl) vv_L_193 hK hPs rfl rfl rfl rfl rfl hl.1 (Nat.le_of_ble_eq_true rfl) dL_law_2408 ⟨by decide, by decide⟩ ⟨by show cells+2 ≤ 603072; omega, by show slots+12 ≤ 7178346; omega⟩ ?_
  clear hJ hPs hDs
  refine lv_iload hx hb dL_law_2411 (lv_at hl 1 rfl) ?_
  refine lv_icmp_eq (tgt := 2418) hx hb dL_law_2413 (by decide) (fun _ => ?_) (fun h9 => absurd rfl h9)
  refine lv_iload hx hb dL_law_2418 (lv_at hl 1 rfl) ?_
  refine lv_if_ne (tgt := 2435) hx hb dL_law_2420 (by decide) (fun h0 => ?_) (fun h0 => ?_)
  · skip
    refine lv_goto (tgt := 3417) hx hb dL_law_2435 (by decide) ?_
    exact W.widen (by omega) (by omega) (kk (pq_nf f (fun v => v.toInt64) o) fd T1 M1 H _ ls hPR1 hP hD hS (lv_sub hl [2, 3, 4, 5, 6, 7] rfl))
  · have e0 := hbb h0
    subst e0
    refine lv_aload_n hx hb dL_law_2423 rfl (lv_at hl 6 rfl) ?_
    refine lv_iconst (v := 0) hx hb dL_law_2424 (by decide) ?_
    refine va_lald hx hb hK.1 hP 0 3 rfl rfl pq_in01 dL_law_2425 ?_
    refine lv_iload hx hb dL_law_2426 (lv_at hl 0 rfl) ?_
    refine lv_i2l hx hb dL_law_2428 rfl ?_
    refine W.lcmp hx hb dL_law_2429 ?_
    refine lv_if_eq (tgt := 2435) hx hb dL_law_2430 (by decide) (fun _ => ?_) (fun h9 => absurd (pq_lcmp _) h9)
    refine lv_goto (tgt := 3417) hx hb dL_law_2435 (by decide) ?_
    exact W.widen (by omega) (by omega) (kk (pq_nf f (fun v => v.toInt64) (.inr bb)) fd T1 M1 H _ ls hPR1 hP hD hS (lv_sub hl [2, 3, 4, 5, 6, 7] rfl))
set_option maxHeartbeats 4000000 in
set_option maxRecDepth 100000 in
theorem lw_case38 {PR : MainS → ModS → Prop} (hM : pq_Ma PR) {p : Program} {l : Launch} {e : Env} {s : State} {m : MethodId} {below : List Frame} {meth : Method} {c : Code} {Q : State → Prop} {A : Nat → Prop} {b L : Nat} {xs : Nat → Int32} {g : pq_g} {a am : Nat → Nat} {b1 b2 : Nat} (hst : l.stackTraces = false) (S : CallFix p m c cL_law 9 s #[.ref b] pq_G RL) (hK : pq_K g s) (hT : pq_T A s s.heap) (hL9 : pq_L s) (hA : ∀ q : Nat, s.heap.size ≤ q → A q) (hX : va_X b L xs s s.heap) (hbl : b < s.heap.size) (hbA : ¬ A b) (hL : L ≤ 3072)
    {i : Nat} (hi : i + 6 ≤ L) {f : Nat → Int64} {fd : Nat → UInt64} {T : MainS} {M : ModS} {H : Heap} {locs : List Loc} {ls : Array Slot} {cells slots : Nat} (hPR : PR T M) (hP : va_P g.1 pq_cl ([(b1, .inl (g.2 3, 1, .inr (.inl (f))))] ++ ([(b2, .inl (g.2 4, 1, .inr (.inr (.inr (.inl (fd))))))] ++ (mainW g a T ++ modW g am M))) H) (hD : va_D A ([(b1, .inl (g.2 3, 1, .inr (.inl (f))))] ++ ([(b2, .inl (g.2 4, 1, .inr (.inr (.inr (.inl (fd))))))] ++ (mainW g a T ++ modW g am M)))) (hS : va_S A s.heap H locs) (hl : lv_has ls 9 [(5, .int (nI i)), (0, .ref b), (1, .ref (a 0)), (2, .ref (am 0)), (3, .ref b1), (4, .ref b2)]) (hc : cells ≤ 10000) (hs : slots ≤ 100000)
    (kk : ∀ (f1 : Nat → Int64) (fd1 : Nat → UInt64) (T1 : MainS) (M1 : ModS) (H1 : Heap) (locs1 : List Loc) (ls1 : Array Slot), PR T1 M1 → va_P g.1 pq_cl ([(b1, .inl (g.2 3, 1, .inr (.inl (f1))))] ++ ([(b2, .inl (g.2 4, 1, .inr (.inr (.inr (.inl (fd1))))))] ++ (mainW g a T1 ++ modW g am M1))) H1 → va_D A ([(b1, .inl (g.2 3, 1, .inr (.inl (f1))))] ++ ([(b2, .inl (g.2 4, 1, .inr (.inr (.inr (.inl (fd1))))))] ++ (mainW g a T1 ++ modW g am M1))) → va_S A s.heap H1 locs1 → lv_has ls1 9 [(5, .int (nI i)), (0, .ref b), (1, .ref (a 0)), (2, .ref (am 0)), (3, .ref b1), (4, .ref b2)] → W p l e room_1 s m #[.ref b] below meth c H1 locs1 (cells + 6) (slots + 36) Q (F0 m 3417 ls1 [])) : W p l e room_1 s m #[.ref b] below meth c H locs cells slots Q (F0 m 2438 ls []) := by
  obtain ⟨hx, hb, hml, hown, hts⟩ := id S
  obtain ⟨o, T1, bb, M1, h6, h7, hPR1, hcd, hbb⟩ := hM.isWindowSet T M (xs (i + 1)) hPR
  refine lv_aload_n hx hb dL_law_2438 rfl (lv_at hl 2 rfl) ?_
  refine lv_aload_n hx hb dL_law_2439 rfl (lv_at hl 1 rfl) ?_
  refine lv_iload hx hb dL_law_2440 (lv_at hl 0 rfl) ?_
  refine lv_iconst (v := 1) hx hb dL_law_2442 (by decide) ?_
  refine lv_iadd hx hb dL_law_2443 ?_
  refine pq_sld hx hb hX hbl hbA hS (j := 1) (show i + 1 < L by omega) (by omega) (by decide) dL_law_2444 ?_
  refine lv_aload_n hx hb dL_law_2445 rfl (lv_at hl 4 rfl) ?_
  obtain ⟨hPs, hDs, hJ⟩ := pq_4a hP hD
  refine pq_cH S (c_L_isWindowSet l g a b1 f T (xs (i + 1)) hst o T1 h6 M1.1 hcd) vh_L_316 hK hT hL9 hPs hDs hS hA rfl rfl hl.1 (Nat.le_of_ble_eq_true rfl) dL_law_2446 ⟨by decide, by decide⟩ ⟨by show cells + 1 ≤ 603072; omega, by show slots + 6 ≤ 7178346; omega⟩ (fun H1 locs1 hk hP1 hS1 => ?_)
  replace hP : va_P g.1 pq_cl ([(b1, .inl (g.2 3, 1, .inr (.inl ((pq_nf f (fun v => if v = 0 then 0 else 1) o)))))] ++ ([(b2, .inl (g.2 4, 1, .inr (.inr (.inr (.inl (fd))))))] ++ (mainW g a T1 ++ modW g am M))) H1 := hJ hk hP1
  replace hD : va_D A ([(b1, .inl (g.2 3, 1, .inr (.inl ((pq_nf f (fun v => if v = 0 then 0 else 1) o)))))] ++ ([(b2, .inl (g.2 4, 1, .inr (.inr (.inr (.inl (fd))))))] ++ (mainW g a T1 ++ modW g am M))) := pq_adr hD (ad_app rfl (ad_app rfl (ad_app (ad_X6 _ _) (ad_X7 _ _))))
  clear hJ hk hP1 hPs hDs hS
  generalize H1 = H at hP hS1 ⊢
  have hS := hS1
  clear hS1
  refine lv_istore (lv' := [(6, .int M1.1), (5, .int (nI i)), (0, .ref b), (1, .ref (a 0)), (2, .ref (am 0)), (3, .ref b1), (4, .ref b2)]) hx hb dL_law_2449 hl (by decide) rfl (fun ls hl => ?_)
  refine lv_aload_n hx hb dL_law_2451 rfl (lv_at hl 4 rfl) ?_
  refine lv_aload_n hx hb dL_law_2452 rfl (lv_at hl 2 rfl) ?_
  refine lv_iload hx hb dL_law_2453 (lv_at hl 1 rfl) ?_
  refine lv_iconst (v := 1) hx hb dL_law_2455 (by decide) ?_
  refine lv_iadd hx hb dL_law_2456 ?_
  refine pq_sld hx hb hX hbl hbA hS (j := 1) (show i + 1 < L by omega) (by omega) (by decide) dL_law_2457 ?_
  obtain ⟨hPs, hDs, hJ⟩ := pq_4y hP hD
  refine pq_lVi S (c_X7_isWindowSet l g am M (xs (i + 1)) bb M1 h7) vv_L_318 hK hPs hDs hS hA rfl rfl rfl rfl rfl hl.1 (Nat.le_of_ble_eq_true rfl) dL_law_2458 ⟨by decide, by decide⟩ ⟨by show cells+1 ≤ 603072; omega, by show slots+6 ≤ 7178346; omega⟩ (fun H1 locs1 hk hP1 hS1 => ?_)
  replace hP : va_P g.1 pq_cl ([(b1, .inl (g.2 3, 1, .inr (.inl ((pq_nf f (fun v => if v = 0 then 0 else 1) o)))))] ++ ([(b2, .inl (g.2 4, 1, .inr (.inr (.inr (.inl (fd))))))] ++ (mainW g a T1 ++ modW g am M1))) H1 := hJ hk hP1
  replace hD : va_D A ([(b1, .inl (g.2 3, 1, .inr (.inl ((pq_nf f (fun v => if v = 0 then 0 else 1) o)))))] ++ ([(b2, .inl (g.2 4, 1, .inr (.inr (.inr (.inl (fd))))))] ++ (mainW g a T1 ++ modW g am M1))) := pq_adr hD (ad_app rfl (ad_app rfl (ad_app (ad_X6 _ _) (ad_X7 _ _))))
  clear hJ hk hP1 hPs hDs hS
  generalize H1 = H at hP hS1 ⊢
  have hS := hS1
  clear hS1
  refine lv_istore (lv' := [(7, .int bb), (6, .int M1.1), (5, .int (nI i)), (0, .ref b), (1, .ref (a 0)), (2, .ref (am 0)), (3, .ref b1), (4, .ref b2)]) hx hb dL_law_2461 hl (by decide) rfl (fun ls hl => ?_)
  refine lv_aload_n hx hb dL_law_2463 rfl (lv_at hl 5 rfl) ?_
  obtain ⟨hPs, hDs, hJ⟩ := pq_4y hP hD
  refine pq_lV S (c_X7_thrown l g am M1 M1.1 rfl) vv_L_193 hK hPs rfl rfl rfl rfl rfl hl.1 (Nat.le_of_ble_eq_true rfl) dL_law_2464 ⟨by decide, by decide⟩ ⟨by show cells+1 ≤ 603072; omega, by show slots+6 ≤ 7178346; omega⟩ ?_
  clear hJ hPs hDs
  refine lv_iload hx hb dL_law_2467 (lv_at hl 1 rfl) ?_
  refine lv_icmp_eq (tgt := 2474) hx hb dL_law_2469 (by decide) (fun _ => ?_) (fun h9 => absurd rfl h9)
  refine lv_iload hx hb dL_law_2474 (lv_at hl 1 rfl) ?_
  refine lv_if_ne (tgt := 2498) hx hb dL_law_2476 (by decide) (fun h0 => ?_) (fun h0 => ?_)
  · skip
    refine lv_goto (tgt := 3417) hx hb dL_law_2498 (by decide) ?_
    exact W.widen (by omega) (by omega) (kk (pq_nf f (fun v => if v = 0 then 0 else 1) o) fd T1 M1 H _ ls hPR1 hP hD hS (lv_sub hl [2, 3, 4, 5, 6, 7] rfl))
  · have e0 := hbb h0
    subst e0
    refine lv_aload_n hx hb dL_law_2479 rfl (lv_at hl 6 rfl) ?_
    refine lv_iconst (v := 0) hx hb dL_law_2480 (by decide) ?_
    refine va_lald hx hb hK.1 hP 0 3 rfl rfl pq_in01 dL_law_2481 ?_
    refine lv_iload hx hb dL_law_2482 (lv_at hl 0 rfl) ?_
    refine lv_if_eq (tgt := 2491) hx hb dL_law_2484 (by decide) (fun h1 => ?_) (fun h1 => ?_)
    · refine lv_lconst (v := 0) hx hb dL_law_2491 (by decide) ?_
      change W _ _ _ _ _ _ _ _ _ _ _ _ _ _ _ (F0 _ _ _ [.long 0, .long (if bb = 0 then 0 else 1)])
      rw [if_pos h1]
      refine W.lcmp hx hb dL_law_2492 ?_
      refine lv_if_eq (tgt := 2498) hx hb dL_law_2493 (by decide) (fun _ => ?_) (fun h9 => absurd (pq_lcmp _) h9)
      refine lv_goto (tgt := 3417) hx hb dL_law_2498 (by decide) ?_
      exact W.widen (by omega) (by omega) (kk (pq_nf f (fun v => if v = 0 then 0 else 1) (.inr bb)) fd T1 M1 H _ ls hPR1 hP hD hS (lv_sub hl [2, 3, 4, 5, 6, 7] rfl))
    · refine lv_lconst (v := 1) hx hb dL_law_2487 (by decide) ?_
      change W _ _ _ _ _ _ _ _ _ _ _ _ _ _ _ (F0 _ _ _ [.long 1, .long (if bb = 0 then 0 else 1)])
      rw [if_neg h1]
      refine lv_goto (tgt := 2492) hx hb dL_law_2488 (by decide) ?_
      refine W.lcmp hx hb dL_law_2492 ?_
      refine lv_if_eq (tgt := 2498) hx hb dL_law_2493 (by decide) (fun _ => ?_) (fun h9 => absurd (pq_lcmp _) h9)
      refine lv_goto (tgt := 3417) hx hb dL_law_2498 (by decide) ?_
      exact W.widen (by omega) (by omega) (kk (pq_nf f (fun v => if v = 0 then 0 else 1) (.inr bb)) fd T1 M1 H _ ls hPR1 hP hD hS (lv_sub hl [2, 3, 4, 5, 6, 7] rfl))
set_option maxHeartbeats 4000000 in
set_option maxRecDepth 100000 in
theorem lw_case39 {PR : MainS → ModS → Prop} (hM : pq_Ma PR) {p : Program} {l : Launch} {e : Env} {s : State} {m : MethodId} {below : List Frame} {meth : Method} {c : Code} {Q : State → Prop} {A : Nat → Prop} {b L : Nat} {xs : Nat → Int32} {g : pq_g} {a am : Nat → Nat} {b1 b2 : Nat} (hst : l.stackTraces = false) (S : CallFix p m c cL_law 9 s #[.ref b] pq_G RL) (hK : pq_K g s) (hT : pq_T A s s.heap) (hL9 : pq_L s) (hA : ∀ q : Nat, s.heap.size ≤ q → A q) (hX : va_X b L xs s s.heap) (hbl : b < s.heap.size) (hbA : ¬ A b) (hL : L ≤ 3072)
    {i : Nat} (hi : i + 6 ≤ L) {f : Nat → Int64} {fd : Nat → UInt64} {T : MainS} {M : ModS} {H : Heap} {locs : List Loc} {ls : Array Slot} {cells slots : Nat} (hPR : PR T M) (hP : va_P g.1 pq_cl ([(b1, .inl (g.2 3, 1, .inr (.inl (f))))] ++ ([(b2, .inl (g.2 4, 1, .inr (.inr (.inr (.inl (fd))))))] ++ (mainW g a T ++ modW g am M))) H) (hD : va_D A ([(b1, .inl (g.2 3, 1, .inr (.inl (f))))] ++ ([(b2, .inl (g.2 4, 1, .inr (.inr (.inr (.inl (fd))))))] ++ (mainW g a T ++ modW g am M)))) (hS : va_S A s.heap H locs) (hl : lv_has ls 9 [(5, .int (nI i)), (0, .ref b), (1, .ref (a 0)), (2, .ref (am 0)), (3, .ref b1), (4, .ref b2)]) (hc : cells ≤ 10000) (hs : slots ≤ 100000)
    (kk : ∀ (f1 : Nat → Int64) (fd1 : Nat → UInt64) (T1 : MainS) (M1 : ModS) (H1 : Heap) (locs1 : List Loc) (ls1 : Array Slot), PR T1 M1 → va_P g.1 pq_cl ([(b1, .inl (g.2 3, 1, .inr (.inl (f1))))] ++ ([(b2, .inl (g.2 4, 1, .inr (.inr (.inr (.inl (fd1))))))] ++ (mainW g a T1 ++ modW g am M1))) H1 → va_D A ([(b1, .inl (g.2 3, 1, .inr (.inl (f1))))] ++ ([(b2, .inl (g.2 4, 1, .inr (.inr (.inr (.inl (fd1))))))] ++ (mainW g a T1 ++ modW g am M1))) → va_S A s.heap H1 locs1 → lv_has ls1 9 [(5, .int (nI i)), (0, .ref b), (1, .ref (a 0)), (2, .ref (am 0)), (3, .ref b1), (4, .ref b2)] → W p l e room_1 s m #[.ref b] below meth c H1 locs1 (cells + 6) (slots + 36) Q (F0 m 3417 ls1 [])) : W p l e room_1 s m #[.ref b] below meth c H locs cells slots Q (F0 m 2501 ls []) := by
  obtain ⟨hx, hb, hml, hown, hts⟩ := id S
  obtain ⟨o, T1, bb, M1, h6, h7, hPR1, hcd, hbb⟩ := hM.pointsInWindow T M (xs (i + 1)) hPR
  refine lv_aload_n hx hb dL_law_2501 rfl (lv_at hl 2 rfl) ?_
  refine lv_aload_n hx hb dL_law_2502 rfl (lv_at hl 1 rfl) ?_
  refine lv_iload hx hb dL_law_2503 (lv_at hl 0 rfl) ?_
  refine lv_iconst (v := 1) hx hb dL_law_2505 (by decide) ?_
  refine lv_iadd hx hb dL_law_2506 ?_
  refine pq_sld hx hb hX hbl hbA hS (j := 1) (show i + 1 < L by omega) (by omega) (by decide) dL_law_2507 ?_
  refine lv_aload_n hx hb dL_law_2508 rfl (lv_at hl 4 rfl) ?_
  obtain ⟨hPs, hDs, hJ⟩ := pq_4a hP hD
  refine pq_cH S (c_L_pointsInWindow l g a b1 f T (xs (i + 1)) hst o T1 h6 M1.1 hcd) vh_L_319 hK hT hL9 hPs hDs hS hA rfl rfl hl.1 (Nat.le_of_ble_eq_true rfl) dL_law_2509 ⟨by decide, by decide⟩ ⟨by show cells + 2 ≤ 603072; omega, by show slots + 12 ≤ 7178346; omega⟩ (fun H1 locs1 hk hP1 hS1 => ?_)
  replace hP : va_P g.1 pq_cl ([(b1, .inl (g.2 3, 1, .inr (.inl ((pq_nf f (fun v => v.toInt64) o)))))] ++ ([(b2, .inl (g.2 4, 1, .inr (.inr (.inr (.inl (fd))))))] ++ (mainW g a T1 ++ modW g am M))) H1 := hJ hk hP1
  replace hD : va_D A ([(b1, .inl (g.2 3, 1, .inr (.inl ((pq_nf f (fun v => v.toInt64) o)))))] ++ ([(b2, .inl (g.2 4, 1, .inr (.inr (.inr (.inl (fd))))))] ++ (mainW g a T1 ++ modW g am M))) := pq_adr hD (ad_app rfl (ad_app rfl (ad_app (ad_X6 _ _) (ad_X7 _ _))))
  clear hJ hk hP1 hPs hDs hS
  generalize H1 = H at hP hS1 ⊢
  have hS := hS1
  clear hS1
  refine lv_istore (lv' := [(6, .int M1.1), (5, .int (nI i)), (0, .ref b), (1, .ref (a 0)), (2, .ref (am 0)), (3, .ref b1), (4, .ref b2)]) hx hb dL_law_2512 hl (by decide) rfl (fun ls hl => ?_)
  refine lv_aload_n hx hb dL_law_2514 rfl (lv_at hl 4 rfl) ?_
  refine lv_aload_n hx hb dL_law_2515 rfl (lv_at hl 2 rfl) ?_
  refine lv_iload hx hb dL_law_2516 (lv_at hl 1 rfl) ?_
  refine lv_iconst (v := 1) hx hb dL_law_2518 (by decide) ?_
  refine lv_iadd hx hb dL_law_2519 ?_
  refine pq_sld hx hb hX hbl hbA hS (j := 1) (show i + 1 < L by omega) (by omega) (by decide) dL_law_2520 ?_
  obtain ⟨hPs, hDs, hJ⟩ := pq_4y hP hD
  refine pq_lVi S (c_X7_pointsInWindow l g am M (xs (i + 1)) bb M1 h7) vv_L_321 hK hPs hDs hS hA rfl rfl rfl rfl rfl hl.1 (Nat.le_of_ble_eq_true rfl) dL_law_2521 ⟨by decide, by decide⟩ ⟨by show cells+2 ≤ 603072; omega, by show slots+12 ≤ 7178346; omega⟩ (fun H1 locs1 hk hP1 hS1 => ?_)
  replace hP : va_P g.1 pq_cl ([(b1, .inl (g.2 3, 1, .inr (.inl ((pq_nf f (fun v => v.toInt64) o)))))] ++ ([(b2, .inl (g.2 4, 1, .inr (.inr (.inr (.inl (fd))))))] ++ (mainW g a T1 ++ modW g am M1))) H1 := hJ hk hP1
  replace hD : va_D A ([(b1, .inl (g.2 3, 1, .inr (.inl ((pq_nf f (fun v => v.toInt64) o)))))] ++ ([(b2, .inl (g.2 4, 1, .inr (.inr (.inr (.inl (fd))))))] ++ (mainW g a T1 ++ modW g am M1))) := pq_adr hD (ad_app rfl (ad_app rfl (ad_app (ad_X6 _ _) (ad_X7 _ _))))
  clear hJ hk hP1 hPs hDs hS
  generalize H1 = H at hP hS1 ⊢
  have hS := hS1
  clear hS1
  refine lv_istore (lv' := [(7, .int bb), (6, .int M1.1), (5, .int (nI i)), (0, .ref b), (1, .ref (a 0)), (2, .ref (am 0)), (3, .ref b1), (4, .ref b2)]) hx hb dL_law_2524 hl (by decide) rfl (fun ls hl => ?_)
  refine lv_aload_n hx hb dL_law_2526 rfl (lv_at hl 5 rfl) ?_
  obtain ⟨hPs, hDs, hJ⟩ := pq_4y hP hD
  refine pq_lV S (c_X7_thrown l g am M1 M1.1 rfl) vv_L_193 hK hPs rfl rfl rfl rfl rfl hl.1 (Nat.le_of_ble_eq_true rfl) dL_law_2527 ⟨by decide, by decide⟩ ⟨by show cells+2 ≤ 603072; omega, by show slots+12 ≤ 7178346; omega⟩ ?_
  clear hJ hPs hDs
  refine lv_iload hx hb dL_law_2530 (lv_at hl 1 rfl) ?_
  refine lv_icmp_eq (tgt := 2537) hx hb dL_law_2532 (by decide) (fun _ => ?_) (fun h9 => absurd rfl h9)
  refine lv_iload hx hb dL_law_2537 (lv_at hl 1 rfl) ?_
  refine lv_if_ne (tgt := 2554) hx hb dL_law_2539 (by decide) (fun h0 => ?_) (fun h0 => ?_)
  · skip
    refine lv_goto (tgt := 3417) hx hb dL_law_2554 (by decide) ?_
    exact W.widen (by omega) (by omega) (kk (pq_nf f (fun v => v.toInt64) o) fd T1 M1 H _ ls hPR1 hP hD hS (lv_sub hl [2, 3, 4, 5, 6, 7] rfl))
  · have e0 := hbb h0
    subst e0
    refine lv_aload_n hx hb dL_law_2542 rfl (lv_at hl 6 rfl) ?_
    refine lv_iconst (v := 0) hx hb dL_law_2543 (by decide) ?_
    refine va_lald hx hb hK.1 hP 0 3 rfl rfl pq_in01 dL_law_2544 ?_
    refine lv_iload hx hb dL_law_2545 (lv_at hl 0 rfl) ?_
    refine lv_i2l hx hb dL_law_2547 rfl ?_
    refine W.lcmp hx hb dL_law_2548 ?_
    refine lv_if_eq (tgt := 2554) hx hb dL_law_2549 (by decide) (fun _ => ?_) (fun h9 => absurd (pq_lcmp _) h9)
    refine lv_goto (tgt := 3417) hx hb dL_law_2554 (by decide) ?_
    exact W.widen (by omega) (by omega) (kk (pq_nf f (fun v => v.toInt64) (.inr bb)) fd T1 M1 H _ ls hPR1 hP hD hS (lv_sub hl [2, 3, 4, 5, 6, 7] rfl))
set_option maxHeartbeats 4000000 in
set_option maxRecDepth 100000 in
theorem lw_case40 {PR : MainS → ModS → Prop} (hM : pq_Ma PR) {p : Program} {l : Launch} {e : Env} {s : State} {m : MethodId} {below : List Frame} {meth : Method} {c : Code} {Q : State → Prop} {A : Nat → Prop} {b L : Nat} {xs : Nat → Int32} {g : pq_g} {a am : Nat → Nat} {b1 b2 : Nat} (hst : l.stackTraces = false) (S : CallFix p m c cL_law 9 s #[.ref b] pq_G RL) (hK : pq_K g s) (hT : pq_T A s s.heap) (hL9 : pq_L s) (hA : ∀ q : Nat, s.heap.size ≤ q → A q) (hX : va_X b L xs s s.heap) (hbl : b < s.heap.size) (hbA : ¬ A b) (hL : L ≤ 3072)
    {i : Nat} (hi : i + 6 ≤ L) {f : Nat → Int64} {fd : Nat → UInt64} {T : MainS} {M : ModS} {H : Heap} {locs : List Loc} {ls : Array Slot} {cells slots : Nat} (hPR : PR T M) (hP : va_P g.1 pq_cl ([(b1, .inl (g.2 3, 1, .inr (.inl (f))))] ++ ([(b2, .inl (g.2 4, 1, .inr (.inr (.inr (.inl (fd))))))] ++ (mainW g a T ++ modW g am M))) H) (hD : va_D A ([(b1, .inl (g.2 3, 1, .inr (.inl (f))))] ++ ([(b2, .inl (g.2 4, 1, .inr (.inr (.inr (.inl (fd))))))] ++ (mainW g a T ++ modW g am M)))) (hS : va_S A s.heap H locs) (hl : lv_has ls 9 [(5, .int (nI i)), (0, .ref b), (1, .ref (a 0)), (2, .ref (am 0)), (3, .ref b1), (4, .ref b2)]) (hc : cells ≤ 10000) (hs : slots ≤ 100000)
    (kk : ∀ (f1 : Nat → Int64) (fd1 : Nat → UInt64) (T1 : MainS) (M1 : ModS) (H1 : Heap) (locs1 : List Loc) (ls1 : Array Slot), PR T1 M1 → va_P g.1 pq_cl ([(b1, .inl (g.2 3, 1, .inr (.inl (f1))))] ++ ([(b2, .inl (g.2 4, 1, .inr (.inr (.inr (.inl (fd1))))))] ++ (mainW g a T1 ++ modW g am M1))) H1 → va_D A ([(b1, .inl (g.2 3, 1, .inr (.inl (f1))))] ++ ([(b2, .inl (g.2 4, 1, .inr (.inr (.inr (.inl (fd1))))))] ++ (mainW g a T1 ++ modW g am M1))) → va_S A s.heap H1 locs1 → lv_has ls1 9 [(5, .int (nI i)), (0, .ref b), (1, .ref (a 0)), (2, .ref (am 0)), (3, .ref b1), (4, .ref b2)] → W p l e room_1 s m #[.ref b] below meth c H1 locs1 (cells + 6) (slots + 36) Q (F0 m 3417 ls1 [])) : W p l e room_1 s m #[.ref b] below meth c H locs cells slots Q (F0 m 2557 ls []) := by
  obtain ⟨hx, hb, hml, hown, hts⟩ := id S
  obtain ⟨o, T1, bb, M1, h6, h7, hPR1, hcd, hbb⟩ := hM.roomInWindow T M (xs (i + 1)) hPR
  refine lv_aload_n hx hb dL_law_2557 rfl (lv_at hl 2 rfl) ?_
  refine lv_aload_n hx hb dL_law_2558 rfl (lv_at hl 1 rfl) ?_
  refine lv_iload hx hb dL_law_2559 (lv_at hl 0 rfl) ?_
  refine lv_iconst (v := 1) hx hb dL_law_2561 (by decide) ?_
  refine lv_iadd hx hb dL_law_2562 ?_
  refine pq_sld hx hb hX hbl hbA hS (j := 1) (show i + 1 < L by omega) (by omega) (by decide) dL_law_2563 ?_
  refine lv_aload_n hx hb dL_law_2564 rfl (lv_at hl 4 rfl) ?_
  obtain ⟨hPs, hDs, hJ⟩ := pq_4a hP hD
  refine pq_cH S (c_L_roomInWindow l g a b1 f T (xs (i + 1)) hst o T1 h6 M1.1 hcd) vh_L_322 hK hT hL9 hPs hDs hS hA rfl rfl hl.1 (Nat.le_of_ble_eq_true rfl) dL_law_2565 ⟨by decide, by decide⟩ ⟨by show cells + 2 ≤ 603072; omega, by show slots + 12 ≤ 7178346; omega⟩ (fun H1 locs1 hk hP1 hS1 => ?_)
  replace hP : va_P g.1 pq_cl ([(b1, .inl (g.2 3, 1, .inr (.inl ((pq_nf f (fun v => v.toInt64) o)))))] ++ ([(b2, .inl (g.2 4, 1, .inr (.inr (.inr (.inl (fd))))))] ++ (mainW g a T1 ++ modW g am M))) H1 := hJ hk hP1
  replace hD : va_D A ([(b1, .inl (g.2 3, 1, .inr (.inl ((pq_nf f (fun v => v.toInt64) o)))))] ++ ([(b2, .inl (g.2 4, 1, .inr (.inr (.inr (.inl (fd))))))] ++ (mainW g a T1 ++ modW g am M))) := pq_adr hD (ad_app rfl (ad_app rfl (ad_app (ad_X6 _ _) (ad_X7 _ _))))
  clear hJ hk hP1 hPs hDs hS
  generalize H1 = H at hP hS1 ⊢
  have hS := hS1
  clear hS1
  refine lv_istore (lv' := [(6, .int M1.1), (5, .int (nI i)), (0, .ref b), (1, .ref (a 0)), (2, .ref (am 0)), (3, .ref b1), (4, .ref b2)]) hx hb dL_law_2568 hl (by decide) rfl (fun ls hl => ?_)
  refine lv_aload_n hx hb dL_law_2570 rfl (lv_at hl 4 rfl) ?_
  refine lv_aload_n hx hb dL_law_2571 rfl (lv_at hl 2 rfl) ?_
  refine lv_iload hx hb dL_law_2572 (lv_at hl 1 rfl) ?_
  refine lv_iconst (v := 1) hx hb dL_law_2574 (by decide) ?_
  refine lv_iadd hx hb dL_law_2575 ?_
  refine pq_sld hx hb hX hbl hbA hS (j := 1) (show i + 1 < L by omega) (by omega) (by decide) dL_law_2576 ?_
  obtain ⟨hPs, hDs, hJ⟩ := pq_4y hP hD
  refine pq_lVi S (c_X7_roomInWindow l g am M (xs (i + 1)) bb M1 h7) vv_L_324 hK hPs hDs hS hA rfl rfl rfl rfl rfl hl.1 (Nat.le_of_ble_eq_true rfl) dL_law_2577 ⟨by decide, by decide⟩ ⟨by show cells+2 ≤ 603072; omega, by show slots+12 ≤ 7178346; omega⟩ (fun H1 locs1 hk hP1 hS1 => ?_)
  replace hP : va_P g.1 pq_cl ([(b1, .inl (g.2 3, 1, .inr (.inl ((pq_nf f (fun v => v.toInt64) o)))))] ++ ([(b2, .inl (g.2 4, 1, .inr (.inr (.inr (.inl (fd))))))] ++ (mainW g a T1 ++ modW g am M1))) H1 := hJ hk hP1
  replace hD : va_D A ([(b1, .inl (g.2 3, 1, .inr (.inl ((pq_nf f (fun v => v.toInt64) o)))))] ++ ([(b2, .inl (g.2 4, 1, .inr (.inr (.inr (.inl (fd))))))] ++ (mainW g a T1 ++ modW g am M1))) := pq_adr hD (ad_app rfl (ad_app rfl (ad_app (ad_X6 _ _) (ad_X7 _ _))))
  clear hJ hk hP1 hPs hDs hS
  generalize H1 = H at hP hS1 ⊢
  have hS := hS1
  clear hS1
  refine lv_istore (lv' := [(7, .int bb), (6, .int M1.1), (5, .int (nI i)), (0, .ref b), (1, .ref (a 0)), (2, .ref (am 0)), (3, .ref b1), (4, .ref b2)]) hx hb dL_law_2580 hl (by decide) rfl (fun ls hl => ?_)
  refine lv_aload_n hx hb dL_law_2582 rfl (lv_at hl 5 rfl) ?_
  obtain ⟨hPs, hDs, hJ⟩ := pq_4y hP hD
  refine pq_lV S (c_X7_thrown l g am M1 M1.1 rfl) vv_L_193 hK hPs rfl rfl rfl rfl rfl hl.1 (Nat.le_of_ble_eq_true rfl) dL_law_2583 ⟨by decide, by decide⟩ ⟨by show cells+2 ≤ 603072; omega, by show slots+12 ≤ 7178346; omega⟩ ?_
  clear hJ hPs hDs
  refine lv_iload hx hb dL_law_2586 (lv_at hl 1 rfl) ?_
  refine lv_icmp_eq (tgt := 2593) hx hb dL_law_2588 (by decide) (fun _ => ?_) (fun h9 => absurd rfl h9)
  refine lv_iload hx hb dL_law_2593 (lv_at hl 1 rfl) ?_
  refine lv_if_ne (tgt := 2610) hx hb dL_law_2595 (by decide) (fun h0 => ?_) (fun h0 => ?_)
  · skip
    refine lv_goto (tgt := 3417) hx hb dL_law_2610 (by decide) ?_
    exact W.widen (by omega) (by omega) (kk (pq_nf f (fun v => v.toInt64) o) fd T1 M1 H _ ls hPR1 hP hD hS (lv_sub hl [2, 3, 4, 5, 6, 7] rfl))
  · have e0 := hbb h0
    subst e0
    refine lv_aload_n hx hb dL_law_2598 rfl (lv_at hl 6 rfl) ?_
    refine lv_iconst (v := 0) hx hb dL_law_2599 (by decide) ?_
    refine va_lald hx hb hK.1 hP 0 3 rfl rfl pq_in01 dL_law_2600 ?_
    refine lv_iload hx hb dL_law_2601 (lv_at hl 0 rfl) ?_
    refine lv_i2l hx hb dL_law_2603 rfl ?_
    refine W.lcmp hx hb dL_law_2604 ?_
    refine lv_if_eq (tgt := 2610) hx hb dL_law_2605 (by decide) (fun _ => ?_) (fun h9 => absurd (pq_lcmp _) h9)
    refine lv_goto (tgt := 3417) hx hb dL_law_2610 (by decide) ?_
    exact W.widen (by omega) (by omega) (kk (pq_nf f (fun v => v.toInt64) (.inr bb)) fd T1 M1 H _ ls hPR1 hP hD hS (lv_sub hl [2, 3, 4, 5, 6, 7] rfl))
set_option maxHeartbeats 4000000 in
set_option maxRecDepth 100000 in
theorem lw_case41 {PR : MainS → ModS → Prop} (hM : pq_Ma PR) {p : Program} {l : Launch} {e : Env} {s : State} {m : MethodId} {below : List Frame} {meth : Method} {c : Code} {Q : State → Prop} {A : Nat → Prop} {b L : Nat} {xs : Nat → Int32} {g : pq_g} {a am : Nat → Nat} {b1 b2 : Nat} (hst : l.stackTraces = false) (S : CallFix p m c cL_law 9 s #[.ref b] pq_G RL) (hK : pq_K g s) (hT : pq_T A s s.heap) (hL9 : pq_L s) (hA : ∀ q : Nat, s.heap.size ≤ q → A q) (hX : va_X b L xs s s.heap) (hbl : b < s.heap.size) (hbA : ¬ A b) (hL : L ≤ 3072)
    {i : Nat} (hi : i + 6 ≤ L) {f : Nat → Int64} {fd : Nat → UInt64} {T : MainS} {M : ModS} {H : Heap} {locs : List Loc} {ls : Array Slot} {cells slots : Nat} (hPR : PR T M) (hP : va_P g.1 pq_cl ([(b1, .inl (g.2 3, 1, .inr (.inl (f))))] ++ ([(b2, .inl (g.2 4, 1, .inr (.inr (.inr (.inl (fd))))))] ++ (mainW g a T ++ modW g am M))) H) (hD : va_D A ([(b1, .inl (g.2 3, 1, .inr (.inl (f))))] ++ ([(b2, .inl (g.2 4, 1, .inr (.inr (.inr (.inl (fd))))))] ++ (mainW g a T ++ modW g am M)))) (hS : va_S A s.heap H locs) (hl : lv_has ls 9 [(5, .int (nI i)), (0, .ref b), (1, .ref (a 0)), (2, .ref (am 0)), (3, .ref b1), (4, .ref b2)]) (hc : cells ≤ 10000) (hs : slots ≤ 100000)
    (kk : ∀ (f1 : Nat → Int64) (fd1 : Nat → UInt64) (T1 : MainS) (M1 : ModS) (H1 : Heap) (locs1 : List Loc) (ls1 : Array Slot), PR T1 M1 → va_P g.1 pq_cl ([(b1, .inl (g.2 3, 1, .inr (.inl (f1))))] ++ ([(b2, .inl (g.2 4, 1, .inr (.inr (.inr (.inl (fd1))))))] ++ (mainW g a T1 ++ modW g am M1))) H1 → va_D A ([(b1, .inl (g.2 3, 1, .inr (.inl (f1))))] ++ ([(b2, .inl (g.2 4, 1, .inr (.inr (.inr (.inl (fd1))))))] ++ (mainW g a T1 ++ modW g am M1))) → va_S A s.heap H1 locs1 → lv_has ls1 9 [(5, .int (nI i)), (0, .ref b), (1, .ref (a 0)), (2, .ref (am 0)), (3, .ref b1), (4, .ref b2)] → W p l e room_1 s m #[.ref b] below meth c H1 locs1 (cells + 6) (slots + 36) Q (F0 m 3417 ls1 [])) : W p l e room_1 s m #[.ref b] below meth c H locs cells slots Q (F0 m 2613 ls []) := by
  obtain ⟨hx, hb, hml, hown, hts⟩ := id S
  obtain ⟨o, T1, bb, M1, h6, h7, hPR1, hcd, hbb⟩ := hM.windowKeyAt T M (xs (i + 1)) (xs (i + 2)) hPR
  refine lv_aload_n hx hb dL_law_2613 rfl (lv_at hl 2 rfl) ?_
  refine lv_aload_n hx hb dL_law_2614 rfl (lv_at hl 1 rfl) ?_
  refine lv_iload hx hb dL_law_2615 (lv_at hl 0 rfl) ?_
  refine lv_iconst (v := 1) hx hb dL_law_2617 (by decide) ?_
  refine lv_iadd hx hb dL_law_2618 ?_
  refine pq_sld hx hb hX hbl hbA hS (j := 1) (show i + 1 < L by omega) (by omega) (by decide) dL_law_2619 ?_
  refine lv_aload_n hx hb dL_law_2620 rfl (lv_at hl 1 rfl) ?_
  refine lv_iload hx hb dL_law_2621 (lv_at hl 0 rfl) ?_
  refine lv_iconst (v := 2) hx hb dL_law_2623 (by decide) ?_
  refine lv_iadd hx hb dL_law_2624 ?_
  refine pq_sld hx hb hX hbl hbA hS (j := 2) (show i + 2 < L by omega) (by omega) (by decide) dL_law_2625 ?_
  refine lv_aload_n hx hb dL_law_2626 rfl (lv_at hl 4 rfl) ?_
  obtain ⟨hPs, hDs, hJ⟩ := pq_4a hP hD
  refine pq_cH S (c_L_windowKeyAt l g a b1 f T (xs (i + 1)) (xs (i + 2)) hst o T1 h6 M1.1 hcd) vh_L_325 hK hT hL9 hPs hDs hS hA rfl rfl hl.1 (Nat.le_of_ble_eq_true rfl) dL_law_2627 ⟨by decide, by decide⟩ ⟨by show cells + 3 ≤ 603072; omega, by show slots + 18 ≤ 7178346; omega⟩ (fun H1 locs1 hk hP1 hS1 => ?_)
  replace hP : va_P g.1 pq_cl ([(b1, .inl (g.2 3, 1, .inr (.inl ((pq_nf f (fun v => v.toInt64) o)))))] ++ ([(b2, .inl (g.2 4, 1, .inr (.inr (.inr (.inl (fd))))))] ++ (mainW g a T1 ++ modW g am M))) H1 := hJ hk hP1
  replace hD : va_D A ([(b1, .inl (g.2 3, 1, .inr (.inl ((pq_nf f (fun v => v.toInt64) o)))))] ++ ([(b2, .inl (g.2 4, 1, .inr (.inr (.inr (.inl (fd))))))] ++ (mainW g a T1 ++ modW g am M))) := pq_adr hD (ad_app rfl (ad_app rfl (ad_app (ad_X6 _ _) (ad_X7 _ _))))
  clear hJ hk hP1 hPs hDs hS
  generalize H1 = H at hP hS1 ⊢
  have hS := hS1
  clear hS1
  refine lv_istore (lv' := [(6, .int M1.1), (5, .int (nI i)), (0, .ref b), (1, .ref (a 0)), (2, .ref (am 0)), (3, .ref b1), (4, .ref b2)]) hx hb dL_law_2630 hl (by decide) rfl (fun ls hl => ?_)
  refine lv_aload_n hx hb dL_law_2632 rfl (lv_at hl 4 rfl) ?_
  refine lv_aload_n hx hb dL_law_2633 rfl (lv_at hl 2 rfl) ?_
  refine lv_iload hx hb dL_law_2634 (lv_at hl 1 rfl) ?_
  refine lv_iconst (v := 1) hx hb dL_law_2636 (by decide) ?_
  refine lv_iadd hx hb dL_law_2637 ?_
  refine pq_sld hx hb hX hbl hbA hS (j := 1) (show i + 1 < L by omega) (by omega) (by decide) dL_law_2638 ?_
  refine lv_aload_n hx hb dL_law_2639 rfl (lv_at hl 2 rfl) ?_
  refine lv_iload hx hb dL_law_2640 (lv_at hl 1 rfl) ?_
  refine lv_iconst (v := 2) hx hb dL_law_2642 (by decide) ?_
  refine lv_iadd hx hb dL_law_2643 ?_
  refine pq_sld hx hb hX hbl hbA hS (j := 2) (show i + 2 < L by omega) (by omega) (by decide) dL_law_2644 ?_
  obtain ⟨hPs, hDs, hJ⟩ := pq_4y hP hD
  refine pq_lVi S (c_X7_windowKeyAt l g am M (xs (i + 1)) (xs (i + 2)) bb M1 h7) vv_L_327 hK hPs hDs hS hA rfl rfl rfl rfl rfl hl.1 (Nat.le_of_ble_eq_true rfl) dL_law_2645 ⟨by decide, by decide⟩ ⟨by show cells+3 ≤ 603072; omega, by show slots+18 ≤ 7178346; omega⟩ (fun H1 locs1 hk hP1 hS1 => ?_)
  replace hP : va_P g.1 pq_cl ([(b1, .inl (g.2 3, 1, .inr (.inl ((pq_nf f (fun v => v.toInt64) o)))))] ++ ([(b2, .inl (g.2 4, 1, .inr (.inr (.inr (.inl (fd))))))] ++ (mainW g a T1 ++ modW g am M1))) H1 := hJ hk hP1
  replace hD : va_D A ([(b1, .inl (g.2 3, 1, .inr (.inl ((pq_nf f (fun v => v.toInt64) o)))))] ++ ([(b2, .inl (g.2 4, 1, .inr (.inr (.inr (.inl (fd))))))] ++ (mainW g a T1 ++ modW g am M1))) := pq_adr hD (ad_app rfl (ad_app rfl (ad_app (ad_X6 _ _) (ad_X7 _ _))))
  clear hJ hk hP1 hPs hDs hS
  generalize H1 = H at hP hS1 ⊢
  have hS := hS1
  clear hS1
  refine lv_istore (lv' := [(7, .int bb), (6, .int M1.1), (5, .int (nI i)), (0, .ref b), (1, .ref (a 0)), (2, .ref (am 0)), (3, .ref b1), (4, .ref b2)]) hx hb dL_law_2648 hl (by decide) rfl (fun ls hl => ?_)
  refine lv_aload_n hx hb dL_law_2650 rfl (lv_at hl 5 rfl) ?_
  obtain ⟨hPs, hDs, hJ⟩ := pq_4y hP hD
  refine pq_lV S (c_X7_thrown l g am M1 M1.1 rfl) vv_L_193 hK hPs rfl rfl rfl rfl rfl hl.1 (Nat.le_of_ble_eq_true rfl) dL_law_2651 ⟨by decide, by decide⟩ ⟨by show cells+3 ≤ 603072; omega, by show slots+18 ≤ 7178346; omega⟩ ?_
  clear hJ hPs hDs
  refine lv_iload hx hb dL_law_2654 (lv_at hl 1 rfl) ?_
  refine lv_icmp_eq (tgt := 2661) hx hb dL_law_2656 (by decide) (fun _ => ?_) (fun h9 => absurd rfl h9)
  refine lv_iload hx hb dL_law_2661 (lv_at hl 1 rfl) ?_
  refine lv_if_ne (tgt := 2678) hx hb dL_law_2663 (by decide) (fun h0 => ?_) (fun h0 => ?_)
  · skip
    refine lv_goto (tgt := 3417) hx hb dL_law_2678 (by decide) ?_
    exact W.widen (by omega) (by omega) (kk (pq_nf f (fun v => v.toInt64) o) fd T1 M1 H _ ls hPR1 hP hD hS (lv_sub hl [2, 3, 4, 5, 6, 7] rfl))
  · have e0 := hbb h0
    subst e0
    refine lv_aload_n hx hb dL_law_2666 rfl (lv_at hl 6 rfl) ?_
    refine lv_iconst (v := 0) hx hb dL_law_2667 (by decide) ?_
    refine va_lald hx hb hK.1 hP 0 3 rfl rfl pq_in01 dL_law_2668 ?_
    refine lv_iload hx hb dL_law_2669 (lv_at hl 0 rfl) ?_
    refine lv_i2l hx hb dL_law_2671 rfl ?_
    refine W.lcmp hx hb dL_law_2672 ?_
    refine lv_if_eq (tgt := 2678) hx hb dL_law_2673 (by decide) (fun _ => ?_) (fun h9 => absurd (pq_lcmp _) h9)
    refine lv_goto (tgt := 3417) hx hb dL_law_2678 (by decide) ?_
    exact W.widen (by omega) (by omega) (kk (pq_nf f (fun v => v.toInt64) (.inr bb)) fd T1 M1 H _ ls hPR1 hP hD hS (lv_sub hl [2, 3, 4, 5, 6, 7] rfl))
set_option maxHeartbeats 4000000 in
set_option maxRecDepth 100000 in
theorem lw_case42 {PR : MainS → ModS → Prop} (hM : pq_Ma PR) {p : Program} {l : Launch} {e : Env} {s : State} {m : MethodId} {below : List Frame} {meth : Method} {c : Code} {Q : State → Prop} {A : Nat → Prop} {b L : Nat} {xs : Nat → Int32} {g : pq_g} {a am : Nat → Nat} {b1 b2 : Nat} (hst : l.stackTraces = false) (S : CallFix p m c cL_law 9 s #[.ref b] pq_G RL) (hK : pq_K g s) (hT : pq_T A s s.heap) (hL9 : pq_L s) (hA : ∀ q : Nat, s.heap.size ≤ q → A q) (hX : va_X b L xs s s.heap) (hbl : b < s.heap.size) (hbA : ¬ A b) (hL : L ≤ 3072)
    {i : Nat} (hi : i + 6 ≤ L) {f : Nat → Int64} {fd : Nat → UInt64} {T : MainS} {M : ModS} {H : Heap} {locs : List Loc} {ls : Array Slot} {cells slots : Nat} (hPR : PR T M) (hP : va_P g.1 pq_cl ([(b1, .inl (g.2 3, 1, .inr (.inl (f))))] ++ ([(b2, .inl (g.2 4, 1, .inr (.inr (.inr (.inl (fd))))))] ++ (mainW g a T ++ modW g am M))) H) (hD : va_D A ([(b1, .inl (g.2 3, 1, .inr (.inl (f))))] ++ ([(b2, .inl (g.2 4, 1, .inr (.inr (.inr (.inl (fd))))))] ++ (mainW g a T ++ modW g am M)))) (hS : va_S A s.heap H locs) (hl : lv_has ls 9 [(5, .int (nI i)), (0, .ref b), (1, .ref (a 0)), (2, .ref (am 0)), (3, .ref b1), (4, .ref b2)]) (hc : cells ≤ 10000) (hs : slots ≤ 100000)
    (kk : ∀ (f1 : Nat → Int64) (fd1 : Nat → UInt64) (T1 : MainS) (M1 : ModS) (H1 : Heap) (locs1 : List Loc) (ls1 : Array Slot), PR T1 M1 → va_P g.1 pq_cl ([(b1, .inl (g.2 3, 1, .inr (.inl (f1))))] ++ ([(b2, .inl (g.2 4, 1, .inr (.inr (.inr (.inl (fd1))))))] ++ (mainW g a T1 ++ modW g am M1))) H1 → va_D A ([(b1, .inl (g.2 3, 1, .inr (.inl (f1))))] ++ ([(b2, .inl (g.2 4, 1, .inr (.inr (.inr (.inl (fd1))))))] ++ (mainW g a T1 ++ modW g am M1))) → va_S A s.heap H1 locs1 → lv_has ls1 9 [(5, .int (nI i)), (0, .ref b), (1, .ref (a 0)), (2, .ref (am 0)), (3, .ref b1), (4, .ref b2)] → W p l e room_1 s m #[.ref b] below meth c H1 locs1 (cells + 6) (slots + 36) Q (F0 m 3417 ls1 [])) : W p l e room_1 s m #[.ref b] below meth c H locs cells slots Q (F0 m 2681 ls []) := by
  obtain ⟨hx, hb, hml, hown, hts⟩ := id S
  obtain ⟨o, T1, bb, M1, h6, h7, hPR1, hcd, hbb⟩ := hM.canInsert T M (xs (i + 1)) (xs (i + 2)) hPR
  refine lv_aload_n hx hb dL_law_2681 rfl (lv_at hl 2 rfl) ?_
  refine lv_aload_n hx hb dL_law_2682 rfl (lv_at hl 1 rfl) ?_
  refine lv_iload hx hb dL_law_2683 (lv_at hl 0 rfl) ?_
  refine lv_iconst (v := 1) hx hb dL_law_2685 (by decide) ?_
  refine lv_iadd hx hb dL_law_2686 ?_
  refine pq_sld hx hb hX hbl hbA hS (j := 1) (show i + 1 < L by omega) (by omega) (by decide) dL_law_2687 ?_
  refine lv_aload_n hx hb dL_law_2688 rfl (lv_at hl 1 rfl) ?_
  refine lv_iload hx hb dL_law_2689 (lv_at hl 0 rfl) ?_
  refine lv_iconst (v := 2) hx hb dL_law_2691 (by decide) ?_
  refine lv_iadd hx hb dL_law_2692 ?_
  refine pq_sld hx hb hX hbl hbA hS (j := 2) (show i + 2 < L by omega) (by omega) (by decide) dL_law_2693 ?_
  refine lv_aload_n hx hb dL_law_2694 rfl (lv_at hl 4 rfl) ?_
  obtain ⟨hPs, hDs, hJ⟩ := pq_4a hP hD
  refine pq_cH S (c_L_canInsert l g a b1 f T (xs (i + 1)) (xs (i + 2)) hst o T1 h6 M1.1 hcd) vh_L_328 hK hT hL9 hPs hDs hS hA rfl rfl hl.1 (Nat.le_of_ble_eq_true rfl) dL_law_2695 ⟨by decide, by decide⟩ ⟨by show cells + 2 ≤ 603072; omega, by show slots + 12 ≤ 7178346; omega⟩ (fun H1 locs1 hk hP1 hS1 => ?_)
  replace hP : va_P g.1 pq_cl ([(b1, .inl (g.2 3, 1, .inr (.inl ((pq_nf f (fun v => if v = 0 then 0 else 1) o)))))] ++ ([(b2, .inl (g.2 4, 1, .inr (.inr (.inr (.inl (fd))))))] ++ (mainW g a T1 ++ modW g am M))) H1 := hJ hk hP1
  replace hD : va_D A ([(b1, .inl (g.2 3, 1, .inr (.inl ((pq_nf f (fun v => if v = 0 then 0 else 1) o)))))] ++ ([(b2, .inl (g.2 4, 1, .inr (.inr (.inr (.inl (fd))))))] ++ (mainW g a T1 ++ modW g am M))) := pq_adr hD (ad_app rfl (ad_app rfl (ad_app (ad_X6 _ _) (ad_X7 _ _))))
  clear hJ hk hP1 hPs hDs hS
  generalize H1 = H at hP hS1 ⊢
  have hS := hS1
  clear hS1
  refine lv_istore (lv' := [(6, .int M1.1), (5, .int (nI i)), (0, .ref b), (1, .ref (a 0)), (2, .ref (am 0)), (3, .ref b1), (4, .ref b2)]) hx hb dL_law_2698 hl (by decide) rfl (fun ls hl => ?_)
  refine lv_aload_n hx hb dL_law_2700 rfl (lv_at hl 4 rfl) ?_
  refine lv_aload_n hx hb dL_law_2701 rfl (lv_at hl 2 rfl) ?_
  refine lv_iload hx hb dL_law_2702 (lv_at hl 1 rfl) ?_
  refine lv_iconst (v := 1) hx hb dL_law_2704 (by decide) ?_
  refine lv_iadd hx hb dL_law_2705 ?_
  refine pq_sld hx hb hX hbl hbA hS (j := 1) (show i + 1 < L by omega) (by omega) (by decide) dL_law_2706 ?_
  refine lv_aload_n hx hb dL_law_2707 rfl (lv_at hl 2 rfl) ?_
  refine lv_iload hx hb dL_law_2708 (lv_at hl 1 rfl) ?_
  refine lv_iconst (v := 2) hx hb dL_law_2710 (by decide) ?_
  refine lv_iadd hx hb dL_law_2711 ?_
  refine pq_sld hx hb hX hbl hbA hS (j := 2) (show i + 2 < L by omega) (by omega) (by decide) dL_law_2712 ?_
  obtain ⟨hPs, hDs, hJ⟩ := pq_4y hP hD
  refine pq_lVi S (c_X7_canInsert l g am M (xs (i + 1)) (xs (i + 2)) bb M1 h7) vv_L_330 hK hPs hDs hS hA rfl rfl rfl rfl rfl hl.1 (Nat.le_of_ble_eq_true rfl) dL_law_2713 ⟨by decide, by decide⟩ ⟨by show cells+2 ≤ 603072; omega, by show slots+12 ≤ 7178346; omega⟩ (fun H1 locs1 hk hP1 hS1 => ?_)
  replace hP : va_P g.1 pq_cl ([(b1, .inl (g.2 3, 1, .inr (.inl ((pq_nf f (fun v => if v = 0 then 0 else 1) o)))))] ++ ([(b2, .inl (g.2 4, 1, .inr (.inr (.inr (.inl (fd))))))] ++ (mainW g a T1 ++ modW g am M1))) H1 := hJ hk hP1
  replace hD : va_D A ([(b1, .inl (g.2 3, 1, .inr (.inl ((pq_nf f (fun v => if v = 0 then 0 else 1) o)))))] ++ ([(b2, .inl (g.2 4, 1, .inr (.inr (.inr (.inl (fd))))))] ++ (mainW g a T1 ++ modW g am M1))) := pq_adr hD (ad_app rfl (ad_app rfl (ad_app (ad_X6 _ _) (ad_X7 _ _))))
  clear hJ hk hP1 hPs hDs hS
  generalize H1 = H at hP hS1 ⊢
  have hS := hS1
  clear hS1
  refine lv_istore (lv' := [(7, .int bb), (6, .int M1.1), (5, .int (nI i)), (0, .ref b), (1, .ref (a 0)), (2, .ref (am 0)), (3, .ref b1), (4, .ref b2)]) hx hb dL_law_2716 hl (by decide) rfl (fun ls hl => ?_)
  refine lv_aload_n hx hb dL_law_2718 rfl (lv_at hl 5 rfl) ?_
  obtain ⟨hPs, hDs, hJ⟩ := pq_4y hP hD
  refine pq_lV S (c_X7_thrown l g am M1 M1.1 rfl) vv_L_193 hK hPs rfl rfl rfl rfl rfl hl.1 (Nat.le_of_ble_eq_true rfl) dL_law_2719 ⟨by decide, by decide⟩ ⟨by show cells+2 ≤ 603072; omega, by show slots+12 ≤ 7178346; omega⟩ ?_
  clear hJ hPs hDs
  refine lv_iload hx hb dL_law_2722 (lv_at hl 1 rfl) ?_
  refine lv_icmp_eq (tgt := 2729) hx hb dL_law_2724 (by decide) (fun _ => ?_) (fun h9 => absurd rfl h9)
  refine lv_iload hx hb dL_law_2729 (lv_at hl 1 rfl) ?_
  refine lv_if_ne (tgt := 2753) hx hb dL_law_2731 (by decide) (fun h0 => ?_) (fun h0 => ?_)
  · skip
    refine lv_goto (tgt := 3417) hx hb dL_law_2753 (by decide) ?_
    exact W.widen (by omega) (by omega) (kk (pq_nf f (fun v => if v = 0 then 0 else 1) o) fd T1 M1 H _ ls hPR1 hP hD hS (lv_sub hl [2, 3, 4, 5, 6, 7] rfl))
  · have e0 := hbb h0
    subst e0
    refine lv_aload_n hx hb dL_law_2734 rfl (lv_at hl 6 rfl) ?_
    refine lv_iconst (v := 0) hx hb dL_law_2735 (by decide) ?_
    refine va_lald hx hb hK.1 hP 0 3 rfl rfl pq_in01 dL_law_2736 ?_
    refine lv_iload hx hb dL_law_2737 (lv_at hl 0 rfl) ?_
    refine lv_if_eq (tgt := 2746) hx hb dL_law_2739 (by decide) (fun h1 => ?_) (fun h1 => ?_)
    · refine lv_lconst (v := 0) hx hb dL_law_2746 (by decide) ?_
      change W _ _ _ _ _ _ _ _ _ _ _ _ _ _ _ (F0 _ _ _ [.long 0, .long (if bb = 0 then 0 else 1)])
      rw [if_pos h1]
      refine W.lcmp hx hb dL_law_2747 ?_
      refine lv_if_eq (tgt := 2753) hx hb dL_law_2748 (by decide) (fun _ => ?_) (fun h9 => absurd (pq_lcmp _) h9)
      refine lv_goto (tgt := 3417) hx hb dL_law_2753 (by decide) ?_
      exact W.widen (by omega) (by omega) (kk (pq_nf f (fun v => if v = 0 then 0 else 1) (.inr bb)) fd T1 M1 H _ ls hPR1 hP hD hS (lv_sub hl [2, 3, 4, 5, 6, 7] rfl))
    · refine lv_lconst (v := 1) hx hb dL_law_2742 (by decide) ?_
      change W _ _ _ _ _ _ _ _ _ _ _ _ _ _ _ (F0 _ _ _ [.long 1, .long (if bb = 0 then 0 else 1)])
      rw [if_neg h1]
      refine lv_goto (tgt := 2747) hx hb dL_law_2743 (by decide) ?_
      refine W.lcmp hx hb dL_law_2747 ?_
      refine lv_if_eq (tgt := 2753) hx hb dL_law_2748 (by decide) (fun _ => ?_) (fun h9 => absurd (pq_lcmp _) h9)
      refine lv_goto (tgt := 3417) hx hb dL_law_2753 (by decide) ?_
      exact W.widen (by omega) (by omega) (kk (pq_nf f (fun v => if v = 0 then 0 else 1) (.inr bb)) fd T1 M1 H _ ls hPR1 hP hD hS (lv_sub hl [2, 3, 4, 5, 6, 7] rfl))
set_option maxHeartbeats 4000000 in
set_option maxRecDepth 100000 in
theorem lw_case43 {PR : MainS → ModS → Prop} (hM : pq_Ma PR) {p : Program} {l : Launch} {e : Env} {s : State} {m : MethodId} {below : List Frame} {meth : Method} {c : Code} {Q : State → Prop} {A : Nat → Prop} {b L : Nat} {xs : Nat → Int32} {g : pq_g} {a am : Nat → Nat} {b1 b2 : Nat} (hst : l.stackTraces = false) (S : CallFix p m c cL_law 9 s #[.ref b] pq_G RL) (hK : pq_K g s) (hT : pq_T A s s.heap) (hL9 : pq_L s) (hA : ∀ q : Nat, s.heap.size ≤ q → A q) (hX : va_X b L xs s s.heap) (hbl : b < s.heap.size) (hbA : ¬ A b) (hL : L ≤ 3072)
    {i : Nat} (hi : i + 6 ≤ L) {f : Nat → Int64} {fd : Nat → UInt64} {T : MainS} {M : ModS} {H : Heap} {locs : List Loc} {ls : Array Slot} {cells slots : Nat} (hPR : PR T M) (hP : va_P g.1 pq_cl ([(b1, .inl (g.2 3, 1, .inr (.inl (f))))] ++ ([(b2, .inl (g.2 4, 1, .inr (.inr (.inr (.inl (fd))))))] ++ (mainW g a T ++ modW g am M))) H) (hD : va_D A ([(b1, .inl (g.2 3, 1, .inr (.inl (f))))] ++ ([(b2, .inl (g.2 4, 1, .inr (.inr (.inr (.inl (fd))))))] ++ (mainW g a T ++ modW g am M)))) (hS : va_S A s.heap H locs) (hl : lv_has ls 9 [(5, .int (nI i)), (0, .ref b), (1, .ref (a 0)), (2, .ref (am 0)), (3, .ref b1), (4, .ref b2)]) (hc : cells ≤ 10000) (hs : slots ≤ 100000)
    (kk : ∀ (f1 : Nat → Int64) (fd1 : Nat → UInt64) (T1 : MainS) (M1 : ModS) (H1 : Heap) (locs1 : List Loc) (ls1 : Array Slot), PR T1 M1 → va_P g.1 pq_cl ([(b1, .inl (g.2 3, 1, .inr (.inl (f1))))] ++ ([(b2, .inl (g.2 4, 1, .inr (.inr (.inr (.inl (fd1))))))] ++ (mainW g a T1 ++ modW g am M1))) H1 → va_D A ([(b1, .inl (g.2 3, 1, .inr (.inl (f1))))] ++ ([(b2, .inl (g.2 4, 1, .inr (.inr (.inr (.inl (fd1))))))] ++ (mainW g a T1 ++ modW g am M1))) → va_S A s.heap H1 locs1 → lv_has ls1 9 [(5, .int (nI i)), (0, .ref b), (1, .ref (a 0)), (2, .ref (am 0)), (3, .ref b1), (4, .ref b2)] → W p l e room_1 s m #[.ref b] below meth c H1 locs1 (cells + 6) (slots + 36) Q (F0 m 3417 ls1 [])) : W p l e room_1 s m #[.ref b] below meth c H locs cells slots Q (F0 m 2756 ls []) := by
  obtain ⟨hx, hb, hml, hown, hts⟩ := id S
  obtain ⟨bb, M1, h6, h7, hPR1⟩ := hM.rotationCount T M hPR
  refine lv_aload_n hx hb dL_law_2756 rfl (lv_at hl 2 rfl) ?_
  obtain ⟨hPs, hDs, hJ⟩ := pq_4x hP hD
  refine pq_lV S (c_X6_rotationCount l g a T bb h6) vv_L_331 hK hPs rfl rfl rfl rfl rfl hl.1 (Nat.le_of_ble_eq_true rfl) dL_law_2757 ⟨by decide, by decide⟩ ⟨by show cells ≤ 603072; omega, by show slots ≤ 7178346; omega⟩ ?_
  clear hJ hPs hDs
  refine lv_aload_n hx hb dL_law_2760 rfl (lv_at hl 3 rfl) ?_
  obtain ⟨hPs, hDs, hJ⟩ := pq_4y hP hD
  refine pq_lVi S (c_X7_rotationCount l g am M bb M1 h7) vv_L_334 hK hPs hDs hS hA rfl rfl rfl rfl rfl hl.1 (Nat.le_of_ble_eq_true rfl) dL_law_2761 ⟨by decide, by decide⟩ ⟨by show cells ≤ 603072; omega, by show slots ≤ 7178346; omega⟩ (fun H1 locs1 hk hP1 hS1 => ?_)
  replace hP : va_P g.1 pq_cl ([(b1, .inl (g.2 3, 1, .inr (.inl (f))))] ++ ([(b2, .inl (g.2 4, 1, .inr (.inr (.inr (.inl (fd))))))] ++ (mainW g a T ++ modW g am M1))) H1 := hJ hk hP1
  replace hD : va_D A ([(b1, .inl (g.2 3, 1, .inr (.inl (f))))] ++ ([(b2, .inl (g.2 4, 1, .inr (.inr (.inr (.inl (fd))))))] ++ (mainW g a T ++ modW g am M1))) := pq_adr hD (ad_app rfl (ad_app rfl (ad_app (ad_X6 _ _) (ad_X7 _ _))))
  clear hJ hk hP1 hPs hDs hS
  generalize H1 = H at hP hS1 ⊢
  have hS := hS1
  clear hS1
  refine lv_icmp_eq (tgt := 3417) hx hb dL_law_2764 (by decide) (fun _ => ?_) (fun h9 => absurd rfl h9)
  exact W.widen (by omega) (by omega) (kk f fd T M1 H _ ls hPR1 hP hD hS (lv_sub hl [0, 1, 2, 3, 4, 5] rfl))
set_option maxHeartbeats 4000000 in
set_option maxRecDepth 100000 in
theorem lw_case44 {PR : MainS → ModS → Prop} (hM : pq_Ma PR) {p : Program} {l : Launch} {e : Env} {s : State} {m : MethodId} {below : List Frame} {meth : Method} {c : Code} {Q : State → Prop} {A : Nat → Prop} {b L : Nat} {xs : Nat → Int32} {g : pq_g} {a am : Nat → Nat} {b1 b2 : Nat} (hst : l.stackTraces = false) (S : CallFix p m c cL_law 9 s #[.ref b] pq_G RL) (hK : pq_K g s) (hT : pq_T A s s.heap) (hL9 : pq_L s) (hA : ∀ q : Nat, s.heap.size ≤ q → A q) (hX : va_X b L xs s s.heap) (hbl : b < s.heap.size) (hbA : ¬ A b) (hL : L ≤ 3072)
    {i : Nat} (hi : i + 6 ≤ L) {f : Nat → Int64} {fd : Nat → UInt64} {T : MainS} {M : ModS} {H : Heap} {locs : List Loc} {ls : Array Slot} {cells slots : Nat} (hPR : PR T M) (hP : va_P g.1 pq_cl ([(b1, .inl (g.2 3, 1, .inr (.inl (f))))] ++ ([(b2, .inl (g.2 4, 1, .inr (.inr (.inr (.inl (fd))))))] ++ (mainW g a T ++ modW g am M))) H) (hD : va_D A ([(b1, .inl (g.2 3, 1, .inr (.inl (f))))] ++ ([(b2, .inl (g.2 4, 1, .inr (.inr (.inr (.inl (fd))))))] ++ (mainW g a T ++ modW g am M)))) (hS : va_S A s.heap H locs) (hl : lv_has ls 9 [(5, .int (nI i)), (0, .ref b), (1, .ref (a 0)), (2, .ref (am 0)), (3, .ref b1), (4, .ref b2)]) (hc : cells ≤ 10000) (hs : slots ≤ 100000)
    (kk : ∀ (f1 : Nat → Int64) (fd1 : Nat → UInt64) (T1 : MainS) (M1 : ModS) (H1 : Heap) (locs1 : List Loc) (ls1 : Array Slot), PR T1 M1 → va_P g.1 pq_cl ([(b1, .inl (g.2 3, 1, .inr (.inl (f1))))] ++ ([(b2, .inl (g.2 4, 1, .inr (.inr (.inr (.inl (fd1))))))] ++ (mainW g a T1 ++ modW g am M1))) H1 → va_D A ([(b1, .inl (g.2 3, 1, .inr (.inl (f1))))] ++ ([(b2, .inl (g.2 4, 1, .inr (.inr (.inr (.inl (fd1))))))] ++ (mainW g a T1 ++ modW g am M1))) → va_S A s.heap H1 locs1 → lv_has ls1 9 [(5, .int (nI i)), (0, .ref b), (1, .ref (a 0)), (2, .ref (am 0)), (3, .ref b1), (4, .ref b2)] → W p l e room_1 s m #[.ref b] below meth c H1 locs1 (cells + 6) (slots + 36) Q (F0 m 3417 ls1 [])) : W p l e room_1 s m #[.ref b] below meth c H locs cells slots Q (F0 m 2769 ls []) := by
  obtain ⟨hx, hb, hml, hown, hts⟩ := id S
  obtain ⟨o, T1, bb, M1, h6, h7, hPR1, hcd, hbb, hex⟩ := hM.meanDepth T M hPR
  refine lv_aload_n hx hb dL_law_2769 rfl (lv_at hl 2 rfl) ?_
  refine lv_aload hx hb dL_law_2770 (lv_at hl 5 rfl) ?_
  obtain ⟨hPs, hDs, hJ⟩ := pq_4b hP hD
  refine pq_cH S (c_L_meanDepth l g a b2 fd T hst o T1 h6 M1.1 hcd) vh_L_335 hK hT hL9 hPs hDs hS hA rfl rfl hl.1 (Nat.le_of_ble_eq_true rfl) dL_law_2772 ⟨by decide, by decide⟩ ⟨by show cells + 1 ≤ 603072; omega, by show slots + 6 ≤ 7178346; omega⟩ (fun H1 locs1 hk hP1 hS1 => ?_)
  replace hP : va_P g.1 pq_cl ([(b1, .inl (g.2 3, 1, .inr (.inl (f))))] ++ ([(b2, .inl (g.2 4, 1, .inr (.inr (.inr (.inl ((pq_nf fd (fun v => v) o)))))))] ++ (mainW g a T1 ++ modW g am M))) H1 := hJ hk hP1
  replace hD : va_D A ([(b1, .inl (g.2 3, 1, .inr (.inl (f))))] ++ ([(b2, .inl (g.2 4, 1, .inr (.inr (.inr (.inl ((pq_nf fd (fun v => v) o)))))))] ++ (mainW g a T1 ++ modW g am M))) := pq_adr hD (ad_app rfl (ad_app rfl (ad_app (ad_X6 _ _) (ad_X7 _ _))))
  clear hJ hk hP1 hPs hDs hS
  generalize H1 = H at hP hS1 ⊢
  have hS := hS1
  clear hS1
  refine lv_istore (lv' := [(6, .int M1.1), (5, .int (nI i)), (0, .ref b), (1, .ref (a 0)), (2, .ref (am 0)), (3, .ref b1), (4, .ref b2)]) hx hb dL_law_2775 hl (by decide) rfl (fun ls hl => ?_)
  refine lv_aload_n hx hb dL_law_2777 rfl (lv_at hl 4 rfl) ?_
  obtain ⟨hPs, hDs, hJ⟩ := pq_4y hP hD
  refine pq_lVd S (c_X7_meanDepth l g am M bb M1 h7) vv_L_338 hK hPs hDs hS hA rfl rfl rfl rfl rfl hl.1 (Nat.le_of_ble_eq_true rfl) dL_law_2778 ⟨by decide, by decide⟩ ⟨by show cells+1 ≤ 603072; omega, by show slots+6 ≤ 7178346; omega⟩ (fun H1 locs1 hk hP1 hS1 => ?_)
  replace hP : va_P g.1 pq_cl ([(b1, .inl (g.2 3, 1, .inr (.inl (f))))] ++ ([(b2, .inl (g.2 4, 1, .inr (.inr (.inr (.inl ((pq_nf fd (fun v => v) o)))))))] ++ (mainW g a T1 ++ modW g am M1))) H1 := hJ hk hP1
  replace hD : va_D A ([(b1, .inl (g.2 3, 1, .inr (.inl (f))))] ++ ([(b2, .inl (g.2 4, 1, .inr (.inr (.inr (.inl ((pq_nf fd (fun v => v) o)))))))] ++ (mainW g a T1 ++ modW g am M1))) := pq_adr hD (ad_app rfl (ad_app rfl (ad_app (ad_X6 _ _) (ad_X7 _ _))))
  clear hJ hk hP1 hPs hDs hS
  generalize H1 = H at hP hS1 ⊢
  have hS := hS1
  clear hS1
  refine lv_dstore (lv' := [(7, .double bb), (6, .int M1.1), (5, .int (nI i)), (0, .ref b), (1, .ref (a 0)), (2, .ref (am 0)), (3, .ref b1), (4, .ref b2)]) hx hb dL_law_2781 hl (by decide) rfl (fun ls hl => ?_)
  refine lv_aload_n hx hb dL_law_2783 rfl (lv_at hl 5 rfl) ?_
  obtain ⟨hPs, hDs, hJ⟩ := pq_4y hP hD
  refine pq_lV S (c_X7_thrown l g am M1 M1.1 rfl) vv_L_193 hK hPs rfl rfl rfl rfl rfl hl.1 (Nat.le_of_ble_eq_true rfl) dL_law_2784 ⟨by decide, by decide⟩ ⟨by show cells+1 ≤ 603072; omega, by show slots+6 ≤ 7178346; omega⟩ ?_
  clear hJ hPs hDs
  refine lv_iload hx hb dL_law_2787 (lv_at hl 1 rfl) ?_
  refine lv_icmp_eq (tgt := 2794) hx hb dL_law_2789 (by decide) (fun _ => ?_) (fun h9 => absurd rfl h9)
  refine lv_iload hx hb dL_law_2794 (lv_at hl 1 rfl) ?_
  refine lv_if_ne (tgt := 2831) hx hb dL_law_2796 (by decide) (fun h0 => ?_) (fun h0 => ?_)
  · skip
    refine lv_goto (tgt := 3417) hx hb dL_law_2831 (by decide) ?_
    exact W.widen (by omega) (by omega) (kk f (pq_nf fd (fun v => v) o) T1 M1 H _ ls hPR1 hP hD hS (lv_sub hl [2, 3, 4, 5, 6, 7] rfl))
  · have e0 := hbb h0
    subst e0
    have hP2 := pq_P1 (pq_P2 hP)
    refine lv_aload hx hb dL_law_2799 (lv_at hl 7 rfl) ?_
    refine lv_iconst (v := 0) hx hb dL_law_2801 (by decide) ?_
    refine va_dald hx hb hK.1 hP2 0 4 rfl rfl pq_in01 dL_law_2802 ?_
    refine lv_dload hx hb dL_law_2803 (lv_at hl 0 rfl) ?_
    refine lv_dcmp hx hb dL_law_2805 ?_
    refine lv_if_eq (tgt := 2831) hx hb dL_law_2806 (by decide) (fun _ => ?_) (fun h9 => absurd (hex h0) h9)
    refine lv_goto (tgt := 3417) hx hb dL_law_2831 (by decide) ?_
    exact W.widen (by omega) (by omega) (kk f (pq_nf fd (fun v => v) (.inr bb)) T1 M1 H _ ls hPR1 hP hD hS (lv_sub hl [2, 3, 4, 5, 6, 7] rfl))
