/-! ===== mathematics, 15: a point comes, goes, changes ===== -/
def agr (T T' : TreeS) (x : Nat) : Prop := T'.1 x = T.1 x ∧ T'.2.1 x = T.2.1 x
theorem abv_agr {T T' : TreeS} {a b : Nat} (ha : agr T T' a) (hb : agr T T' b) : abv T' a b ↔ abv T a b := by
  unfold abv
  rw [ha.1, ha.2, hb.1, hb.2]
theorem hpx_agr {T T' : TreeS} {z : Nat} {t : Tr} (ha : ∀ x ∈ t.slots, agr T T' x) (h : hpx T z t) : hpx T' z t := by
  induction t using Tr.ind with
  | nil => trivial
  | node l s r hl hr =>
    simp only [Tr.slots_node, List.mem_append, List.mem_cons] at ha
    rw [hpx_node] at h ⊢
    refine ⟨fun x hx => ?_, hl (fun x hx => ha x (Or.inl hx)) h.2.1, hr (fun x hx => ha x (Or.inr (Or.inr hx))) h.2.2⟩
    rw [abv_agr (ha s (Or.inr (Or.inl rfl))) (ha x (by rcases hx with hx | hx <;> simp [hx]))]
    exact h.1 x hx
theorem hpk_ins {T T1 : TreeS} {leaf : Nat} : ∀ {k : List Fr} {S : Nat → Prop}, hpk T 0 S k → (∀ x, S x ∨ x ∈ kslots k → agr T T1 x ∧ 1 ≤ x) → leaf ∉ kslots k → hpk T1 leaf (fun x => S x ∨ x = leaf) k
  | [], _, _, _, _ => trivial
  | (b, p, c) :: k, S, ⟨h1, h2, h3⟩, ha, hl => by
    simp only [kslots, List.mem_append, List.mem_cons] at ha hl
    refine ⟨fun x hx => ?_, hpx_agr (fun x hx => (ha x (by simp [hx])).1) (hpx_out (fun h0 => by have := (ha 0 (by simp [h0])).2; omega) (fun h0 => hl (by simp [h0])) h2), (hpk_iff (fun x => ?_)).mp (hpk_ins h3 (fun x hx => ha x (by grind)) (fun h0 => hl (by simp [h0])))⟩
    · by_cases e : x = leaf
      · exact Or.inl e
      · have hx2 : S x ∨ x ∈ c.slots := by grind
        have ax := ha x (by grind)
        have ap := ha p (by simp)
        rcases h1 x hx2 with e1 | e1 | e1
        · omega
        · omega
        · exact Or.inr (Or.inr ((abv_agr ap.1 ax.1).mpr e1))
    · grind
theorem hpk_del {T : TreeS} {s : Nat} : ∀ {k : List Fr} {S S' : Nat → Prop}, hpk T s S k → s ∉ kslots k → (∀ x ∈ kslots k, 1 ≤ x) → (∀ x, S' x → S x ∧ x ≠ s) → hpk T 0 S' k
  | [], _, _, _, _, _, _ => trivial
  | (b, p, c) :: k, S, S', ⟨h1, h2, h3⟩, hn, hp, hS => by
    simp only [kslots, List.mem_append, List.mem_cons] at hn hp
    refine ⟨fun x hx => ?_, hpx_out (by grind) (fun h0 => by have := hp 0 (by simp [h0]); omega) h2, hpk_del (S := fun x => S x ∨ x = p ∨ x ∈ c.slots) h3 (by grind) (fun x hx => hp x (by simp [hx])) (fun x hx => ?_)⟩
    · have hx2 : (S x ∨ x ∈ c.slots) ∧ x ≠ s := by
        rcases hx with hx | hx
        · exact ⟨Or.inl (hS x hx).1, (hS x hx).2⟩
        · exact ⟨Or.inr hx, by grind⟩
      rcases h1 x hx2.1 with e | e | e
      · exact absurd e hx2.2
      · exact absurd e (by grind)
      · exact Or.inr (Or.inr e)
    · rcases hx with hx | hx | hx
      · exact ⟨Or.inl (hS x hx).1, (hS x hx).2⟩
      · exact ⟨Or.inr (Or.inl hx), by grind⟩
      · exact ⟨Or.inr (Or.inr hx), by grind⟩
theorem hole_lt {k : List Fr} {l r : Tr} {s : Nat} : (kL k).length + l.size < (plug (Tr.node l s r) k).size := by
  have := Tr.len (plug (Tr.node l s r) k)
  rw [plug_lr, List.length_append, List.length_append, Tr.len, Tr.size_node] at this
  omega
theorem sl_app {t : Tr} {A B : List Nat} {x : Nat} (h : t.slots = A ++ x :: B) : t.sl A.length = x ∧ A.length < t.size := by
  refine ⟨?_, ?_⟩
  · rw [Tr.sl, h, List.getD_eq_getElem?_getD, List.getElem?_append, if_neg (Nat.lt_irrefl _), Nat.sub_self]; rfl
  · rw [← Tr.len, h, List.length_append, List.length_cons]; omega
theorem sl_uniq {t : Tr} (hn : t.slots.Nodup) {i j : Nat} (hi : i < t.size) (hj : j < t.size) (h : t.sl i = t.sl j) : i = j := by
  rw [← idx_sl hn hi, h, idx_sl hn hj]
theorem srt_of {T T' : TreeS} {L : List Nat} (h : srt T L) (ha : ∀ x ∈ L, T'.1 x = T.1 x) : srt T' L := by
  rw [srt] at h ⊢
  exact List.Pairwise.imp_of_mem (fun hx hy h9 => by rw [ha _ hx, ha _ hy]; exact h9) h
theorem srt_app {T : TreeS} {A B : List Nat} {x : Nat} : srt T (A ++ x :: B) ↔ srt T (A ++ B) ∧ (∀ y ∈ A, T.1 y < T.1 x) ∧ (∀ y ∈ B, T.1 x < T.1 y) := by
  simp only [srt, List.pairwise_append, List.pairwise_cons, List.mem_cons]
  constructor
  · rintro ⟨h1, ⟨h2, h3⟩, h4⟩
    exact ⟨⟨h1, h3, fun a ha b hb => h4 a ha b (Or.inr hb)⟩, fun y hy => h4 y hy x (Or.inl rfl), h2⟩
  · rintro ⟨⟨h1, h3, h4⟩, h5, h2⟩
    refine ⟨h1, ⟨h2, h3⟩, fun a ha b hb => ?_⟩
    rcases hb with rfl | hb
    · exact h5 a ha
    · exact h4 a ha b hb
theorem cnt_app {T : TreeS} {p : Int32 → Bool} {A B : List Nat} (ha : ∀ x ∈ A, p (T.1 x) = true) (hb : ∀ x ∈ B, ¬ p (T.1 x) = true) : cnt T p (A ++ B) = A.length := by
  rw [cnt, List.countP_append, List.countP_eq_length.mpr ha, List.countP_eq_zero.mpr hb] <;> rfl
theorem ins_ok {T : TreeS} {t : Tr} {K P : Int32} {kk pp : Nat} (h : WF T t) (hsz : t.size < 24) (hK : ∀ x ∈ t.slots, T.1 x ≠ K) (hkk : kk ≤ 99 ∧ K = nI kk) (hpp : pp ≤ 99 ∧ P = nI pp) :
    ∃ (T1 T' : TreeS) (t' : Tr) (leaf m : Nat) (A B : List Nat), f_X4_attach T K P = some (nI leaf, T1) ∧ f_X4_rotateUp T1 (nI leaf) = some (nI m, T') ∧ WF T' t' ∧ t.slots = A ++ B ∧ t'.slots = A ++ leaf :: B ∧ leaf ∉ t.slots ∧ (∀ x ∈ A, T.1 x < K) ∧ (∀ x ∈ B, K < T.1 x) ∧ (∀ x ∈ t.slots, agr T T' x) ∧ T'.1 leaf = K ∧ T'.2.1 leaf = P ∧ m + t'.dep A.length = t.pth A.length := by
  obtain ⟨leaf, T1, k, a1, l1, l24, lf, hpl, hTB, k1, k2, kl, kr⟩ := attach_ok (P := P) h.1 h.2.1 hsz hK
  have hsl : t.slots = kL k ++ kR k := by rw [← hpl, plug_lr, Tr.slots_nil, List.append_nil]
  have hag : ∀ x ∈ t.slots, agr T T1 x := fun x hx => by
    have : x ≠ leaf := by rintro rfl; exact lf hx
    unfold agr
    rw [k1, k2]; exact ⟨upd_ne _ _ this, upd_ne _ _ this⟩
  have hks : ∀ x, x ∈ kslots k ↔ x ∈ t.slots := fun x => by rw [← hpl, (plug_perm _ _).mem_iff]; simp [Tr.slots_nil]
  have hh : hpx T1 leaf (plug (Tr.node Tr.nil leaf Tr.nil) k) := by
    have h0 := h.2.2.1
    rw [← hpl] at h0
    refine (hpx_plug _ _).mpr ⟨?_, (hpk_iff (fun x => ?_)).mp (hpk_ins ((hpx_plug _ _).mp h0).2 (fun x hx => ?_) (fun h9 => lf ((hks _).mp h9)))⟩
    · rw [hpx_node]; exact ⟨fun x hx => (by rcases hx with hx | hx <;> cases hx), trivial, trivial⟩
    · simp only [Tr.slots_node, Tr.slots_nil, List.nil_append, List.mem_singleton, List.not_mem_nil, false_or]
    · have hx2 : x ∈ t.slots := by
        rcases hx with hx | hx
        · cases hx
        · exact (hks x).mp hx
      exact ⟨hag x hx2, (h.1.mem x hx2).1⟩
  have hslots : (plug (Tr.node Tr.nil leaf Tr.nil) k).slots = kL k ++ leaf :: kR k := by
    rw [plug_lr, Tr.slots_node, Tr.slots_nil, List.nil_append, List.append_assoc]; rfl
  have e1 : T1.1 leaf = K := by rw [k1]; exact upd_eq _ _ _
  have e2 : T1.2.1 leaf = P := by rw [k2]; exact upd_eq _ _ _
  have hs1 : srt T1 (kL k ++ leaf :: kR k) := by
    rw [srt_app, ← hsl]
    refine ⟨srt_of h.2.1 (fun x hx => (hag x hx).1), fun y hy => ?_, fun y hy => ?_⟩
    · rw [e1, (hag y (by rw [hsl]; simp [hy])).1]; exact kl y hy
    · rw [e1, (hag y (by rw [hsl]; simp [hy])).1]; exact kr y hy
  have hd := hTB.depth
  rw [Tr.size_node, Tr.size_nil] at hd
  obtain ⟨T2, l', r', k', m, u1, u2, u3, u4, u5, u6, u7⟩ := up_ok k T1 Tr.nil Tr.nil leaf 0 200 hTB (by rw [hslots]; exact srt_inj hs1) hh (fun x hx => by rcases hx with hx | hx <;> cases hx) (by omega) (by omega)
  have hsl2 : (plug (Tr.node l' leaf r') k').slots = kL k ++ leaf :: kR k := u3.trans hslots
  obtain ⟨q1, q2⟩ := sl_app hsl2
  have hi : (kL k').length + l'.size = (kL k).length := by
    refine sl_uniq (t := plug (Tr.node l' leaf r') k') u2.2.2.1 ?_ q2 ?_
    · exact hole_lt
    · rw [sl_hole, q1]
  have hdep := dep_hole (k := k') (l := l') (r := r') (s := leaf)
  rw [hi] at hdep
  have hpth := pth_hole (k := k)
  rw [hpl] at hpth
  rw [Nat.zero_add] at u1
  refine ⟨T1, T2, plug (Tr.node l' leaf r') k', leaf, m, kL k, kR k, a1, ?_, ⟨u2, ?_, u4, fun x hx => ?_⟩, hsl, hsl2, lf, kl, kr, fun x hx => ?_, by rw [u6]; exact e1, by rw [u7]; exact e2, by rw [hdep, hpth]; omega⟩
  · rw [f_X4_rotateUp, rd25 l24]; exact u1
  · rw [hsl2]; exact srt_of hs1 (fun x _ => by rw [u6])
  · rw [hsl2, List.mem_append, List.mem_cons] at hx
    rw [u6, u7]
    by_cases e : x = leaf
    · rw [e, e1, e2]; exact ⟨⟨kk, hkk⟩, ⟨pp, hpp⟩⟩
    · have hx2 : x ∈ t.slots := by rw [hsl, List.mem_append]; grind
      rw [(hag x hx2).1, (hag x hx2).2]
      exact h.2.2.2 x hx2
  · unfold agr
    rw [u6, u7]; exact hag x hx
theorem del_ok {T : TreeS} {t : Tr} (h : WF T t) {i : Nat} (hi : i < t.size) :
    ∃ (T0 T' : TreeS) (t' : Tr) (m : Nat) (A B : List Nat), f_X4_rotateDown T (nI (t.sl i)) 1 = some (nI m, T0) ∧ f_X4_detach T0 (nI (t.sl i)) = some T' ∧ WF T' t' ∧ t.slots = A ++ t.sl i :: B ∧ t'.slots = A ++ B ∧ A.length = i ∧ T'.1 = T.1 ∧ T'.2.1 = T.2.1 ∧ t'.pth i = t.dep i + m := by
  obtain ⟨k, l, r, e, e2, e3⟩ := hole_ok h.1 hi
  have hs := e3
  generalize t.sl i = s at *
  have hT : TB T (plug (Tr.node l s r) k) := by rw [e]; exact h.1
  have hd := hT.depth
  rw [Tr.size_node] at hd
  obtain ⟨⟨hk, htr⟩, -, hnd⟩ := hT.parts
  have s1 := htr.1
  have hh : hpx T s (plug (Tr.node l s r) k) := by
    rw [e]
    have hx : ∀ u : Tr, (∀ x ∈ u.slots, 1 ≤ x) → hpx T 0 u → hpx T s u := by
      intro u
      induction u using Tr.ind with
      | nil => intro _ _; trivial
      | node a w b iha ihb =>
        intro hm hu
        simp only [Tr.slots_node, List.mem_append, List.mem_cons] at hm
        rw [hpx_node] at hu ⊢
        refine ⟨fun x hx => ?_, iha (fun x hx => hm x (by simp [hx])) hu.2.1, ihb (fun x hx => hm x (by simp [hx])) hu.2.2⟩
        have hx1 := hm x (by rcases hx with hx | hx <;> simp [hx])
        have hw1 := hm w (by simp)
        rcases hu.1 x hx with e9 | e9 | e9
        · omega
        · omega
        · exact Or.inr (Or.inr e9)
    exact hx t (fun x hx => (h.1.mem x hx).1) h.2.2.1
  obtain ⟨T0, k', m, u1, u2, u3, u4, u5, u6, u7⟩ := downL_ok (l.size + r.size) k T l r s 0 200 (Nat.le_refl _) hT (by rw [e]; exact srt_inj h.2.1) hh (by omega) (by omega)
  obtain ⟨T', d1, d2, d3, d4⟩ := detach_ok u2
  rw [Nat.zero_add] at u1
  have hsl : t.slots = kL k' ++ s :: kR k' := by
    rw [← e, ← u3, plug_lr, Tr.slots_node, Tr.slots_nil, List.nil_append, List.append_assoc]; rfl
  have hsl2 : (plug Tr.nil k').slots = kL k' ++ kR k' := by rw [plug_lr, Tr.slots_nil, List.append_nil]
  obtain ⟨q1, q2⟩ := sl_app hsl
  have hslot := sl_hole (k := k) (l := l) (r := r) (s := s)
  rw [e, e2] at hslot
  have hA : (kL k').length = i := sl_uniq h.1.2.2.1 q2 hi (by rw [q1, hslot])
  obtain ⟨⟨hk2, -⟩, -, hnd2⟩ := u2.parts
  simp only [Tr.slots_node, Tr.slots_nil, List.nil_append, List.cons_append, List.nodup_cons] at hnd2
  have hks := hk2.mem
  have hpth := pth_hole (k := k')
  have hsr : srt T (kL k' ++ kR k') := (srt_app.mp (by rw [← hsl]; exact h.2.1)).1
  refine ⟨T0, T', plug Tr.nil k', m, kL k', kR k', ?_, d1, ⟨d2, ?_, ?_, fun x hx => ?_⟩, hsl, hsl2, hA, d3.trans u6, d4.trans u7, by rw [← hA, hpth, hA, e3]; exact u5⟩
  · rw [f_X4_rotateDown, upperChild_ok htr, Option.bind_some]; exact u1
  · rw [hsl2]; exact srt_of hsr (fun x _ => by rw [d3, u6])
  · refine hpx.congr d3 d4 ((hpx_plug _ _).mpr ⟨trivial, hpk_del ((hpx_plug _ _).mp u4).2 hnd2.1 (fun x hx => (hks x hx).1) (fun x hx => by cases hx)⟩)
  · rw [d3.trans u6, d4.trans u7]
    rw [hsl2, List.mem_append] at hx
    exact h.2.2.2 x (by rw [hsl, List.mem_append, List.mem_cons]; grind)
theorem pri_change {T : TreeS} {t : Tr} (h : WF T t) {i : Nat} (hi : i < t.size) {P : Int32} {pp : Nat} (hpp : pp ≤ 99 ∧ P = nI pp) :
    ∃ (T1 T2 T' : TreeS) (t' : Tr) (m1 m2 : Nat), f_X4_putPriority T (nI (t.sl i)) P = some T1 ∧ f_X4_rotateUp T1 (nI (t.sl i)) = some (nI m1, T2) ∧ f_X4_rotateDown T2 (nI (t.sl i)) 0 = some (nI m2, T') ∧ WF T' t' ∧ t'.slots = t.slots ∧ T'.1 = T.1 ∧ T'.2.1 = upd T.2.1 (t.sl i) P ∧ (t.dep i = t'.dep i + (m1 + m2) ∨ t'.dep i = t.dep i + (m1 + m2)) := by
  obtain ⟨k, l, r, e, e2, e3⟩ := hole_ok h.1 hi
  have hslot := sl_hole (k := k) (l := l) (r := r) (s := t.sl i)
  generalize t.sl i = s at *
  have hT : TB T (plug (Tr.node l s r) k) := by rw [e]; exact h.1
  have hd := hT.depth
  rw [Tr.size_node] at hd
  obtain ⟨⟨hk, htr⟩, ⟨hc, hct⟩, hnd⟩ := hT.parts
  have s1 := htr.1
  have hput : f_X4_putPriority T (nI s) P = some (T.1, upd T.2.1 s P, T.2.2.1, T.2.2.2.1, T.2.2.2.2.1, T.2.2.2.2.2.1, T.2.2.2.2.2.2) := by rw [f_X4_putPriority, wr25 s1.2]
  generalize hU : (T.1, upd T.2.1 s P, T.2.2.1, T.2.2.2.1, T.2.2.2.2.1, T.2.2.2.2.2.1, T.2.2.2.2.2.2) = U at hput
  have U1 : U.1 = T.1 := by rw [← hU]
  have U2 : U.2.1 = upd T.2.1 s P := by rw [← hU]
  have hag : ∀ x, x ≠ s → agr T U x := fun x hx => by
    unfold agr
    rw [U1, U2]; exact ⟨rfl, upd_ne _ _ hx⟩
  have hTU : TB U (plug (Tr.node l s r) k) := by
    refine ⟨(trp_plug _ _).mpr ⟨hk.congr (fun _ _ => by rw [← hU]; exact ⟨rfl, rfl, rfl⟩) (by rw [← hU]), htr.congr (fun _ _ => by rw [← hU]; exact ⟨rfl, rfl, rfl⟩)⟩, (tct_plug _ _).mpr ⟨hc.congr (fun _ _ => by rw [← hU]), hct.congr (fun _ _ => by rw [← hU])⟩, hT.2.2.1, ?_, ?_⟩
    · rw [← hU]; exact hT.2.2.2.1
    · rw [← hU]; exact hT.2.2.2.2
  have hinj : ∀ x ∈ (plug (Tr.node l s r) k).slots, ∀ y ∈ (plug (Tr.node l s r) k).slots, U.1 x = U.1 y → x = y := by
    rw [e, U1]; exact srt_inj h.2.1
  have hm1 : ∀ x ∈ (plug (Tr.node l s r) k).slots, 1 ≤ x := by rw [e]; exact fun x hx => (h.1.mem x hx).1
  have hxs : ∀ u : Tr, (∀ x ∈ u.slots, 1 ≤ x) → hpx T 0 u → hpx U s u := by
    intro u
    induction u using Tr.ind with
    | nil => intro _ _; trivial
    | node a w b iha ihb =>
      intro hm hu
      simp only [Tr.slots_node, List.mem_append, List.mem_cons] at hm
      rw [hpx_node] at hu ⊢
      refine ⟨fun x hx => ?_, iha (fun x hx => hm x (by simp [hx])) hu.2.1, ihb (fun x hx => hm x (by simp [hx])) hu.2.2⟩
      have hx1 := hm x (by rcases hx with hx | hx <;> simp [hx])
      have hw1 := hm w (by simp)
      by_cases c1 : x = s
      · exact Or.inl c1
      · by_cases c2 : w = s
        · exact Or.inr (Or.inl c2)
        · rcases hu.1 x hx with e9 | e9 | e9
          · omega
          · omega
          · exact Or.inr (Or.inr ((abv_agr (hag w c2) (hag x c1)).mpr e9))
  have hhU : hpx U s (plug (Tr.node l s r) k) := hxs _ hm1 (by rw [e]; exact h.2.2.1)
  have hplk : ∀ {t' : Tr} {k' : List Fr} {l' r' : Tr}, TB T t' → True := fun _ => trivial
  simp only [Tr.slots_node, List.nodup_append, List.nodup_cons, List.mem_append, List.mem_cons] at hnd
  have fin : ∀ {T' : TreeS} {l' r' : Tr} {k' : List Fr}, TB T' (plug (Tr.node l' s r') k') → (plug (Tr.node l' s r') k').slots = (plug (Tr.node l s r) k).slots → hpx T' 0 (plug (Tr.node l' s r') k') → T'.1 = U.1 → T'.2.1 = U.2.1 → WF T' (plug (Tr.node l' s r') k') ∧ (plug (Tr.node l' s r') k').slots = t.slots ∧ T'.1 = T.1 ∧ T'.2.1 = upd T.2.1 s P ∧ (plug (Tr.node l' s r') k').dep i = k'.length := by
    intro T' l' r' k' g1 g2 g3 g4 g5
    rw [e] at g2
    refine ⟨⟨g1, ?_, g3, fun x hx => ?_⟩, g2, g4.trans U1, g5.trans U2, ?_⟩
    · rw [g2]; exact srt_of h.2.1 (fun x _ => by rw [g4, U1])
    · rw [g2] at hx
      rw [g4, g5, U1, U2]
      obtain ⟨a1, a2⟩ := h.2.2.2 x hx
      refine ⟨a1, ?_⟩
      by_cases c : x = s
      · rw [c]; exact ⟨pp, hpp.1, (upd_eq _ _ _).trans hpp.2⟩
      · obtain ⟨p, p1, p2⟩ := a2
        exact ⟨p, p1, (upd_ne _ _ c).trans p2⟩
    · have hdep := dep_hole (k := k') (l := l') (r := r') (s := s)
      have hsz : (plug (Tr.node l' s r') k').size = t.size := by rw [← Tr.len, ← Tr.len, g2]
      have hidx : (kL k').length + l'.size = i := by
        refine sl_uniq g1.2.2.1 ?_ (by rw [hsz]; exact hi) ?_
        · exact hole_lt
        · rw [sl_hole, Tr.sl, g2, ← e, ← e2]; exact hslot.symm
      rw [hidx] at hdep
      exact hdep
  by_cases ha : ∀ x, x ∈ l.slots ∨ x ∈ r.slots → abv U s x
  · obtain ⟨T2, l', r', k', m, u1, u2, u3, u4, u5, u6, u7⟩ := up_ok k U l r s 0 200 hTU hinj hhU ha (by omega) (by omega)
    rw [Nat.zero_add] at u1
    have hd2 := u2.depth
    rw [Tr.size_node] at hd2
    obtain ⟨⟨hk2, htr2⟩, -, -⟩ := u2.parts
    have hpl := (hpx_plug _ _).mp u4
    have hm2 : ∀ x ∈ (plug (Tr.node l' s r') k').slots, 1 ≤ x := by rw [u3]; exact hm1
    have hch : ∀ x, x ∈ l'.slots ∨ x ∈ r'.slots → abv T2 s x := fun x hx => (hp0 htr2 hpl.1).1 x hx
    have hps : hpx T2 s (Tr.node l' s r') := by
      have h9 := hpl.1
      rw [hpx_node] at h9 ⊢
      have ho : ∀ v : Tr, s ∉ v.slots → 0 ∉ v.slots → hpx T2 0 v → hpx T2 s v := fun v v1 v2 v3 => hpx_out v2 v1 v3
      have hn2 := (plug_perm k' (Tr.node l' s r')).nodup_iff.mp u2.2.2.1
      simp only [Tr.slots_node, List.nodup_append, List.nodup_cons, List.mem_append, List.mem_cons] at hn2
      refine ⟨fun x hx => Or.inr (Or.inl rfl), ho l' (by grind) (fun h0 => ?_) h9.2.1, ho r' (by grind) (fun h0 => ?_) h9.2.2⟩
      · have := hm2 0 ((plug_mem 0).mpr (by simp [h0])); omega
      · have := hm2 0 ((plug_mem 0).mpr (by simp [h0])); omega
    obtain ⟨T3, l3, r3, k3, m3, v1, v2, v3, v4, v5, v6, v7, v8⟩ := downN_ok (l'.size + r'.size) k' T2 l' r' s 0 200 (Nat.le_refl _) u2 (by rw [u3, u6]; exact hinj) hps hpl.2 (by omega) (by omega)
    have hm3 := v8 hch
    rw [hm3, Nat.add_zero] at v1 v5
    obtain ⟨f1, f2, f3, f4, f5⟩ := fin v2 (v3.trans u3) v4 (v6.trans u6) (v7.trans u7)
    refine ⟨U, T2, T3, _, m, 0, hput, ?_, ?_, f1, f2, f3, f4, Or.inl ?_⟩
    · rw [f_X4_rotateUp, rd25 s1.2]; exact u1
    · rw [f_X4_rotateDown, upperChild_ok htr2, Option.bind_some]; exact v1
    · rw [e3, f5]; omega
  · obtain ⟨x, hx, hxn⟩ : ∃ x, (x ∈ l.slots ∨ x ∈ r.slots) ∧ ¬ abv U s x := by
      apply Classical.byContradiction
      intro h9
      exact ha fun x hx => Classical.byContradiction fun h8 => h9 ⟨x, hx, h8⟩
    have hxm : x ∈ (plug (Tr.node l s r) k).slots := (plug_mem x).mpr (by rcases hx with hx | hx <;> simp [hx])
    have hsm : s ∈ (plug (Tr.node l s r) k).slots := (plug_mem s).mpr (by simp)
    have hxs2 : x ≠ s := by grind
    have hxa : abv U x s := abv_total (fun h9 => hxs2 (hinj s hsm x hxm h9).symm) hxn
    have hpl := (hpx_plug _ _).mp hhU
    have hks : ∀ y ∈ kslots k, 1 ≤ y := fun y hy => (hk.mem y hy).1
    have hk0 : hpk U 0 (fun y => y ∈ (Tr.node l s r).slots) k := hpk_ex hpl.2 (by rw [Tr.slots_node, List.mem_append, List.mem_cons]; rcases hx with hx | hx <;> simp [hx]) hxs2 hxa (fun h9 => by grind) hks
    have hup : f_X4_rotateUp U (nI s) = some (nI 0, U) := by
      rw [f_X4_rotateUp, rd25 s1.2]
      have hpar : U.2.2.1 s = nI (parOf k) := by rw [← hU]; exact htr.2.1
      rw [hpar]
      match k, hk0, hk with
      | [], _, _ => rw [f_X4_rotateUp_c11, if_neg (by decide), if_pos (show nI (parOf []) = 0 from rfl)]; rfl
      | (b, p, c) :: k, hk0, hk =>
        have p1 := hk.1
        rw [f_X4_rotateUp_c11, if_neg (by decide), show nI (parOf ((b, p, c) :: k)) = nI p from rfl, if_neg (nI_ne0 (by omega) (by omega)), belongsAbove_ok s1.2 p1.2, Option.bind_some, if_neg (c := abv U s p), if_pos rfl]; rfl
        intro h9
        rcases hk0.1 s (Or.inl (by simp [Tr.slots_node])) with e9 | e9 | e9
        · omega
        · omega
        · exact abv_asymm h9 e9
    have htrU : trp U (parOf k) (Tr.node l s r) := ((trp_plug _ _).mp hTU.1).2
    obtain ⟨T3, l3, r3, k3, m3, v1, v2, v3, v4, v5, v6, v7, -⟩ := downN_ok (l.size + r.size) k U l r s 0 200 (Nat.le_refl _) hTU hinj hpl.1 hk0 (by omega) (by omega)
    rw [Nat.zero_add] at v1
    obtain ⟨f1, f2, f3, f4, f5⟩ := fin v2 v3 v4 v6 v7
    refine ⟨U, U, T3, _, 0, m3, hput, hup, ?_, f1, f2, f3, f4, Or.inr ?_⟩
    · rw [f_X4_rotateDown, upperChild_ok htrU, Option.bind_some]; exact v1
    · rw [e3, f5]; omega
