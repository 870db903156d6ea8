/-! ===== mathematics, 7: leaves come and go ===== -/
def kL : List Fr → List Nat
  | [] => []
  | (true, _, _) :: k => kL k
  | (false, p, c) :: k => kL k ++ (c.slots ++ [p])
def kR : List Fr → List Nat
  | [] => []
  | (true, p, c) :: k => p :: c.slots ++ kR k
  | (false, _, _) :: k => kR k
theorem plug_lr : ∀ (k : List Fr) (t : Tr), (plug t k).slots = kL k ++ t.slots ++ kR k
  | [], t => by simp [plug, kL, kR]
  | (true, p, c) :: k, t => by rw [plug, plug_lr k, Tr.slots_node, kL, kR]; simp [List.append_assoc]
  | (false, p, c) :: k, t => by rw [plug, plug_lr k, Tr.slots_node, kL, kR]; simp [List.append_assoc]
theorem kslots_frame : ∀ {k : List Fr}, ∀ f ∈ k, ∀ x ∈ f.2.2.slots, x ∈ kslots k
  | [], f, hf, _, _ => by cases hf
  | (b, p, c) :: k, f, hf, x, hx => by
    rcases List.mem_cons.mp hf with rfl | hf
    · simp only [kslots, List.mem_append, List.mem_cons]; exact Or.inl (Or.inr hx)
    · simp only [kslots, List.mem_append, List.mem_cons]; exact Or.inr (kslots_frame f hf x hx)
theorem nodup_sub : ∀ {l m : List Nat}, l.Nodup → (∀ x ∈ l, x ∈ m) → l.length ≤ m.length
  | [], _, _, _ => Nat.zero_le _
  | a :: l, m, h, hs => by
    rw [List.nodup_cons] at h
    have ha := hs a (by simp)
    have := nodup_sub (l := l) (m := m.erase a) h.2 (fun x hx => (List.mem_erase_of_ne (by rintro rfl; exact h.1 hx)).mpr (hs x (by simp [hx])))
    rw [List.length_erase_of_mem ha] at this
    have := List.length_pos_of_mem ha
    rw [List.length_cons]; omega
theorem recUp_ok : ∀ (k : List Fr) (T : TreeS) (h sz v n : Nat), trk T h k → h ≤ 24 → T.cn h = nI sz → (kslots k).Nodup → h ∉ kslots k → (∀ f ∈ k, tct T f.2.2) → T.cn 0 = 0 → v + k.length ≤ 24 → k.length < n →
    ∃ cn' : Nat → Int32, f_X4_recountUpwards_c4 n T (nI (parOf k)) (nI v) = some (T.1, T.2.1, T.2.2.1, T.2.2.2.1, T.2.2.2.2.1, cn', T.2.2.2.2.2.2) ∧ (∀ x, x ∉ kslots k → cn' x = T.cn x) ∧ tck (T.1, T.2.1, T.2.2.1, T.2.2.2.1, T.2.2.2.2.1, cn', T.2.2.2.2.2.2) sz k
  | [], T, h, sz, v, n, _, _, _, _, _, _, _, hv, hn => by
    obtain ⟨n, rfl⟩ : ∃ n', n = n' + 1 := ⟨n - 1, by omega⟩
    refine ⟨T.cn, ?_, fun _ _ => rfl, trivial⟩
    rw [f_X4_recountUpwards_c4, show nI (parOf []) = 0 from rfl, if_pos rfl]
    split <;> rfl
  | (b, p, c) :: k, T, h, sz, v, n, ⟨p1, pp, pl, pr, tc, hk⟩, h24, hcn, hnd, hh, hct, h0, hv, hn => by
    obtain ⟨n, rfl⟩ : ∃ n', n = n' + 1 := ⟨n - 1, by omega⟩
    simp only [List.length_cons] at hv hn
    have hc := tc.mem
    have hkm := hk.mem
    simp only [kslots, List.nodup_append, List.nodup_cons, List.mem_append, List.mem_cons] at hnd hh
    have hctc : tct T c := hct (b, p, c) (by simp)
    have hcc := hctc.root h0
    have hc24 := trp.root_le tc
    have hrec : f_X4_recount T (nI p) = some (T.1, T.2.1, T.2.2.1, T.2.2.2.1, T.2.2.2.2.1, upd T.2.2.2.2.2.1 p (nI (sz + 1 + c.size)), T.2.2.2.2.2.2) := by
      cases b with
      | true => exact recount_ok p1.2 h24 hc24 pl pr hcn hcc
      | false =>
        rw [show sz + 1 + c.size = c.size + 1 + sz by omega]
        exact recount_ok p1.2 hc24 h24 pl pr hcc hcn
    have hsub := kslots_frame (k := k)
    have hpk : p ∉ kslots k := by grind
    obtain ⟨cn', g1, g2, g3⟩ := recUp_ok k (T.1, T.2.1, T.2.2.1, T.2.2.2.1, T.2.2.2.2.1, upd T.2.2.2.2.2.1 p (nI (sz + 1 + c.size)), T.2.2.2.2.2.2) p (sz + 1 + c.size) (v + 1) n (hk.congr (fun _ _ => ⟨rfl, rfl, rfl⟩) rfl) p1.2 (upd_eq _ _ _) (by grind) hpk
      (fun f hf => tct.congr (hct f (by simp [hf])) (fun x hx => upd_ne _ _ (by rintro rfl; exact hpk (hsub f hf _ hx)))) ((upd_ne _ _ (by omega)).trans h0) (by omega) (by omega)
    refine ⟨cn', ?_, fun x hx => ?_, ?_⟩
    · rw [f_X4_recountUpwards_c4, if_neg (show ¬ (24 : Int32) ≤ nI v from nI_ge (b := 24) (by omega) (by decide)), show nI (parOf ((b, p, c) :: k)) = nI p from rfl, if_neg (nI_ne0 (by omega) (by omega)), hrec, Option.bind_some, rd25 p1.2, ← nI_succ]
      replace pp : T.2.2.1 p = nI (parOf k) := pp
      simp only [pp]
      exact g1
    · simp only [kslots, List.mem_append, List.mem_cons] at hx
      rw [g2 x (by grind)]
      exact upd_ne _ _ (by grind)
    · refine ⟨(g2 p hpk).trans (upd_eq _ _ _), tct.congr hctc (fun x hx => ?_), g3⟩
      refine (g2 x (by grind)).trans (upd_ne _ _ (by grind))
theorem TB.cn_pos {T : TreeS} {t : Tr} (h : tct T t) : ∀ x ∈ t.slots, ∃ c, 1 ≤ c ∧ c ≤ t.size ∧ T.cn x = nI c := by
  induction t using Tr.ind with
  | nil => intro x hx; cases hx
  | node l s r hl hr =>
    rw [tct_node] at h
    intro x hx
    simp only [Tr.slots_node, Tr.size_node, List.mem_append, List.mem_cons] at hx ⊢
    rcases hx with hx | rfl | hx
    · obtain ⟨c, c1, c2, c3⟩ := hl h.2.1 x hx; exact ⟨c, c1, by omega, c3⟩
    · exact ⟨_, by omega, by omega, h.1⟩
    · obtain ⟨c, c1, c2, c3⟩ := hr h.2.2 x hx; exact ⟨c, c1, by omega, c3⟩
/-- a slot is used when its count isn't 0 -/
theorem TB.used {T : TreeS} {t : Tr} (h : TB T t) {s : Nat} (h1 : 1 ≤ s) (h2 : s ≤ 24) : (T.cn s = 0 ∧ s ∉ t.slots) ∨ (s ∈ t.slots ∧ ∃ c, 1 ≤ c ∧ c ≤ 24 ∧ T.cn s = nI c) := by
  by_cases hm : s ∈ t.slots
  · obtain ⟨c, c1, c2, c3⟩ := TB.cn_pos h.2.1 s hm
    have := h.size_le
    exact Or.inr ⟨hm, c, c1, by omega, c3⟩
  · exact Or.inl ⟨h.2.2.2.1 s h1 h2 hm, hm⟩
theorem freeSlot_ok {T : TreeS} {t : Tr} (h : TB T t) : ∀ (z s n : Nat), s + z = 25 → 1 ≤ s → (∃ x, s ≤ x ∧ x ≤ 24 ∧ x ∉ t.slots) → z < n → ∃ x, s ≤ x ∧ x ≤ 24 ∧ x ∉ t.slots ∧ f_X4_freeSlot_c2 n T (nI s) = some (nI x)
  | 0, s, n, hz, h1, ⟨x, hx1, hx2, _⟩, hn => by omega
  | z + 1, s, n, hz, h1, ⟨x, hx1, hx2, hx3⟩, hn => by
    obtain ⟨n, rfl⟩ : ∃ n', n = n' + 1 := ⟨n - 1, by omega⟩
    rw [f_X4_freeSlot_c2, if_neg (show ¬ (24 : Int32) < nI s from nI_nlt (b := s) (a := 24) (by omega) (by decide)), rd25 (by omega)]
    rcases h.used h1 (by omega) with ⟨e, hm⟩ | ⟨hm, c, c1, c2, e⟩
    · exact ⟨s, by omega, by omega, hm, by rw [if_pos e]⟩
    · rw [if_neg (by rw [show T.2.2.2.2.2.1 s = nI c from e]; exact nI_ne0 (by omega) (by omega)), ← nI_succ]
      obtain ⟨y, y1, y2, y3, y4⟩ := freeSlot_ok h z (s + 1) n (by omega) (by omega) ⟨x, by have : x ≠ s := by { rintro rfl; exact hx3 hm }; omega, hx2, hx3⟩ (by omega)
      exact ⟨y, by omega, y2, y3, y4⟩
theorem free_ex {T : TreeS} {t : Tr} (h : TB T t) (hs : t.size < 24) : ∃ x, 1 ≤ x ∧ x ≤ 24 ∧ x ∉ t.slots := by
  apply Classical.byContradiction
  intro hne
  have hall : ∀ x ∈ List.range' 1 24, x ∈ t.slots := fun x hx => by
    rw [List.mem_range'_1] at hx
    apply Classical.byContradiction
    intro hm
    exact hne ⟨x, hx.1, by omega, hm⟩
  have h1 : (List.range' 1 24).Nodup := List.nodup_range'
  have h2 : (List.range' 1 24).length ≤ t.slots.length := nodup_sub h1 hall
  rw [List.length_range', Tr.len] at h2
  omega
/-- where a search for a key that isn't there ends -/
theorem gap_ok {T : TreeS} {K : Int32} (P leaf : Int32) (t : Tr) : ∀ (k : List Fr) (v n : Nat), trp T (parOf k) t → t.size + v ≤ 24 → t.size < n → srt T t.slots → (∀ x ∈ t.slots, T.1 x ≠ K) → (∀ x ∈ kL k, T.1 x < K) → (∀ x ∈ kR k, K < T.1 x) →
    ∃ k', plug Tr.nil k' = plug t k ∧ f_X4_attach_c23 n T K P leaf (nI (parOf k)) (nI t.root) (nI v) = f_X4_attach_c76 T K P leaf (nI (parOf k')) ∧ (∀ x ∈ kL k', T.1 x < K) ∧ (∀ x ∈ kR k', K < T.1 x) := by
  induction t using Tr.ind with
  | nil =>
    intro k v n ht hv hn hs hK h1 h2
    obtain ⟨n, rfl⟩ : ∃ n', n = n' + 1 := ⟨n - 1, by omega⟩
    refine ⟨k, rfl, ?_, h1, h2⟩
    rw [f_X4_attach_c23, show nI Tr.nil.root = 0 from rfl, if_pos rfl]
    split <;> rfl
  | node l s r hl hr =>
    intro k v n ht hv hn hs hK h1 h2
    obtain ⟨s1, -, sl, sr, tl, tr⟩ := ht
    replace sl : T.2.2.2.1 s = nI l.root := sl
    replace sr : T.2.2.2.2.1 s = nI r.root := sr
    rw [Tr.size_node] at hv hn
    obtain ⟨n, rfl⟩ : ∃ n', n = n' + 1 := ⟨n - 1, by omega⟩
    rw [srt, Tr.slots_node, List.pairwise_append, List.pairwise_cons] at hs
    simp only [Tr.slots_node, List.mem_append, List.mem_cons] at hK
    rw [f_X4_attach_c23, Tr.root_node, if_neg (show ¬ (24 : Int32) ≤ nI v from nI_ge (b := 24) (by omega) (by decide)), if_neg (nI_ne0 (by omega) (by omega)), rd25 s1.2, rd25 s1.2, rd25 s1.2, sl, sr, ← nI_succ]
    by_cases hle : T.1 s ≤ K
    · rw [if_pos hle]
      have hlt : T.1 s < K := Int32.lt_of_le_of_ne hle (hK s (by simp))
      obtain ⟨k', g1, g2, g3, g4⟩ := hr ((false, s, l) :: k) (v + 1) n tr (by omega) (by omega) hs.2.1.2 (fun x hx => hK x (by simp [hx])) (fun x hx => by
        simp only [kL, List.mem_append, List.mem_singleton] at hx
        rcases hx with hx | hx | rfl
        · exact h1 x hx
        · exact Int32.lt_trans (hs.2.2 x hx s (by simp)) hlt
        · exact hlt) h2
      exact ⟨k', g1, g2, g3, g4⟩
    · rw [if_neg hle]
      have hlt : K < T.1 s := Int32.not_le.mp hle
      obtain ⟨k', g1, g2, g3, g4⟩ := hl ((true, s, r) :: k) (v + 1) n tl (by omega) (by omega) hs.1 (fun x hx => hK x (by simp [hx])) h1 (fun x hx => by
        simp only [kR, List.mem_append, List.mem_cons] at hx
        rcases hx with (rfl | hx) | hx
        · exact hlt
        · exact Int32.lt_trans hlt (hs.2.1.1 x hx)
        · exact h2 x hx)
      exact ⟨k', g1, g2, g3, g4⟩
theorem frames_tct {T : TreeS} : ∀ {k : List Fr} {n : Nat}, tck T n k → ∀ f ∈ k, tct T f.2.2
  | [], _, _, f, hf => by cases hf
  | (b, p, c) :: k, n, ⟨_, h2, h3⟩, f, hf => by
    rcases List.mem_cons.mp hf with rfl | hf
    · exact h2
    · exact frames_tct h3 f hf
theorem klen {k : List Fr} (h : (kslots k).length ≤ 24) : k.length ≤ 24 := Nat.le_trans (kslots_len k) h
theorem attach_ok {T : TreeS} {t : Tr} {K P : Int32} (hT : TB T t) (hs : srt T t.slots) (hsz : t.size < 24) (hK : ∀ x ∈ t.slots, T.1 x ≠ K) :
    ∃ (leaf : Nat) (T1 : TreeS) (k : List Fr), f_X4_attach T K P = some (nI leaf, T1) ∧ 1 ≤ leaf ∧ leaf ≤ 24 ∧ leaf ∉ t.slots ∧ plug Tr.nil k = t ∧ TB T1 (plug (Tr.node Tr.nil leaf Tr.nil) k) ∧ T1.1 = upd T.1 leaf K ∧ T1.2.1 = upd T.2.1 leaf P ∧ (∀ x ∈ kL k, T.1 x < K) ∧ (∀ x ∈ kR k, K < T.1 x) := by
  obtain ⟨leaf, f1, f2, f3, f4⟩ := freeSlot_ok hT 24 1 200 rfl (Nat.le_refl _) (free_ex hT hsz) (by decide)
  obtain ⟨k, g1, g2, g3, g4⟩ := gap_ok P (nI leaf) t [] 0 200 hT.1.2 (by omega) (by omega) hs hK (fun x hx => by cases hx) (fun x hx => by cases hx)
  replace g1 : plug Tr.nil k = t := g1
  have hTk : TB T (plug Tr.nil k) := by rw [g1]; exact hT
  obtain ⟨⟨hk, -⟩, ⟨hc, -⟩, hnd⟩ := hTk.parts
  have hlk : leaf ∉ kslots k := fun h => f3 (by rw [← g1, (plug_perm _ _).mem_iff]; simp [h])
  have hkm := hk.mem
  replace hnd : (kslots k).Nodup := hnd
  have hkl : k.length ≤ 23 := by
    have := hTk.depth
    have h2 := kslots_len k
    have h3 := plug_size k Tr.nil
    rw [g1, Tr.size_nil] at h3
    omega
  have hattach : f_X4_attach T K P = f_X4_attach_c76 T K P (nI leaf) (nI (parOf k)) := by
    rw [f_X4_attach, f_X4_freeSlot, show (1 : Int32) = nI 1 from rfl, f4, Option.bind_some, if_neg (nI_ne0 (by omega) (by omega)), show T.2.2.2.2.2.2 = nI t.root from hT.1.1]
    exact g2
  have hpar := hk.par_le
  have h76 : f_X4_attach_c76 T K P (nI leaf) (nI (parOf k)) = f_X4_attach_c165 (setHole (upd T.1 leaf K, upd T.2.1 leaf P, upd T.2.2.1 leaf (nI (parOf k)), upd T.2.2.2.1 leaf 0, upd T.2.2.2.2.1 leaf 0, T.2.2.2.2.2.1, T.2.2.2.2.2.2) k leaf) (nI leaf) := by
    rw [f_X4_attach_c76]
    simp only [wr25 f2]
    match k, hk, hlk, g3, g4, hpar with
    | [], hk, hlk, g3, g4, hpar => rw [if_pos (show nI (parOf []) = 0 from rfl)]; rfl
    | (true, q, c) :: k, hk, hlk, g3, g4, hpar =>
      have hq1 := hk.1
      have hql : q ≠ leaf := by rintro rfl; exact hlk (by simp [kslots])
      replace hpar : q ≤ 24 := hpar
      have hlt := g4 q (by simp [kR])
      rw [show nI (parOf ((true, q, c) :: k)) = nI q from rfl, if_neg (nI_ne0 (by omega) (by omega)), rd25 hpar, upd_ne _ _ hql, if_neg (Int32.not_le.mpr hlt), wr25 hpar]
      rfl
    | (false, q, c) :: k, hk, hlk, g3, g4, hpar =>
      have hq1 := hk.1
      have hql : q ≠ leaf := by rintro rfl; exact hlk (by simp [kslots])
      replace hpar : q ≤ 24 := hpar
      have hlt := g3 q (by simp [kL])
      rw [show nI (parOf ((false, q, c) :: k)) = nI q from rfl, if_neg (nI_ne0 (by omega) (by omega)), rd25 hpar, upd_ne _ _ hql, if_pos (Int32.le_of_lt hlt), wr25 hpar]
      rfl
  generalize hU : (upd T.1 leaf K, upd T.2.1 leaf P, upd T.2.2.1 leaf (nI (parOf k)), upd T.2.2.2.1 leaf 0, upd T.2.2.2.2.1 leaf 0, T.2.2.2.2.2.1, T.2.2.2.2.2.2) = U at h76
  have hUk : ∀ x ∈ kslots k, TreeS.par U x = T.par x ∧ TreeS.lf U x = T.lf x ∧ TreeS.rt U x = T.rt x := fun x hx => by
    have : x ≠ leaf := by rintro rfl; exact hlk hx
    rw [← hU]; exact ⟨upd_ne _ _ this, upd_ne _ _ this, upd_ne _ _ this⟩
  have hS1 := setHole_trk (T1 := U) (h1 := leaf) hk hnd hUk (by rw [← hU])
  have hkey := setHole_key U k leaf
  have hat := setHole_at U k leaf hlk
  generalize hS : setHole U k leaf = S at h76 hS1 hkey hat
  have hcn : S.cn = T.cn := by rw [show S.cn = S.2.2.2.2.2.1 from rfl, hkey.2.2.2, ← hU]
  have hSl : S.lf leaf = nI 0 := hat.1.trans (by rw [← hU]; exact upd_eq _ _ _)
  have hSr : S.rt leaf = nI 0 := hat.2.trans (by rw [← hU]; exact upd_eq _ _ _)
  have hSp : S.par leaf = nI (parOf k) := by rw [show S.par = S.2.2.1 from rfl, hkey.2.2.1, ← hU]; exact upd_eq _ _ _
  have htrkS : trk S 0 ((true, leaf, Tr.nil) :: k) := ⟨⟨f1, f2⟩, hSp, hSl, hSr, trivial, hS1⟩
  obtain ⟨cn', r1, r2, r3⟩ := recUp_ok ((true, leaf, Tr.nil) :: k) S 0 0 0 200 htrkS (Nat.zero_le _) (by rw [hcn]; exact hT.2.2.2.2) (by simp only [kslots]; simp [Tr.slots_nil, hlk, hnd]) (by
      simp only [kslots, Tr.slots_nil, List.mem_append, List.mem_singleton]
      rintro (h | h)
      · omega
      · have := hkm 0 h; omega) (fun f hf => by
      rcases List.mem_cons.mp hf with rfl | hf
      · trivial
      · exact tct.congr (frames_tct hc f hf) (fun x _ => by rw [hcn])) (by rw [hcn]; exact hT.2.2.2.2) (by simp only [List.length_cons]; omega) (by simp only [List.length_cons]; omega)
  refine ⟨leaf, (S.1, S.2.1, S.2.2.1, S.2.2.2.1, S.2.2.2.2.1, cn', S.2.2.2.2.2.2), k, ?_, f1, f2, f3, g1, ?_, by rw [show S.1 = U.1 from hkey.1, ← hU], by rw [show S.2.1 = U.2.1 from hkey.2.1, ← hU], g3, g4⟩
  · rw [hattach, h76, f_X4_attach_c165, f_X4_recountUpwards]
    replace r1 : f_X4_recountUpwards_c4 200 S (nI leaf) 0 = _ := r1
    rw [r1]; rfl
  · have hp := plug_perm k (Tr.node Tr.nil leaf Tr.nil)
    refine ⟨(trp_plug _ _).mpr ⟨hS1.congr (fun _ _ => ⟨rfl, rfl, rfl⟩) rfl, ⟨f1, f2⟩, hSp, hSl, hSr, trivial, trivial⟩, (tct_plug _ _).mpr ⟨r3.2.2, r3.1, trivial, trivial⟩, hp.nodup_iff.mpr ?_, fun s s1 s2 hs => ?_, ?_⟩
    · simp [Tr.slots_node, Tr.slots_nil, hlk, hnd]
    · rw [hp.mem_iff] at hs
      simp only [Tr.slots_node, Tr.slots_nil, List.mem_append, List.mem_cons] at hs
      refine (r2 s (by simp only [kslots, Tr.slots_nil, List.mem_append, List.mem_cons]; grind)).trans ?_
      rw [hcn]
      refine hT.2.2.2.1 s s1 s2 (fun h => ?_)
      rw [← g1, (plug_perm _ _).mem_iff] at h
      simp only [Tr.slots_nil, List.nil_append] at h
      grind
    · refine (r2 0 ?_).trans (by rw [hcn]; exact hT.2.2.2.2)
      simp only [kslots, Tr.slots_nil, List.mem_append, List.mem_singleton]
      rintro (h | h)
      · omega
      · have := hkm 0 h; omega
theorem detach_ok {T : TreeS} {s : Nat} {k : List Fr} (hT : TB T (plug (Tr.node Tr.nil s Tr.nil) k)) : ∃ T1, f_X4_detach T (nI s) = some T1 ∧ TB T1 (plug Tr.nil k) ∧ T1.1 = T.1 ∧ T1.2.1 = T.2.1 := by
  obtain ⟨⟨hk, s1, sp, sl, sr, -, -⟩, ⟨hc, -⟩, hnd⟩ := hT.parts
  have hd := hT.depth
  replace sp : T.2.2.1 s = nI (parOf k) := sp
  have hkm := hk.mem
  simp only [Tr.slots_node, Tr.slots_nil, List.nil_append, List.cons_append, List.nodup_cons] at hnd
  rw [Tr.size_node, Tr.size_nil] at hd
  have hr := replaceChild_ok (T := T) (T1 := T) (h1 := 0) hk (by rw [Tr.root_node]; omega) (by rw [Tr.root_node]; omega) (by rw [Tr.root_node]; exact hnd.1) (fun _ _ => rfl)
  rw [Tr.root_node] at hr
  have hS1 := setHole_trk (T1 := T) (h1 := 0) hk hnd.2 (fun _ _ => ⟨rfl, rfl, rfl⟩) rfl
  have hkey := setHole_key T k 0
  generalize hS : setHole T k 0 = S at hr hS1 hkey
  have hcn : S.2.2.2.2.2.1 = T.cn := hkey.2.2.2
  generalize hU : (S.1, S.2.1, S.2.2.1, S.2.2.2.1, S.2.2.2.2.1, upd S.2.2.2.2.2.1 s 0, S.2.2.2.2.2.2) = U
  have hUk : trk U 0 k := by rw [← hU]; exact hS1.congr (fun _ _ => ⟨rfl, rfl, rfl⟩) rfl
  have hUc : TreeS.cn U = upd T.cn s 0 := by rw [← hU, ← hcn]
  have h0s : (0 : Nat) ≠ s := by omega
  obtain ⟨cn', r1, r2, r3⟩ := recUp_ok k U 0 0 0 200 hUk (Nat.zero_le _) (by rw [hUc, upd_ne _ _ h0s]; exact hT.2.2.2.2) hnd.2 (fun h => by have := hkm 0 h; omega) (fun f hf => tct.congr (frames_tct hc f hf) (fun x hx => by
      rw [hUc]
      refine upd_ne _ _ ?_
      rintro rfl
      have hsub : ∀ (k : List Fr), f ∈ k → x ∈ kslots k := by
        intro k
        induction k with
        | nil => intro hf; cases hf
        | cons g k ih =>
          obtain ⟨b, p, c⟩ := g
          intro hf
          rcases List.mem_cons.mp hf with rfl | hf
          · simp only [kslots, List.mem_append, List.mem_cons]; exact Or.inl (Or.inr hx)
          · simp only [kslots, List.mem_append, List.mem_cons]; exact Or.inr (ih hf)
      exact hnd.1 (hsub k hf))) (by rw [hUc, upd_ne _ _ h0s]; exact hT.2.2.2.2) (by omega) (by omega)
  refine ⟨(U.1, U.2.1, U.2.2.1, U.2.2.2.1, U.2.2.2.2.1, cn', U.2.2.2.2.2.2), ?_, ?_, by rw [← hU]; exact hkey.1, by rw [← hU]; exact hkey.2.1⟩
  · rw [f_X4_detach, rd25 s1.2, sp]
    replace hr : f_X4_replaceChild T (nI (parOf k)) (nI s) 0 = some S := hr
    rw [hr, Option.bind_some, wr25 s1.2, hU, f_X4_recountUpwards]
    replace r1 : f_X4_recountUpwards_c4 200 U (nI (parOf k)) 0 = _ := r1
    rw [r1]; rfl
  · have hp := plug_perm k Tr.nil
    refine ⟨(trp_plug _ _).mpr ⟨hUk.congr (fun _ _ => ⟨rfl, rfl, rfl⟩) rfl, trivial⟩, (tct_plug _ _).mpr ⟨r3, trivial⟩, hp.nodup_iff.mpr (by simpa [Tr.slots_nil] using hnd.2), fun x x1 x2 hx => ?_, ?_⟩
    · rw [hp.mem_iff] at hx
      simp only [Tr.slots_nil, List.nil_append] at hx
      refine (r2 x hx).trans ?_
      rw [hUc]
      by_cases e : x = s
      · rw [e]; exact upd_eq _ _ _
      · rw [upd_ne _ _ e]
        refine hT.2.2.2.1 x x1 x2 (fun h => ?_)
        rw [plug_mem] at h
        simp only [Tr.slots_nil, List.not_mem_nil, false_or, or_false] at h
        grind
    · refine (r2 0 (fun h => by have := hkm 0 h; omega)).trans ?_
      rw [hUc, upd_ne _ _ h0s]; exact hT.2.2.2.2
