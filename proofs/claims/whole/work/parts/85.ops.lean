/-! PURE: operations that only ask, and rooms -/
theorem op_deskOf {S : ds_S} {M : ms_S} {nb : Nat} (h : Rel S M nb) (x : Int32) :
    (∃ p9, p9 < 10 ∧ x = nI p9 ∧ (¬ nI p9 < 0 ∧ nI p9 < S.1 1 0 0) ∧ ¬ mo_in (nI p9) 0 (M 22 0 - 1) = 0 ∧ (if S.1 4 0 0 = 0 then -1 else S.1 13 p9 0) = (if M 23 0 = 0 then -1 else M 4 p9)) ∨
    (¬ (¬ x < 0 ∧ x < S.1 1 0 0) ∧ mo_in x 0 (M 22 0 - 1) = 0) := by
  obtain ⟨Pn, Dn, Rn, ⟨c1, c2, c3, c4, c5, c6, c7, c8, c9, c10, c11, c12, c13, c14, c15⟩, hd, hm, hr⟩ := h
  rw [c7, c8, mo_in_n (x := x) (by omega)]
  by_cases h1 : ¬ x < 0 ∧ x < nI Pn
  · obtain ⟨p9, q1, rfl⟩ := rg_ex (by omega) h1
    refine Or.inl ⟨p9, by omega, rfl, h1, fun z => absurd h1 ((mo_in_n (by omega)).mp z), ?_⟩
    by_cases e : S.1 4 0 0 = 0
    · rw [if_pos e, if_pos (by rw [← c13]; exact e)]
    · rw [if_neg e, if_neg (by rw [← c13]; exact e)]
      exact ((hm e).2.2.1 p9 q1).1
  · exact Or.inr ⟨h1, h1⟩
theorem mo_eq {S : ds_S} {M : ms_S} {Pn : Nat} (h : ∀ p, p < Pn → M 3 p = S.1 12 p 0 ∧ S.1 13 p 0 = M 4 p) : ∀ n k t, k + n = Pn → mo_L S n k t = mmv_L M n k t
  | 0, _, _, _ => rfl
  | n + 1, k, t, hk => by
    show mo_L S n (k + 1) (if pe_wm S k (S.1 13 k 0) = 0 then t else t + 1) = mmv_L M n (k + 1) (if mo_mv M k (M 4 k) = 0 then t else t + 1)
    rw [mo_mvE (h k (by omega)).1, (h k (by omega)).2]
    exact mo_eq h n (k + 1) _ (by omega)
theorem op_moved {S : ds_S} {M : ms_S} {nb : Nat} (h : Rel S M nb) : ∃ Pn, Pn ≤ 10 ∧ S.1 1 0 0 = nI Pn ∧ M 22 0 = nI Pn ∧ (if S.1 4 0 0 = 0 then -1 else mo_L S Pn 0 0) = (if M 23 0 = 0 then -1 else mmv_L M Pn 0 0) := by
  obtain ⟨Pn, Dn, Rn, ⟨c1, c2, c3, c4, c5, c6, c7, c8, c9, c10, c11, c12, c13, c14, c15⟩, hd, hm, hr⟩ := h
  refine ⟨Pn, c1, c7, c8, ?_⟩
  by_cases e : S.1 4 0 0 = 0
  · rw [if_pos e, if_pos (by rw [← c13]; exact e)]
  · rw [if_neg e, if_neg (by rw [← c13]; exact e)]
    exact mo_eq (fun p hp => ⟨hd.2.2.1 p hp, ((hm e).2.2.1 p hp).1⟩) Pn 0 0 (by omega)
theorem op_steps {S : ds_S} {M : ms_S} {nb : Nat} (h : Rel S M nb) : (¬ S.1 4 0 0 = 0 ∧ ¬ M 23 0 = 0 ∧ (if S.1 8 0 0 = 0 then S.1 7 0 0 else -2) = (if M 27 0 = 0 then M 26 0 else -2)) ∨ (S.1 4 0 0 = 0 ∧ M 23 0 = 0) := by
  obtain ⟨Pn, Dn, Rn, ⟨c1, c2, c3, c4, c5, c6, c7, c8, c9, c10, c11, c12, c13, c14, c15⟩, hd, hm, hr⟩ := h
  rw [← c13]
  by_cases e : S.1 4 0 0 = 0
  · exact Or.inr ⟨e, e⟩
  · obtain ⟨-, -, -, -, c, b1, b2, b3, b4, -⟩ := hm e
    refine Or.inl ⟨e, e, ?_⟩
    rw [b2, b3, b4]
theorem y_02 {y : Int32} (h : ¬ y < 0 ∧ y ≤ 2) : ∃ w, w ≤ 2 ∧ y = nI w := by
  obtain ⟨p, h1, h2⟩ := rg_ex (n := 3) (by decide) ⟨h.1, Int32.lt_of_le_of_lt h.2 (by decide)⟩
  exact ⟨p, by omega, h2⟩
theorem op_step {S : ds_S} {M : ms_S} {nb : Nat} (h : Rel S M nb) (x y : Int32) :
    (∃ k9 w9, k9 < 15 ∧ w9 ≤ 2 ∧ x = nI k9 ∧ y = nI w9 ∧ (¬ nI w9 < 0 ∧ nI w9 ≤ 2) ∧ ¬ mo_in (nI w9) 0 2 = 0 ∧ ¬ S.1 4 0 0 = 0 ∧ ¬ M 23 0 = 0 ∧ nI k9 < S.1 7 0 0 ∧ nI k9 < M 26 0 ∧ (if nI w9 = 0 then S.1 16 0 k9 else (if nI w9 = 1 then S.1 17 0 k9 else S.1 18 0 k9)) = M 7 (3 * k9 + w9)) ∨
    (¬ (¬ y < 0 ∧ y ≤ 2 ∧ ¬ x < 0) ∧ (x < 0 ∨ mo_in y 0 2 = 0)) ∨
    ((¬ y < 0 ∧ y ≤ 2 ∧ ¬ x < 0) ∧ S.1 4 0 0 = 0 ∧ (¬ x < 0 ∧ ¬ mo_in y 0 2 = 0) ∧ M 23 0 = 0) ∨
    ((¬ y < 0 ∧ y ≤ 2 ∧ ¬ x < 0) ∧ ¬ S.1 4 0 0 = 0 ∧ ¬ x < S.1 7 0 0 ∧ (¬ x < 0 ∧ ¬ mo_in y 0 2 = 0) ∧ ¬ M 23 0 = 0 ∧ ¬ x < M 26 0) := by
  obtain ⟨Pn, Dn, Rn, ⟨c1, c2, c3, c4, c5, c6, c7, c8, c9, c10, c11, c12, c13, c14, c15⟩, hd, hm, hr⟩ := h
  rw [← c13, mo_in_0 (v := y)]
  by_cases h0 : ¬ y < 0 ∧ y ≤ 2 ∧ ¬ x < 0
  · have hy : ¬ ¬ (¬ y < 0 ∧ y ≤ 2) := fun z => z ⟨h0.1, h0.2.1⟩
    by_cases e : S.1 4 0 0 = 0
    · exact Or.inr (Or.inr (Or.inl ⟨h0, e, ⟨h0.2.2, hy⟩, e⟩))
    · obtain ⟨-, -, -, -, c, b1, b2, b3, b4, b5⟩ := hm e
      rw [b2, b3]
      by_cases h2 : x < nI c
      · obtain ⟨k9, q1, rfl⟩ := rg_ex (by omega) ⟨h0.2.2, h2⟩
        obtain ⟨w9, q2, rfl⟩ := y_02 ⟨h0.1, h0.2.1⟩
        refine Or.inl ⟨k9, w9, by omega, q2, rfl, rfl, ⟨h0.1, h0.2.1⟩, fun z => hy (mo_in_0.mp z), e, e, h2, h2, ?_⟩
        obtain ⟨d1, d2, d3⟩ := b5 k9 q1
        rcases (show w9 = 0 ∨ w9 = 1 ∨ w9 = 2 by omega) with z | z | z
        · subst z; rw [if_pos (show nI 0 = 0 from rfl)]; exact d1
        · subst z; rw [if_neg (by decide), if_pos (show nI 1 = 1 from rfl)]; exact d2
        · subst z; rw [if_neg (by decide), if_neg (by decide)]; exact d3
      · exact Or.inr (Or.inr (Or.inr ⟨h0, e, h2, ⟨h0.2.2, hy⟩, e, h2⟩))
  · refine Or.inr (Or.inl ⟨h0, ?_⟩)
    by_cases hx : x < 0
    · exact Or.inl hx
    · exact Or.inr (fun z => h0 ⟨z.1, z.2, hx⟩)
theorem st_p (S : ds_S) : ∀ k, (st_L S k).2 = S.2 ∧ (∀ t i j, t ≠ 12 → (st_L S k).1 t i j = S.1 t i j) ∧ (∀ i, (st_L S k).1 12 i 0 = if i < k then S.1 13 i 0 else S.1 12 i 0)
  | 0 => ⟨rfl, fun _ _ _ _ => rfl, fun i => rfl⟩
  | k + 1 => by
    obtain ⟨h1, h2, h3⟩ := st_p S k
    have e : st_L S (k + 1) = ds_wI (st_L S k) 12 k 0 (S.1 13 k 0) := by
      show ds_wI (st_L S k) 12 k 0 ((st_L S k).1 13 k 0) = _
      rw [h2 13 k 0 (by decide)]
    rw [e]
    refine ⟨h1, fun t i j ht => by rw [w3_n (fun z => ht z.1)]; exact h2 t i j ht, fun i => ?_⟩
    by_cases ei : i = k
    · rw [ei, w3_s, if_pos (by omega)]
    · rw [w3_n (fun z => ei z.2.1), h3]
      by_cases hl : i < k
      · rw [if_pos hl, if_pos (by omega)]
      · rw [if_neg hl, if_neg (by omega)]
theorem mst_p (M : ms_S) : ∀ k, (∀ t i, t ≠ 3 → mst_L M k t i = M t i) ∧ (∀ i, mst_L M k 3 i = if i < k then M 4 i else M 3 i)
  | 0 => ⟨fun _ _ _ => rfl, fun i => rfl⟩
  | k + 1 => by
    obtain ⟨h2, h3⟩ := mst_p M k
    have e : mst_L M (k + 1) = ms_w (mst_L M k) 3 k (M 4 k) := by
      show ms_w (mst_L M k) 3 k (mst_L M k 4 k) = _
      rw [h2 4 k (by decide)]
    rw [e]
    refine ⟨fun t i ht => by rw [ms_w_n (fun z => ht z.1)]; exact h2 t i ht, fun i => ?_⟩
    by_cases ei : i = k
    · rw [ei, ms_w_s, if_pos (by omega)]
    · rw [ms_w_n (fun z => ei z.2), h3]
      by_cases hl : i < k
      · rw [if_pos hl, if_pos (by omega)]
      · rw [if_neg hl, if_neg (by omega)]
theorem stC_eq {S : ds_S} {M : ms_S} {Pn : Nat} (h : ∀ p, p < Pn → M 3 p = S.1 12 p 0 ∧ S.1 13 p 0 = M 4 p) : ∀ k, k ≤ Pn → st_C S k = mst_C M k
  | 0, _ => rfl
  | k + 1, hk => by
    obtain ⟨-, s2, s3⟩ := st_p S k
    obtain ⟨m2, m3⟩ := mst_p M k
    show (if (st_L S k).1 12 k 0 = (st_L S k).1 13 k 0 then st_C S k else st_C S k + 1) = (if mst_L M k 3 k = mst_L M k 4 k then mst_C M k else mst_C M k + 1)
    rw [s3, s2 13 k 0 (by decide), m3, m2 4 k (by decide), if_neg (Nat.lt_irrefl k), if_neg (Nat.lt_irrefl k), (h k (by omega)).1, (h k (by omega)).2, stC_eq h k (by omega)]
theorem op_settle {S : ds_S} {M : ms_S} {nb : Nat} (h : Rel S M nb) : (∃ Pn, Pn ≤ 10 ∧ S.1 1 0 0 = nI Pn ∧ M 22 0 = nI Pn ∧ ¬ S.1 4 0 0 = 0 ∧ ¬ M 23 0 = 0 ∧ Rel (ds_wI (st_L S Pn) 4 0 0 0) (ms_w (mst_L (ms_w M 20 0 0) Pn) 23 0 0) nb ∧ st_C S Pn = mst_C (ms_w M 20 0 0) Pn) ∨ (S.1 4 0 0 = 0 ∧ M 23 0 = 0) := by
  obtain ⟨Pn, Dn, Rn, hC, hd, hm, hr⟩ := h
  obtain ⟨c1, c2, c3, c4, c5, c6, c7, c8, c9, c10, c11, c12, c13, c14, c15⟩ := id hC
  obtain ⟨a1, a2, a3, a4, a5, a6⟩ := id hd
  by_cases e : S.1 4 0 0 = 0
  · exact Or.inr ⟨e, by rw [← c13]; exact e⟩
  · obtain ⟨-, -, b3, b4, -⟩ := hm e
    have hh : ∀ p, p < Pn → (ms_w M 20 0 0) 3 p = S.1 12 p 0 ∧ S.1 13 p 0 = (ms_w M 20 0 0) 4 p := fun p hp => ⟨by rw [ms_w_n (by omega)]; exact a3 p hp, by rw [ms_w_n (by omega)]; exact (b3 p hp).1⟩
    obtain ⟨s1, s2, s3⟩ := st_p S Pn
    obtain ⟨m2, m3⟩ := mst_p (ms_w M 20 0 0) Pn
    have eS : ∀ t i j, t ≠ 12 → t ≠ 4 → (ds_wI (st_L S Pn) 4 0 0 0).1 t i j = S.1 t i j := fun t i j h1 h2 => by rw [w3_n (fun z => h2 z.1)]; exact s2 t i j h1
    have eM : ∀ t i, t ≠ 3 → t ≠ 23 → t ≠ 20 → ms_w (mst_L (ms_w M 20 0 0) Pn) 23 0 0 t i = M t i := fun t i h1 h2 h3 => by rw [ms_w_n (fun z => h2 z.1), m2 t i h1, ms_w_n (fun z => h3 z.1)]
    have e12 : ∀ p, (ds_wI (st_L S Pn) 4 0 0 0).1 12 p 0 = if p < Pn then S.1 13 p 0 else S.1 12 p 0 := fun p => by rw [w3_n (by omega)]; exact s3 p
    have eV : ma_V (ds_wI (st_L S Pn) 4 0 0 0) := by
      show (∀ d p, (st_L S Pn).2.2 0 d = some p → p < 10) ∧ (∀ d d', (st_L S Pn).2.2 1 d = some d' → d' < 14)
      rw [s1]
      exact c15
    refine Or.inl ⟨Pn, c1, c7, c8, e, by rw [← c13]; exact e, ⟨Pn, Dn, Rn, relC_0 hC (fun t ht => by by_cases e0 : t = 4; omega; exact eS t 0 0 (by omega) e0) (fun t ht => eM t 0 (by omega) (by omega) (by omega)) (by rw [w3_s, ms_w_s]) (by rw [ms_w_s]; exact Or.inl rfl) eV, ?_, fun z => absurd (w3_s _ 4 0 0 0) z, rmI_frame hr (fun t i j ht => eS t i j (by omega) (by omega)) (fun t i _ => by show (st_L S Pn).2.2 t i = _; rw [s1]) (fun t i h1 h2 => eM t i (by omega) (by omega) (by omega))⟩, stC_eq hh Pn (Nat.le_refl _)⟩
    refine ⟨fun p d hp hd => by rw [eS 10 p d (by decide) (by decide)]; exact a1 p d hp hd, fun p d hp hd => by rw [eS 10 p d (by decide) (by decide), eS 11 p d (by decide) (by decide), eM 1 _ (by decide) (by decide) (by decide), eM 2 _ (by decide) (by decide) (by decide)]; exact a2 p d hp hd, fun p hp => ?_, fun p h1 h2 => by rw [e12, if_neg (by omega)]; exact a4 p h1 h2, fun p hp => by rw [e12, if_pos hp]; exact Or.inr (b3 p hp).2, fun p q hp hq z => ?_⟩
    · rw [e12, if_pos hp, ms_w_n (by omega), m3, if_pos hp, (hh p hp).2]
    · rw [e12, e12, if_pos hp, if_pos hq] at z
      exact Or.inr (b4 p q hp hq z)
theorem op_room {S : ds_S} {M : ms_S} {nb : Nat} (h : Rel S M nb) (x : Int32) :
    (∃ k9, k9 < 8 ∧ S.1 2 0 0 = nI k9 ∧ M 28 0 = nI k9 ∧ (¬ x < 1 ∧ x ≤ 200) ∧ ¬ mo_in x 1 200 = 0 ∧ Rel (ds_wI (ds_wI S 19 k9 0 x) 2 0 0 (nI k9 + 1)) (ms_w (ms_w (ms_w M 20 0 0) 9 k9 x) 28 0 (M 28 0 + 1)) nb ∧ nI k9 + 1 - 1 = M 28 0 + 1 - 1) ∨
    (¬ (¬ x < 1 ∧ x ≤ 200) ∧ mo_in x 1 200 = 0) ∨ ((¬ x < 1 ∧ x ≤ 200) ∧ ¬ S.1 2 0 0 < 8 ∧ ¬ mo_in x 1 200 = 0 ∧ M 28 0 = 8) := by
  obtain ⟨Pn, Dn, Rn, hC, hd, hm, hr⟩ := h
  obtain ⟨c1, c2, c3, c4, c5, c6, c7, c8, c9, c10, c11, c12, c13, c14, c15⟩ := id hC
  rw [mo_in_0, c9, c10]
  by_cases h0 : ¬ x < 1 ∧ x ≤ 200
  · by_cases h8 : Rn = 8
    · subst h8
      exact Or.inr (Or.inr ⟨h0, by decide, fun z => z h0, rfl⟩)
    · have eM : ∀ t i, t ≠ 20 → t ≠ 9 → t ≠ 28 → ms_w (ms_w (ms_w M 20 0 0) 9 Rn x) 28 0 (nI Rn + 1) t i = M t i := fun t i h1 h2 h3 => by rw [ms_w_n (fun z => h3 z.1), ms_w_n (fun z => h2 z.1), ms_w_n (fun z => h1 z.1)]
      have eS : ∀ t i j, t ≠ 19 → t ≠ 2 → (ds_wI (ds_wI S 19 Rn 0 x) 2 0 0 (nI Rn + 1)).1 t i j = S.1 t i j := fun t i j h1 h2 => by rw [w3_n (fun z => h2 z.1), w3_n (fun z => h1 z.1)]
      refine Or.inl ⟨Rn, by omega, rfl, rfl, h0, fun z => z h0, ⟨Pn, Dn, Rn + 1, ⟨c1, c2, by omega, c4, by rw [eS 0 0 0 (by decide) (by decide)]; exact c5, by rw [eM 21 0 (by decide) (by decide) (by decide)]; exact c6, by rw [eS 1 0 0 (by decide) (by decide)]; exact c7, by rw [eM 22 0 (by decide) (by decide) (by decide)]; exact c8, by rw [w3_s, nI_succ], by rw [ms_w_s, nI_succ], by rw [eS 3 0 0 (by decide) (by decide)]; exact c11, by rw [eM 29 0 (by decide) (by decide) (by decide)]; exact c12, by rw [eS 4 0 0 (by decide) (by decide), eM 23 0 (by decide) (by decide) (by decide)]; exact c13, by rw [eM 23 0 (by decide) (by decide) (by decide)]; exact c14, c15⟩, relD_frame hd (fun t i j ht => eS t i j (by omega) (by omega)) (fun t i ht => eM t i (by omega) (by omega) (by omega)), fun z => mdI_frame (hm (by rw [eS 4 0 0 (by decide) (by decide)] at z; exact z)) (fun t i j ht => eS t i j (by omega) (by omega)) (fun t i ht => eM t i (by omega) (by omega) (by omega)), ?_⟩, rfl⟩
      obtain ⟨L, a1, a2, a3, a4, a5, a6, a7⟩ := hr
      have e19 : ∀ r, r < Rn → (ds_wI (ds_wI S 19 Rn 0 x) 2 0 0 (nI Rn + 1)).1 19 r 0 = S.1 19 r 0 := fun r hr => by rw [w3_n (by omega), w3_n (by omega)]
      have e20 : ∀ k, (ds_wI (ds_wI S 19 Rn 0 x) 2 0 0 (nI Rn + 1)).1 20 k 0 = S.1 20 k 0 := fun k => eS 20 k 0 (by decide) (by decide)
      have e21 : ∀ k, (ds_wI (ds_wI S 19 Rn 0 x) 2 0 0 (nI Rn + 1)).1 21 k 0 = S.1 21 k 0 := fun k => eS 21 k 0 (by decide) (by decide)
      refine ⟨L, a1, fun r k => by rw [eM 14 k (by decide) (by decide) (by decide)]; exact a2 r k, fun r => List.Pairwise.imp (fun {i j} z => by rw [e20, e21]; exact z) (a3 r), fun k hk => ?_, fun r hr => ?_, a6, a7⟩
      · obtain ⟨r, b1, b2⟩ := a4 k hk
        refine ⟨r, by omega, ?_⟩
        rw [e20, e21, eM 10 k (by decide) (by decide) (by decide), eM 11 k (by decide) (by decide) (by decide), eM 12 k (by decide) (by decide) (by decide), eM 13 k (by decide) (by decide) (by decide), eM 14 k (by decide) (by decide) (by decide), e19 r b1, eS 22 k 0 (by decide) (by decide)]
        exact b2
      · by_cases er : r = Rn
        · rw [er, ms_w_n (by omega), ms_w_s, w3_n (by omega), w3_s]
        · rw [e19 r (by omega), ms_w_n (by omega), ms_w_n (by omega), ms_w_n (by omega)]
          exact a5 r (by omega)
  · exact Or.inr (Or.inl ⟨h0, h0⟩)
