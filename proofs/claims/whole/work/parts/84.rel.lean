/-! PURE: what class and model have in common between two calls -/
theorem nI_i {n : Nat} (h : n < 2 ^ 31) : (nI n).toInt = n := Int32.toInt_ofNat_of_lt h
theorem nI_15 {a b : Nat} (ha : a < 2 ^ 31) (hb : b < 2 ^ 31) (h : nI a = nI b) : a = b := by
  have e := congrArg Int32.toNatClampNeg h
  rw [nI_clamp ha, nI_clamp hb] at e
  exact e
theorem rg_ex {x : Int32} {n : Nat} (hn : n < 2 ^ 31) (h : ¬ x < 0 ∧ x < nI n) : ∃ p, p < n ∧ x = nI p := by
  obtain ⟨j, h1, h2, -⟩ := pk_mu h.1 (Int32.not_le.mpr h.2) hn
  exact ⟨j, h1, h2⟩
theorem rg_of {p n : Nat} (hn : n < 2 ^ 31) (h : p < n) : ¬ nI p < 0 ∧ nI p < nI n := ⟨nI_pos (by omega), (nI_ltI (by omega) hn).mpr h⟩
theorem mo_in_0 {v lo hi : Int32} : mo_in v lo hi = 0 ↔ ¬ (¬ v < lo ∧ v ≤ hi) := by
  unfold mo_in
  by_cases h1 : v < lo
  · rw [if_pos h1]; exact ⟨fun _ z => z.1 h1, fun _ => rfl⟩
  · rw [if_neg h1]
    by_cases h2 : hi < v
    · rw [if_pos h2]; exact ⟨fun _ z => Int32.not_lt.mpr z.2 h2, fun _ => rfl⟩
    · rw [if_neg h2]; exact ⟨fun z => absurd z (by decide), fun z => absurd ⟨h1, Int32.not_lt.mp h2⟩ z⟩
theorem mo_in_n {x : Int32} {n : Nat} (hn : n ≤ 10080) : mo_in x 0 (nI n - 1) = 0 ↔ ¬ (¬ x < 0 ∧ x < nI n) := by
  rw [mo_in_0]
  have e : (nI n - 1).toInt = (n : Int) - 1 := by
    rw [i_sub (by rw [nI_i (by omega)]; show _ ≤ (n : Int) - 1; omega) (by rw [nI_i (by omega)]; show (n : Int) - 1 < _; omega), nI_i (by omega)]
    rfl
  have e2 : x ≤ nI n - 1 ↔ x < nI n := by
    rw [Int32.le_iff_toInt_le, Int32.lt_iff_toInt_lt, e, nI_i (by omega)]
    omega
  rw [e2]
theorem lt_10079 {y : Int32} : mo_in y 0 10079 = 0 ↔ ¬ (¬ y < 0 ∧ y < 10080) := mo_in_n (n := 10080) (by decide)
def relC (S : ds_S) (M : ms_S) (nb Pn Dn Rn : Nat) : Prop :=
  Pn ≤ 10 ∧ Dn ≤ 14 ∧ Rn ≤ 8 ∧ nb ≤ 300 ∧ S.1 0 0 0 = nI Dn ∧ M 21 0 = nI Dn ∧ S.1 1 0 0 = nI Pn ∧ M 22 0 = nI Pn ∧ S.1 2 0 0 = nI Rn ∧ M 28 0 = nI Rn ∧ S.1 3 0 0 = nI nb ∧ M 29 0 = nI nb ∧ S.1 4 0 0 = M 23 0 ∧ (M 23 0 = 0 ∨ M 23 0 = 1) ∧ ma_V S
def relD (S : ds_S) (M : ms_S) (Pn Dn : Nat) : Prop :=
  wishR S ∧ (∀ p d, p < 10 → d < 14 → M 1 (14 * p + d) = S.1 10 p d ∧ M 2 (14 * p + d) = S.1 11 p d ∧ (S.1 11 p d = 0 ∨ S.1 11 p d = 1)) ∧
  (∀ p, p < Pn → M 3 p = S.1 12 p 0) ∧ (∀ p, Pn ≤ p → p < 10 → S.1 12 p 0 = -1) ∧ (∀ p, p < Pn → S.1 12 p 0 = -1 ∨ ∃ d, d < Dn ∧ S.1 12 p 0 = nI d) ∧ (∀ p q, p < Pn → q < Pn → S.1 12 p 0 = S.1 12 q 0 → S.1 12 p 0 = -1 ∨ p = q)
/-- where a seating is made -/
def mdI (S : ds_S) (M : ms_S) (Pn Dn : Nat) : Prop :=
  S.1 5 0 0 = M 24 0 ∧ (∃ g, as_ok 10 Dn (mb (-1) Pn) (alN S) g) ∧ (∀ p, p < Pn → S.1 13 p 0 = M 4 p ∧ ∃ d, d < Dn ∧ S.1 13 p 0 = nI d) ∧ (∀ p q, p < Pn → q < Pn → S.1 13 p 0 = S.1 13 q 0 → p = q) ∧
  ∃ c, c ≤ 15 ∧ S.1 7 0 0 = nI c ∧ M 26 0 = nI c ∧ S.1 8 0 0 = M 27 0 ∧ (∀ j, j < c → S.1 16 0 j = M 7 (3 * j) ∧ S.1 17 0 j = M 7 (3 * j + 1) ∧ S.1 18 0 j = M 7 (3 * j + 2))
def relA (S : ds_S) (M : ms_S) (nb Pn Dn Rn : Nat) : Prop := relC S M nb Pn Dn Rn ∧ relD S M Pn Dn ∧ (¬ S.1 4 0 0 = 0 → mdI S M Pn Dn) ∧ rmI S M nb Rn
def Rel (S : ds_S) (M : ms_S) (nb : Nat) : Prop := ∃ Pn Dn Rn, relA S M nb Pn Dn Rn
theorem relD_frame {S S' : ds_S} {M M' : ms_S} {Pn Dn : Nat} (h : relD S M Pn Dn) (h1 : ∀ t i j, t = 10 ∨ t = 11 ∨ t = 12 → S'.1 t i j = S.1 t i j) (h2 : ∀ t i, t = 1 ∨ t = 2 ∨ t = 3 → M' t i = M t i) : relD S' M' Pn Dn := by
  obtain ⟨a1, a2, a3, a4, a5, a6⟩ := h
  have e10 : ∀ p d, S'.1 10 p d = S.1 10 p d := fun p d => h1 10 p d (by omega)
  have e11 : ∀ p d, S'.1 11 p d = S.1 11 p d := fun p d => h1 11 p d (by omega)
  have e12 : ∀ p, S'.1 12 p 0 = S.1 12 p 0 := fun p => h1 12 p 0 (by omega)
  refine ⟨fun p d hp hd => by rw [e10]; exact a1 p d hp hd, fun p d hp hd => by rw [e10, e11, h2 1 _ (by omega), h2 2 _ (by omega)]; exact a2 p d hp hd, fun p hp => by rw [e12, h2 3 p (by omega)]; exact a3 p hp, fun p h1 h2 => by rw [e12]; exact a4 p h1 h2, fun p hp => by rw [e12]; exact a5 p hp, fun p q hp hq e => ?_⟩
  rw [e12, e12] at e
  rw [e12]
  exact a6 p q hp hq e
theorem mdI_frame {S S' : ds_S} {M M' : ms_S} {Pn Dn : Nat} (h : mdI S M Pn Dn) (h1 : ∀ t i j, t = 5 ∨ t = 7 ∨ t = 8 ∨ t = 11 ∨ t = 13 ∨ t = 16 ∨ t = 17 ∨ t = 18 → S'.1 t i j = S.1 t i j) (h2 : ∀ t i, t = 4 ∨ t = 7 ∨ t = 24 ∨ t = 26 ∨ t = 27 → M' t i = M t i) : mdI S' M' Pn Dn := by
  obtain ⟨a1, ⟨g, a2⟩, a3, a4, c, b1, b2, b3, b4, b5⟩ := h
  have e13 : ∀ p, S'.1 13 p 0 = S.1 13 p 0 := fun p => h1 13 p 0 (by omega)
  have eal : alN S' = alN S := funext (fun p => funext (fun d => by unfold alN; rw [h1 11 p d (by omega)]))
  refine ⟨by rw [h1 5 0 0 (by omega), h2 24 0 (by omega)]; exact a1, ⟨g, by rw [eal]; exact a2⟩, fun p hp => by rw [e13, h2 4 p (by omega)]; exact a3 p hp, fun p q hp hq e => ?_, c, b1, by rw [h1 7 0 0 (by omega)]; exact b2, by rw [h2 26 0 (by omega)]; exact b3, by rw [h1 8 0 0 (by omega), h2 27 0 (by omega)]; exact b4, fun j hj => by rw [h1 16 0 j (by omega), h1 17 0 j (by omega), h1 18 0 j (by omega), h2 7 _ (by omega), h2 7 _ (by omega), h2 7 _ (by omega)]; exact b5 j hj⟩
  rw [e13, e13] at e
  exact a4 p q hp hq e
theorem Rel_20 {S : ds_S} {M : ms_S} {nb : Nat} (h : Rel S M nb) (t : Int32) : Rel S (ms_w M 20 0 t) nb := by
  obtain ⟨Pn, Dn, Rn, ⟨c1, c2, c3, c4, c5, c6, c7, c8, c9, c10, c11, c12, c13, c14, c15⟩, hd, hm, hr⟩ := h
  have e : ∀ t' i, t' ≠ 20 → ms_w M 20 0 t t' i = M t' i := fun t' i h => ms_w_n (fun z => h z.1)
  refine ⟨Pn, Dn, Rn, ⟨c1, c2, c3, c4, c5, by rw [e 21 0 (by decide)]; exact c6, c7, by rw [e 22 0 (by decide)]; exact c8, c9, by rw [e 28 0 (by decide)]; exact c10, c11, by rw [e 29 0 (by decide)]; exact c12, by rw [e 23 0 (by decide)]; exact c13, by rw [e 23 0 (by decide)]; exact c14, c15⟩, relD_frame hd (fun _ _ _ _ => rfl) (fun t' i h => e t' i (by omega)), fun z => mdI_frame (hm z) (fun _ _ _ _ => rfl) (fun t' i h => e t' i (by omega)), rmI_frame hr (fun _ _ _ _ => rfl) (fun _ _ _ => rfl) (fun t' i h1 h2 => e t' i (by omega))⟩
theorem relC_0 {S S' : ds_S} {M M' : ms_S} {nb Pn Dn Rn : Nat} (h : relC S M nb Pn Dn Rn) (h0 : ∀ t, t ≤ 3 → S'.1 t 0 0 = S.1 t 0 0) (hm : ∀ t, t = 21 ∨ t = 22 ∨ t = 28 ∨ t = 29 → M' t 0 = M t 0) (h4 : S'.1 4 0 0 = M' 23 0) (h23 : M' 23 0 = 0 ∨ M' 23 0 = 1) (hV : ma_V S') : relC S' M' nb Pn Dn Rn := by
  obtain ⟨c1, c2, c3, c4, c5, c6, c7, c8, c9, c10, c11, c12, -, -, -⟩ := h
  exact ⟨c1, c2, c3, c4, by rw [h0 0 (by omega)]; exact c5, by rw [hm 21 (by omega)]; exact c6, by rw [h0 1 (by omega)]; exact c7, by rw [hm 22 (by omega)]; exact c8, by rw [h0 2 (by omega)]; exact c9, by rw [hm 28 (by omega)]; exact c10, by rw [h0 3 (by omega)]; exact c11, by rw [hm 29 (by omega)]; exact c12, h4, h23, hV⟩
theorem op_desk {S : ds_S} {M : ms_S} {nb : Nat} (h : Rel S M nb) :
    (S.1 0 0 0 < 14 ∧ ¬ M 21 0 = 14 ∧ Rel (ds_wI (ds_wI S 4 0 0 0) 0 0 0 (S.1 0 0 0 + 1)) (ms_w (ms_w (ms_w M 20 0 0) 23 0 0) 21 0 (M 21 0 + 1)) nb ∧ S.1 0 0 0 + 1 - 1 = M 21 0 + 1 - 1) ∨ (¬ S.1 0 0 0 < 14 ∧ M 21 0 = 14) := by
  obtain ⟨Pn, Dn, Rn, ⟨c1, c2, c3, c4, c5, c6, c7, c8, c9, c10, c11, c12, c13, c14, c15⟩, hd, hm, hr⟩ := h
  rw [c5, c6]
  by_cases h14 : Dn = 14
  · subst h14
    exact Or.inr ⟨by decide, rfl⟩
  · refine Or.inl ⟨(nI_ltI (by omega) (by decide)).mpr (show Dn < 14 by omega), fun e => h14 (nI_15 (by omega) (by decide) e), ⟨Pn, Dn + 1, Rn, ⟨c1, by omega, c3, c4, ?_, ?_, ?_, ?_, ?_, ?_, ?_, ?_, ?_, ?_, c15⟩, ?_, fun z => absurd ?_ z, ?_⟩, rfl⟩
    · rw [w3_s, nI_succ]
    · rw [ms_w_s, nI_succ]
    · rw [w3_n (by omega), w3_n (by omega)]; exact c7
    · rw [ms_w_n (by omega), ms_w_n (by omega), ms_w_n (by omega)]; exact c8
    · rw [w3_n (by omega), w3_n (by omega)]; exact c9
    · rw [ms_w_n (by omega), ms_w_n (by omega), ms_w_n (by omega)]; exact c10
    · rw [w3_n (by omega), w3_n (by omega)]; exact c11
    · rw [ms_w_n (by omega), ms_w_n (by omega), ms_w_n (by omega)]; exact c12
    · rw [w3_n (by omega), w3_s, ms_w_n (by omega), ms_w_s]
    · rw [ms_w_n (by omega), ms_w_s]; exact Or.inl rfl
    · obtain ⟨b1, b2, b3, b4, b5, b6⟩ := relD_frame (S' := ds_wI (ds_wI S 4 0 0 0) 0 0 0 (nI Dn + 1)) (M' := ms_w (ms_w (ms_w M 20 0 0) 23 0 0) 21 0 (nI Dn + 1)) hd (fun t i j ht => by rw [w3_n (by omega), w3_n (by omega)]) (fun t i ht => by rw [ms_w_n (by omega), ms_w_n (by omega), ms_w_n (by omega)])
      exact ⟨b1, b2, b3, b4, fun p hp => (b5 p hp).imp id (fun ⟨d, x, y⟩ => ⟨d, by omega, y⟩), b6⟩
    · rw [w3_n (by omega), w3_s]
    · exact rmI_frame hr (fun t i j ht => by rw [w3_n (by omega), w3_n (by omega)]) (fun _ _ _ => rfl) (fun t i h1 h2 => by rw [ms_w_n (by omega), ms_w_n (by omega), ms_w_n (by omega)])
theorem op_person {S : ds_S} {M : ms_S} {nb : Nat} (h : Rel S M nb) :
    (∃ k9, k9 < 10 ∧ M 22 0 = nI k9 ∧ S.1 1 0 0 < 10 ∧ Rel (ds_wI (ds_wI S 4 0 0 0) 1 0 0 (S.1 1 0 0 + 1)) (ms_w (ms_w (ms_w (ms_w M 20 0 0) 23 0 0) 3 k9 (-1)) 22 0 (M 22 0 + 1)) nb ∧ S.1 1 0 0 + 1 - 1 = M 22 0 + 1 - 1) ∨ (¬ S.1 1 0 0 < 10 ∧ M 22 0 = 10) := by
  obtain ⟨Pn, Dn, Rn, ⟨c1, c2, c3, c4, c5, c6, c7, c8, c9, c10, c11, c12, c13, c14, c15⟩, hd, hm, hr⟩ := h
  rw [c7, c8]
  by_cases h10 : Pn = 10
  · subst h10
    exact Or.inr ⟨by decide, rfl⟩
  · refine Or.inl ⟨Pn, by omega, rfl, (nI_ltI (by omega) (by decide)).mpr (show Pn < 10 by omega), ⟨Pn + 1, Dn, Rn, ⟨by omega, c2, c3, c4, ?_, ?_, ?_, ?_, ?_, ?_, ?_, ?_, ?_, ?_, c15⟩, ?_, fun z => absurd ?_ z, ?_⟩, rfl⟩
    · rw [w3_n (by omega), w3_n (by omega)]; exact c5
    · rw [ms_w_n (by omega), ms_w_n (by omega), ms_w_n (by omega), ms_w_n (by omega)]; exact c6
    · rw [w3_s, nI_succ]
    · rw [ms_w_s, nI_succ]
    · rw [w3_n (by omega), w3_n (by omega)]; exact c9
    · rw [ms_w_n (by omega), ms_w_n (by omega), ms_w_n (by omega), ms_w_n (by omega)]; exact c10
    · rw [w3_n (by omega), w3_n (by omega)]; exact c11
    · rw [ms_w_n (by omega), ms_w_n (by omega), ms_w_n (by omega), ms_w_n (by omega)]; exact c12
    · rw [w3_n (by omega), w3_s, ms_w_n (by omega), ms_w_n (by omega), ms_w_s]
    · rw [ms_w_n (by omega), ms_w_n (by omega), ms_w_s]; exact Or.inl rfl
    · obtain ⟨a1, a2, a3, a4, a5, a6⟩ := hd
      have e : ∀ t i j, t ≥ 10 → (ds_wI (ds_wI S 4 0 0 0) 1 0 0 (nI Pn + 1)).1 t i j = S.1 t i j := fun t i j ht => by rw [w3_n (by omega), w3_n (by omega)]
      have hP : S.1 12 Pn 0 = -1 := a4 Pn (Nat.le_refl _) (by omega)
      refine ⟨fun p d hp hd => by rw [e 10 p d (by decide)]; exact a1 p d hp hd, fun p d hp hd => by rw [e 10 p d (by decide), e 11 p d (by decide), ms_w_n (by omega), ms_w_n (by omega), ms_w_n (by omega), ms_w_n (by omega), ms_w_n (by omega), ms_w_n (by omega), ms_w_n (by omega), ms_w_n (by omega)]; exact a2 p d hp hd, fun p hp => ?_, fun p h1 h2 => by rw [e 12 p 0 (by decide)]; exact a4 p (by omega) h2, fun p hp => ?_, fun p q hp hq => ?_⟩
      · rw [e 12 p 0 (by decide), ms_w_n (by omega)]
        by_cases ep : p = Pn
        · rw [ep, ms_w_s, hP]
        · rw [ms_w_n (by omega), ms_w_n (by omega), ms_w_n (by omega)]; exact a3 p (by omega)
      · rw [e 12 p 0 (by decide)]
        by_cases ep : p = Pn
        · rw [ep]; exact Or.inl hP
        · exact a5 p (by omega)
      · rw [e 12 p 0 (by decide), e 12 q 0 (by decide)]
        intro z
        by_cases ep : p = Pn
        · rw [ep]; exact Or.inl hP
        · by_cases eq : q = Pn
          · rw [eq] at z; exact Or.inl (z.trans hP)
          · exact a6 p q (by omega) (by omega) z
    · rw [w3_n (by omega), w3_s]
    · exact rmI_frame hr (fun t i j ht => by rw [w3_n (by omega), w3_n (by omega)]) (fun _ _ _ => rfl) (fun t i h1 h2 => by rw [ms_w_n (by omega), ms_w_n (by omega), ms_w_n (by omega), ms_w_n (by omega)])
theorem op_wish {S : ds_S} {M : ms_S} {nb : Nat} (h : Rel S M nb) (x y w : Int32) :
    (∃ p9 d9, p9 < 10 ∧ d9 < 14 ∧ x = nI p9 ∧ y = nI d9 ∧ (¬ nI p9 < 0 ∧ nI p9 < S.1 1 0 0) ∧ (¬ nI d9 < 0 ∧ nI d9 < S.1 0 0 0) ∧ (¬ w < 0 ∧ w ≤ 1000) ∧ ¬ mo_in (nI p9) 0 (M 22 0 - 1) = 0 ∧ ¬ mo_in (nI d9) 0 (M 21 0 - 1) = 0 ∧ ¬ mo_in w 0 1000 = 0 ∧ Rel (ds_wI (ds_wI S 10 p9 d9 w) 4 0 0 0) (ms_w (ms_w (ms_w M 20 0 0) 23 0 0) 1 (14 * p9 + d9) w) nb ∧ S.1 10 p9 d9 = M 1 (14 * p9 + d9)) ∨
    (¬ (¬ x < 0 ∧ x < S.1 1 0 0) ∧ mo_in x 0 (M 22 0 - 1) = 0) ∨ ((¬ x < 0 ∧ x < S.1 1 0 0) ∧ ¬ (¬ y < 0 ∧ y < S.1 0 0 0) ∧ mo_in y 0 (M 21 0 - 1) = 0) ∨ ((¬ x < 0 ∧ x < S.1 1 0 0) ∧ (¬ y < 0 ∧ y < S.1 0 0 0) ∧ ¬ (¬ w < 0 ∧ w ≤ 1000) ∧ mo_in w 0 1000 = 0) := by
  obtain ⟨Pn, Dn, Rn, hC, hd, hm, hr⟩ := h
  obtain ⟨c1, c2, c3, c4, c5, c6, c7, c8, c9, c10, c11, c12, c13, c14, c15⟩ := id hC
  rw [c5, c6, c7, c8, mo_in_n (x := x) (by omega), mo_in_n (x := y) (by omega), mo_in_0 (v := w)]
  by_cases h1 : ¬ x < 0 ∧ x < nI Pn
  · by_cases h2 : ¬ y < 0 ∧ y < nI Dn
    · by_cases h3 : ¬ w < 0 ∧ w ≤ 1000
      · obtain ⟨p9, q1, rfl⟩ := rg_ex (by omega) h1
        obtain ⟨d9, q2, rfl⟩ := rg_ex (by omega) h2
        obtain ⟨a1, a2, a3, a4, a5, a6⟩ := id hd
        refine Or.inl ⟨p9, d9, by omega, by omega, rfl, rfl, h1, h2, h3, fun z => absurd h1 ((mo_in_n (by omega)).mp z), fun z => absurd h2 ((mo_in_n (by omega)).mp z), fun z => z h3, ⟨Pn, Dn, Rn, relC_0 hC (fun t ht => by rw [w3_n (by omega), w3_n (by omega)]) (fun t ht => by rw [ms_w_n (by omega), ms_w_n (by omega), ms_w_n (by omega)]) (by rw [w3_s, ms_w_n (by omega), ms_w_s]) (by rw [ms_w_n (by omega), ms_w_s]; exact Or.inl rfl) c15, ?_, fun z => absurd (w3_s _ 4 0 0 0) z, rmI_frame hr (fun t i j ht => by rw [w3_n (by omega), w3_n (by omega)]) (fun _ _ _ => rfl) (fun t i h1 h2 => by rw [ms_w_n (by omega), ms_w_n (by omega), ms_w_n (by omega)])⟩, (a2 p9 d9 (by omega) (by omega)).1.symm⟩
        have e10 : ∀ p d, (ds_wI (ds_wI S 10 p9 d9 w) 4 0 0 0).1 10 p d = if p = p9 ∧ d = d9 then w else S.1 10 p d := fun p d => by
          rw [w3_n (by omega)]
          by_cases e : p = p9 ∧ d = d9
          · rw [e.1, e.2, w3_s, if_pos ⟨rfl, rfl⟩]
          · rw [w3_n (fun z => e z.2), if_neg e]
        have eo : ∀ t i j, t ≠ 10 → t ≠ 4 → (ds_wI (ds_wI S 10 p9 d9 w) 4 0 0 0).1 t i j = S.1 t i j := fun t i j h1 h2 => by rw [w3_n (by omega), w3_n (by omega)]
        refine ⟨fun p d hp hd => ?_, fun p d hp hd => ?_, fun p hp => by rw [ms_w_n (by omega), ms_w_n (by omega), ms_w_n (by omega), eo 12 p 0 (by decide) (by decide)]; exact a3 p hp, fun p h1 h2 => by rw [eo 12 p 0 (by decide) (by decide)]; exact a4 p h1 h2, fun p hp => by rw [eo 12 p 0 (by decide) (by decide)]; exact a5 p hp, fun p q hp hq e => ?_⟩
        · rw [e10]
          split
          · have x1 := h3.1
            have x2 := h3.2
            rw [Int32.lt_iff_toInt_lt] at x1
            rw [Int32.le_iff_toInt_le] at x2
            exact ⟨Int.not_lt.mp x1, x2⟩
          · exact a1 p d hp hd
        · rw [e10, eo 11 p d (by decide) (by decide), ms_w_n (t' := 2) (by omega), ms_w_n (t' := 2) (by omega), ms_w_n (t' := 2) (by omega)]
          refine ⟨?_, (a2 p d hp hd).2⟩
          by_cases e : p = p9 ∧ d = d9
          · rw [e.1, e.2, ms_w_s, if_pos ⟨rfl, rfl⟩]
          · rw [if_neg e, ms_w_n (by omega), ms_w_n (by omega), ms_w_n (by omega)]
            exact (a2 p d hp hd).1
        · rw [eo 12 p 0 (by decide) (by decide), eo 12 q 0 (by decide) (by decide)] at e
          rw [eo 12 p 0 (by decide) (by decide)]
          exact a6 p q hp hq e
      · exact Or.inr (Or.inr (Or.inr ⟨h1, h2, h3, h3⟩))
    · exact Or.inr (Or.inr (Or.inl ⟨h1, h2, h2⟩))
  · exact Or.inr (Or.inl ⟨h1, h1⟩)
theorem op_bar {S : ds_S} {M : ms_S} {nb : Nat} (h : Rel S M nb) (x y w : Int32) (hw : w = 0 ∨ w = 1) :
    (∃ p9 d9, p9 < 10 ∧ d9 < 14 ∧ x = nI p9 ∧ y = nI d9 ∧ (S.1 11 p9 d9 = 0 ∨ S.1 11 p9 d9 = 1) ∧ (M 2 (14 * p9 + d9) = 0 ∨ M 2 (14 * p9 + d9) = 1) ∧ (¬ nI p9 < 0 ∧ nI p9 < S.1 1 0 0) ∧ (¬ nI d9 < 0 ∧ nI d9 < S.1 0 0 0) ∧ ¬ mo_in (nI p9) 0 (M 22 0 - 1) = 0 ∧ ¬ mo_in (nI d9) 0 (M 21 0 - 1) = 0 ∧ Rel (ds_wI (ds_wI S 11 p9 d9 w) 4 0 0 0) (ms_w (ms_w (ms_w M 20 0 0) 23 0 0) 2 (14 * p9 + d9) w) nb ∧ S.1 11 p9 d9 = M 2 (14 * p9 + d9)) ∨
    (¬ (¬ x < 0 ∧ x < S.1 1 0 0) ∧ mo_in x 0 (M 22 0 - 1) = 0) ∨ ((¬ x < 0 ∧ x < S.1 1 0 0) ∧ ¬ (¬ y < 0 ∧ y < S.1 0 0 0) ∧ mo_in y 0 (M 21 0 - 1) = 0) := by
  obtain ⟨Pn, Dn, Rn, hC, hd, hm, hr⟩ := h
  obtain ⟨c1, c2, c3, c4, c5, c6, c7, c8, c9, c10, c11, c12, c13, c14, c15⟩ := id hC
  rw [c5, c6, c7, c8, mo_in_n (x := x) (by omega), mo_in_n (x := y) (by omega)]
  by_cases h1 : ¬ x < 0 ∧ x < nI Pn
  · by_cases h2 : ¬ y < 0 ∧ y < nI Dn
    · obtain ⟨p9, q1, rfl⟩ := rg_ex (by omega) h1
      obtain ⟨d9, q2, rfl⟩ := rg_ex (by omega) h2
      obtain ⟨a1, a2, a3, a4, a5, a6⟩ := id hd
      have a9 := a2 p9 d9 (by omega) (by omega)
      refine Or.inl ⟨p9, d9, by omega, by omega, rfl, rfl, a9.2.2, by rw [a9.2.1]; exact a9.2.2, h1, h2, fun z => absurd h1 ((mo_in_n (by omega)).mp z), fun z => absurd h2 ((mo_in_n (by omega)).mp z), ⟨Pn, Dn, Rn, relC_0 hC (fun t ht => by rw [w3_n (by omega), w3_n (by omega)]) (fun t ht => by rw [ms_w_n (by omega), ms_w_n (by omega), ms_w_n (by omega)]) (by rw [w3_s, ms_w_n (by omega), ms_w_s]) (by rw [ms_w_n (by omega), ms_w_s]; exact Or.inl rfl) c15, ?_, fun z => absurd (w3_s _ 4 0 0 0) z, rmI_frame hr (fun t i j ht => by rw [w3_n (by omega), w3_n (by omega)]) (fun _ _ _ => rfl) (fun t i h1 h2 => by rw [ms_w_n (by omega), ms_w_n (by omega), ms_w_n (by omega)])⟩, a9.2.1.symm⟩
      have e11 : ∀ p d, (ds_wI (ds_wI S 11 p9 d9 w) 4 0 0 0).1 11 p d = if p = p9 ∧ d = d9 then w else S.1 11 p d := fun p d => by
        rw [w3_n (by omega)]
        by_cases e : p = p9 ∧ d = d9
        · rw [e.1, e.2, w3_s, if_pos ⟨rfl, rfl⟩]
        · rw [w3_n (fun z => e z.2), if_neg e]
      have eo : ∀ t i j, t ≠ 11 → t ≠ 4 → (ds_wI (ds_wI S 11 p9 d9 w) 4 0 0 0).1 t i j = S.1 t i j := fun t i j h1 h2 => by rw [w3_n (by omega), w3_n (by omega)]
      refine ⟨fun p d hp hd => by rw [eo 10 p d (by decide) (by decide)]; exact a1 p d hp hd, fun p d hp hd => ?_, fun p hp => by rw [ms_w_n (by omega), ms_w_n (by omega), ms_w_n (by omega), eo 12 p 0 (by decide) (by decide)]; exact a3 p hp, fun p h1 h2 => by rw [eo 12 p 0 (by decide) (by decide)]; exact a4 p h1 h2, fun p hp => by rw [eo 12 p 0 (by decide) (by decide)]; exact a5 p hp, fun p q hp hq e => ?_⟩
      · rw [e11, eo 10 p d (by decide) (by decide), ms_w_n (t' := 1) (by omega), ms_w_n (t' := 1) (by omega), ms_w_n (t' := 1) (by omega)]
        refine ⟨(a2 p d hp hd).1, ?_⟩
        by_cases e : p = p9 ∧ d = d9
        · rw [e.1, e.2, ms_w_s, if_pos ⟨rfl, rfl⟩]
          exact ⟨rfl, hw⟩
        · rw [if_neg e, ms_w_n (by omega), ms_w_n (by omega), ms_w_n (by omega)]
          exact (a2 p d hp hd).2
      · rw [eo 12 p 0 (by decide) (by decide), eo 12 q 0 (by decide) (by decide)] at e
        rw [eo 12 p 0 (by decide) (by decide)]
        exact a6 p q hp hq e
    · exact Or.inr (Or.inr ⟨h1, h2, h2⟩)
  · exact Or.inr (Or.inl ⟨h1, h1⟩)
theorem op_sits {S : ds_S} {M : ms_S} {nb : Nat} (h : Rel S M nb) (x y : Int32) : ∃ Pn, Pn ≤ 10 ∧ S.1 1 0 0 = nI Pn ∧ M 22 0 = nI Pn ∧
    ((∃ p9, p9 < 10 ∧ x = nI p9 ∧ (¬ nI p9 < 0 ∧ nI p9 < S.1 1 0 0) ∧ ¬ mo_in (nI p9) 0 (M 22 0 - 1) = 0 ∧ (y = -1 ∨ ((¬ y < 0 ∧ y < S.1 0 0 0) ∧ ∀ q, q < Pn → ¬ nI q = nI p9 → ¬ S.1 12 q 0 = y)) ∧ (y = -1 ∨ ¬ mo_in y 0 (M 21 0 - 1) = 0) ∧ (∀ q, q < Pn → ¬ nI q = nI p9 → ¬ y = -1 → ¬ M 3 q = y) ∧ Rel (ds_wI (ds_wI S 12 p9 0 y) 4 0 0 0) (ms_w (ms_w (ms_w M 20 0 0) 23 0 0) 3 p9 y) nb ∧ S.1 12 p9 0 = M 3 p9) ∨
     (¬ (¬ x < 0 ∧ x < S.1 1 0 0) ∧ mo_in x 0 (M 22 0 - 1) = 0) ∨ ((¬ x < 0 ∧ x < S.1 1 0 0) ∧ ¬ y = -1 ∧ ¬ (¬ y < 0 ∧ y < S.1 0 0 0) ∧ mo_in y 0 (M 21 0 - 1) = 0) ∨
     ((¬ x < 0 ∧ x < S.1 1 0 0) ∧ ¬ y = -1 ∧ (¬ y < 0 ∧ y < S.1 0 0 0) ∧ (∃ q, q < Pn ∧ ¬ nI q = x ∧ S.1 12 q 0 = y) ∧ ¬ mo_in x 0 (M 22 0 - 1) = 0 ∧ ¬ mo_in y 0 (M 21 0 - 1) = 0 ∧ (∃ q, q < Pn ∧ ¬ nI q = x ∧ M 3 q = y))) := by
  obtain ⟨Pn, Dn, Rn, hC, hd, hm, hr⟩ := h
  obtain ⟨c1, c2, c3, c4, c5, c6, c7, c8, c9, c10, c11, c12, c13, c14, c15⟩ := id hC
  obtain ⟨a1, a2, a3, a4, a5, a6⟩ := id hd
  refine ⟨Pn, c1, c7, c8, ?_⟩
  rw [c5, c6, c7, c8, mo_in_n (x := x) (by omega), mo_in_n (x := y) (by omega)]
  by_cases h1 : ¬ x < 0 ∧ x < nI Pn
  · have hok : ∀ p9, p9 < Pn → x = nI p9 → (y = -1 ∨ ((¬ y < 0 ∧ y < nI Dn) ∧ ∀ q, q < Pn → ¬ nI q = nI p9 → ¬ S.1 12 q 0 = y)) → Rel (ds_wI (ds_wI S 12 p9 0 y) 4 0 0 0) (ms_w (ms_w (ms_w M 20 0 0) 23 0 0) 3 p9 y) nb := by
      intro p9 q1 ex hy
      refine ⟨Pn, Dn, Rn, relC_0 hC (fun t ht => by rw [w3_n (by omega), w3_n (by omega)]) (fun t ht => by rw [ms_w_n (by omega), ms_w_n (by omega), ms_w_n (by omega)]) (by rw [w3_s, ms_w_n (by omega), ms_w_s]) (by rw [ms_w_n (by omega), ms_w_s]; exact Or.inl rfl) c15, ?_, fun z => absurd (w3_s _ 4 0 0 0) z, rmI_frame hr (fun t i j ht => by rw [w3_n (by omega), w3_n (by omega)]) (fun _ _ _ => rfl) (fun t i h1 h2 => by rw [ms_w_n (by omega), ms_w_n (by omega), ms_w_n (by omega)])⟩
      have e12 : ∀ p, (ds_wI (ds_wI S 12 p9 0 y) 4 0 0 0).1 12 p 0 = if p = p9 then y else S.1 12 p 0 := fun p => by
        rw [w3_n (by omega)]
        by_cases e : p = p9
        · rw [e, w3_s, if_pos rfl]
        · rw [w3_n (fun z => e z.2.1), if_neg e]
      have eo : ∀ t i j, t ≠ 12 → t ≠ 4 → (ds_wI (ds_wI S 12 p9 0 y) 4 0 0 0).1 t i j = S.1 t i j := fun t i j h1 h2 => by rw [w3_n (by omega), w3_n (by omega)]
      refine ⟨fun p d hp hd => by rw [eo 10 p d (by decide) (by decide)]; exact a1 p d hp hd, fun p d hp hd => by rw [eo 10 p d (by decide) (by decide), eo 11 p d (by decide) (by decide), ms_w_n (t' := 1) (by omega), ms_w_n (t' := 1) (by omega), ms_w_n (t' := 1) (by omega), ms_w_n (t' := 2) (by omega), ms_w_n (t' := 2) (by omega), ms_w_n (t' := 2) (by omega)]; exact a2 p d hp hd, fun p hp => ?_, fun p h1 h2 => by rw [e12, if_neg (by omega)]; exact a4 p h1 h2, fun p hp => ?_, fun p q hp hq => ?_⟩
      · rw [e12]
        by_cases e : p = p9
        · rw [e, ms_w_s, if_pos rfl]
        · rw [if_neg e, ms_w_n (by omega), ms_w_n (by omega), ms_w_n (by omega)]; exact a3 p hp
      · rw [e12]
        split
        · rcases hy with z | ⟨z, -⟩
          · exact Or.inl z
          · obtain ⟨d, w1, w2⟩ := rg_ex (by omega) z
            exact Or.inr ⟨d, w1, w2⟩
        · exact a5 p hp
      · rw [e12, e12]
        intro z
        by_cases ep : p = p9
        · by_cases eq : q = p9
          · exact Or.inr (ep.trans eq.symm)
          · rw [if_pos ep, if_neg eq] at z
            rw [if_pos ep]
            rcases hy with w | ⟨-, w⟩
            · exact Or.inl w
            · exact absurd z.symm (w q hq (fun e => eq (nI_15 (by omega) (by omega) e)))
        · by_cases eq : q = p9
          · rw [if_neg ep, if_pos eq] at z
            rw [if_neg ep]
            rcases hy with w | ⟨-, w⟩
            · exact Or.inl (z.trans w)
            · exact absurd z (w p hp (fun e => ep (nI_15 (by omega) (by omega) e)))
          · rw [if_neg ep, if_neg eq] at z
            rw [if_neg ep]
            exact a6 p q hp hq z
    by_cases hy : y = -1
    · obtain ⟨p9, q1, ex⟩ := rg_ex (by omega) h1
      subst ex
      exact Or.inl ⟨p9, by omega, rfl, h1, fun z => absurd h1 ((mo_in_n (by omega)).mp z), Or.inl hy, Or.inl hy, fun _ _ _ z => absurd hy z, hok p9 q1 rfl (Or.inl hy), (a3 p9 q1).symm⟩
    · by_cases h2 : ¬ y < 0 ∧ y < nI Dn
      · by_cases h3 : ∃ q, q < Pn ∧ ¬ nI q = x ∧ S.1 12 q 0 = y
        · obtain ⟨q, z1, z2, z3⟩ := h3
          exact Or.inr (Or.inr (Or.inr ⟨h1, hy, h2, ⟨q, z1, z2, z3⟩, fun z => z h1, fun z => z h2, q, z1, z2, by rw [a3 q z1]; exact z3⟩))
        · obtain ⟨p9, q1, ex⟩ := rg_ex (by omega) h1
          subst ex
          have hno : ∀ q, q < Pn → ¬ nI q = nI p9 → ¬ S.1 12 q 0 = y := fun q z1 z2 z3 => h3 ⟨q, z1, z2, z3⟩
          exact Or.inl ⟨p9, by omega, rfl, h1, fun z => absurd h1 ((mo_in_n (by omega)).mp z), Or.inr ⟨h2, hno⟩, Or.inr (fun z => z h2), fun q z1 z2 _ => by rw [a3 q z1]; exact hno q z1 z2, hok p9 q1 rfl (Or.inr ⟨h2, hno⟩), (a3 p9 q1).symm⟩
      · exact Or.inr (Or.inr (Or.inl ⟨h1, hy, h2, h2⟩))
  · exact Or.inr (Or.inl ⟨h1, h1⟩)
