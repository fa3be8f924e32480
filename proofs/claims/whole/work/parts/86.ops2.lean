/-! PURE: bookings -/
def opCH (S : ds_S) (nb n0 : Nat) : Prop := (∀ k k', S.2.2 3 k = some k' → k' < nb) ∧ (∀ r k, S.2.2 2 r = some k → k < nb) ∧ (∀ r, ho_T (S.2.2 3) n0 (S.2.2 2 r))
def opN (S : ds_S) (nb : Nat) : Prop := (∀ j, j < nb → S.2.2 5 j = some j) ∧ (∀ j, nb ≤ j → S.2.2 5 j = none)
theorem opN_of {S : ds_S} {M : ms_S} {nb Rn : Nat} {L : Nat → List Nat} (h : rmL S M nb Rn L) : opN S nb := ⟨fun j hj => by rw [h.2.2.2.2.2.2 j, if_pos hj], fun j hj => by rw [h.2.2.2.2.2.2 j, if_neg (by omega)]⟩
theorem x_300 {x : Int32} {nb : Nat} (hb : nb ≤ 300) : (∃ g, g < nb ∧ x = nI g ∧ ¬ mo_in (nI g) 0 (nI nb - 1) = 0) ∨ (¬ (¬ x < 0 ∧ x < 300) ∧ mo_in x 0 (nI nb - 1) = 0) ∨ (∃ g, nb ≤ g ∧ g < 300 ∧ x = nI g ∧ mo_in (nI g) 0 (nI nb - 1) = 0) := by
  by_cases h1 : ¬ x < 0 ∧ x < nI 300
  · obtain ⟨g, q1, rfl⟩ := rg_ex (by decide) h1
    by_cases h2 : g < nb
    · exact Or.inl ⟨g, h2, rfl, fun z => (mo_in_n (by omega)).mp z (rg_of (by omega) h2)⟩
    · refine Or.inr (Or.inr ⟨g, by omega, q1, rfl, (mo_in_n (by omega)).mpr (fun z => h2 ((nI_ltI (by omega) (by omega)).mp z.2))⟩)
  · refine Or.inr (Or.inl ⟨h1, (mo_in_n (by omega)).mpr (fun z => h1 ⟨z.1, Int32.lt_of_lt_of_le z.2 ((nI_leI (by omega) (by decide)).mpr hb)⟩)⟩)
theorem op_cancel {S : ds_S} {M : ms_S} {nb : Nat} (h : Rel S M nb) (x : Int32) :
    (∃ g ro n0, g < nb ∧ g < 300 ∧ ro < 8 ∧ S.2.2 4 g = some ro ∧ x = nI g ∧ opN S nb ∧ opCH S nb n0 ∧ ¬ mo_in (nI g) 0 (M 29 0 - 1) = 0 ∧ (M 14 g = 0 ∨ M 14 g = 1) ∧ Rel (rm_F S ro g n0).2 (ms_w (ms_w M 20 0 0) 14 g 0) nb ∧ (rm_F S ro g n0).1 = M 14 g) ∨
    (¬ (¬ x < 0 ∧ x < 300) ∧ mo_in x 0 (M 29 0 - 1) = 0) ∨ (∃ g, nb ≤ g ∧ g < 300 ∧ x = nI g ∧ opN S nb ∧ mo_in (nI g) 0 (M 29 0 - 1) = 0) := by
  obtain ⟨Pn, Dn, Rn, hC, hd, hm, L, hL⟩ := h
  obtain ⟨c1, c2, c3, c4, c5, c6, c7, c8, c9, c10, c11, c12, c13, c14, c15⟩ := id hC
  rw [c12]
  rcases x_300 (x := x) c4 with ⟨g, q1, q2, q3⟩ | q | ⟨g, q1, q2, q3, q4⟩
  · obtain ⟨n0, hn⟩ := rm_len c3 hL
    obtain ⟨ro, d1, d2, -, -, -, -, -, -, -, d10⟩ := hL.2.2.2.1 g q1
    obtain ⟨e1, e2, e3, e4⟩ := cancel_rm hL hn q1 d2
    have eM : ∀ t i, t ≠ 14 → t ≠ 20 → ms_w (ms_w M 20 0 0) 14 g 0 t i = M t i := fun t i h1 h2 => by rw [ms_w_n (fun z => h1 z.1), ms_w_n (fun z => h2 z.1)]
    refine Or.inl ⟨g, ro, n0, q1, by omega, by omega, d2, q2, opN_of hL, rm_CH hL hn, q3, d10, ⟨Pn, Dn, Rn, relC_0 hC (fun t _ => e3 t 0 0) (fun t ht => eM t 0 (by omega) (by omega)) (by rw [e3, eM 23 0 (by decide) (by decide)]; exact c13) (by rw [eM 23 0 (by decide) (by decide)]; exact c14) ?_, relD_frame hd (fun t i j _ => e3 t i j) (fun t i ht => eM t i (by omega) (by omega)), fun z => mdI_frame (hm (by rw [e3] at z; exact z)) (fun t i j _ => e3 t i j) (fun t i ht => eM t i (by omega) (by omega)), e2⟩, e1⟩
    refine ⟨fun d p z => c15.1 d p (by rw [e4 0 d (by decide) (by decide)] at z; exact z), fun d d' z => c15.2 d d' (by rw [e4 1 d (by decide) (by decide)] at z; exact z)⟩
  · exact Or.inr (Or.inl q)
  · exact Or.inr (Or.inr ⟨g, q1, q2, q3, opN_of hL, q4⟩)
theorem op_roomOf {S : ds_S} {M : ms_S} {nb : Nat} (h : Rel S M nb) (x : Int32) :
    (∃ g ro, g < nb ∧ g < 300 ∧ ro < 8 ∧ S.2.2 4 g = some ro ∧ x = nI g ∧ opN S nb ∧ ¬ mo_in (nI g) 0 (M 29 0 - 1) = 0 ∧ nI ro = M 10 g) ∨
    (¬ (¬ x < 0 ∧ x < 300) ∧ mo_in x 0 (M 29 0 - 1) = 0) ∨ (∃ g, nb ≤ g ∧ g < 300 ∧ x = nI g ∧ opN S nb ∧ mo_in (nI g) 0 (M 29 0 - 1) = 0) := by
  obtain ⟨Pn, Dn, Rn, hC, hd, hm, L, hL⟩ := h
  obtain ⟨c1, c2, c3, c4, c5, c6, c7, c8, c9, c10, c11, c12, c13, c14, c15⟩ := id hC
  rw [c12]
  rcases x_300 (x := x) c4 with ⟨g, q1, q2, q3⟩ | q | ⟨g, q1, q2, q3, q4⟩
  · obtain ⟨ro, d1, d2, d3, -⟩ := hL.2.2.2.1 g q1
    exact Or.inl ⟨g, ro, q1, by omega, by omega, d2, q2, opN_of hL, q3, d3.symm⟩
  · exact Or.inr (Or.inl q)
  · exact Or.inr (Or.inr ⟨g, q1, q2, q3, opN_of hL, q4⟩)
theorem y_rng {y : Int32} (h : ¬ y < 0 ∧ y < 10080) : 0 ≤ y.toInt ∧ y.toInt < 10080 := by
  have x1 := h.1
  have x2 := h.2
  rw [Int32.lt_iff_toInt_lt] at x1 x2
  exact ⟨Int.not_lt.mp x1, x2⟩
theorem op_inside {S : ds_S} {M : ms_S} {nb : Nat} (h : Rel S M nb) (x y : Int32) : nb ≤ 300 ∧ M 29 0 = nI nb ∧
    ((∃ r9 n0, r9 < 8 ∧ x = nI r9 ∧ (¬ nI r9 < 0 ∧ nI r9 < S.1 2 0 0) ∧ (¬ y < 0 ∧ y < 10080) ∧ opCH S nb n0 ∧ ¬ mo_in (nI r9) 0 (M 28 0 - 1) = 0 ∧ ¬ mo_in y 0 10079 = 0 ∧ (match bw_L S y (y + 1) n0 (S.2.2 2 r9) with | none => -1 | some k => nI k) = mm_L M (nI r9) y (y + 1) nb) ∨
     (¬ (¬ x < 0 ∧ x < S.1 2 0 0) ∧ mo_in x 0 (M 28 0 - 1) = 0) ∨ ((¬ x < 0 ∧ x < S.1 2 0 0) ∧ ¬ (¬ y < 0 ∧ y < 10080) ∧ mo_in y 0 10079 = 0)) := by
  obtain ⟨Pn, Dn, Rn, hC, hd, hm, L, hL⟩ := h
  obtain ⟨c1, c2, c3, c4, c5, c6, c7, c8, c9, c10, c11, c12, c13, c14, c15⟩ := id hC
  refine ⟨c4, c12, ?_⟩
  rw [c9, c10, mo_in_n (x := x) (by omega), lt_10079]
  by_cases h1 : ¬ x < 0 ∧ x < nI Rn
  · by_cases h2 : ¬ y < 0 ∧ y < 10080
    · obtain ⟨r9, q1, rfl⟩ := rg_ex (by omega) h1
      obtain ⟨n0, hn⟩ := rm_len c3 hL
      exact Or.inl ⟨r9, n0, by omega, rfl, h1, h2, rm_CH hL hn, fun z => (mo_in_n (by omega)).mp z h1, fun z => z h2, in_eq c3 c4 hL hn (by omega) (y_rng h2).1 (y_rng h2).2⟩
    · exact Or.inr (Or.inr ⟨h1, h2, h2⟩)
  · exact Or.inr (Or.inl ⟨h1, h1⟩)
theorem n_rng {y : Int32} (h : ¬ y < 1 ∧ y ≤ 10080) : 1 ≤ y.toInt ∧ y.toInt ≤ 10080 := by
  have x1 := h.1
  have x2 := h.2
  rw [Int32.lt_iff_toInt_lt] at x1
  rw [Int32.le_iff_toInt_le] at x2
  exact ⟨Int.not_lt.mp x1, x2⟩
theorem rmL_20 {S : ds_S} {M : ms_S} {nb Rn : Nat} {L : Nat → List Nat} (h : rmL S M nb Rn L) (t : Int32) : rmL S (ms_w M 20 0 t) nb Rn L := rmL_frame h (fun _ _ _ _ => rfl) (fun _ _ _ => rfl) (fun t i h1 h2 => ms_w_n (by omega))
theorem op_gap {S : ds_S} {M : ms_S} {nb : Nat} (h : Rel S M nb) (x y n : Int32) : nb ≤ 300 ∧ M 29 0 = nI nb ∧
    ((∃ r9 n0, r9 < 8 ∧ x = nI r9 ∧ (¬ nI r9 < 0 ∧ nI r9 < S.1 2 0 0) ∧ (¬ y < 0 ∧ y < 10080) ∧ (¬ n < 1 ∧ n ≤ 10080) ∧ opCH S nb n0 ∧ ¬ mo_in (nI r9) 0 (M 28 0 - 1) = 0 ∧ ¬ mo_in y 0 10079 = 0 ∧ ¬ mo_in n 1 10080 = 0 ∧ gp_T (ms_w M 20 0 0) (nI r9) n nb 10082 y ∧
        (if 10080 < fr_L S n n0 (S.2.2 2 r9) y + n then -1 else fr_L S n n0 (S.2.2 2 r9) y) = gp_L (ms_w M 20 0 0) (nI r9) n nb 10082 y) ∨
     (¬ (¬ x < 0 ∧ x < S.1 2 0 0) ∧ mo_in x 0 (M 28 0 - 1) = 0) ∨ ((¬ x < 0 ∧ x < S.1 2 0 0) ∧ ¬ (¬ y < 0 ∧ y < 10080) ∧ mo_in y 0 10079 = 0) ∨ ((¬ x < 0 ∧ x < S.1 2 0 0) ∧ (¬ y < 0 ∧ y < 10080) ∧ ¬ (¬ n < 1 ∧ n ≤ 10080) ∧ mo_in n 1 10080 = 0)) := by
  obtain ⟨Pn, Dn, Rn, hC, hd, hm, L, hL⟩ := h
  obtain ⟨c1, c2, c3, c4, c5, c6, c7, c8, c9, c10, c11, c12, c13, c14, c15⟩ := id hC
  refine ⟨c4, c12, ?_⟩
  rw [c9, c10, mo_in_n (x := x) (by omega), lt_10079, mo_in_0 (v := n)]
  by_cases h1 : ¬ x < 0 ∧ x < nI Rn
  · by_cases h2 : ¬ y < 0 ∧ y < 10080
    · by_cases h3 : ¬ n < 1 ∧ n ≤ 10080
      · obtain ⟨r9, q1, rfl⟩ := rg_ex (by omega) h1
        obtain ⟨n0, hn⟩ := rm_len c3 hL
        obtain ⟨g1, g2⟩ := gap_eq c3 c4 (rmL_20 hL 0) hn (show r9 < 8 by omega) (n_rng h3).1 (n_rng h3).2 (y_rng h2).1 (y_rng h2).2
        exact Or.inl ⟨r9, n0, by omega, rfl, h1, h2, h3, rm_CH hL hn, fun z => (mo_in_n (by omega)).mp z h1, fun z => z h2, fun z => z h3, g1, g2.symm⟩
      · exact Or.inr (Or.inr (Or.inr ⟨h1, h2, h3, h3⟩))
    · exact Or.inr (Or.inr (Or.inl ⟨h1, h2, h2⟩))
  · exact Or.inr (Or.inl ⟨h1, h1⟩)
theorem op_waste {S : ds_S} {M : ms_S} {nb : Nat} (h : Rel S M nb) : ∃ Rn n0, Rn ≤ 8 ∧ nb ≤ 300 ∧ S.1 2 0 0 = nI Rn ∧ M 29 0 = nI nb ∧ opCH S nb n0 ∧ wa_L S n0 Rn 0 0 = wm_L M nb := by
  obtain ⟨Pn, Dn, Rn, hC, hd, hm, L, hL⟩ := h
  obtain ⟨c1, c2, c3, c4, c5, c6, c7, c8, c9, c10, c11, c12, c13, c14, c15⟩ := id hC
  obtain ⟨n0, hn⟩ := rm_len c3 hL
  exact ⟨Rn, n0, c3, c4, c9, c12, rm_CH hL hn, waste_eq hL hn⟩
theorem bkZ_2 {S : ds_S} {nb ro n0 : Nat} {a b h9 : Int32} (t i : Nat) (ht : t = 0 ∨ t = 1) : (bk_Z S nb ro n0 a b h9).2.2 t i = S.2.2 t i := by
  have e : ∀ bf, (ab_F (bk_S S nb ro a b h9) ro nb bf).2.2 t i = S.2.2 t i := fun bf => by
    cases bf with
    | none =>
      show ds_u2 (ds_u2 (ds_u2 (ds_u2 S.2.2 4 nb (some ro)) 3 nb none) 3 nb _) 2 ro (some nb) t i = _
      rw [ds_u2_n (by omega), ds_u2_n (by omega), ds_u2_n (by omega), ds_u2_n (by omega)]
    | some k =>
      show ds_u2 (ds_u2 (ds_u2 (ds_u2 S.2.2 4 nb (some ro)) 3 nb none) 3 nb _) 3 k (some nb) t i = _
      rw [ds_u2_n (by omega), ds_u2_n (by omega), ds_u2_n (by omega), ds_u2_n (by omega)]
  show ds_u2 (ab_F (bk_S S nb ro a b h9) ro nb (ab_L (bk_S S nb ro a b h9) nb n0 none ((bk_S S nb ro a b h9).2.2 2 ro))).2.2 5 nb (some nb) t i = _
  rw [ds_u2_n (by omega)]
  exact e _
theorem op_book {S : ds_S} {M : ms_S} {nb : Nat} (h : Rel S M nb) (a b h9 : Int32) : nb ≤ 300 ∧ S.1 3 0 0 = nI nb ∧ M 29 0 = nI nb ∧ (∀ j k, S.2.2 5 j = some k → k < nb) ∧
    ((∃ Rn n0, Rn ≤ 8 ∧ nb < 300 ∧ S.1 2 0 0 = nI Rn ∧ M 28 0 = nI Rn ∧ opCH S nb n0 ∧ (¬ h9 < 1 ∧ h9 ≤ 200) ∧ (¬ a < 0 ∧ b ≤ 10080 ∧ a < b) ∧ S.1 3 0 0 < 300 ∧ ¬ mo_in h9 1 200 = 0 ∧ ¬ mo_in a 0 10080 = 0 ∧ ¬ mo_in b 0 10080 = 0 ∧ a < b ∧
        ((br_L S a b h9 n0 Rn 0 none = none ∧ bk_L (ms_w M 20 0 0) a b h9 nb Rn 0 none = none) ∨
         ∃ ro, ro < 8 ∧ br_L S a b h9 n0 Rn 0 none = some ro ∧ bk_L (ms_w M 20 0 0) a b h9 nb Rn 0 none = some ro ∧ Rel (bk_Z S nb ro n0 a b h9) (bk_F (ms_w M 20 0 0) a b h9 nb ro) (nb + 1))) ∨
     (¬ (¬ h9 < 1 ∧ h9 ≤ 200) ∧ mo_in h9 1 200 = 0) ∨ ((¬ h9 < 1 ∧ h9 ≤ 200) ∧ ¬ (¬ a < 0 ∧ b ≤ 10080 ∧ a < b) ∧ (mo_in a 0 10080 = 0 ∨ mo_in b 0 10080 = 0 ∨ ¬ a < b)) ∨
     ((¬ h9 < 1 ∧ h9 ≤ 200) ∧ (¬ a < 0 ∧ b ≤ 10080 ∧ a < b) ∧ ¬ S.1 3 0 0 < 300 ∧ ¬ mo_in h9 1 200 = 0 ∧ ¬ mo_in a 0 10080 = 0 ∧ ¬ mo_in b 0 10080 = 0 ∧ a < b ∧ M 29 0 = 300)) := by
  obtain ⟨Pn, Dn, Rn, hC, hd, hm, L, hL⟩ := h
  obtain ⟨c1, c2, c3, c4, c5, c6, c7, c8, c9, c10, c11, c12, c13, c14, c15⟩ := id hC
  refine ⟨c4, c11, c12, fun j k e => ?_, ?_⟩
  · rw [hL.2.2.2.2.2.2 j] at e
    split at e
    · cases e; assumption
    · cases e
  · rw [c11, c12, mo_in_0 (v := h9), mo_in_0 (v := a), mo_in_0 (v := b)]
    by_cases h0 : ¬ h9 < 1 ∧ h9 ≤ 200
    · by_cases h1 : ¬ a < 0 ∧ b ≤ 10080 ∧ a < b
      · have ha : ¬ a < 0 ∧ a ≤ 10080 := ⟨h1.1, Int32.le_trans (Int32.le_of_lt h1.2.2) h1.2.1⟩
        have hb : ¬ b < 0 ∧ b ≤ 10080 := ⟨fun z => h1.1 (Int32.lt_trans h1.2.2 z), h1.2.1⟩
        by_cases h300 : nb = 300
        · subst h300
          exact Or.inr (Or.inr (Or.inr ⟨h0, h1, by decide, fun z => z h0, fun z => z ha, fun z => z hb, h1.2.2, rfl⟩))
        · obtain ⟨n0, hn⟩ := rm_len c3 hL
          refine Or.inl ⟨Rn, n0, c3, by omega, c9, c10, rm_CH hL hn, h0, h1, (nI_ltI (by omega) (by decide)).mpr (show nb < 300 by omega), fun z => z h0, fun z => z ha, fun z => z hb, h1.2.2, ?_⟩
          obtain ⟨e1, e2⟩ := br_eq c3 c4 (rmL_20 hL 0) hn a b h9 Rn 0 none (by omega) (fun j z => by cases z)
          cases e : br_L S a b h9 n0 Rn 0 none with
          | none => exact Or.inl ⟨rfl, by rw [← e1, e]⟩
          | some ro =>
            obtain ⟨f1, f2⟩ := e2 ro e
            have f3 := f2.resolve_left (fun z => by cases z)
            have xa := h1.1
            have xb := h1.2.1
            have xab := h1.2.2
            rw [Int32.lt_iff_toInt_lt] at xa xab
            rw [Int32.le_iff_toInt_le] at xb
            refine Or.inr ⟨ro, by omega, rfl, by rw [← e1, e], Pn, Dn, Rn, ?_, ?_, ?_, book_rm c3 hL hn f1 f3 (Int.not_lt.mp xa) xab xb⟩
            · have eS : ∀ t, t ≠ 3 → t ≤ 4 → (bk_Z S nb ro n0 a b h9).1 t 0 0 = S.1 t 0 0 := fun t h1 h2 => by
                rw [bkZ_1, if_neg (fun z => h1 z.1), if_neg (by omega), if_neg (by omega), if_neg (by omega)]
              have eM : ∀ t, t ≥ 21 → t ≠ 29 → bk_F (ms_w M 20 0 0) a b h9 nb ro t 0 = M t 0 := fun t h1 h2 => by
                unfold bk_F
                rw [ms_w_n (by omega), ms_w_n (by omega), ms_w_n (by omega), ms_w_n (by omega), ms_w_n (by omega), ms_w_n (by omega), ms_w_n (by omega)]
              refine ⟨c1, c2, c3, by omega, by rw [eS 0 (by decide) (by decide)]; exact c5, by rw [eM 21 (by decide) (by decide)]; exact c6, by rw [eS 1 (by decide) (by decide)]; exact c7, by rw [eM 22 (by decide) (by decide)]; exact c8, by rw [eS 2 (by decide) (by decide)]; exact c9, by rw [eM 28 (by decide) (by decide)]; exact c10, ?_, ?_, by rw [eS 4 (by decide) (by decide), eM 23 (by decide) (by decide)]; exact c13, by rw [eM 23 (by decide) (by decide)]; exact c14, ?_⟩
              · rw [bkZ_1, if_pos ⟨rfl, rfl, rfl⟩, nI_succ]
              · unfold bk_F
                rw [ms_w_s, nI_succ]
              · exact ⟨fun d p z => c15.1 d p (by rw [bkZ_2 0 d (Or.inl rfl)] at z; exact z), fun d d' z => c15.2 d d' (by rw [bkZ_2 1 d (Or.inr rfl)] at z; exact z)⟩
            · refine relD_frame hd (fun t i j ht => ?_) (fun t i ht => ?_)
              · rw [bkZ_1, if_neg (by omega), if_neg (by omega), if_neg (by omega), if_neg (by omega)]
              · unfold bk_F
                rw [ms_w_n (by omega), ms_w_n (by omega), ms_w_n (by omega), ms_w_n (by omega), ms_w_n (by omega), ms_w_n (by omega), ms_w_n (by omega)]
            · intro z
              rw [bkZ_1, if_neg (by omega), if_neg (by omega), if_neg (by omega), if_neg (by omega)] at z
              refine mdI_frame (hm z) (fun t i j ht => ?_) (fun t i ht => ?_)
              · rw [bkZ_1, if_neg (by omega), if_neg (by omega), if_neg (by omega), if_neg (by omega)]
              · unfold bk_F
                rw [ms_w_n (by omega), ms_w_n (by omega), ms_w_n (by omega), ms_w_n (by omega), ms_w_n (by omega), ms_w_n (by omega), ms_w_n (by omega)]
      · refine Or.inr (Or.inr (Or.inl ⟨h0, h1, ?_⟩))
        by_cases x1 : a < 0
        · exact Or.inl (fun z => z.1 x1)
        · by_cases x2 : b ≤ 10080
          · exact Or.inr (Or.inr (fun z => h1 ⟨x1, x2, z⟩))
          · exact Or.inr (Or.inl (fun z => x2 z.2))
    · exact Or.inr (Or.inl ⟨h0, h0⟩)
