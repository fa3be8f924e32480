/-! PURE: seating -/
theorem mt_V {N : Nat} {wo : Int32} (hN : N ≤ 14) : ∀ (n k : Nat) (S : ds_S), k + n ≤ 10 → ma_V S → ma_V (mt_L N wo n k S).2
  | 0, _, _, _, h => h
  | n + 1, k, S, hk, h => by
    have hV : ma_V (ap_L N k N (ds_wJ (ss_F S N) 0 k 0) k none).2 := ap_LV (by omega) hN N _ k none (ss_V h N) (fun d z => by cases z)
    unfold mt_L
    split
    · exact mt_V hN n (k + 1) S (by omega) h
    · split
      · exact hV
      · exact mt_V hN n (k + 1) _ (by omega) hV
theorem tp_n (S : ds_S) : ∀ k, (tp_F S k).2 = S.2 ∧ ∀ t i j, t ≠ 13 → (tp_F S k).1 t i j = S.1 t i j
  | 0 => ⟨rfl, fun _ _ _ _ => rfl⟩
  | k + 1 => by
    obtain ⟨h1, h2⟩ := tp_n S k
    unfold tp_F
    rw [h1]
    cases S.2.2 0 k with
    | none => exact ⟨h1, h2⟩
    | some p => exact ⟨h1, fun t i j ht => by show (ds_wI (tp_F S k) 13 p 0 (nI k)).1 t i j = _; rw [w3_n (fun z => ht z.1)]; exact h2 t i j ht⟩
theorem rl_of {S : ds_S} {M : ms_S} {Pn Dn : Nat} (hP : Pn ≤ 10) (hD : Dn ≤ 14) (h : relD S M Pn Dn) : rl M S Pn Dn := fun p hp => ⟨h.2.2.1 p hp, fun d hd => ⟨(h.2.1 p d (by omega) (by omega)).1, (h.2.1 p d (by omega) (by omega)).2.1⟩⟩
theorem op_seat {S : ds_S} {M : ms_S} {nb : Nat} (h : Rel S M nb) : ∃ (Pn Dn : Nat) (u1 : ds_S) (w1 : Int32), Pn ≤ 10 ∧ Dn ≤ 14 ∧ S.1 1 0 0 = nI Pn ∧ S.1 0 0 0 = nI Dn ∧ M 22 0 = nI Pn ∧ M 21 0 = nI Dn ∧ ma_V S ∧ mt_T Dn (-1) Pn 0 (cs_F (ds_wI S 6 0 0 (nI Dn)) Dn) ∧ mt_L Dn (-1) Pn 0 (cs_F (ds_wI S 6 0 0 (nI Dn)) Dn) = (w1, u1) ∧
    u1.1 1 0 0 = S.1 1 0 0 ∧ u1.1 0 0 0 = S.1 0 0 0 ∧ u1.1 6 0 0 = nI Dn ∧ ma_V u1 ∧ (tp_F u1 Dn).1 1 0 0 = S.1 1 0 0 ∧ (tp_F u1 Dn).1 0 0 0 = S.1 0 0 0 ∧
    (¬ se_B M Pn Dn 5 0 ≤ -1000000000 → so_T Dn Pn 0 0 (se_1 M Pn Dn) ∧ mwT Pn Dn 16 0 (mwk_F (se_2 M Pn Dn) Pn)) ∧
    (∀ (r' : Int32) (u' : ms_S), ((se_B M Pn Dn 5 0 ≤ -1000000000 ∧ u' = ms_w (se_B M Pn Dn) 23 0 0 ∧ r' = -1) ∨ (¬ se_B M Pn Dn 5 0 ≤ -1000000000 ∧ u' = se_3 M Pn Dn 16 ∧ r' = u' 24 0)) →
      w1 = r' ∧ Rel (if w1 = -1 then ds_wI u1 4 0 0 0 else ds_wI (ds_wI (pl_L Pn Dn 15 0 (sa_F (tp_F u1 Dn) Pn)) 4 0 0 1) 5 0 0 w1) u' nb) := by
  obtain ⟨Pn, Dn, Rn, hC, hd, hm, hr⟩ := h
  obtain ⟨c1, c2, c3, c4, c5, c6, c7, c8, c9, c10, c11, c12, c13, c14, c15⟩ := id hC
  obtain ⟨a1, a2, a3, a4, a5, a6⟩ := id hd
  have hl := rl_of c1 c2 hd
  obtain ⟨e1, e2, e3, e4, e5⟩ := mt_end (S := S) (wo := -1) c2 c1 a1
  have hV := mt_V (wo := -1) c2 Pn 0 (mt_0 S Dn) (by omega) (cs_V (S := ds_wI S 6 0 0 (nI Dn)) c15 Dn)
  have e6 : mt_L Dn (-1) Pn 0 (cs_F (ds_wI S 6 0 0 (nI Dn)) Dn) = ((mt_L Dn (-1) Pn 0 (mt_0 S Dn)).1, (mt_L Dn (-1) Pn 0 (mt_0 S Dn)).2) := rfl
  have htp := tp_n (mt_L Dn (-1) Pn 0 (mt_0 S Dn)).2 Dn
  refine ⟨Pn, Dn, (mt_L Dn (-1) Pn 0 (mt_0 S Dn)).2, (mt_L Dn (-1) Pn 0 (mt_0 S Dn)).1, c1, c2, c7, c5, c8, c6, c15, e1, e6, e2 1 0 0 (by decide) (by decide), e2 0 0 0 (by decide) (by decide), e3, hV, (htp.2 1 0 0 (by decide)).trans (e2 1 0 0 (by decide) (by decide)), (htp.2 0 0 0 (by decide)).trans (e2 0 0 0 (by decide) (by decide)), ?_⟩
  generalize mt_L Dn (-1) Pn 0 (mt_0 S Dn) = R at *
  rcases e5 with ⟨r1, hno⟩ | ⟨g, g1, g2, g3, g4, g5⟩
  · have hn := seat_no c1 c2 hl a1 hno
    refine ⟨fun z => absurd hn z, fun r' u' hp => ?_⟩
    rcases hp with ⟨-, rfl, rfl⟩ | ⟨z, -, -⟩
    · refine ⟨r1, ?_⟩
      rw [if_pos r1]
      have eM : ∀ t i, t ≠ 5 → t ≠ 6 → t ≠ 25 → t ≠ 20 → t ≠ 23 → ms_w (se_B M Pn Dn) 23 0 0 t i = M t i := fun t i h1 h2 h3 h4 h5 => by rw [ms_w_n (fun z => h5 z.1)]; exact se_Bn M Pn Dn t i h1 h2 h3 h4
      have eS : ∀ t i j, t ≠ 15 → t ≠ 6 → t ≠ 4 → (ds_wI R.2 4 0 0 0).1 t i j = S.1 t i j := fun t i j h1 h2 h3 => by rw [w3_n (fun z => h3 z.1)]; exact e2 t i j h1 h2
      exact ⟨Pn, Dn, Rn, relC_0 hC (fun t ht => eS t 0 0 (by omega) (by omega) (by omega)) (fun t ht => eM t 0 (by omega) (by omega) (by omega) (by omega) (by omega)) (by rw [w3_s, ms_w_s]) (by rw [ms_w_s]; exact Or.inl rfl) hV, relD_frame hd (fun t i j ht => eS t i j (by omega) (by omega) (by omega)) (fun t i ht => eM t i (by omega) (by omega) (by omega) (by omega) (by omega)), fun z => absurd (w3_s _ 4 0 0 0) z, rmI_frame hr (fun t i j ht => eS t i j (by omega) (by omega) (by omega)) (fun t i ht => e4 t i (by omega) (by omega)) (fun t i h1 h2 => eM t i (by omega) (by omega) (by omega) (by omega) (by omega))⟩
    · exact absurd hn z
  · obtain ⟨s1, s2, s3, s4⟩ := seat_end c1 c2 hl a1 g1 g2
    obtain ⟨m, m1, m2, m3, m4, m5⟩ := mV_W (-1) c2 a1 g1
    have hmb : ∀ p, p < Pn → mb (-1) Pn p := fun p hp => ⟨hp, nI_ne p (by omega)⟩
    have hg1 : ∀ p, p < Pn → g p < Dn := fun p hp => (g4 p (by omega) (hmb p hp)).1
    have hg2 : ∀ p q, p < Pn → q < Pn → g p = g q → p = q := fun p q hp hq e => g1.2 p q (by omega) (by omega) (hmb p hp) (hmb q hq) e
    have hw1 : ¬ R.1 = -1 := fun z => by
      rw [z] at g3
      have : ((-1 : Int32)).toInt = -1 := rfl
      unfold mW at m4
      omega
    have htq := tp_p R.2 (N := Dn) (fun d d' p hd hd' x1 x2 => by
      have y1 := (g5 d p hd x1).2.2
      have y2 := (g5 d' p hd' x2).2.2
      omega) Dn (Nat.le_refl _)
    have h12 : ∀ p, (tp_F R.2 Dn).1 12 p 0 = S.1 12 p 0 := fun p => (htp.2 12 p 0 (by decide)).trans (e2 12 p 0 (by decide) (by decide))
    have h3 : ∀ p, se_2 M Pn Dn 3 p = M 3 p := fun p => se_2n M Pn Dn 3 p (by decide) (by decide) (by decide) (by decide) (by decide) (by decide) (by decide)
    obtain ⟨w1, c, w2, w3, w4, w5, w6, w7, w8, w9, w10⟩ := walk_end (S := tp_F R.2 Dn) (M := se_2 M Pn Dn) c1 c2 hg1 hg2 (fun p hp => ⟨htq.2.2 (g p) p (hg1 p hp) (g4 p (by omega) (hmb p hp)).2, s3 p hp⟩) (fun p hp => by rw [h3, h12]; exact a3 p hp) (fun p hp => by rw [h12]; exact a5 p hp) (fun p q hp hq z => by rw [h12, h12] at z; rw [h12]; exact a6 p q hp hq z)
    refine ⟨fun _ => ⟨s2, w1⟩, fun r' u' hp => ?_⟩
    rcases hp with ⟨z, -, -⟩ | ⟨-, rfl, rfl⟩
    · exact absurd z s1
    · have e24 : se_3 M Pn Dn 16 24 0 = mo_wi (se_B M Pn Dn 5 0) := by
        show mwl Pn Dn 16 0 (mwk_F (se_2 M Pn Dn) Pn) 24 0 = _
        rw [w5 24 0 (by decide) (by decide) (by decide) (by decide)]
        unfold se_2
        rw [so_n Dn 24 0 (by decide)]
        unfold se_1
        rw [ms_w_s]
      have hr' : R.1 = se_3 M Pn Dn 16 24 0 := by
        apply Int32.toInt_inj.mp
        rw [e24, s4, g3]
        rfl
      refine ⟨hr', ?_⟩
      rw [if_neg hw1]
      have eM : ∀ t i, t ≠ 5 → t ≠ 6 → t ≠ 25 → t ≠ 20 → t ≠ 23 → t ≠ 24 → t ≠ 4 → t ≠ 7 → t ≠ 8 → t ≠ 26 → t ≠ 27 → se_3 M Pn Dn 16 t i = M t i := fun t i h1 h2 h3 h4 h5 h6 h7 h8 h9 h10 h11 => (w5 t i h8 h9 h10 h11).trans (se_2n M Pn Dn t i h1 h2 h3 h4 h5 h6 h7)
      have eS : ∀ t i j, t ≠ 15 → t ≠ 6 → t ≠ 4 → t ≠ 5 → t ≠ 13 → t ≠ 7 → t ≠ 8 → t ≠ 9 → t ≠ 14 → t ≠ 16 → t ≠ 17 → t ≠ 18 → (ds_wI (ds_wI (pl_L Pn Dn 15 0 (sa_F (tp_F R.2 Dn) Pn)) 4 0 0 1) 5 0 0 R.1).1 t i j = S.1 t i j := fun t i j h1 h2 h3 h4 h5 h6 h7 h8 h9 h10 h11 h12 => by
        rw [w3_n (fun z => h4 z.1), w3_n (fun z => h3 z.1), w3 t i j h6 h7 h8 h9 h10 h11 h12, htp.2 t i j h5]
        exact e2 t i j h1 h2
      have eS3 : ∀ t i j, t ≠ 4 → t ≠ 5 → (ds_wI (ds_wI (pl_L Pn Dn 15 0 (sa_F (tp_F R.2 Dn) Pn)) 4 0 0 1) 5 0 0 R.1).1 t i j = (pl_L Pn Dn 15 0 (sa_F (tp_F R.2 Dn) Pn)).1 t i j := fun t i j h1 h2 => by rw [w3_n (fun z => h2 z.1), w3_n (fun z => h1 z.1)]
      have e2' : (ds_wI (ds_wI (pl_L Pn Dn 15 0 (sa_F (tp_F R.2 Dn) Pn)) 4 0 0 1) 5 0 0 R.1).2 = R.2.2 := w4.trans htp.1
      have e23 : se_3 M Pn Dn 16 23 0 = 1 := by
        show mwl Pn Dn 16 0 (mwk_F (se_2 M Pn Dn) Pn) 23 0 = _
        rw [w5 23 0 (by decide) (by decide) (by decide) (by decide)]
        unfold se_2
        rw [so_n Dn 23 0 (by decide)]
        unfold se_1
        rw [ms_w_n (by omega), ms_w_s]
      have e13 : ∀ p, p < Pn → (ds_wI (ds_wI (pl_L Pn Dn 15 0 (sa_F (tp_F R.2 Dn) Pn)) 4 0 0 1) 5 0 0 R.1).1 13 p 0 = nI (g p) := fun p hp => by
        rw [eS3 13 p 0 (by decide) (by decide), w3 13 p 0 (by decide) (by decide) (by decide) (by decide) (by decide) (by decide) (by decide)]
        exact htq.2.2 (g p) p (hg1 p hp) (g4 p (by omega) (hmb p hp)).2
      have e4' : ∀ p, p < Pn → se_3 M Pn Dn 16 4 p = nI (g p) := fun p hp => (w5 4 p (by decide) (by decide) (by decide) (by decide)).trans (s3 p hp)
      refine ⟨Pn, Dn, Rn, relC_0 hC (fun t ht => eS t 0 0 (by omega) (by omega) (by omega) (by omega) (by omega) (by omega) (by omega) (by omega) (by omega) (by omega) (by omega) (by omega)) (fun t ht => eM t 0 (by omega) (by omega) (by omega) (by omega) (by omega) (by omega) (by omega) (by omega) (by omega) (by omega) (by omega)) (by rw [w3_n (by omega), w3_s, e23]) (by rw [e23]; exact Or.inr rfl) ?_, relD_frame hd (fun t i j ht => eS t i j (by omega) (by omega) (by omega) (by omega) (by omega) (by omega) (by omega) (by omega) (by omega) (by omega) (by omega) (by omega)) (fun t i ht => eM t i (by omega) (by omega) (by omega) (by omega) (by omega) (by omega) (by omega) (by omega) (by omega) (by omega) (by omega)), fun _ => ?_, rmI_frame hr (fun t i j ht => eS t i j (by omega) (by omega) (by omega) (by omega) (by omega) (by omega) (by omega) (by omega) (by omega) (by omega) (by omega) (by omega)) (fun t i ht => by rw [e2']; exact e4 t i (by omega) (by omega)) (fun t i h1 h2 => eM t i (by omega) (by omega) (by omega) (by omega) (by omega) (by omega) (by omega) (by omega) (by omega) (by omega) (by omega))⟩
      · show (∀ d p, (ds_wI (ds_wI (pl_L Pn Dn 15 0 (sa_F (tp_F R.2 Dn) Pn)) 4 0 0 1) 5 0 0 R.1).2.2 0 d = some p → p < 10) ∧ (∀ d d', (ds_wI (ds_wI (pl_L Pn Dn 15 0 (sa_F (tp_F R.2 Dn) Pn)) 4 0 0 1) 5 0 0 R.1).2.2 1 d = some d' → d' < 14)
        rw [e2']
        exact hV
      · refine ⟨by rw [w3_s]; exact hr', ⟨g, ?_⟩, fun p hp => ⟨(e13 p hp).trans (e4' p hp).symm, g p, hg1 p hp, e13 p hp⟩, fun p q hp hq z => ?_, c, w2, by rw [eS3 7 0 0 (by decide) (by decide)]; exact w6, w7, by rw [eS3 8 0 0 (by decide) (by decide)]; exact w8, fun j hj => by rw [eS3 16 0 j (by decide) (by decide), eS3 17 0 j (by decide) (by decide), eS3 18 0 j (by decide) (by decide)]; exact w10 j hj⟩
        · have eal : alN (ds_wI (ds_wI (pl_L Pn Dn 15 0 (sa_F (tp_F R.2 Dn) Pn)) 4 0 0 1) 5 0 0 R.1) = alN S := funext (fun p => funext (fun d => by
            unfold alN
            rw [eS 11 p d (by decide) (by decide) (by decide) (by decide) (by decide) (by decide) (by decide) (by decide) (by decide) (by decide) (by decide) (by decide)]))
          rw [eal]
          exact g1
        · rw [e13 p hp, e13 q hq] at z
          exact hg2 p q hp hq (nI_14 (by have := hg1 p hp; omega) (by have := hg1 q hq; omega) z)
theorem op_worthOf {S : ds_S} {M : ms_S} {nb : Nat} (h : Rel S M nb) (x : Int32) :
    (∃ p9 Pn Dn, p9 < 10 ∧ x = nI p9 ∧ (¬ nI p9 < 0 ∧ nI p9 < S.1 1 0 0) ∧ ¬ S.1 4 0 0 = 0 ∧ ¬ mo_in (nI p9) 0 (M 22 0 - 1) = 0 ∧ ¬ M 23 0 = 0 ∧ Pn ≤ 10 ∧ Dn ≤ 14 ∧ S.1 1 0 0 = nI Pn ∧ S.1 0 0 0 = nI Dn ∧ M 22 0 = nI Pn ∧ M 21 0 = nI Dn ∧ ma_V S ∧ mt_T Dn (nI p9) Pn 0 (cs_F (ds_wI S 6 0 0 (nI Dn)) Dn) ∧
        Rel (mt_L Dn (nI p9) Pn 0 (cs_F (ds_wI S 6 0 0 (nI Dn)) Dn)).2 (fb_S (fb_O (ms_w M 20 0 0) (nI p9) Pn).2 Dn (2 ^ Dn) (fb_O (ms_w M 20 0 0) (nI p9) Pn).1) nb ∧
        S.1 5 0 0 - (mt_L Dn (nI p9) Pn 0 (cs_F (ds_wI S 6 0 0 (nI Dn)) Dn)).1 = M 24 0 - mo_wi ((fb_S (fb_O (ms_w M 20 0 0) (nI p9) Pn).2 Dn (2 ^ Dn) (fb_O (ms_w M 20 0 0) (nI p9) Pn).1) 5 0)) ∨
    (¬ (¬ x < 0 ∧ x < S.1 1 0 0) ∧ mo_in x 0 (M 22 0 - 1) = 0) ∨ ((¬ x < 0 ∧ x < S.1 1 0 0) ∧ S.1 4 0 0 = 0 ∧ ¬ mo_in x 0 (M 22 0 - 1) = 0 ∧ M 23 0 = 0) := by
  obtain ⟨Pn, Dn, Rn, hC, hd, hm, hr⟩ := h
  obtain ⟨c1, c2, c3, c4, c5, c6, c7, c8, c9, c10, c11, c12, c13, c14, c15⟩ := id hC
  obtain ⟨a1, a2, a3, a4, a5, a6⟩ := id hd
  rw [c7, c8, mo_in_n (x := x) (by omega)]
  by_cases h1 : ¬ x < 0 ∧ x < nI Pn
  · by_cases e : S.1 4 0 0 = 0
    · exact Or.inr (Or.inr ⟨h1, e, fun z => z h1, by rw [← c13]; exact e⟩)
    · obtain ⟨p9, q1, rfl⟩ := rg_ex (by omega) h1
      have hl := rl_of c1 c2 hd
      obtain ⟨e1, e2, e3, e4, e5⟩ := mt_end (S := S) (wo := nI p9) c2 c1 a1
      have hV := mt_V (wo := nI p9) c2 Pn 0 (mt_0 S Dn) (by omega) (cs_V (S := ds_wI S 6 0 0 (nI Dn)) c15 Dn)
      have hl0 : rl (ms_w M 20 0 0) S Pn Dn := fun p hp => ⟨(ms_w_n (by omega)).trans (hl p hp).1, fun d hd => ⟨(ms_w_n (by omega)).trans ((hl p hp).2 d hd).1, (ms_w_n (by omega)).trans ((hl p hp).2 d hd).2⟩⟩
      obtain ⟨b1, ⟨g0, b2⟩, -⟩ := id (hm e)
      rcases e5 with ⟨-, hno⟩ | ⟨g, g1, g2, g3, g4, g5⟩
      · exact absurd (as_sub b2 (fun p hp => ⟨hp.1, nI_ne p (by have := hp.1; omega)⟩)) (hno g0)
      · obtain ⟨w1, w2, w3, w4⟩ := wi_end c1 c2 hl0 a1 g1 g2
        have eM : ∀ t i, t ≠ 5 → t ≠ 6 → t ≠ 25 → t ≠ 20 → fb_S (fb_O (ms_w M 20 0 0) (nI p9) Pn).2 Dn (2 ^ Dn) (fb_O (ms_w M 20 0 0) (nI p9) Pn).1 t i = M t i := fun t i h1 h2 h3 h4 => by
          rw [fb_Sn _ _ t i h1, fb_On _ _ t i h2 h3, ms_w_n (fun z => h4 z.1)]
        refine Or.inl ⟨p9, Pn, Dn, by omega, rfl, h1, e, fun z => (mo_in_n (by omega)).mp z h1, by rw [← c13]; exact e, c1, c2, rfl, c5, rfl, c6, c15, e1, ⟨Pn, Dn, Rn, relC_0 hC (fun t ht => e2 t 0 0 (by omega) (by omega)) (fun t ht => eM t 0 (by omega) (by omega) (by omega) (by omega)) (by rw [eM 23 0 (by decide) (by decide) (by decide) (by decide)]; exact (e2 4 0 0 (by decide) (by decide)).trans c13) (by rw [eM 23 0 (by decide) (by decide) (by decide) (by decide)]; exact c14) hV, relD_frame hd (fun t i j ht => e2 t i j (by omega) (by omega)) (fun t i ht => eM t i (by omega) (by omega) (by omega) (by omega)), fun _ => mdI_frame (hm e) (fun t i j ht => e2 t i j (by omega) (by omega)) (fun t i ht => eM t i (by omega) (by omega) (by omega) (by omega)), rmI_frame hr (fun t i j ht => e2 t i j (by omega) (by omega)) (fun t i ht => e4 t i (by omega) (by omega)) (fun t i h1 h2 => eM t i (by omega) (by omega) (by omega) (by omega))⟩, ?_⟩
        rw [b1]
        congr 1
        apply Int32.toInt_inj.mp
        rw [w1]
        exact g3
  · exact Or.inr (Or.inl ⟨h1, h1⟩)
