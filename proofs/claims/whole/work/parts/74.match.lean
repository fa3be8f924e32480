/-! PURE: the matcher's answer: the cheapest seating of the members, or there is none -/
def mb (wo : Int32) (k p : Nat) : Prop := p < k ∧ ¬ nI p = wo
theorem as_sub {N D : Nat} {M M' : Nat → Prop} {al : Nat → Nat → Prop} {g : Nat → Nat} (h : as_ok N D M al g) (hs : ∀ p, M' p → M p) : as_ok N D M' al g := ⟨fun p hp hM => h.1 p hp (hs p hM), fun p q hp hq h1 h2 e => h.2 p q hp hq (hs p h1) (hs q h2) e⟩
theorem mb_same {wo : Int32} {k : Nat} (h : nI k = wo) : mb wo (k + 1) = mb wo k := funext (fun p => propext ⟨fun z => ⟨by
  have h1 := z.1
  have : p ≠ k := fun e => z.2 (e ▸ h)
  omega, z.2⟩, fun z => ⟨by have := z.1; omega, z.2⟩⟩)
theorem mb_more {wo : Int32} {k : Nat} (h : ¬ nI k = wo) : (fun p => mb wo k p ∨ p = k) = mb wo (k + 1) := funext (fun p => propext ⟨fun z => by
  rcases z with z | rfl
  · exact ⟨by have := z.1; omega, z.2⟩
  · exact ⟨by omega, h⟩, fun z => by
  by_cases e : p = k
  · exact Or.inr e
  · exact Or.inl ⟨by have := z.1; omega, z.2⟩⟩)
theorem mt_main {N : Nat} {Sb : ds_S} {wo : Int32} (hN : N ≤ 14) (hw : wishR Sb) : ∀ (n k : Nat) (S : ds_S), k + n ≤ 10 → exc15 Sb S → hu_I 10 N (cI Sb) (alN Sb) c54 (mb wo k) (S.2.2 0) (su S) (sv S) →
    mt_T N wo n k S ∧ exc15 Sb (mt_L N wo n k S).2 ∧ (∀ t i, t ≠ 0 → t ≠ 1 → (mt_L N wo n k S).2.2.2 t i = S.2.2 t i) ∧
    (((mt_L N wo n k S).1 = -1 ∧ ∀ g, ¬ as_ok 10 N (mb wo (k + n)) (alN Sb) g) ∨
     ((mt_L N wo n k S).1 = wo_F (mt_L N wo n k S).2 N ∧ hu_I 10 N (cI Sb) (alN Sb) c54 (mb wo (k + n)) ((mt_L N wo n k S).2.2.2 0) (su (mt_L N wo n k S).2) (sv (mt_L N wo n k S).2))) := by
  intro n
  induction n with
  | zero => intro k S _ hex hI; exact ⟨trivial, hex, fun _ _ _ _ => rfl, Or.inr ⟨rfl, hI⟩⟩
  | succ n ih =>
    intro k S hk hex hI
    have ek : k + (n + 1) = k + 1 + n := by omega
    by_cases hwo : nI k = wo
    · have e : mt_L N wo (n + 1) k S = mt_L N wo n (k + 1) S := by
        show (if nI k = wo then _ else _) = _
        rw [if_pos hwo]
      obtain ⟨a1, a2, a3, a4⟩ := ih (k + 1) S (by omega) hex (by rw [mb_same hwo]; exact hI)
      rw [e, ek]
      exact ⟨⟨fun _ => a1, fun z => absurd hwo z⟩, a2, a3, a4⟩
    · obtain ⟨h1, h2, h3, h4, h5, h6⟩ := ss_p S N
      have e0 : (ds_wJ (ss_F S N) 0 k 0).2.2 0 = S.2.2 0 := funext (fun i => h5 0 i (by decide))
      have ev : sv (ds_wJ (ss_F S N) 0 k 0) = sv S := funext (fun i => by
        unfold sv
        rw [wJ_n (by omega), h3 1 i (by decide)])
      have eu : ∀ p, p ≠ k → su (ds_wJ (ss_F S N) 0 k 0) p = su S p := fun p hp => by
        unfold su
        rw [wJ_n (fun z => hp z.2), h3 0 p (by decide)]
      have eu0 : su (ds_wJ (ss_F S N) 0 k 0) k = 0 := by
        unfold su
        have : (ds_wJ (ss_F S N) 0 k 0).2.1 0 k = 0 := ds_u2_s _ _ _ _
        rw [this]
        rfl
      have er : ∀ d, ¬ rcN N (ds_wJ (ss_F S N) 0 k 0) d := fun d hr => hr.2 (h2 d hr.1)
      have ed : ∀ d, d < N → sd (ds_wJ (ss_F S N) 0 k 0) d = f62 := fun d hd => by
        unfold sd
        rw [wJ_n (by omega), h4 d hd]
        rfl
      have hqM : ¬ mb wo k k := fun z => Nat.lt_irrefl k z.1
      have hst := hs_start (rk := fun _ => 0) (bef := (ds_wJ (ss_F S N) 0 k 0).2.2 1) (rc := rcN N (ds_wJ (ss_F S N) 0 k 0)) (N := 10) (D := N) (by omega) hqM (by decide) (cI_all hN hw) hI eu eu0 ed er
      have hJ : ap_J N k Sb (mb wo k) (ds_wJ (ss_F S N) 0 k 0) k none 0 (fun _ => 0) (fun _ => False) := by
        refine ⟨fun t i j ht => (h1 t i j ht).trans (hex t i j ht), ?_, Or.inl ⟨rfl, rfl⟩, fun p _ ht => ?_, ?_⟩
        · rw [e0, ev]
          exact hst
        · rcases ht with e | ⟨d, _, hr, _⟩
          · exact Or.inr e
          · exact absurd hr (er d)
        · exact sm_zero (fun d _ => sm_cf (er d))
      obtain ⟨b1, b2, b3, b4⟩ := ap_main hN (by omega) hqM hw N 0 (ds_wJ (ss_F S N) 0 k 0) k none (fun _ => 0) (fun _ => False) (by omega) hJ
      rw [mb_more hwo] at b4
      have b3' : ∀ t i, t ≠ 0 → t ≠ 1 → (ap_L N k N (ds_wJ (ss_F S N) 0 k 0) k none).2.2.2 t i = S.2.2 t i := fun t i x y => (b3 t i x y).trans (h5 t i y)
      rcases b4 with ⟨r0, hno⟩ | ⟨r1, hI'⟩
      · have e : mt_L N wo (n + 1) k S = (-1, (ap_L N k N (ds_wJ (ss_F S N) 0 k 0) k none).2) := by
          show (if nI k = wo then _ else _) = _
          rw [if_neg hwo, if_pos r0]
        rw [e]
        exact ⟨⟨fun z => absurd z hwo, fun _ => ⟨b1, fun z => absurd r0 z⟩⟩, b2, b3', Or.inl ⟨rfl, fun g hg => hno g (as_sub hg (fun p hp => ⟨by have := hp.1; omega, hp.2⟩))⟩⟩
      · have r2 : ¬ (ap_L N k N (ds_wJ (ss_F S N) 0 k 0) k none).1 = 0 := by rw [r1]; decide
        have e : mt_L N wo (n + 1) k S = mt_L N wo n (k + 1) (ap_L N k N (ds_wJ (ss_F S N) 0 k 0) k none).2 := by
          show (if nI k = wo then _ else _) = _
          rw [if_neg hwo, if_neg r2]
        obtain ⟨a1, a2, a3, a4⟩ := ih (k + 1) _ (by omega) b2 hI'
        rw [e, ek]
        exact ⟨⟨fun z => absurd z hwo, fun _ => ⟨b1, fun _ => a1⟩⟩, a2, fun t i x y => (a3 t i x y).trans (b3' t i x y), a4⟩
theorem hu_g {N D : Nat} {c : Nat → Nat → Int} {al : Nat → Nat → Prop} {M : Nat → Prop} {sit : Nat → Option Nat} {u v : Nat → Int} (h : hu_M N D c al M sit u v) :
    ∃ g : Nat → Nat, as_ok N D M al g ∧ (∀ p, p < N → M p → g p < D ∧ sit (g p) = some p ∧ u p + v (g p) = c p (g p)) ∧ (∀ d p, d < D → sit d = some p → p < N ∧ M p ∧ g p = d) := by
  obtain ⟨h1, h2, h3⟩ := h
  have hx : ∀ p, ∃ d, p < N → M p → d < D ∧ sit d = some p := fun p => by
    by_cases hp : p < N ∧ M p
    · obtain ⟨d, hd, hs⟩ := h2 p hp.1 hp.2
      exact ⟨d, fun _ _ => ⟨hd, hs⟩⟩
    · exact ⟨0, fun a b => absurd ⟨a, b⟩ hp⟩
  have hg : ∀ p, p < N → M p → Classical.choose (hx p) < D ∧ sit (Classical.choose (hx p)) = some p := fun p => Classical.choose_spec (hx p)
  refine ⟨fun p => Classical.choose (hx p), ⟨fun p hp hM => ⟨(hg p hp hM).1, (h1 _ p (hg p hp hM).1 (hg p hp hM).2).2.2.1⟩, fun p q hp hq hMp hMq e => ?_⟩, fun p hp hM => ⟨(hg p hp hM).1, (hg p hp hM).2, (h1 _ p (hg p hp hM).1 (hg p hp hM).2).2.2.2⟩, fun d p hd hs => ?_⟩
  · have e : Classical.choose (hx p) = Classical.choose (hx q) := e
    have a := (hg p hp hMp).2
    have b := (hg q hq hMq).2
    rw [e, b] at a
    cases a
    rfl
  · obtain ⟨a1, a2, -, -⟩ := h1 d p hd hs
    exact ⟨a1, a2, h3 _ d p (hg p a1 a2).1 hd (hg p a1 a2).2 hs⟩
/-- what is got at a place -/
def wo_d (S : ds_S) (d : Nat) : Int := match S.2.2 0 d with
  | none => 0
  | some p => (S.1 10 p d).toInt
theorem wo_s {S : ds_S} {N : Nat} (hN : N ≤ 14) (hw : wishR S) (hs : ∀ d p, d < N → S.2.2 0 d = some p → p < 10) : ∀ k, k ≤ N → (wo_F S k).toInt = sm_S (wo_d S) k ∧ 0 ≤ (wo_F S k).toInt ∧ (wo_F S k).toInt ≤ 1000 * k
  | 0, _ => ⟨rfl, Int.le_refl 0, Int.le_refl 0⟩
  | k + 1, hk => by
    obtain ⟨h1, h2, h3⟩ := wo_s hN hw hs k (by omega)
    show (wo_F S (k + 1)).toInt = sm_S (wo_d S) k + wo_d S k ∧ _
    cases e : S.2.2 0 k with
    | none =>
      have ed : wo_d S k = 0 := by unfold wo_d; rw [e]
      have ew : wo_F S (k + 1) = wo_F S k := by
        show (match S.2.2 0 k with | none => wo_F S k | some p => wo_F S k + S.1 10 p k) = _
        rw [e]
      rw [ed, ew]
      exact ⟨by omega, h2, by omega⟩
    | some p =>
      have hp := hw p k (hs k p (by omega) e) (by omega)
      have e2 : (wo_F S k + S.1 10 p k).toInt = (wo_F S k).toInt + (S.1 10 p k).toInt := i_add (by omega) (by omega)
      have ed : wo_d S k = (S.1 10 p k).toInt := by unfold wo_d; rw [e]
      have ew : wo_F S (k + 1) = wo_F S k + S.1 10 p k := by
        show (match S.2.2 0 k with | none => wo_F S k | some p => wo_F S k + S.1 10 p k) = _
        rw [e]
      rw [ed, ew, e2]
      exact ⟨by omega, by omega, by omega⟩
theorem cs_p (S : ds_S) : ∀ k, (∀ d, d < k → (cs_F S k).2.2 0 d = none ∧ (cs_F S k).2.1 1 d = 0) ∧ (∀ t i, t ≠ 0 → (cs_F S k).2.2 t i = S.2.2 t i)
  | 0 => ⟨fun d h => absurd h (Nat.not_lt_zero d), fun _ _ _ => rfl⟩
  | k + 1 => by
    obtain ⟨h1, h2⟩ := cs_p S k
    refine ⟨fun d hd => ?_, fun t i ht => ?_⟩
    · show ds_u2 (cs_F S k).2.2 0 k none 0 d = none ∧ ds_u2 (cs_F S k).2.1 1 k 0 1 d = 0
      by_cases e : d = k
      · subst e; exact ⟨ds_u2_s _ _ _ _, ds_u2_s _ _ _ _⟩
      · rw [ds_u2_n (fun z => e z.2), ds_u2_n (fun z => e z.2)]; exact h1 d (by omega)
    · show ds_u2 (cs_F S k).2.2 0 k none t i = _
      rw [ds_u2_n (fun z => ht z.1)]; exact h2 t i ht
/-- the state in which a matching begins -/
def mt_0 (S : ds_S) (N : Nat) : ds_S := cs_F (ds_wI S 6 0 0 (nI N)) N
theorem mt_01 (S : ds_S) (N t i j : Nat) (h : t ≠ 6) : (mt_0 S N).1 t i j = S.1 t i j := by
  unfold mt_0
  rw [cs_1]
  exact w3_n (fun z => h z.1)
theorem mt_end {S : ds_S} {N Pn : Nat} {wo : Int32} (hN : N ≤ 14) (hP : Pn ≤ 10) (hw : wishR S) :
    mt_T N wo Pn 0 (mt_0 S N) ∧ (∀ t i j, t ≠ 15 → t ≠ 6 → (mt_L N wo Pn 0 (mt_0 S N)).2.1 t i j = S.1 t i j) ∧ (mt_L N wo Pn 0 (mt_0 S N)).2.1 6 0 0 = nI N ∧ (∀ t i, t ≠ 0 → t ≠ 1 → (mt_L N wo Pn 0 (mt_0 S N)).2.2.2 t i = S.2.2 t i) ∧
    (((mt_L N wo Pn 0 (mt_0 S N)).1 = -1 ∧ ∀ g, ¬ as_ok 10 N (mb wo Pn) (alN S) g) ∨
     ∃ g, as_ok 10 N (mb wo Pn) (alN S) g ∧ (∀ g', as_ok 10 N (mb wo Pn) (alN S) g' → as_T 10 (mb wo Pn) (cI S) g ≤ as_T 10 (mb wo Pn) (cI S) g') ∧
       (mt_L N wo Pn 0 (mt_0 S N)).1.toInt = sm_S (fun p => sm_c (mb wo Pn p) (S.1 10 p (g p)).toInt) 10 ∧
       (∀ p, p < 10 → mb wo Pn p → g p < N ∧ (mt_L N wo Pn 0 (mt_0 S N)).2.2.2 0 (g p) = some p) ∧
       (∀ d p, d < N → (mt_L N wo Pn 0 (mt_0 S N)).2.2.2 0 d = some p → p < 10 ∧ mb wo Pn p ∧ g p = d)) := by
  have hex : exc15 (mt_0 S N) (mt_0 S N) := fun _ _ _ _ => rfl
  have ec : cI (mt_0 S N) = cI S := funext (fun p => funext (fun d => by
    unfold cI pe_wm
    rw [mt_01 S N 12 p 0 (by decide), mt_01 S N 10 p d (by decide)]))
  have ea : alN (mt_0 S N) = alN S := funext (fun p => funext (fun d => by
    unfold alN
    rw [mt_01 S N 11 p d (by decide)]))
  have hw0 : wishR (mt_0 S N) := fun p d hp hd => by rw [mt_01 S N 10 p d (by decide)]; exact hw p d hp hd
  obtain ⟨c1, c2⟩ := cs_p (ds_wI S 6 0 0 (nI N)) N
  have hv0 : ∀ d, d < N → sv (mt_0 S N) d = 0 := fun d hd => by
    have : (mt_0 S N).2.1 1 d = 0 := (c1 d hd).2
    unfold sv
    rw [this]
    rfl
  have hI0 : hu_I 10 N (cI (mt_0 S N)) (alN (mt_0 S N)) c54 (mb wo 0) ((mt_0 S N).2.2 0) (su (mt_0 S N)) (sv (mt_0 S N)) := by
    have hn : ∀ d, d < N → (mt_0 S N).2.2 0 d = none := fun d hd => (c1 d hd).1
    refine ⟨⟨fun d p hd hs => ?_, fun p _ hM => absurd hM.1 (Nat.not_lt_zero p), fun d d' p hd _ hs _ => ?_⟩, fun d hd => ⟨by rw [hv0 d hd]; decide, by rw [hv0 d hd]; decide, fun _ => hv0 d hd⟩, fun p d _ hM _ _ => absurd hM.1 (Nat.not_lt_zero p)⟩
    · rw [hn d hd] at hs; cases hs
    · rw [hn d hd] at hs; cases hs
  obtain ⟨a1, a2, a3, a4⟩ := mt_main (wo := wo) hN hw0 Pn 0 (mt_0 S N) (by omega) hex hI0
  rw [Nat.zero_add, ec, ea] at a4
  refine ⟨a1, fun t i j h15 h6 => (a2 t i j h15).trans (mt_01 S N t i j h6), ?_, fun t i h0 h1 => (a3 t i h0 h1).trans (c2 t i h0), ?_⟩
  · rw [a2 6 0 0 (by decide)]
    show (cs_F (ds_wI S 6 0 0 (nI N)) N).1 6 0 0 = nI N
    rw [cs_1]
    exact ds_u3_s S.1 6 0 0 (nI N)
  · rcases a4 with a4 | ⟨r1, hI⟩
    · exact Or.inl a4
    · obtain ⟨hM, hv, hf⟩ := hI
      obtain ⟨g, g1, g2, g3⟩ := hu_g hM
      refine Or.inr ⟨g, g1, fun g' hg' => ?_, ?_, fun p hp hM => ⟨(g2 p hp hM).1, (g2 p hp hM).2.1⟩, g3⟩
      · have d1 := as_dual hg' (fun d hd => (hv d hd).2.1) hf
        have d2 := as_tight (c := cI S) g1 (fun d hd hno => (hv d hd).2.2 (by
          cases hs : (mt_L N wo Pn 0 (mt_0 S N)).2.2.2 0 d with
          | none => rfl
          | some p => exact absurd (g3 d p hd hs).2.2 (hno p (g3 d p hd hs).1 (g3 d p hd hs).2.1))) (fun p hp hM => (g2 p hp hM).2.2)
        omega
      · have hww : wishR (mt_L N wo Pn 0 (mt_0 S N)).2 := fun p d hp hd => by rw [a2 10 p d (by decide)]; exact hw0 p d hp hd
        rw [r1, (wo_s hN hww (fun d p hd hs => (g3 d p hd hs).1) N (Nat.le_refl N)).1]
        rw [as_imageE (M := mb wo Pn) (g := g) (fun p hp hM => (g2 p hp hM).1) g1.2 (fun d hd hno => ?_)]
        · refine sm_congr (fun p hp => sm_ce Iff.rfl (fun hM => ?_))
          unfold wo_d
          rw [(g2 p hp hM).2.1]
          show ((mt_L N wo Pn 0 (mt_0 S N)).2.1 10 p (g p)).toInt = _
          rw [a2 10 p (g p) (by decide), mt_01 S N 10 p (g p) (by decide)]
        · unfold wo_d
          cases hs : (mt_L N wo Pn 0 (mt_0 S N)).2.2.2 0 d with
          | none => rfl
          | some p => exact absurd (g3 d p hd hs).2.2 (hno p (g3 d p hd hs).1 (g3 d p hd hs).2.1)
/-- persons are told their desks -/
theorem tp_p (S : ds_S) {N : Nat} (hinj : ∀ d d' p, d < N → d' < N → S.2.2 0 d = some p → S.2.2 0 d' = some p → d = d') : ∀ k, k ≤ N → (tp_F S k).2 = S.2 ∧ (∀ t i j, t ≠ 13 → (tp_F S k).1 t i j = S.1 t i j) ∧ (∀ d p, d < k → S.2.2 0 d = some p → (tp_F S k).1 13 p 0 = nI d)
  | 0, _ => ⟨rfl, fun _ _ _ _ => rfl, fun d _ h => absurd h (Nat.not_lt_zero d)⟩
  | k + 1, hk => by
    obtain ⟨h1, h2, h3⟩ := tp_p S hinj k (by omega)
    unfold tp_F
    rw [h1]
    cases e : S.2.2 0 k with
    | none =>
      refine ⟨h1, h2, fun d p hd hs => ?_⟩
      rcases Nat.lt_or_eq_of_le (Nat.le_of_lt_succ hd) with h | h
      · exact h3 d p h hs
      · subst h; rw [e] at hs; cases hs
    | some p0 =>
      refine ⟨h1, fun t i j ht => ?_, fun d p hd hs => ?_⟩
      · show (ds_wI (tp_F S k) 13 p0 0 (nI k)).1 t i j = _
        rw [w3_n (fun z => ht z.1)]; exact h2 t i j ht
      · show (ds_wI (tp_F S k) 13 p0 0 (nI k)).1 13 p 0 = _
        rcases Nat.lt_or_eq_of_le (Nat.le_of_lt_succ hd) with h | h
        · have : ¬ p = p0 := fun q => by
            subst q
            have := hinj d k p (by omega) (by omega) hs e
            omega
          rw [w3_n (fun z => this z.2.1)]
          exact h3 d p h hs
        · subst h; rw [e] at hs; cases hs
          exact ds_u3_s _ _ _ _ _
