/-- what the shift of the prices by the least distance gives: prices, and how the nearest place hangs on the tree -/
def hs_J (N D : Nat) (c : Nat → Nat → Int) (al : Nat → Nat → Prop) (C : Int) (M : Nat → Prop) (q : Nat) (sit : Nat → Option Nat) (F : Int) (u v dist : Nat → Int) (bef : Nat → Option Nat) (rc : Nat → Prop) (rk : Nat → Nat) (n : Nat) (Lk : Nat → Prop) (d0 : Nat) : Prop :=
  hs_I N D c al C M q sit F u v dist bef rc rk n Lk ∧ hs_C c al q sit u v bef rc rk d0 n
theorem hs_shift {N D : Nat} {c : Nat → Nat → Int} {al : Nat → Nat → Prop} {C F : Int} {M : Nat → Prop} {q : Nat} {sit : Nat → Option Nat} {u v dist u' v' dist' : Nat → Int} {bef : Nat → Option Nat} {rc : Nat → Prop} {rk : Nat → Nat} {n : Nat} {Lk : Nat → Prop} {d0 : Nat}
    (hq : q < N) (hqM : ¬ M q) (hc : ∀ p d, p < N → d < D → 0 ≤ c p d ∧ c p d ≤ C) (hn14 : n ≤ 13)
    (h : hs_I N D c al C M q sit F u v dist bef rc rk n Lk) (hall : ∀ p, p < N → hs_T D q sit rc p → Lk p) (hd0 : d0 < D) (hr0 : ¬ rc d0) (hf0 : dist d0 < F) (hmin : ∀ d, d < D → ¬ rc d → dist d < F → dist d0 ≤ dist d)
    (hu1 : ∀ p, p < N → hs_T D q sit rc p → u' p = u p + dist d0) (hu2 : ∀ p, p < N → ¬ hs_T D q sit rc p → u' p = u p)
    (hv1 : ∀ d, d < D → rc d → v' d = v d - dist d0) (hv2 : ∀ d, d < D → ¬ rc d → v' d = v d)
    (hd1 : ∀ d, d < D → ¬ rc d → dist d < F → dist' d = dist d - dist d0) (hd2 : ∀ d, d < D → ¬ rc d → ¬ dist d < F → dist' d = dist d) :
    hs_J N D c al C M q sit F u' v' dist' bef rc rk n Lk d0 := by
  obtain ⟨⟨h1, h1b, h1c⟩, h2, h3, h4, h5, h6, h7⟩ := h
  have hby : 0 ≤ dist d0 := by
    rcases h5 d0 hd0 hr0 with ⟨e, -⟩ | ⟨-, e, -⟩
    · omega
    · exact e
  have hTq : hs_T D q sit rc q := Or.inl rfl
  have huq := hu1 q hq hTq
  have hTs : ∀ d p, d < D → sit d = some p → (hs_T D q sit rc p ↔ rc d) := by
    intro d p hd hs
    constructor
    · rintro (rfl | ⟨d1, hd1', hr1, hs1⟩)
      · exact absurd (h1 d p hd hs).2.1 hqM
      · exact h1c d1 d p hd1' hd hs1 hs ▸ hr1
    · exact fun hr => Or.inr ⟨d, hd, hr, hs⟩
  have hM' : hu_M N D c al M sit u' v' := by
    refine ⟨fun d p hd hs => ?_, h1b, h1c⟩
    obtain ⟨a1, a2, a3, a4⟩ := h1 d p hd hs
    refine ⟨a1, a2, a3, ?_⟩
    by_cases hr : rc d
    · rw [hu1 p a1 ((hTs d p hd hs).mpr hr), hv1 d hd hr]; omega
    · rw [hu2 p a1 (fun t => hr ((hTs d p hd hs).mp t)), hv2 d hd hr]; exact a4
  have hch : ∀ d k, d < D → rc d → hs_C c al q sit u v bef rc rk d k → hs_C c al q sit u' v' bef rc rk d k := by
    intro d k hd hr hch
    rcases hch with ⟨b1, b2, b3⟩ | ⟨d', p', b1, b2, b3, b4, b5, b6⟩
    · exact Or.inl ⟨b1, b2, by rw [huq, hv1 d hd hr]; omega⟩
    · have hd' := (h4 d' b2).1
      have hp' := (h1 d' p' hd' b4).1
      exact Or.inr ⟨d', p', b1, b2, b3, b4, b5, by rw [hu1 p' hp' ((hTs d' p' hd' b4).mpr b2), hv1 d hd hr]; omega⟩
  have hch0 : hs_C c al q sit u' v' bef rc rk d0 n := by
    rcases h5 d0 hd0 hr0 with ⟨e, -⟩ | ⟨-, -, -, hb⟩
    · omega
    · rcases hb with ⟨b1, -, b3, b4⟩ | ⟨d', p', b1, b2, b3, b4, b5, b6⟩
      · exact Or.inl ⟨b1, b3, by rw [huq, hv2 d0 hd0 hr0]; omega⟩
      · have hd' := h4 d' b2
        have hp' := (h1 d' p' hd'.1 b3).1
        exact Or.inr ⟨d', p', b1, b2, hd'.2.1, b3, b5, by rw [hu1 p' hp' ((hTs d' p' hd'.1 b3).mpr b2), hv2 d0 hd0 hr0]; omega⟩
  have hCn : 0 ≤ C := by
    have := hc q d0 hq hd0
    omega
  have hpr := hs_price (k := n) hq hc hM' (fun d hr => ⟨(h4 d hr).1, hch d (rk d) (h4 d hr).1 hr (h4 d hr).2.2⟩) d0 hd0 hch0
  have hub : u' q ≤ 48 * C := by
    have e1 : ((n : Int) + 1) * C ≤ 14 * C := Int.mul_le_mul_of_nonneg_right (by omega) hCn
    have e2 := (h3 d0 hd0).2.2 hr0
    rw [hv2 d0 hd0 hr0] at hpr
    omega
  refine ⟨⟨hM', fun p d hp hM hd ha => ?_, fun d hd => ?_, fun d hr => ⟨(h4 d hr).1, (h4 d hr).2.1, hch d _ (h4 d hr).1 hr (h4 d hr).2.2⟩, fun d hd hr => ?_, h6, ⟨by rw [huq]; omega, hub⟩⟩, hch0⟩
  · have h2' := h2 p d hp hM hd ha
    by_cases ht : hs_T D q sit rc p
    · rw [hu1 p hp ht]
      by_cases hr : rc d
      · rw [hv1 d hd hr]; omega
      · rw [hv2 d hd hr]
        rcases h5 d hd hr with ⟨-, hno⟩ | ⟨hlt, -, hm, -⟩
        · exact absurd ha (hno p (hall p hp ht))
        · have := hm p (hall p hp ht) ha
          have := hmin d hd hr hlt
          omega
    · rw [hu2 p hp ht]
      by_cases hr : rc d
      · rw [hv1 d hd hr]; omega
      · rw [hv2 d hd hr]; exact h2'
  · obtain ⟨a1, a2, a3⟩ := h3 d hd
    by_cases hr : rc d
    · rw [hv1 d hd hr]
      exact ⟨by omega, fun hs => absurd hr (a2 hs).2, fun z => absurd hr z⟩
    · rw [hv2 d hd hr]
      exact ⟨a1, a2, a3⟩
  · rcases h5 d hd hr with ⟨e, hno⟩ | ⟨hlt, h0, hm, hb⟩
    · exact Or.inl ⟨by rw [hd2 d hd hr (by omega)]; exact e, hno⟩
    · have e := hd1 d hd hr hlt
      have hmd := hmin d hd hr hlt
      refine Or.inr ⟨by omega, by omega, fun p hp hap => ?_, ?_⟩
      · have := hm p hp hap
        rw [hu1 p (h6 p hp).1 (h6 p hp).2, hv2 d hd hr]; omega
      · rcases hb with ⟨b1, b2, b3, b4⟩ | ⟨d', p', b1, b2, b3, b4, b5, b6⟩
        · exact Or.inl ⟨b1, b2, b3, by rw [huq, hv2 d hd hr]; omega⟩
        · exact Or.inr ⟨d', p', b1, b2, b3, b4, b5, by rw [hu1 p' (h6 p' b4).1 (h6 p' b4).2, hv2 d hd hr]; omega⟩
/-- the nearest place is taken: it is reached, the search goes on from its sitter -/
theorem hs_reach {N D : Nat} {c : Nat → Nat → Int} {al : Nat → Nat → Prop} {C F : Int} {M : Nat → Prop} {q : Nat} {sit : Nat → Option Nat} {u v dist : Nat → Int} {bef : Nat → Option Nat} {rc rc' : Nat → Prop} {rk : Nat → Nat} {n : Nat} {Lk : Nat → Prop} {d0 p0 : Nat}
    (h : hs_J N D c al C M q sit F u v dist bef rc rk n Lk d0) (hd0 : d0 < D) (hr0 : ¬ rc d0) (hs0 : sit d0 = some p0) (hrc : ∀ d, rc' d ↔ rc d ∨ d = d0) :
    hs_I N D c al C M q sit F u v dist bef rc' (fun d => if d = d0 then n else rk d) (n + 1) Lk := by
  obtain ⟨⟨h1, h2, h3, h4, h5, h6, h7⟩, h8⟩ := h
  have hne : ∀ d, rc d → d ≠ d0 := fun d hr e => hr0 (e ▸ hr)
  have hup : ∀ d k, hs_C c al q sit u v bef rc rk d k → hs_C c al q sit u v bef rc' (fun d => if d = d0 then n else rk d) d k := by
    intro d k hch
    rcases hch with b | ⟨d', p', b1, b2, b3, b4⟩
    · exact Or.inl b
    · exact Or.inr ⟨d', p', b1, (hrc d').mpr (Or.inl b2), by show (if d' = d0 then n else rk d') < k; rw [if_neg (hne d' b2)]; exact b3, b4⟩
  refine ⟨h1, h2, fun d hd => ⟨(h3 d hd).1, fun hs => ⟨((h3 d hd).2.1 hs).1, fun hr => ?_⟩, fun hr => (h3 d hd).2.2 (fun z => hr ((hrc d).mpr (Or.inl z)))⟩, fun d hr => ?_, fun d hd hr => ?_, fun p hp => ⟨(h6 p hp).1, ?_⟩, h7⟩
  · rcases (hrc d).mp hr with hr | rfl
    · exact ((h3 d hd).2.1 hs).2 hr
    · rw [hs0] at hs; cases hs
  · rcases (hrc d).mp hr with hr | rfl
    · obtain ⟨a1, a2, a3⟩ := h4 d hr
      refine ⟨a1, ?_, ?_⟩
      · show (if d = d0 then n else rk d) < n + 1
        rw [if_neg (hne d hr)]; omega
      · show hs_C c al q sit u v bef rc' (fun d => if d = d0 then n else rk d) d (if d = d0 then n else rk d)
        rw [if_neg (hne d hr)]
        exact hup d _ a3
    · refine ⟨hd0, ?_, ?_⟩
      · show (if d = d then n else rk d) < n + 1
        rw [if_pos rfl]; omega
      · show hs_C c al q sit u v bef rc' (fun e => if e = d then n else rk e) d (if d = d then n else rk d)
        rw [if_pos rfl]
        exact hup d n h8
  · have hr' : ¬ rc d := fun z => hr ((hrc d).mpr (Or.inl z))
    rcases h5 d hd hr' with a | ⟨a1, a2, a3, a4⟩
    · exact Or.inl a
    · refine Or.inr ⟨a1, a2, a3, ?_⟩
      rcases a4 with b | ⟨d', p', b1, b2, b3⟩
      · exact Or.inl b
      · exact Or.inr ⟨d', p', b1, (hrc d').mpr (Or.inl b2), b3⟩
  · rcases (h6 p hp).2 with e | ⟨d, hd, hr, hs⟩
    · exact Or.inl e
    · exact Or.inr ⟨d, hd, (hrc d).mpr (Or.inl hr), hs⟩
/-- handing on along the chain: all but place d are seated well; the places of lesser rank are as they were -/
def hk_I (N D : Nat) (c : Nat → Nat → Int) (al : Nat → Nat → Prop) (M : Nat → Prop) (sit : Nat → Option Nat) (u v : Nat → Int) (rc : Nat → Prop) (rk : Nat → Nat) (cur : Nat → Option Nat) (d k : Nat) : Prop :=
  (∀ e p, e < D → e ≠ d → cur e = some p → p < N ∧ M p ∧ al p e ∧ u p + v e = c p e) ∧
  (∀ p, p < N → M p → ∃ e, e < D ∧ e ≠ d ∧ cur e = some p) ∧
  (∀ e e' p, e < D → e' < D → e ≠ d → e' ≠ d → cur e = some p → cur e' = some p → e = e') ∧
  (∀ e, rc e → rk e < k → cur e = sit e) ∧
  (∀ e, e < D → e ≠ d → cur e = none → v e = 0) ∧
  (rc d → rk d = k) ∧ d < D
theorem hk_start {N D : Nat} {c : Nat → Nat → Int} {al : Nat → Nat → Prop} {M : Nat → Prop} {sit : Nat → Option Nat} {u v : Nat → Int} {rc : Nat → Prop} {rk : Nat → Nat} {d0 n : Nat}
    (hM : hu_M N D c al M sit u v) (hz : ∀ d, d < D → sit d = none → v d = 0) (hd0 : d0 < D) (hr0 : ¬ rc d0) (hs0 : sit d0 = none) : hk_I N D c al M sit u v rc rk sit d0 n := by
  obtain ⟨h1, h2, h3⟩ := hM
  refine ⟨fun e p he _ hs => h1 e p he hs, fun p hp hMp => ?_, fun e e' p he he' _ _ hs hs' => h3 e e' p he he' hs hs', fun e _ _ => rfl, fun e he _ hs => hz e he hs, fun hr => absurd hr hr0, hd0⟩
  obtain ⟨e, he, hs⟩ := h2 p hp hMp
  exact ⟨e, he, (fun z => by rw [z, hs0] at hs; cases hs), hs⟩
theorem hk_step {N D : Nat} {c : Nat → Nat → Int} {al : Nat → Nat → Prop} {M : Nat → Prop} {sit : Nat → Option Nat} {u v : Nat → Int} {rc : Nat → Prop} {rk : Nat → Nat} {cur cur' : Nat → Option Nat} {d k d' p' : Nat}
    (hM : hu_M N D c al M sit u v) (h : hk_I N D c al M sit u v rc rk cur d k) (hrd : rc d' → d' < D) (hr : rc d') (hk : rk d' < k) (hs : sit d' = some p') (ha : al p' d) (ht : u p' + v d = c p' d)
    (hc1 : cur' d = some p') (hc2 : ∀ e, e ≠ d → cur' e = cur e) : hk_I N D c al M sit u v rc rk cur' d' (rk d') ∧ cur d' = some p' ∧ d' ≠ d := by
  obtain ⟨h1, h2, h3, h4, h5, h6, h7⟩ := h
  have hd' := hrd hr
  have hne : d' ≠ d := by
    intro e
    subst e
    have := h6 hr
    omega
  have hcd : cur d' = some p' := (h4 d' hr hk).trans hs
  have hmp := hM.1 d' p' hd' hs
  refine ⟨⟨fun e p he hne' hc => ?_, fun p hp hMp => ?_, fun e e' p he he' hn hn' hc hc' => ?_, fun e hre hke => ?_, fun e he hn hc => ?_, fun _ => rfl, hd'⟩, hcd, hne⟩
  · by_cases hed : e = d
    · subst hed
      rw [hc1] at hc
      cases hc
      exact ⟨hmp.1, hmp.2.1, ha, ht⟩
    · rw [hc2 e hed] at hc
      exact h1 e p he hed hc
  · obtain ⟨e, he, hne', hc⟩ := h2 p hp hMp
    by_cases hed : e = d'
    · subst hed
      rw [hcd] at hc
      cases hc
      exact ⟨d, h7, fun z => hne z.symm, hc1⟩
    · exact ⟨e, he, hed, by rw [hc2 e hne']; exact hc⟩
  · by_cases hed : e = d
    · by_cases hed' : e' = d
      · rw [hed, hed']
      · exfalso
        subst hed
        rw [hc1] at hc
        cases hc
        rw [hc2 e' hed'] at hc'
        exact hn' (h3 e' d' p' he' hd' hed' hne hc' hcd)
    · rw [hc2 e hed] at hc
      by_cases hed' : e' = d
      · exfalso
        subst hed'
        rw [hc1] at hc'
        cases hc'
        exact hn (h3 e d' p' he hd' hed hne hc hcd)
      · rw [hc2 e' hed'] at hc'
        exact h3 e e' p he he' hed hed' hc hc'
  · have hed : e ≠ d := by
      intro z
      subst z
      have := h6 hre
      omega
    rw [hc2 e hed]
    exact h4 e hre (by omega)
  · have hed : e ≠ d := by
      intro z
      subst z
      rw [hc1] at hc
      cases hc
    rw [hc2 e hed] at hc
    exact h5 e he hed hc
theorem hk_end {N D : Nat} {c : Nat → Nat → Int} {al : Nat → Nat → Prop} {M : Nat → Prop} {q : Nat} {sit : Nat → Option Nat} {u v : Nat → Int} {rc : Nat → Prop} {rk : Nat → Nat} {cur cur' : Nat → Option Nat} {d k : Nat}
    (hq : q < N) (hqM : ¬ M q) (h : hk_I N D c al M sit u v rc rk cur d k) (ha : al q d) (ht : u q + v d = c q d)
    (hc1 : cur' d = some q) (hc2 : ∀ e, e ≠ d → cur' e = cur e) : hu_M N D c al (fun p => M p ∨ p = q) cur' u v ∧ ∀ e, e < D → cur' e = none → v e = 0 := by
  obtain ⟨h1, h2, h3, h4, h5, h6, h7⟩ := h
  refine ⟨⟨fun e p he hc => ?_, fun p hp hMp => ?_, fun e e' p he he' hc hc' => ?_⟩, fun e he hc => ?_⟩
  · by_cases hed : e = d
    · subst hed
      rw [hc1] at hc
      cases hc
      exact ⟨hq, Or.inr rfl, ha, ht⟩
    · rw [hc2 e hed] at hc
      obtain ⟨a1, a2, a3, a4⟩ := h1 e p he hed hc
      exact ⟨a1, Or.inl a2, a3, a4⟩
  · rcases hMp with hMp | rfl
    · obtain ⟨e, he, hne, hc⟩ := h2 p hp hMp
      exact ⟨e, he, by rw [hc2 e hne]; exact hc⟩
    · exact ⟨d, h7, hc1⟩
  · by_cases hed : e = d
    · by_cases hed' : e' = d
      · rw [hed, hed']
      · exfalso
        subst hed
        rw [hc1] at hc
        cases hc
        rw [hc2 e' hed'] at hc'
        exact hqM (h1 e' q he' hed' hc').2.1
    · rw [hc2 e hed] at hc
      by_cases hed' : e' = d
      · exfalso
        subst hed'
        rw [hc1] at hc'
        cases hc'
        exact hqM (h1 e q he hed hc).2.1
      · rw [hc2 e' hed'] at hc'
        exact h3 e e' p he he' hed hed' hc hc'
  · have hed : e ≠ d := by
      intro z
      subst z
      rw [hc1] at hc
      cases hc
    rw [hc2 e hed] at hc
    exact h5 e he hed hc
/-- the nearest place is free: behind the handing on the members are one more -/
theorem hs_done {N D : Nat} {c : Nat → Nat → Int} {al : Nat → Nat → Prop} {C F : Int} {M : Nat → Prop} {q : Nat} {sit sit' : Nat → Option Nat} {u v dist : Nat → Int} {bef : Nat → Option Nat} {rc : Nat → Prop} {rk : Nat → Nat} {n : Nat} {Lk : Nat → Prop} {d0 : Nat}
    (hq : q < N) (hc : ∀ p d, p < N → d < D → 0 ≤ c p d ∧ c p d ≤ C) (hn14 : n ≤ 13) (h : hs_J N D c al C M q sit F u v dist bef rc rk n Lk d0) (hd0 : d0 < D) (hs0 : sit d0 = none)
    (hM' : hu_M N D c al (fun p => M p ∨ p = q) sit' u v) (hz : ∀ e, e < D → sit' e = none → v e = 0) : hu_I N D c al C (fun p => M p ∨ p = q) sit' u v := by
  obtain ⟨⟨h1, h2, h3, h4, h5, h6, h7⟩, h8⟩ := h
  have hCn : 0 ≤ C := by
    have := hc q d0 hq hd0
    omega
  have hpr := hs_price hq hc h1 (fun d hr => ⟨(h4 d hr).1, (h4 d hr).2.2⟩)
  have hp0 := hpr n d0 hd0 h8
  have hv0 := ((h3 d0 hd0).2.1 hs0).1
  have e1 : ((n : Int) + 1) * C ≤ 14 * C := Int.mul_le_mul_of_nonneg_right (by omega) hCn
  refine ⟨hM', fun d hd => ⟨?_, (h3 d hd).1, hz d hd⟩, fun p d hp hMp hd ha => h2 p d hp hMp hd ha⟩
  by_cases hr : rc d
  · have hk := (h4 d hr).2.1
    have := hpr (rk d) d hd (h4 d hr).2.2
    have e2 : ((rk d : Int)) * C ≤ 13 * C := Int.mul_le_mul_of_nonneg_right (by omega) hCn
    omega
  · exact (h3 d hd).2.2 hr
