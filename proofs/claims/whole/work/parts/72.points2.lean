theorem sp_p (S : ds_S) (b : Int64) {N : Nat} (hinj : ∀ d d' p, d < N → d' < N → S.2.2 0 d = some p → S.2.2 0 d' = some p → d = d') : ∀ k, k ≤ N →
    (∀ d, d < k → S.1 15 d 0 = 0 → S.2.1 2 d < 4611686018427387904 → (sp_F S b k).2.1 2 d = S.2.1 2 d - b) ∧ (∀ d, ¬ (d < k ∧ S.1 15 d 0 = 0 ∧ S.2.1 2 d < 4611686018427387904) → (sp_F S b k).2.1 2 d = S.2.1 2 d) ∧
    (∀ d, d < k → ¬ S.1 15 d 0 = 0 → (sp_F S b k).2.1 1 d = S.2.1 1 d - b) ∧ (∀ d, ¬ (d < k ∧ ¬ S.1 15 d 0 = 0) → (sp_F S b k).2.1 1 d = S.2.1 1 d) ∧
    (∀ p, (∃ d, d < k ∧ ¬ S.1 15 d 0 = 0 ∧ S.2.2 0 d = some p) → (sp_F S b k).2.1 0 p = S.2.1 0 p + b) ∧ (∀ p, ¬ (∃ d, d < k ∧ ¬ S.1 15 d 0 = 0 ∧ S.2.2 0 d = some p) → (sp_F S b k).2.1 0 p = S.2.1 0 p)
  | 0, _ => ⟨fun d h => absurd h (Nat.not_lt_zero d), fun _ _ => rfl, fun d h => absurd h (Nat.not_lt_zero d), fun _ _ => rfl, fun p ⟨d, h, _⟩ => absurd h (Nat.not_lt_zero d), fun _ _ => rfl⟩
  | k + 1, hk => by
    obtain ⟨h1, h2, h3, h4, h5, h6⟩ := sp_p S b hinj k (by omega)
    have e1 := sp_1 S b k
    have e2 := sp_2 S b k
    have hs : ∀ d, d < k + 1 → d < k ∨ d = k := fun d h => by omega
    have hk2 := h2 k (fun q => absurd q.1 (Nat.lt_irrefl k))
    have hk1 := h4 k (fun q => absurd q.1 (Nat.lt_irrefl k))
    by_cases a : S.1 15 k 0 = 0
    · have hex : ∀ p, (∃ d, d < k + 1 ∧ ¬ S.1 15 d 0 = 0 ∧ S.2.2 0 d = some p) ↔ (∃ d, d < k ∧ ¬ S.1 15 d 0 = 0 ∧ S.2.2 0 d = some p) := fun p => by
        constructor
        · rintro ⟨d, hd, hr, he⟩
          rcases hs d hd with h | rfl
          · exact ⟨d, h, hr, he⟩
          · exact absurd a hr
        · rintro ⟨d, hd, hr, he⟩
          exact ⟨d, by omega, hr, he⟩
      by_cases c : S.2.1 2 k < 4611686018427387904
      · have e : sp_F S b (k + 1) = ds_wJ (sp_F S b k) 2 k (S.2.1 2 k - b) := by
          show sp_step (sp_F S b k) b k = _
          unfold sp_step
          rw [e1, hk2, if_pos a, if_pos c]
        rw [e]
        refine ⟨fun d hd hr hl => ?_, fun d hd => ?_, fun d hd hr => ?_, fun d hd => ?_, fun p hp => ?_, fun p hp => ?_⟩
        · rcases hs d hd with h | rfl
          · rw [wJ_n (by omega)]; exact h1 d h hr hl
          · exact ds_u2_s _ _ _ _
        · have q : ¬ d = k := fun q => hd ⟨by omega, q ▸ a, q ▸ c⟩
          rw [wJ_n (fun z => q z.2)]
          exact h2 d (fun z => hd ⟨by omega, z.2⟩)
        · rw [wJ_n (by omega)]
          rcases hs d hd with h | rfl
          · exact h3 d h hr
          · exact absurd a hr
        · rw [wJ_n (by omega)]
          exact h4 d (fun z => hd ⟨by omega, z.2⟩)
        · rw [wJ_n (by omega)]
          exact h5 p ((hex p).mp hp)
        · rw [wJ_n (by omega)]
          exact h6 p (fun z => hp ((hex p).mpr z))
      · have e : sp_F S b (k + 1) = sp_F S b k := by
          show sp_step (sp_F S b k) b k = _
          unfold sp_step
          rw [e1, hk2, if_pos a, if_neg c]
        rw [e]
        refine ⟨fun d hd hr hl => ?_, fun d hd => h2 d (fun z => hd ⟨by omega, z.2⟩), fun d hd hr => ?_, fun d hd => h4 d (fun z => hd ⟨by omega, z.2⟩), fun p hp => h5 p ((hex p).mp hp), fun p hp => h6 p (fun z => hp ((hex p).mpr z))⟩
        · rcases hs d hd with h | rfl
          · exact h1 d h hr hl
          · exact absurd hl c
        · rcases hs d hd with h | rfl
          · exact h3 d h hr
          · exact absurd a hr
    · cases hp0 : S.2.2 0 k with
      | none =>
        have hex : ∀ p, (∃ d, d < k + 1 ∧ ¬ S.1 15 d 0 = 0 ∧ S.2.2 0 d = some p) ↔ (∃ d, d < k ∧ ¬ S.1 15 d 0 = 0 ∧ S.2.2 0 d = some p) := fun p => by
          constructor
          · rintro ⟨d, hd, hr, he⟩
            rcases hs d hd with h | rfl
            · exact ⟨d, h, hr, he⟩
            · rw [hp0] at he; cases he
          · rintro ⟨d, hd, hr, he⟩
            exact ⟨d, by omega, hr, he⟩
        have e : sp_F S b (k + 1) = ds_wJ (sp_F S b k) 1 k (S.2.1 1 k - b) := by
          show sp_step (sp_F S b k) b k = _
          unfold sp_step
          rw [e1, e2, hk1, if_neg a, hp0]
        rw [e]
        refine ⟨fun d hd hr hl => ?_, fun d hd => ?_, fun d hd hr => ?_, fun d hd => ?_, fun p hp => ?_, fun p hp => ?_⟩
        · rw [wJ_n (by omega)]
          rcases hs d hd with h | rfl
          · exact h1 d h hr hl
          · exact absurd hr a
        · rw [wJ_n (by omega)]
          exact h2 d (fun z => hd ⟨by omega, z.2⟩)
        · rcases hs d hd with h | rfl
          · rw [wJ_n (by omega)]; exact h3 d h hr
          · exact ds_u2_s _ _ _ _
        · have q : ¬ d = k := fun q => hd ⟨by omega, q ▸ a⟩
          rw [wJ_n (fun z => q z.2)]
          exact h4 d (fun z => hd ⟨by omega, z.2⟩)
        · rw [wJ_n (by omega)]
          exact h5 p ((hex p).mp hp)
        · rw [wJ_n (by omega)]
          exact h6 p (fun z => hp ((hex p).mpr z))
      | some p0 =>
        have hno : ¬ (∃ d, d < k ∧ ¬ S.1 15 d 0 = 0 ∧ S.2.2 0 d = some p0) := by
          rintro ⟨d, hd, -, he⟩
          have := hinj d k p0 (by omega) (by omega) he hp0
          omega
        have hu0 := h6 p0 hno
        have e : sp_F S b (k + 1) = ds_wJ (ds_wJ (sp_F S b k) 1 k (S.2.1 1 k - b)) 0 p0 (S.2.1 0 p0 + b) := by
          show sp_step (sp_F S b k) b k = _
          unfold sp_step
          rw [e1, e2, hk1, if_neg a, hp0]
          show ds_wJ (ds_wJ (sp_F S b k) 1 k (S.2.1 1 k - b)) 0 p0 ((ds_wJ (sp_F S b k) 1 k (S.2.1 1 k - b)).2.1 0 p0 + b) = _
          rw [wJ_n (by omega), hu0]
        rw [e]
        refine ⟨fun d hd hr hl => ?_, fun d hd => ?_, fun d hd hr => ?_, fun d hd => ?_, fun p hp => ?_, fun p hp => ?_⟩
        · rw [wJ_n (by omega), wJ_n (by omega)]
          rcases hs d hd with h | rfl
          · exact h1 d h hr hl
          · exact absurd hr a
        · rw [wJ_n (by omega), wJ_n (by omega)]
          exact h2 d (fun z => hd ⟨by omega, z.2⟩)
        · rw [wJ_n (by omega)]
          rcases hs d hd with h | rfl
          · rw [wJ_n (by omega)]; exact h3 d h hr
          · exact ds_u2_s _ _ _ _
        · have q : ¬ d = k := fun q => hd ⟨by omega, q ▸ a⟩
          rw [wJ_n (by omega), wJ_n (fun z => q z.2)]
          exact h4 d (fun z => hd ⟨by omega, z.2⟩)
        · by_cases q : p = p0
          · subst q; exact ds_u2_s _ _ _ _
          · rw [wJ_n (fun z => q z.2), wJ_n (by omega)]
            obtain ⟨d, hd, hr, he⟩ := hp
            rcases hs d hd with h | rfl
            · exact h5 p ⟨d, h, hr, he⟩
            · rw [hp0] at he; cases he; exact absurd rfl q
        · have q : ¬ p = p0 := fun q => hp ⟨k, by omega, a, q ▸ hp0⟩
          rw [wJ_n (fun z => q z.2), wJ_n (by omega)]
          exact h6 p (fun ⟨d, hd, hr, he⟩ => hp ⟨d, by omega, hr, he⟩)
/-- handing on along the chain -/
theorem ho_p {N D : Nat} {c : Nat → Nat → Int} {al : Nat → Nat → Prop} {M : Nat → Prop} {q : Nat} {sit : Nat → Option Nat} {u v : Nat → Int} {bef : Nat → Option Nat} {rc : Nat → Prop} {rk : Nat → Nat} (hq : q < N) (hqM : ¬ M q) (hM : hu_M N D c al M sit u v) (hC : ∀ d, rc d → d < D ∧ hs_C c al q sit u v bef rc rk d (rk d)) :
    ∀ (n k d : Nat) (S : ds_S), k + 2 ≤ n → S.2.2 1 = bef → hk_I N D c al M sit u v rc rk (S.2.2 0) d k → hs_C c al q sit u v bef rc rk d k →
      hu_M N D c al (fun p => M p ∨ p = q) ((ho_F q n S (some d)).2.2 0) u v ∧ (∀ e, e < D → (ho_F q n S (some d)).2.2 0 e = none → v e = 0) ∧ (ho_F q n S (some d)).1 = S.1 ∧ (ho_F q n S (some d)).2.1 = S.2.1 ∧ ho_T bef n (some d) := by
  intro n
  induction n with
  | zero => intro k d S h; exact absurd h (by omega)
  | succ n ih =>
    intro k d S hkn hbef hk hc
    rcases hc with ⟨b1, b2, b3⟩ | ⟨d', p', b1, b2, b3, b4, b5, b6⟩
    · have e : ho_F q (n + 1) S (some d) = ds_wR S 0 d (some q) := by
        show ho_F q n (ds_wR S 0 d (match S.2.2 1 d with | none => some q | some d' => S.2.2 0 d')) (S.2.2 1 d) = _
        rw [hbef, b1]
        cases n <;> rfl
      rw [e]
      have hc1 : (ds_wR S 0 d (some q)).2.2 0 d = some q := ds_u2_s _ _ _ _
      have hc2 : ∀ e, e ≠ d → (ds_wR S 0 d (some q)).2.2 0 e = S.2.2 0 e := fun e he => ds_u2_n (fun z => he z.2)
      obtain ⟨r1, r2⟩ := hk_end hq hqM hk b2 b3 hc1 hc2
      refine ⟨r1, r2, rfl, rfl, ?_⟩
      show ho_T bef n (bef d)
      rw [b1]
      cases n with
      | zero => exact absurd hkn (by omega)
      | succ n => trivial
    · obtain ⟨s1, s2, s3⟩ := hk_step (cur' := (ds_wR S 0 d (some p')).2.2 0) hM hk (fun h => (hC d' h).1) b2 b3 b4 b5 b6 (ds_u2_s _ _ _ _) (fun e he => ds_u2_n (fun z => he z.2))
      have e : ho_F q (n + 1) S (some d) = ho_F q n (ds_wR S 0 d (some p')) (some d') := by
        show ho_F q n (ds_wR S 0 d (match S.2.2 1 d with | none => some q | some d' => S.2.2 0 d')) (S.2.2 1 d) = _
        rw [hbef, b1]
        show ho_F q n (ds_wR S 0 d (S.2.2 0 d')) (some d') = _
        rw [s2]
      have hb2 : (ds_wR S 0 d (some p')).2.2 1 = bef := by
        rw [← hbef]
        funext i
        exact wR_n (by omega)
      obtain ⟨r1, r2, r3, r4, r5⟩ := ih (rk d') d' (ds_wR S 0 d (some p')) (by omega) hb2 s1 (hC d' b2).2
      rw [e]
      refine ⟨r1, r2, r3, r4, ?_⟩
      show ho_T bef n (bef d)
      rw [b1]
      exact r5
