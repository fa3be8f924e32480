/-! PURE: the Hungarian method: members M are seated by 'sit' (place -> person), prices u (persons), v (places) -/
/-- every seated one is a member, allowed there, its edge tight; every member sits; nobody twice -/
def hu_M (N D : Nat) (c : Nat → Nat → Int) (al : Nat → Nat → Prop) (M : Nat → Prop) (sit : Nat → Option Nat) (u v : Nat → Int) : Prop :=
  (∀ d p, d < D → sit d = some p → p < N ∧ M p ∧ al p d ∧ u p + v d = c p d) ∧
  (∀ p, p < N → M p → ∃ d, d < D ∧ sit d = some p) ∧
  (∀ d d' p, d < D → d' < D → sit d = some p → sit d' = some p → d = d')
/-- between two persons -/
def hu_I (N D : Nat) (c : Nat → Nat → Int) (al : Nat → Nat → Prop) (C : Int) (M : Nat → Prop) (sit : Nat → Option Nat) (u v : Nat → Int) : Prop :=
  hu_M N D c al M sit u v ∧
  (∀ d, d < D → -(32 * C) ≤ v d ∧ v d ≤ 0 ∧ (sit d = none → v d = 0)) ∧
  (∀ p d, p < N → M p → d < D → al p d → u p + v d ≤ c p d)
/-- the tree: the newcomer, and who sits at a reached place -/
def hs_T (D : Nat) (q : Nat) (sit : Nat → Option Nat) (rc : Nat → Prop) (p : Nat) : Prop := p = q ∨ ∃ d, d < D ∧ rc d ∧ sit d = some p
/-- how a place hangs on the tree, by a tight edge -/
def hs_C (c : Nat → Nat → Int) (al : Nat → Nat → Prop) (q : Nat) (sit : Nat → Option Nat) (u v : Nat → Int) (bef : Nat → Option Nat) (rc : Nat → Prop) (rk : Nat → Nat) (d k : Nat) : Prop :=
  (bef d = none ∧ al q d ∧ u q + v d = c q d) ∨ (∃ d' p', bef d = some d' ∧ rc d' ∧ rk d' < k ∧ sit d' = some p' ∧ al p' d ∧ u p' + v d = c p' d)
/-- the nearest edge so far to a place that isn't reached -/
def hs_E (c : Nat → Nat → Int) (al : Nat → Nat → Prop) (q : Nat) (sit : Nat → Option Nat) (u v dist : Nat → Int) (bef : Nat → Option Nat) (rc : Nat → Prop) (F : Int) (Lk : Nat → Prop) (d : Nat) : Prop :=
  (dist d = F ∧ ∀ p, Lk p → ¬ al p d) ∨
  (dist d < F ∧ 0 ≤ dist d ∧ (∀ p, Lk p → al p d → dist d ≤ c p d - u p - v d) ∧
    ((bef d = none ∧ Lk q ∧ al q d ∧ dist d = c q d - u q - v d) ∨ ∃ d' p', bef d = some d' ∧ rc d' ∧ sit d' = some p' ∧ Lk p' ∧ al p' d ∧ dist d = c p' d - u p' - v d))
/-- inside the search for the newcomer q: n places are reached, Lk: those from whom it was looked -/
def hs_I (N D : Nat) (c : Nat → Nat → Int) (al : Nat → Nat → Prop) (C : Int) (M : Nat → Prop) (q : Nat) (sit : Nat → Option Nat) (F : Int) (u v dist : Nat → Int) (bef : Nat → Option Nat) (rc : Nat → Prop) (rk : Nat → Nat) (n : Nat) (Lk : Nat → Prop) : Prop :=
  hu_M N D c al M sit u v ∧
  (∀ p d, p < N → (M p ∨ p = q) → d < D → al p d → u p + v d ≤ c p d) ∧
  (∀ d, d < D → v d ≤ 0 ∧ (sit d = none → v d = 0 ∧ ¬ rc d) ∧ (¬ rc d → -(32 * C) ≤ v d)) ∧
  (∀ d, rc d → d < D ∧ rk d < n ∧ hs_C c al q sit u v bef rc rk d (rk d)) ∧
  (∀ d, d < D → ¬ rc d → hs_E c al q sit u v dist bef rc F Lk d) ∧
  (∀ p, Lk p → p < N ∧ hs_T D q sit rc p) ∧
  (0 ≤ u q ∧ u q ≤ 48 * C)
/-- by the chain: the price of a reached place beside the newcomer's -/
theorem hs_price {N D : Nat} {c : Nat → Nat → Int} {al : Nat → Nat → Prop} {C : Int} {M : Nat → Prop} {q : Nat} {sit : Nat → Option Nat} {u v : Nat → Int} {bef : Nat → Option Nat} {rc : Nat → Prop} {rk : Nat → Nat}
    (hq : q < N) (hc : ∀ p d, p < N → d < D → 0 ≤ c p d ∧ c p d ≤ C) (hM : hu_M N D c al M sit u v) (hC : ∀ d, rc d → d < D ∧ hs_C c al q sit u v bef rc rk d (rk d)) :
    ∀ (k d : Nat), d < D → hs_C c al q sit u v bef rc rk d k → -(u q) - k * C ≤ v d ∧ v d ≤ (k + 1) * C - u q := by
  intro k
  induction k using Nat.strongRecOn with
  | _ k ih =>
    intro d hd hch
    have hCn : 0 ≤ C := by
      have := hc q d hq hd
      omega
    have hkC : 0 ≤ (k : Int) * C := Int.mul_nonneg (by omega) hCn
    rcases hch with ⟨-, -, ht⟩ | ⟨d', p', -, hr, hlt, hs, -, ht⟩
    · have h1 := hc q d hq hd
      have e : ((k : Int) + 1) * C = k * C + C := by rw [Int.add_mul, Int.one_mul]
      omega
    · obtain ⟨hd', hch'⟩ := hC d' hr
      have h2 := ih (rk d') hlt d' hd' hch'
      obtain ⟨hp', -, -, ht'⟩ := hM.1 d' p' hd' hs
      have h3 := hc p' d hp' hd
      have h4 := hc p' d' hp' hd'
      have h5 : ((rk d' : Int) + 1) * C ≤ k * C := Int.mul_le_mul_of_nonneg_right (by omega) hCn
      have e1 : ((rk d' : Int) + 1) * C = rk d' * C + C := by rw [Int.add_mul, Int.one_mul]
      have e : ((k : Int) + 1) * C = k * C + C := by rw [Int.add_mul, Int.one_mul]
      omega
/-- the search begins -/
theorem hs_start {N D : Nat} {c : Nat → Nat → Int} {al : Nat → Nat → Prop} {C F : Int} {M : Nat → Prop} {q : Nat} {sit : Nat → Option Nat} {u u' v dist : Nat → Int} {bef : Nat → Option Nat} {rc : Nat → Prop} {rk : Nat → Nat}
    (hq : q < N) (hqM : ¬ M q) (hC0 : 0 ≤ C) (hc : ∀ p d, p < N → d < D → 0 ≤ c p d ∧ c p d ≤ C) (h : hu_I N D c al C M sit u v) (hu : ∀ p, p ≠ q → u' p = u p) (hu0 : u' q = 0) (hd : ∀ d, d < D → dist d = F) (hr : ∀ d, ¬ rc d) :
    hs_I N D c al C M q sit F u' v dist bef rc rk 0 (fun _ => False) := by
  obtain ⟨⟨h1, h2, h3⟩, h4, h5⟩ := h
  have hne : ∀ p, M p → p ≠ q := fun p hp e => hqM (e ▸ hp)
  refine ⟨⟨fun d p hd hs => ?_, h2, h3⟩, fun p d hp hM hd' ha => ?_, fun d hd' => ⟨(h4 d hd').2.1, fun hs => ⟨(h4 d hd').2.2 hs, hr d⟩, fun _ => (h4 d hd').1⟩, fun d hr' => absurd hr' (hr d), fun d hd' _ => Or.inl ⟨hd d hd', fun p hp => absurd hp id⟩, fun p hp => absurd hp id, ?_⟩
  · obtain ⟨a, b, e, f⟩ := h1 d p hd hs
    exact ⟨a, b, e, by rw [hu p (hne p b)]; exact f⟩
  · rcases hM with hM | rfl
    · rw [hu p (hne p hM)]; exact h5 p d hp hM hd' ha
    · rw [hu0]
      have := (h4 d hd').2.1
      have := (hc p d hp hd').1
      omega
  · rw [hu0]; omega
/-- it was looked from x, who is in the tree -/
theorem hs_look {N D : Nat} {c : Nat → Nat → Int} {al : Nat → Nat → Prop} {C F : Int} {M : Nat → Prop} {q : Nat} {sit : Nat → Option Nat} {u v dist dist' : Nat → Int} {bef bef' : Nat → Option Nat} {rc : Nat → Prop} {rk : Nat → Nat} {n : Nat} {Lk : Nat → Prop} {x : Nat} {fr : Option Nat}
    (h : hs_I N D c al C M q sit F u v dist bef rc rk n Lk) (hx : x < N) (hxM : M x ∨ x = q) (hfr : (x = q ∧ fr = none) ∨ ∃ d', fr = some d' ∧ d' < D ∧ rc d' ∧ sit d' = some x)
    (hF : ∀ d, d < D → al x d → c x d - u x - v d < F)
    (hn : ∀ d, d < D → ¬ rc d → al x d → c x d - u x - v d < dist d → dist' d = c x d - u x - v d ∧ bef' d = fr)
    (ho : ∀ d, d < D → (rc d ∨ ¬ al x d ∨ ¬ c x d - u x - v d < dist d) → dist' d = dist d ∧ bef' d = bef d) :
    hs_I N D c al C M q sit F u v dist' bef' rc rk n (fun p => Lk p ∨ p = x) := by
  obtain ⟨h1, h2, h3, h4, h5, h6, h7⟩ := h
  refine ⟨h1, h2, h3, fun d hr => ?_, fun d hd hr => ?_, fun p hp => ?_, h7⟩
  · obtain ⟨hd, hk, hch⟩ := h4 d hr
    refine ⟨hd, hk, ?_⟩
    unfold hs_C
    rw [(ho d hd (Or.inl hr)).2]
    exact hch
  · by_cases ha : al x d
    · by_cases hlt : c x d - u x - v d < dist d
      · obtain ⟨e1, e2⟩ := hn d hd hr ha hlt
        refine Or.inr ⟨by rw [e1]; exact hF d hd ha, by rw [e1]; have := h2 x d hx hxM hd ha; omega, fun p hp hap => ?_, ?_⟩
        · rw [e1]
          rcases hp with hp | rfl
          · rcases h5 d hd hr with ⟨-, hno⟩ | ⟨-, -, hmin, -⟩
            · exact absurd hap (hno p hp)
            · have := hmin p hp hap; omega
          · exact Int.le_refl _
        · rcases hfr with ⟨rfl, rfl⟩ | ⟨d', rfl, hd', hr', hs'⟩
          · exact Or.inl ⟨e2, Or.inr rfl, ha, e1⟩
          · exact Or.inr ⟨d', x, e2, hr', hs', Or.inr rfl, ha, e1⟩
      · obtain ⟨e1, e2⟩ := ho d hd (Or.inr (Or.inr hlt))
        rcases h5 d hd hr with ⟨hf, hno⟩ | ⟨ha1, ha2, hmin, hb⟩
        · exfalso
          have := hF d hd ha
          omega
        · refine Or.inr ⟨by rw [e1]; exact ha1, by rw [e1]; exact ha2, fun p hp hap => ?_, ?_⟩
          · rw [e1]
            rcases hp with hp | rfl
            · exact hmin p hp hap
            · omega
          · rw [e1, e2]
            rcases hb with ⟨b1, b2, b3, b4⟩ | ⟨d', p', b1, b2, b3, b4, b5, b6⟩
            · exact Or.inl ⟨b1, Or.inl b2, b3, b4⟩
            · exact Or.inr ⟨d', p', b1, b2, b3, Or.inl b4, b5, b6⟩
    · obtain ⟨e1, e2⟩ := ho d hd (Or.inr (Or.inl ha))
      rcases h5 d hd hr with ⟨hf, hno⟩ | ⟨ha1, ha2, hmin, hb⟩
      · refine Or.inl ⟨by rw [e1]; exact hf, fun p hp => ?_⟩
        rcases hp with hp | rfl
        · exact hno p hp
        · exact ha
      · refine Or.inr ⟨by rw [e1]; exact ha1, by rw [e1]; exact ha2, fun p hp hap => ?_, ?_⟩
        · rw [e1]
          rcases hp with hp | rfl
          · exact hmin p hp hap
          · exact absurd hap ha
        · rw [e1, e2]
          rcases hb with ⟨b1, b2, b3, b4⟩ | ⟨d', p', b1, b2, b3, b4, b5, b6⟩
          · exact Or.inl ⟨b1, Or.inl b2, b3, b4⟩
          · exact Or.inr ⟨d', p', b1, b2, b3, Or.inl b4, b5, b6⟩
  · rcases hp with hp | rfl
    · exact h6 p hp
    · refine ⟨hx, ?_⟩
      rcases hfr with ⟨rfl, -⟩ | ⟨d', -, hd', hr', hs'⟩
      · exact Or.inl rfl
      · exact Or.inr ⟨d', hd', hr', hs'⟩
/-- the reached places are as many as the tree's persons less one: no assignment where the tree's persons have only reached places -/
theorem hs_none {N D : Nat} {c : Nat → Nat → Int} {al : Nat → Nat → Prop} {M : Nat → Prop} {q : Nat} {sit : Nat → Option Nat} {u v : Nat → Int} {rc : Nat → Prop}
    (hM : hu_M N D c al M sit u v) (hq : q < N) (hqM : ¬ M q) (hrd : ∀ d, rc d → d < D ∧ sit d ≠ none) (hno : ∀ p d, p < N → hs_T D q sit rc p → d < D → al p d → rc d) (g : Nat → Nat) : ¬ as_ok N D (fun p => M p ∨ p = q) al g := by
  intro hg
  obtain ⟨h1, h2, h3⟩ := hM
  have hT : ∀ p, p < N → hs_T D q sit rc p → M p ∨ p = q := by
    intro p _ ht
    rcases ht with rfl | ⟨d, hd, -, hs⟩
    · exact Or.inr rfl
    · exact Or.inl (h1 d p hd hs).2.1
  have k1 := as_count (N := N) (D := D) (A := hs_T D q sit rc) (B := rc) (g := g) (fun p hp ht => by
      obtain ⟨a, b⟩ := hg.1 p hp (hT p hp ht)
      exact ⟨a, hno p (g p) hp ht a b⟩) (fun p p' hp hp' ht ht' e => hg.2 p p' hp hp' (hT p hp ht) (hT p' hp' ht') e)
  have k2 := as_count (N := D) (D := N) (A := rc) (B := fun p => hs_T D q sit rc p ∧ p ≠ q) (g := fun d => (sit d).getD 0) (fun d hd hr => by
      obtain ⟨p, hs⟩ : ∃ p, sit d = some p := by
        cases hs : sit d with
        | none => exact absurd hs (hrd d hr).2
        | some p => exact ⟨p, rfl⟩
      obtain ⟨a, b, -, -⟩ := h1 d p hd hs
      show (sit d).getD 0 < N ∧ _
      rw [hs]
      exact ⟨a, Or.inr ⟨d, hd, hr, hs⟩, fun e => hqM (e ▸ b)⟩) (fun d d' hd hd' hr hr' e => by
      cases hs : sit d with
      | none => exact absurd hs (hrd d hr).2
      | some p =>
        cases hs' : sit d' with
        | none => exact absurd hs' (hrd d' hr').2
        | some p' =>
          have e : (sit d).getD 0 = (sit d').getD 0 := e
          rw [hs, hs'] at e
          have e : p = p' := e
          subst e
          exact h3 d d' p hd hd' hs hs')
  have k3 : sm_S (fun p => sm_c (hs_T D q sit rc p) 1) N = sm_S (fun p => sm_c (hs_T D q sit rc p ∧ p ≠ q) 1) N + 1 := by
    have e : sm_S (fun p => sm_c (p = q) 1) N = 1 := by
      rw [sm_single (f := fun p => sm_c (p = q) 1) hq (fun i _ hne => sm_cf hne), sm_ct rfl]
    have e2 := sm_add (fun p => sm_c (hs_T D q sit rc p ∧ p ≠ q) 1) (fun p => sm_c (p = q) 1) N
    have e3 : sm_S (fun p => sm_c (hs_T D q sit rc p) 1) N = sm_S (fun p => sm_c (hs_T D q sit rc p ∧ p ≠ q) 1 + sm_c (p = q) 1) N := by
      refine sm_congr (fun p _ => ?_)
      by_cases hpq : p = q
      · rw [sm_ct (P := hs_T D q sit rc p) (Or.inl hpq), sm_cf (P := hs_T D q sit rc p ∧ p ≠ q) (fun z => z.2 hpq), sm_ct hpq]; rfl
      · rw [sm_cf (P := p = q) hpq, sm_ce (P := hs_T D q sit rc p) (Q := hs_T D q sit rc p ∧ p ≠ q) ⟨fun z => ⟨z, hpq⟩, fun z => z.1⟩ (fun _ => rfl)]; omega
    rw [e3, e2, e]
  omega
