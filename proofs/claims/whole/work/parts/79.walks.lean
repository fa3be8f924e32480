/-! PURE: class and model walk alike -/
theorem go_p (S : ds_S) (p c : Nat) (x : Int32) :
    (∀ t i j, t ≠ 7 → t ≠ 9 → t ≠ 14 → t ≠ 16 → t ≠ 17 → t ≠ 18 → (go_F S p c x).1 t i j = S.1 t i j) ∧ (∀ r, (go_F S p c x).1 14 r 0 = if r = p then x else S.1 14 r 0) ∧
    (∀ j, (go_F S p c x).1 16 0 j = if j = c then nI p else S.1 16 0 j) ∧ (∀ j, (go_F S p c x).1 17 0 j = if j = c then S.1 14 p 0 else S.1 17 0 j) ∧ (∀ j, (go_F S p c x).1 18 0 j = if j = c then x else S.1 18 0 j) ∧
    (go_F S p c x).1 7 0 0 = nI (c + 1) ∧ (go_F S p c x).1 9 0 0 = (if S.1 14 p 0 = -1 then S.1 9 0 0 else S.1 9 0 0 &&& (((1 : Int32) <<< (S.1 14 p 0 &&& 31)) ^^^ (-1))) ||| ((1 : Int32) <<< (x &&& 31)) ∧ (go_F S p c x).2 = S.2 := by
  by_cases h : S.1 14 p 0 = -1
  · have e : go_5 S p c x = go_4 S p c x := if_pos h
    unfold go_F
    rw [e, if_pos h]
    refine ⟨fun t i j h1 h2 h3 h4 h5 h6 => ?_, fun r => ?_, fun j => ?_, fun j => ?_, fun j => ?_, ?_, ?_, rfl⟩
    · simp [go_4, ds_wI, ds_u3, h1, h2, h3, h4, h5, h6]
    · simp [go_4, ds_wI, ds_u3]
    · simp [go_4, ds_wI, ds_u3]
    · simp [go_4, ds_wI, ds_u3]
    · simp [go_4, ds_wI, ds_u3]
    · simp [go_4, ds_wI, ds_u3]
    · simp [go_4, ds_wI, ds_u3]
  · have e : go_5 S p c x = ds_wI (go_4 S p c x) 9 0 0 (S.1 9 0 0 &&& (((1 : Int32) <<< (S.1 14 p 0 &&& 31)) ^^^ (-1))) := if_neg h
    unfold go_F
    rw [e, if_neg h]
    refine ⟨fun t i j h1 h2 h3 h4 h5 h6 => ?_, fun r => ?_, fun j => ?_, fun j => ?_, fun j => ?_, ?_, ?_, rfl⟩
    · simp [go_4, ds_wI, ds_u3, h1, h2, h3, h4, h5, h6]
    · simp [go_4, ds_wI, ds_u3]
    · simp [go_4, ds_wI, ds_u3]
    · simp [go_4, ds_wI, ds_u3]
    · simp [go_4, ds_wI, ds_u3]
    · simp [go_4, ds_wI, ds_u3]
    · simp [go_4, ds_wI, ds_u3]
theorem mg_p (M : ms_S) (p g : Nat) (d : Int32) :
    (∀ t i, t ≠ 7 → t ≠ 8 → t ≠ 26 → mg_F M p g d t i = M t i) ∧ (∀ r, mg_F M p g d 8 r = if r = p then d else M 8 r) ∧ mg_F M p g d 26 0 = nI (g + 1) ∧
    (∀ j, mg_F M p g d 7 (3 * j) = if j = g then nI p else M 7 (3 * j)) ∧ (∀ j, mg_F M p g d 7 (3 * j + 1) = if j = g then M 8 p else M 7 (3 * j + 1)) ∧ (∀ j, mg_F M p g d 7 (3 * j + 2) = if j = g then d else M 7 (3 * j + 2)) := by
  have a1 : ∀ j, ¬ 3 * j = 3 * g + 1 := fun j => by omega
  have a2 : ∀ j, ¬ 3 * j = 3 * g + 2 := fun j => by omega
  have a3 : ∀ j, ¬ 3 * j + 1 = 3 * g := fun j => by omega
  have a4 : ∀ j, ¬ 3 * j + 1 = 3 * g + 2 := fun j => by omega
  have a5 : ∀ j, ¬ 3 * j + 2 = 3 * g := fun j => by omega
  have a6 : ∀ j, ¬ 3 * j + 2 = 3 * g + 1 := fun j => by omega
  have b0 : ∀ j, 3 * j = 3 * g ↔ j = g := fun j => by omega
  have b1 : ∀ j, 3 * j + 1 = 3 * g + 1 ↔ j = g := fun j => by omega
  have b2 : ∀ j, 3 * j + 2 = 3 * g + 2 ↔ j = g := fun j => by omega
  refine ⟨fun t i h1 h2 h3 => ?_, fun r => ?_, ?_, fun j => ?_, fun j => ?_, fun j => ?_⟩
  · simp [mg_F, ms_w, h1, h2, h3]
  · simp [mg_F, ms_w]
  · simp [mg_F, ms_w]
  · simp only [mg_F, ms_w, a1 j, a2 j, b0 j]
    simp
  · simp only [mg_F, ms_w, a3 j, a4 j, b1 j]
    simp
  · simp only [mg_F, ms_w, a5 j, a6 j, b2 j]
    simp
/-- where both stand on the walk -/
def wkR (Pn Dn : Nat) (S : ds_S) (M : ms_S) (k : Nat) : Prop :=
  (∀ p, p < Pn → S.1 14 p 0 = M 8 p ∧ S.1 13 p 0 = M 4 p) ∧
  (∀ p, p < Pn → S.1 14 p 0 = -1 ∨ ∃ d, d < Dn ∧ S.1 14 p 0 = nI d) ∧
  (∀ p q, p < Pn → q < Pn → S.1 14 p 0 = S.1 14 q 0 → S.1 14 p 0 = -1 ∨ p = q) ∧
  (∀ d, d < 14 → (wbt (S.1 9 0 0) d = true ↔ ∃ p, p < Pn ∧ S.1 14 p 0 = nI d)) ∧
  (∀ j, j < k → S.1 16 0 j = M 7 (3 * j) ∧ S.1 17 0 j = M 7 (3 * j + 1) ∧ S.1 18 0 j = M 7 (3 * j + 2)) ∧
  S.1 7 0 0 = nI k ∧ M 26 0 = nI k ∧ S.1 8 0 0 = 0 ∧ M 27 0 = 0
theorem nI_14 {a b : Nat} (ha : a < 14) (hb : b < 14) (h : nI a = nI b) : a = b := by
  have e := congrArg Int32.toNatClampNeg h
  rw [nI_clamp (by omega), nI_clamp (by omega)] at e
  exact e
theorem wkR_go {Pn Dn : Nat} {S : ds_S} {M : ms_S} {k p d : Nat} (hD : Dn ≤ 14) (h : wkR Pn Dn S M k) (hp : p < Pn) (hd : d < Dn) (hfree : ∀ r, r < Pn → S.1 14 r 0 ≠ nI d) : wkR Pn Dn (go_F S p k (nI d)) (mg_F M p k (nI d)) (k + 1) := by
  obtain ⟨h1, h2, h3, h4, h5, h6, h7, h8, h9⟩ := h
  obtain ⟨g1, g2, g3, g4, g5, g6, g7, g8⟩ := go_p S p k (nI d)
  obtain ⟨m1, m2, m3, m4, m5, m6⟩ := mg_p M p k (nI d)
  refine ⟨fun r hr => ?_, fun r hr => ?_, fun r q hr hq e => ?_, fun e he => ?_, fun j hj => ?_, g6, m3, ?_, ?_⟩
  · rw [g2, m2, (h1 r hr).1, g1 13 r 0 (by decide) (by decide) (by decide) (by decide) (by decide) (by decide), m1 4 r (by decide) (by decide) (by decide)]
    exact ⟨rfl, (h1 r hr).2⟩
  · rw [g2]
    split
    · exact Or.inr ⟨d, hd, rfl⟩
    · exact h2 r hr
  · rw [g2, g2] at e
    rw [g2]
    by_cases er : r = p
    · by_cases eq : q = p
      · exact Or.inr (er.trans eq.symm)
      · rw [if_pos er, if_neg eq] at e
        exact absurd e.symm (hfree q hq)
    · by_cases eq : q = p
      · rw [if_neg er, if_pos eq] at e
        exact absurd e (hfree r hr)
      · rw [if_neg er, if_neg eq] at e
        rw [if_neg er]
        exact h3 r q hr hq e
  · rw [g7, wb_set (by omega) he]
    have hx : (∃ r, r < Pn ∧ (go_F S p k (nI d)).1 14 r 0 = nI e) ↔ (∃ r, r < Pn ∧ r ≠ p ∧ S.1 14 r 0 = nI e) ∨ d = e := by
      constructor
      · rintro ⟨r, hr, e1⟩
        rw [g2] at e1
        by_cases er : r = p
        · rw [if_pos er] at e1
          exact Or.inr (nI_14 (by omega) he e1)
        · rw [if_neg er] at e1
          exact Or.inl ⟨r, hr, er, e1⟩
      · rintro (⟨r, hr, er, e1⟩ | e1)
        · exact ⟨r, hr, by rw [g2, if_neg er]; exact e1⟩
        · exact ⟨p, hp, by rw [g2, if_pos rfl, e1]⟩
    rw [hx]
    have hy : wbt (if S.1 14 p 0 = -1 then S.1 9 0 0 else S.1 9 0 0 &&& (((1 : Int32) <<< (S.1 14 p 0 &&& 31)) ^^^ (-1))) e = true ↔ ∃ r, r < Pn ∧ r ≠ p ∧ S.1 14 r 0 = nI e := by
      by_cases hm : S.1 14 p 0 = -1
      · rw [if_pos hm, h4 e he]
        constructor
        · rintro ⟨r, hr, e1⟩
          exact ⟨r, hr, fun z => nI_ne e he (by rw [← e1, z]; exact hm), e1⟩
        · rintro ⟨r, hr, -, e1⟩
          exact ⟨r, hr, e1⟩
      · rw [if_neg hm]
        obtain ⟨b, hb, eb⟩ := (h2 p hp).resolve_left hm
        rw [eb, wb_clr (by omega) he, h4 e he]
        constructor
        · rintro ⟨⟨r, hr, e1⟩, hne⟩
          exact ⟨r, hr, fun z => hne (nI_14 (by omega) he (by rw [← eb, ← e1, z])), e1⟩
        · rintro ⟨r, hr, hrp, e1⟩
          refine ⟨⟨r, hr, e1⟩, fun z => ?_⟩
          rcases h3 r p hr hp (by rw [e1, eb, z]) with q | q
          · exact nI_ne e he (e1.symm.trans q)
          · exact hrp q
    rw [hy]
  · rw [g3, g4, g5, m4, m5, m6]
    by_cases ej : j = k
    · rw [if_pos ej, if_pos ej, if_pos ej, if_pos ej, if_pos ej, if_pos ej]
      exact ⟨rfl, (h1 p hp).1, rfl⟩
    · rw [if_neg ej, if_neg ej, if_neg ej, if_neg ej, if_neg ej, if_neg ej]
      exact h5 j (by omega)
  · rw [g1 8 0 0 (by decide) (by decide) (by decide) (by decide) (by decide) (by decide)]; exact h8
  · rw [m1 27 0 (by decide) (by decide) (by decide)]; exact h9
/-- a desk is free for both, or for none -/
theorem mf_p (M : ms_S) (x : Int32) : ∀ k, (mf_L M x k = 0 ∧ ∃ p, p < k ∧ M 8 p = x) ∨ (mf_L M x k = 1 ∧ ∀ p, p < k → M 8 p ≠ x)
  | 0 => Or.inr ⟨rfl, fun p h => absurd h (Nat.not_lt_zero p)⟩
  | k + 1 => by
    unfold mf_L
    rcases mf_p M x k with ⟨h1, p, h2, h3⟩ | ⟨h1, h2⟩
    · rw [if_pos h1]; exact Or.inl ⟨rfl, p, by omega, h3⟩
    · rw [if_neg (by rw [h1]; decide)]
      by_cases e : M 8 k = x
      · rw [if_pos e]; exact Or.inl ⟨rfl, k, by omega, e⟩
      · rw [if_neg e]
        refine Or.inr ⟨rfl, fun p hp => ?_⟩
        by_cases ep : p = k
        · rw [ep]; exact e
        · exact h2 p (by omega)
theorem fr_eq {Pn Dn : Nat} {S : ds_S} {M : ms_S} {k d : Nat} (h : wkR Pn Dn S M k) (hd : d < 14) : (wf_free S (nI d) = 0 ↔ mf_L M (nI d) Pn = 0) ∧ (¬ mf_L M (nI d) Pn = 0 → ∀ r, r < Pn → S.1 14 r 0 ≠ nI d) ∧ (mf_L M (nI d) Pn = 0 → ∃ r, r < Pn ∧ S.1 14 r 0 = nI d) := by
  obtain ⟨h1, h2, h3, h4, -⟩ := h
  have hw : wf_free S (nI d) = 0 ↔ wbt (S.1 9 0 0) d = true := by
    unfold wf_free
    by_cases z : S.1 9 0 0 &&& ((1 : Int32) <<< (nI d &&& 31)) = 0
    · rw [if_pos z, (wb_z hd).mp z]
      exact ⟨fun q => absurd q (by decide), fun q => absurd q (by decide)⟩
    · rw [if_neg z]
      refine ⟨fun _ => ?_, fun _ => rfl⟩
      cases e : wbt (S.1 9 0 0) d with
      | true => rfl
      | false => exact absurd ((wb_z hd).mpr e) z
  rcases mf_p M (nI d) Pn with ⟨e, p, hp, e1⟩ | ⟨e, hno⟩
  · refine ⟨⟨fun _ => e, fun _ => hw.mpr ((h4 d hd).mpr ⟨p, hp, (h1 p hp).1.trans e1⟩)⟩, fun z => absurd e z, fun _ => ⟨p, hp, (h1 p hp).1.trans e1⟩⟩
  · have hno' : ∀ r, r < Pn → S.1 14 r 0 ≠ nI d := fun r hr z => hno r hr ((h1 r hr).1.symm.trans z)
    refine ⟨⟨fun z => ?_, fun z => absurd z (by rw [e]; decide)⟩, fun _ => hno', fun z => absurd z (by rw [e]; decide)⟩
    obtain ⟨r, hr, z⟩ := (h4 d hd).mp (hw.mp z)
    exact absurd z (hno' r hr)
theorem fw_eq {Pn Dn : Nat} {S : ds_S} {M : ms_S} {k : Nat} {g : Nat → Nat} (hD : Dn ≤ 14) (h : wkR Pn Dn S M k) (hg : ∀ p, p < Pn → g p < Dn ∧ S.1 13 p 0 = nI (g p)) : ∀ n i, i + n = Pn → fw_L S n i = mfw_L M Pn n i ∧ (∀ p, fw_L S n i = some p → p < Pn ∧ S.1 14 p 0 ≠ S.1 13 p 0 ∧ ∀ r, r < Pn → S.1 14 r 0 ≠ S.1 13 p 0) ∧ (fw_L S n i = none → ∀ p, i ≤ p → p < Pn → S.1 14 p 0 ≠ S.1 13 p 0 → ∃ r, r < Pn ∧ S.1 14 r 0 = S.1 13 p 0)
  | 0, i, hi => ⟨rfl, fun p h => (nomatch h), fun _ p h1 h2 => absurd h1 (by omega)⟩
  | n + 1, i, hi => by
    obtain ⟨a1, a2, a3⟩ := fw_eq hD h hg n (i + 1) (by omega)
    have hip : i < Pn := by omega
    obtain ⟨e1, e2⟩ := h.1 i hip
    obtain ⟨g1, g2⟩ := hg i hip
    obtain ⟨f1, f2, f3⟩ := fr_eq (d := g i) h (by omega)
    unfold fw_L mfw_L
    rw [← e1, ← e2]
    by_cases c1 : S.1 14 i 0 = S.1 13 i 0
    · rw [if_pos c1, if_pos c1]
      refine ⟨a1, a2, fun z p h1 h2 h3 => ?_⟩
      by_cases ep : p = i
      · rw [ep] at h3; exact absurd c1 h3
      · exact a3 z p (by omega) h2 h3
    · rw [if_neg c1, if_neg c1]
      by_cases c2 : mf_L M (S.1 13 i 0) Pn = 0
      · have c3 : wf_free S (S.1 13 i 0) = 0 := by rw [g2] at *; exact f1.mpr c2
        rw [if_pos c2, if_pos c3]
        refine ⟨a1, a2, fun z p h1 h2 h3 => ?_⟩
        by_cases ep : p = i
        · rw [ep, g2]; rw [g2] at c2; exact f3 c2
        · exact a3 z p (by omega) h2 h3
      · have c3 : ¬ wf_free S (S.1 13 i 0) = 0 := by rw [g2] at *; exact fun z => c2 (f1.mp z)
        rw [if_neg c2, if_neg c3]
        refine ⟨rfl, fun p z => ?_, fun z => by cases z⟩
        cases z
        refine ⟨hip, c1, ?_⟩
        rw [g2] at c2 ⊢
        exact f2 c2
theorem fn_p (S : ds_S) : ∀ n i, (fn_L S n i = none ∧ ∀ p, i ≤ p → p < i + n → S.1 14 p 0 = S.1 13 p 0) ∨ (∃ p, fn_L S n i = some p ∧ i ≤ p ∧ p < i + n ∧ ¬ S.1 14 p 0 = S.1 13 p 0 ∧ ∀ q, i ≤ q → q < p → S.1 14 q 0 = S.1 13 q 0)
  | 0, i => Or.inl ⟨rfl, fun p h1 h2 => absurd h1 (by omega)⟩
  | n + 1, i => by
    unfold fn_L
    by_cases c : S.1 14 i 0 = S.1 13 i 0
    · rw [if_pos c]
      rcases fn_p S n (i + 1) with ⟨a, b⟩ | ⟨p, a, b1, b2, b3, b4⟩
      · refine Or.inl ⟨a, fun p h1 h2 => ?_⟩
        by_cases e : p = i
        · rw [e]; exact c
        · exact b p (by omega) (by omega)
      · refine Or.inr ⟨p, a, by omega, by omega, b3, fun q h1 h2 => ?_⟩
        by_cases e : q = i
        · rw [e]; exact c
        · exact b4 q (by omega) h2
    · rw [if_neg c]
      exact Or.inr ⟨i, rfl, Nat.le_refl i, by omega, c, fun q h1 h2 => absurd h1 (by omega)⟩
theorem mwt_p (M : ms_S) : ∀ k, k ≤ 10 → (mwt_L M k = -1 ∧ ∀ p, p < k → M 8 p = M 4 p) ∨ (∃ p, p < k ∧ mwt_L M k = nI p ∧ ¬ M 8 p = M 4 p ∧ ∀ q, q < p → M 8 q = M 4 q)
  | 0, _ => Or.inl ⟨rfl, fun p h => absurd h (Nat.not_lt_zero p)⟩
  | k + 1, hk => by
    unfold mwt_L
    rcases mwt_p M k (by omega) with ⟨a, b⟩ | ⟨p, a, b, c, d⟩
    · rw [if_pos a]
      by_cases e : M 8 k = M 4 k
      · rw [if_pos e]
        refine Or.inl ⟨a, fun p hp => ?_⟩
        by_cases ep : p = k
        · rw [ep]; exact e
        · exact b p (by omega)
      · rw [if_neg e]
        exact Or.inr ⟨k, by omega, rfl, e, b⟩
    · rw [if_neg (by rw [b]; exact nI_ne p (by omega))]
      exact Or.inr ⟨p, by omega, b, c, d⟩
theorem ff_eq {Pn Dn : Nat} {S : ds_S} {M : ms_S} {k : Nat} (hD : Dn ≤ 14) (h : wkR Pn Dn S M k) : ∀ n i, i + n = Dn → (ff_L S n i = -1 ∧ mff_L M Pn n i = none) ∨ (∃ d, d < Dn ∧ ff_L S n i = nI d ∧ mff_L M Pn n i = some d ∧ ∀ r, r < Pn → S.1 14 r 0 ≠ nI d)
  | 0, i, _ => Or.inl ⟨rfl, rfl⟩
  | n + 1, i, hi => by
    obtain ⟨f1, f2, f3⟩ := fr_eq (d := i) h (by omega)
    unfold ff_L mff_L
    by_cases c : mf_L M (nI i) Pn = 0
    · rw [if_pos c, if_pos (f1.mpr c)]
      exact ff_eq hD h n (i + 1) (by omega)
    · rw [if_neg c, if_neg (fun z => c (f1.mp z))]
      exact Or.inr ⟨i, by omega, rfl, rfl, f2 c⟩
