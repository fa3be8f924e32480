/-! PURE: what the matcher's loops do, point by point -/
theorem w3_n {S : ds_S} {t i j : Nat} {x : Int32} {t' i' j' : Nat} (h : ¬ (t' = t ∧ i' = i ∧ j' = j)) : (ds_wI S t i j x).1 t' i' j' = S.1 t' i' j' := ds_u3_n h
theorem wJ_n {S : ds_S} {t i : Nat} {x : Int64} {t' i' : Nat} (h : ¬ (t' = t ∧ i' = i)) : (ds_wJ S t i x).2.1 t' i' = S.2.1 t' i' := ds_u2_n h
theorem wR_n {S : ds_S} {t i : Nat} {x : Option Nat} {t' i' : Nat} (h : ¬ (t' = t ∧ i' = i)) : (ds_wR S t i x).2.2 t' i' = S.2.2 t' i' := ds_u2_n h
theorem ss_p (S : ds_S) : ∀ k, (∀ t i j, t ≠ 15 → (ss_F S k).1 t i j = S.1 t i j) ∧ (∀ d, d < k → (ss_F S k).1 15 d 0 = 0) ∧ (∀ t i, t ≠ 2 → (ss_F S k).2.1 t i = S.2.1 t i) ∧ (∀ d, d < k → (ss_F S k).2.1 2 d = 4611686018427387904) ∧ (∀ t i, t ≠ 1 → (ss_F S k).2.2 t i = S.2.2 t i) ∧ (∀ d, d < k → (ss_F S k).2.2 1 d = none)
  | 0 => ⟨fun _ _ _ _ => rfl, fun d h => absurd h (Nat.not_lt_zero d), fun _ _ _ => rfl, fun d h => absurd h (Nat.not_lt_zero d), fun _ _ _ => rfl, fun d h => absurd h (Nat.not_lt_zero d)⟩
  | k + 1 => by
    obtain ⟨h1, h2, h3, h4, h5, h6⟩ := ss_p S k
    refine ⟨fun t i j ht => ?_, fun d hd => ?_, fun t i ht => ?_, fun d hd => ?_, fun t i ht => ?_, fun d hd => ?_⟩
    · show ds_u3 (ss_F S k).1 15 k 0 0 t i j = _
      rw [ds_u3_n (fun q => ht q.1)]; exact h1 t i j ht
    · show ds_u3 (ss_F S k).1 15 k 0 0 15 d 0 = 0
      by_cases e : d = k
      · subst e; exact ds_u3_s _ _ _ _ _
      · rw [ds_u3_n (fun q => e q.2.1)]; exact h2 d (by omega)
    · show ds_u2 (ss_F S k).2.1 2 k 4611686018427387904 t i = _
      rw [ds_u2_n (fun q => ht q.1)]; exact h3 t i ht
    · show ds_u2 (ss_F S k).2.1 2 k 4611686018427387904 2 d = _
      by_cases e : d = k
      · subst e; exact ds_u2_s _ _ _ _
      · rw [ds_u2_n (fun q => e q.2)]; exact h4 d (by omega)
    · show ds_u2 (ss_F S k).2.2 1 k none t i = _
      rw [ds_u2_n (fun q => ht q.1)]; exact h5 t i ht
    · show ds_u2 (ss_F S k).2.2 1 k none 1 d = _
      by_cases e : d = k
      · subst e; exact ds_u2_s _ _ _ _
      · rw [ds_u2_n (fun q => e q.2)]; exact h6 d (by omega)
def lf_c (S : ds_S) (x k : Nat) : Prop := S.1 15 k 0 = 0 ∧ S.1 11 x k = 0 ∧ lf_z S x k < S.2.1 2 k
theorem pe_costE {S S' : ds_S} (h : ∀ t i j, t ≠ 15 → S'.1 t i j = S.1 t i j) (p d : Nat) : pe_cost S' p d = pe_cost S p d := by
  unfold pe_cost pe_wm
  rw [h 12 p 0 (by decide), h 10 p d (by decide)]
theorem cI_E {S S' : ds_S} (h : ∀ t i j, t ≠ 15 → S'.1 t i j = S.1 t i j) (p d : Nat) : cI S' p d = cI S p d := by
  unfold cI pe_wm
  rw [h 12 p 0 (by decide), h 10 p d (by decide)]
theorem lf_p (S : ds_S) (x : Nat) (fr : Option Nat) : ∀ k, (∀ t i, t ≠ 2 → (lf_F S x fr k).2.1 t i = S.2.1 t i) ∧ (∀ t i, t ≠ 1 → (lf_F S x fr k).2.2 t i = S.2.2 t i) ∧ (∀ d, d < k → lf_c S x d → (lf_F S x fr k).2.1 2 d = lf_z S x d ∧ (lf_F S x fr k).2.2 1 d = fr) ∧ (∀ d, ¬ (d < k ∧ lf_c S x d) → (lf_F S x fr k).2.1 2 d = S.2.1 2 d ∧ (lf_F S x fr k).2.2 1 d = S.2.2 1 d)
  | 0 => ⟨fun _ _ _ => rfl, fun _ _ _ => rfl, fun d h => absurd h (Nat.not_lt_zero d), fun _ _ => ⟨rfl, rfl⟩⟩
  | k + 1 => by
    obtain ⟨h1, h2, h3, h4⟩ := lf_p S x fr k
    have h0 := lf_1 S x fr k
    have hz : lf_z (lf_F S x fr k) x k = lf_z S x k := by
      unfold lf_z
      rw [pe_costE (S := S) (fun t i j _ => by rw [h0]), h1 0 x (by decide), h1 1 k (by decide)]
    have hk := h4 k (fun q => absurd q.1 (Nat.lt_irrefl k))
    have hiff : ((lf_F S x fr k).1 15 k 0 = 0 ∧ (lf_F S x fr k).1 11 x k = 0 ∧ lf_z (lf_F S x fr k) x k < (lf_F S x fr k).2.1 2 k) ↔ lf_c S x k := by
      unfold lf_c
      rw [h0, hz, hk.1]
    by_cases hc : lf_c S x k
    · obtain ⟨a, b, c⟩ := hiff.mpr hc
      have e : lf_F S x fr (k + 1) = ds_wR (ds_wJ (lf_F S x fr k) 2 k (lf_z S x k)) 1 k fr := by
        show lf_step (lf_F S x fr k) x fr k = _
        unfold lf_step
        rw [if_pos a, if_pos b, if_pos c, hz]
      rw [e]
      refine ⟨fun t i ht => ?_, fun t i ht => ?_, fun d hd hcd => ?_, fun d hd => ?_⟩
      · show ds_u2 (lf_F S x fr k).2.1 2 k (lf_z S x k) t i = _
        rw [ds_u2_n (fun q => ht q.1)]; exact h1 t i ht
      · show ds_u2 (lf_F S x fr k).2.2 1 k fr t i = _
        rw [ds_u2_n (fun q => ht q.1)]; exact h2 t i ht
      · show ds_u2 (lf_F S x fr k).2.1 2 k (lf_z S x k) 2 d = _ ∧ ds_u2 (lf_F S x fr k).2.2 1 k fr 1 d = _
        by_cases q : d = k
        · subst q; exact ⟨ds_u2_s _ _ _ _, ds_u2_s _ _ _ _⟩
        · rw [ds_u2_n (fun z => q z.2), ds_u2_n (fun z => q z.2)]; exact h3 d (by omega) hcd
      · show ds_u2 (lf_F S x fr k).2.1 2 k (lf_z S x k) 2 d = _ ∧ ds_u2 (lf_F S x fr k).2.2 1 k fr 1 d = _
        have q : ¬ d = k := fun q => hd ⟨by omega, q ▸ hc⟩
        rw [ds_u2_n (fun z => q z.2), ds_u2_n (fun z => q z.2)]
        exact h4 d (fun z => hd ⟨by omega, z.2⟩)
    · have e : lf_F S x fr (k + 1) = lf_F S x fr k := by
        show lf_step (lf_F S x fr k) x fr k = _
        unfold lf_step
        split
        · rename_i a
          split
          · rename_i b
            split
            · rename_i c
              exact absurd (hiff.mp ⟨a, b, c⟩) hc
            · rfl
          · rfl
        · rfl
      rw [e]
      refine ⟨h1, h2, fun d hd hcd => h3 d (by rcases Nat.lt_or_eq_of_le (Nat.le_of_lt_succ hd) with h | h; exact h; subst h; exact absurd hcd hc) hcd, fun d hd => h4 d (fun z => hd ⟨by omega, z.2⟩)⟩
theorem ns_p (S : ds_S) : ∀ k, ((ns_F S k).1 = none ∧ (ns_F S k).2 = 4611686018427387904 ∧ ∀ d, d < k → S.1 15 d 0 = 0 → ¬ S.2.1 2 d < 4611686018427387904) ∨ (∃ d0, d0 < k ∧ (ns_F S k).1 = some d0 ∧ (ns_F S k).2 = S.2.1 2 d0 ∧ S.1 15 d0 0 = 0 ∧ S.2.1 2 d0 < 4611686018427387904 ∧ ∀ d, d < k → S.1 15 d 0 = 0 → S.2.1 2 d0 ≤ S.2.1 2 d)
  | 0 => Or.inl ⟨rfl, rfl, fun d h => absurd h (Nat.not_lt_zero d)⟩
  | k + 1 => by
    have ih := ns_p S k
    have hs : ∀ d, d < k + 1 → d < k ∨ d = k := fun d h => by omega
    unfold ns_F
    by_cases a : S.1 15 k 0 = 0
    · rw [if_pos a]
      by_cases b : S.2.1 2 k < (ns_F S k).2
      · rw [if_pos b]
        refine Or.inr ⟨k, by omega, rfl, rfl, a, ?_, fun d hd hr => ?_⟩
        · rcases ih with ⟨-, e, -⟩ | ⟨d0, -, -, e, -, h5, -⟩
          · rw [e] at b; exact b
          · rw [e] at b; exact Int64.lt_trans b h5
        · rcases hs d hd with h | rfl
          · rcases ih with ⟨-, e, h3⟩ | ⟨d0, -, -, e, -, -, h6⟩
            · rw [e] at b
              exact Int64.le_of_lt (Int64.lt_of_lt_of_le b (Int64.not_lt.mp (h3 d h hr)))
            · rw [e] at b
              exact Int64.le_of_lt (Int64.lt_of_lt_of_le b (h6 d h hr))
          · exact Int64.le_refl _
      · rw [if_neg b]
        rcases ih with ⟨e1, e, h3⟩ | ⟨d0, q1, q2, e, q4, q5, h6⟩
        · refine Or.inl ⟨e1, e, fun d hd hr => ?_⟩
          rcases hs d hd with h | rfl
          · exact h3 d h hr
          · rw [e] at b; exact b
        · refine Or.inr ⟨d0, by omega, q2, e, q4, q5, fun d hd hr => ?_⟩
          rcases hs d hd with h | rfl
          · exact h6 d h hr
          · rw [e] at b; exact Int64.not_lt.mp b
    · rw [if_neg a]
      rcases ih with ⟨e1, e, h3⟩ | ⟨d0, q1, q2, e, q4, q5, h6⟩
      · refine Or.inl ⟨e1, e, fun d hd hr => ?_⟩
        rcases hs d hd with h | rfl
        · exact h3 d h hr
        · exact absurd hr a
      · refine Or.inr ⟨d0, by omega, q2, e, q4, q5, fun d hd hr => ?_⟩
        rcases hs d hd with h | rfl
        · exact h6 d h hr
        · exact absurd hr a
