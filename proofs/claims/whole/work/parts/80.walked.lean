/-! PURE: the whole walk -/
theorem w3_s (S : ds_S) (t i j : Nat) (x : Int32) : (ds_wI S t i j x).1 t i j = x := ds_u3_s S.1 t i j x
def wkE (S : ds_S) (M : ms_S) (S' : ds_S) (M' : ms_S) : Prop :=
  ∃ c, c ≤ 15 ∧ (∀ t i j, t ≠ 7 → t ≠ 8 → t ≠ 9 → t ≠ 14 → t ≠ 16 → t ≠ 17 → t ≠ 18 → S'.1 t i j = S.1 t i j) ∧ S'.2 = S.2 ∧ (∀ t i, t ≠ 7 → t ≠ 8 → t ≠ 26 → t ≠ 27 → M' t i = M t i) ∧
    S'.1 7 0 0 = nI c ∧ M' 26 0 = nI c ∧ S'.1 8 0 0 = M' 27 0 ∧ (S'.1 8 0 0 = 0 ∨ S'.1 8 0 0 = 1) ∧ (∀ j, j < c → S'.1 16 0 j = M' 7 (3 * j) ∧ S'.1 17 0 j = M' 7 (3 * j + 1) ∧ S'.1 18 0 j = M' 7 (3 * j + 2))
theorem wkE_step {S S1 S' : ds_S} {M M1 M' : ms_S} (h : wkE S1 M1 S' M') (h1 : ∀ t i j, t ≠ 7 → t ≠ 8 → t ≠ 9 → t ≠ 14 → t ≠ 16 → t ≠ 17 → t ≠ 18 → S1.1 t i j = S.1 t i j) (h2 : S1.2 = S.2) (h3 : ∀ t i, t ≠ 7 → t ≠ 8 → t ≠ 26 → t ≠ 27 → M1 t i = M t i) : wkE S M S' M' := by
  obtain ⟨c, a1, a2, a3, a4, a5⟩ := h
  exact ⟨c, a1, fun t i j b1 b2 b3 b4 b5 b6 b7 => (a2 t i j b1 b2 b3 b4 b5 b6 b7).trans (h1 t i j b1 b2 b3 b4 b5 b6 b7), a3.trans h2, fun t i b1 b2 b3 b4 => (a4 t i b1 b2 b3 b4).trans (h3 t i b1 b2 b3 b4), a5⟩
theorem wk_main {Pn Dn : Nat} {g : Nat → Nat} (hP : Pn ≤ 10) (hD : Dn ≤ 14) (hg1 : ∀ p, p < Pn → g p < Dn) (hg2 : ∀ p q, p < Pn → q < Pn → g p = g q → p = q) : ∀ (n k : Nat) (S : ds_S) (M : ms_S), k + n = 15 → wkR Pn Dn S M k → (∀ p, p < Pn → S.1 13 p 0 = nI (g p)) → wkI Pn (fun p => nI (g p)) (fun p => S.1 14 p 0) k →
    mwT Pn Dn (n + 1) k M ∧ wkE S M (pl_L Pn Dn n k S) (mwl Pn Dn (n + 1) k M) := by
  intro n
  have hend : ∀ (n k : Nat) (S : ds_S) (M : ms_S), k ≤ 15 → wkR Pn Dn S M k → (∀ p, p < Pn → S.1 13 p 0 = nI (g p)) → (∀ p, p < Pn → S.1 14 p 0 = S.1 13 p 0) → (mgs M Pn Dn k) = (0, M) ∧ mwT Pn Dn (n + 1) k M ∧ wkE S M S (mwl Pn Dn (n + 1) k M) := by
    intro n k S M hk hR hnd hall
    have hF := fw_eq hD hR (fun p hp => ⟨hg1 p hp, hnd p hp⟩) Pn 0 (by omega)
    have h1 : mfw_L M Pn Pn 0 = none := by
      rw [← hF.1]
      cases e : fw_L S Pn 0 with
      | none => rfl
      | some p => exact absurd (hall p (hF.2.1 p e).1) (hF.2.1 p e).2.1
    have h2 : mwt_L M Pn = -1 := by
      rcases mwt_p M Pn hP with ⟨a, -⟩ | ⟨p, a, b, c, d⟩
      · exact a
      · exfalso
        apply c
        rw [← (hR.1 p a).1, ← (hR.1 p a).2]
        exact hall p a
    have e : mgs M Pn Dn k = (0, M) := by
      unfold mgs
      rw [h1]
      show (if mwt_L M Pn = -1 then ((0 : Int32), M) else _) = _
      rw [if_pos h2]
    have el : mwl Pn Dn (n + 1) k M = M := by
      show (if (mgs M Pn Dn k).1 = 0 then (mgs M Pn Dn k).2 else _) = _
      rw [e]
      rfl
    refine ⟨e, ?_, ?_⟩
    · show ¬ (mgs M Pn Dn k).1 = 0 → _
      rw [e]
      exact fun z => absurd rfl z
    · rw [el]
      obtain ⟨-, -, -, -, r5, r6, r7, r8, r9⟩ := hR
      exact ⟨k, hk, fun _ _ _ _ _ _ _ _ _ _ => rfl, rfl, fun _ _ _ _ _ _ => rfl, r6, r7, r8.trans r9.symm, Or.inl r8, r5⟩
  induction n with
  | zero =>
    intro k S M hk hR hnd hI
    have hk15 : k = 15 := by omega
    subst hk15
    have hall := wk_15 hP hI
    exact (hend 0 15 S M (by omega) hR hnd (fun p hp => (hall p hp).trans (hnd p hp).symm)).2
  | succ n ih =>
    intro k S M hk hR hnd hI
    have hF := fw_eq hD hR (fun p hp => ⟨hg1 p hp, hnd p hp⟩) Pn 0 (by omega)
    cases hf : fw_L S Pn 0 with
    | some p =>
      obtain ⟨b1, b2, b3⟩ := hF.2.1 p hf
      have hm : mfw_L M Pn Pn 0 = some p := hF.1.symm.trans hf
      have e4 : M 4 p = nI (g p) := (hR.1 p b1).2.symm.trans (hnd p b1)
      have e : mgs M Pn Dn k = (1, mg_F M p k (nI (g p))) := by
        unfold mgs
        rw [hm, ← e4]
      have ep : pl_L Pn Dn (n + 1) k S = pl_L Pn Dn n (k + 1) (go_F S p k (nI (g p))) := by
        show (match fw_L S Pn 0 with | some p => _ | none => _) = _
        rw [hf]
        show pl_L Pn Dn n (k + 1) (go_F S p k (S.1 13 p 0)) = _
        rw [hnd p b1]
      have el : mwl Pn Dn (n + 1 + 1) k M = mwl Pn Dn (n + 1) (k + 1) (mg_F M p k (nI (g p))) := by
        show (if (mgs M Pn Dn k).1 = 0 then (mgs M Pn Dn k).2 else mwl Pn Dn (n + 1) (k + 1) (mgs M Pn Dn k).2) = _
        rw [e]
        exact if_neg (show ¬ (1 : Int32) = 0 by decide)
      obtain ⟨g1, g2, g3, g4, g5, g6, g7, g8⟩ := go_p S p k (nI (g p))
      obtain ⟨m1, m2, m3, m4, m5, m6⟩ := mg_p M p k (nI (g p))
      have hup : (fun r => (go_F S p k (nI (g p))).1 14 r 0) = upd1 (fun r => S.1 14 r 0) p (nI (g p)) := funext (fun r => g2 r)
      obtain ⟨i1, i2⟩ := ih (k + 1) (go_F S p k (nI (g p))) (mg_F M p k (nI (g p))) (by omega) (wkR_go hD hR b1 (hg1 p b1) (by rw [← hnd p b1]; exact b3)) (fun r hr => by rw [g1 13 r 0 (by decide) (by decide) (by decide) (by decide) (by decide) (by decide)]; exact hnd r hr) (by
        rw [hup]
        exact wk_home b1 (show ¬ S.1 14 p 0 = nI (g p) from fun z => b2 (z.trans (hnd p b1).symm)) hI)
      rw [ep, el]
      refine ⟨?_, wkE_step i2 (fun t i j c1 c2 c3 c4 c5 c6 c7 => g1 t i j c1 c3 c4 c5 c6 c7) g8 (fun t i c1 c2 c3 c4 => m1 t i c1 c2 c3)⟩
      show ¬ (mgs M Pn Dn k).1 = 0 → mwT Pn Dn (n + 1) (k + 1) (mgs M Pn Dn k).2
      rw [e]
      exact fun _ => i1
    | none =>
      have hm : mfw_L M Pn Pn 0 = none := hF.1.symm.trans hf
      have hblk := hF.2.2 hf
      rcases fn_p S Pn 0 with ⟨a, b⟩ | ⟨p, a, b1, b2, b3, b4⟩
      · have ep : pl_L Pn Dn (n + 1) k S = S := by
          show (match fw_L S Pn 0 with | some p => _ | none => _) = _
          rw [hf]
          show (match fn_L S Pn 0 with | none => S | some p => _) = _
          rw [a]
        rw [ep]
        exact (hend (n + 1) k S M (by omega) hR hnd (fun p hp => b p (Nat.zero_le _) (by omega))).2
      · have hp : p < Pn := by omega
        have hw : mwt_L M Pn = nI p := by
          rcases mwt_p M Pn hP with ⟨c, d⟩ | ⟨q, c1, c2, c3, c4⟩
          · exfalso
            apply b3
            rw [(hR.1 p hp).1, (hR.1 p hp).2]
            exact d p hp
          · have : p = q := by
              rcases Nat.lt_trichotomy p q with h | h | h
              · exfalso
                apply b3
                rw [(hR.1 p hp).1, (hR.1 p hp).2]
                exact c4 p h
              · exact h
              · exfalso
                apply c3
                rw [← (hR.1 q c1).1, ← (hR.1 q c1).2]
                exact b4 q (Nat.zero_le _) h
            rw [this]
            exact c2
        have hw1 : ¬ mwt_L M Pn = -1 := by rw [hw]; exact nI_ne p (by omega)
        rcases ff_eq hD hR Dn 0 (by omega) with ⟨c1, c2⟩ | ⟨d, c1, c2, c3, c4⟩
        · have ep : pl_L Pn Dn (n + 1) k S = ds_wI S 8 0 0 1 := by
            show (match fw_L S Pn 0 with | some p => _ | none => _) = _
            rw [hf]
            show (match fn_L S Pn 0 with | none => S | some p => _) = _
            rw [a]
            exact if_pos c1
          have e : mgs M Pn Dn k = (0, ms_w M 27 0 1) := by
            unfold mgs
            rw [hm]
            show (if mwt_L M Pn = -1 then ((0 : Int32), M) else _) = _
            rw [if_neg hw1, c2]
          have el : mwl Pn Dn (n + 1 + 1) k M = ms_w M 27 0 1 := by
            show (if (mgs M Pn Dn k).1 = 0 then (mgs M Pn Dn k).2 else _) = _
            rw [e]
            rfl
          rw [ep, el]
          obtain ⟨-, -, -, -, r5, r6, r7, r8, r9⟩ := hR
          refine ⟨?_, k, by omega, fun t i j _ h8 _ _ _ _ _ => w3_n (fun z => h8 z.1), rfl, fun t i _ _ _ h27 => ms_w_n (fun z => h27 z.1), ?_, ?_, ?_, Or.inr (ds_u3_s S.1 8 0 0 1), fun j hj => ?_⟩
          · show ¬ (mgs M Pn Dn k).1 = 0 → _
            rw [e]
            exact fun z => absurd rfl z
          · rw [w3_n (by omega)]; exact r6
          · rw [ms_w_n (by omega)]; exact r7
          · rw [ms_w_s]; exact ds_u3_s S.1 8 0 0 1
          · rw [w3_n (by omega), w3_n (by omega), w3_n (by omega), ms_w_n (by omega), ms_w_n (by omega), ms_w_n (by omega)]
            exact r5 j hj
        · have ep : pl_L Pn Dn (n + 1) k S = pl_L Pn Dn n (k + 1) (go_F S p k (nI d)) := by
            show (match fw_L S Pn 0 with | some p => _ | none => _) = _
            rw [hf]
            show (match fn_L S Pn 0 with | none => S | some p => _) = _
            rw [a]
            show (if ff_L S Dn 0 = -1 then _ else pl_L Pn Dn n (k + 1) (go_F S p k (ff_L S Dn 0))) = _
            rw [if_neg (by rw [c2]; exact nI_ne d (by omega)), c2]
          have e : mgs M Pn Dn k = (1, mg_F M p k (nI d)) := by
            unfold mgs
            rw [hm]
            show (if mwt_L M Pn = -1 then ((0 : Int32), M) else _) = _
            rw [if_neg hw1, c3, hw]
            show (1, mg_F M (nI p).toNatClampNeg k (nI d)) = _
            rw [nI_clamp (by omega)]
          have el : mwl Pn Dn (n + 1 + 1) k M = mwl Pn Dn (n + 1) (k + 1) (mg_F M p k (nI d)) := by
            show (if (mgs M Pn Dn k).1 = 0 then (mgs M Pn Dn k).2 else mwl Pn Dn (n + 1) (k + 1) (mgs M Pn Dn k).2) = _
            rw [e]
            exact if_neg (show ¬ (1 : Int32) = 0 by decide)
          obtain ⟨g1, g2, g3, g4, g5, g6, g7, g8⟩ := go_p S p k (nI d)
          obtain ⟨m1, m2, m3, m4, m5, m6⟩ := mg_p M p k (nI d)
          have hup : (fun r => (go_F S p k (nI d)).1 14 r 0) = upd1 (fun r => S.1 14 r 0) p (nI d) := funext (fun r => g2 r)
          obtain ⟨i1, i2⟩ := ih (k + 1) (go_F S p k (nI d)) (mg_F M p k (nI d)) (by omega) (wkR_go hD hR hp c1 c4) (fun r hr => by rw [g1 13 r 0 (by decide) (by decide) (by decide) (by decide) (by decide) (by decide)]; exact hnd r hr) (by
            rw [hup]
            refine wk_aside (fun p q hp hq e => hg2 p q hp hq (nI_14 (by have := hg1 p hp; omega) (by have := hg1 q hq; omega) e)) (fun p hp => nI_ne (g p) (by have := hg1 p hp; omega)) hR.2.2.1 (fun r hr hn => ?_) hp (show ¬ S.1 14 p 0 = nI (g p) from fun z => b3 (z.trans (hnd p hp).symm)) c4 hI
            have := hblk r (Nat.zero_le _) hr (by rw [hnd r hr]; exact hn)
            rw [hnd r hr] at this
            exact this)
          rw [ep, el]
          refine ⟨?_, wkE_step i2 (fun t i j c1 c2 c3 c4 c5 c6 c7 => g1 t i j c1 c3 c4 c5 c6 c7) g8 (fun t i c1 c2 c3 c4 => m1 t i c1 c2 c3)⟩
          show ¬ (mgs M Pn Dn k).1 = 0 → mwT Pn Dn (n + 1) (k + 1) (mgs M Pn Dn k).2
          rw [e]
          exact fun _ => i1
theorem sa_p {S : ds_S} {Pn Dn : Nat} (hD : Dn ≤ 14) (hv : ∀ p, p < Pn → S.1 12 p 0 = -1 ∨ ∃ d, d < Dn ∧ S.1 12 p 0 = nI d) : ∀ k, k ≤ Pn → (∀ t i j, t ≠ 7 → t ≠ 8 → t ≠ 9 → t ≠ 14 → (sa_F S k).1 t i j = S.1 t i j) ∧ (∀ r, r < k → (sa_F S k).1 14 r 0 = S.1 12 r 0) ∧ (sa_F S k).1 7 0 0 = 0 ∧ (sa_F S k).1 8 0 0 = 0 ∧ (∀ d, d < 14 → (wbt ((sa_F S k).1 9 0 0) d = true ↔ ∃ p, p < k ∧ S.1 12 p 0 = nI d)) ∧ (sa_F S k).2 = S.2
  | 0, _ => by
    have e9 : (sa_0 S).1 9 0 0 = 0 := w3_s (ds_wI (ds_wI S 7 0 0 0) 8 0 0 0) 9 0 0 0
    refine ⟨fun t i j h7 h8 h9 _ => ?_, fun r h => absurd h (Nat.not_lt_zero r), ?_, ?_, fun d hd => ?_, rfl⟩
    · show (ds_wI (ds_wI (ds_wI S 7 0 0 0) 8 0 0 0) 9 0 0 0).1 t i j = _
      rw [w3_n (fun z => h9 z.1), w3_n (fun z => h8 z.1), w3_n (fun z => h7 z.1)]
    · show (ds_wI (ds_wI (ds_wI S 7 0 0 0) 8 0 0 0) 9 0 0 0).1 7 0 0 = _
      rw [w3_n (by omega), w3_n (by omega)]
      exact w3_s _ 7 0 0 0
    · show (ds_wI (ds_wI (ds_wI S 7 0 0 0) 8 0 0 0) 9 0 0 0).1 8 0 0 = _
      rw [w3_n (by omega)]
      exact w3_s _ 8 0 0 0
    · show wbt ((sa_0 S).1 9 0 0) d = true ↔ _
      rw [e9, wb_0]
      exact ⟨fun z => (by cases z), fun ⟨p, hp, _⟩ => absurd hp (Nat.not_lt_zero p)⟩
  | k + 1, hk => by
    obtain ⟨h1, h2, h3, h4, h5, h6⟩ := sa_p hD hv k (by omega)
    have e12 : (sa_F S k).1 12 k 0 = S.1 12 k 0 := h1 12 k 0 (by decide) (by decide) (by decide) (by decide)
    by_cases hm : S.1 12 k 0 = -1
    · have e : sa_F S (k + 1) = ds_wI (sa_F S k) 14 k 0 (S.1 12 k 0) := by
        show (if (sa_F S k).1 12 k 0 = -1 then ds_wI (sa_F S k) 14 k 0 ((sa_F S k).1 12 k 0) else _) = _
        rw [e12, if_pos hm]
      rw [e]
      refine ⟨fun t i j h7 h8 h9 h14 => by rw [w3_n (fun z => h14 z.1)]; exact h1 t i j h7 h8 h9 h14, fun r hr => ?_, by rw [w3_n (by omega)]; exact h3, by rw [w3_n (by omega)]; exact h4, fun d hd => ?_, h6⟩
      · by_cases er : r = k
        · subst er; exact w3_s _ 14 r 0 _
        · rw [w3_n (fun z => er z.2.1)]; exact h2 r (by omega)
      · rw [w3_n (by omega), h5 d hd]
        constructor
        · rintro ⟨p, hp, z⟩; exact ⟨p, by omega, z⟩
        · rintro ⟨p, hp, z⟩
          refine ⟨p, ?_, z⟩
          by_cases ep : p = k
          · subst ep; exact absurd (z.symm.trans hm) (nI_ne d hd)
          · omega
    · obtain ⟨a, ha, ea⟩ := (hv k (by omega)).resolve_left hm
      have e : sa_F S (k + 1) = ds_wI (ds_wI (sa_F S k) 14 k 0 (S.1 12 k 0)) 9 0 0 ((sa_F S k).1 9 0 0 ||| ((1 : Int32) <<< (nI a &&& 31))) := by
        show (if (sa_F S k).1 12 k 0 = -1 then _ else ds_wI (ds_wI (sa_F S k) 14 k 0 ((sa_F S k).1 12 k 0)) 9 0 0 ((sa_F S k).1 9 0 0 ||| ((1 : Int32) <<< ((sa_F S k).1 12 k 0 &&& 31)))) = _
        rw [e12, if_neg hm, ea]
      rw [e]
      refine ⟨fun t i j h7 h8 h9 h14 => by rw [w3_n (fun z => h9 z.1), w3_n (fun z => h14 z.1)]; exact h1 t i j h7 h8 h9 h14, fun r hr => ?_, by rw [w3_n (by omega), w3_n (by omega)]; exact h3, by rw [w3_n (by omega), w3_n (by omega)]; exact h4, fun d hd => ?_, h6⟩
      · rw [w3_n (by omega)]
        by_cases er : r = k
        · subst er; exact w3_s _ 14 r 0 _
        · rw [w3_n (fun z => er z.2.1)]; exact h2 r (by omega)
      · have e9 : (ds_wI (ds_wI (sa_F S k) 14 k 0 (S.1 12 k 0)) 9 0 0 ((sa_F S k).1 9 0 0 ||| ((1 : Int32) <<< (nI a &&& 31)))).1 9 0 0 = (sa_F S k).1 9 0 0 ||| ((1 : Int32) <<< (nI a &&& 31)) := w3_s _ 9 0 0 _
        rw [e9, wb_set (by omega) hd, h5 d hd]
        constructor
        · rintro (⟨p, hp, z⟩ | z)
          · exact ⟨p, by omega, z⟩
          · exact ⟨k, by omega, by rw [ea, z]⟩
        · rintro ⟨p, hp, z⟩
          by_cases ep : p = k
          · subst ep; exact Or.inr (nI_14 (by omega) hd (ea.symm.trans z))
          · exact Or.inl ⟨p, by omega, z⟩
theorem mwk_p (M : ms_S) : ∀ k, (∀ t i, t ≠ 8 → t ≠ 26 → t ≠ 27 → mwk_F M k t i = M t i) ∧ (∀ r, r < k → mwk_F M k 8 r = M 3 r) ∧ mwk_F M k 26 0 = 0 ∧ mwk_F M k 27 0 = 0
  | 0 => ⟨fun t i _ h26 h27 => by
      show ms_w (ms_w M 26 0 0) 27 0 0 t i = _
      rw [ms_w_n (fun z => h27 z.1), ms_w_n (fun z => h26 z.1)], fun r h => absurd h (Nat.not_lt_zero r), by
      show ms_w (ms_w M 26 0 0) 27 0 0 26 0 = _
      rw [ms_w_n (by omega), ms_w_s], ms_w_s _ _ _ _⟩
  | k + 1 => by
    obtain ⟨h1, h2, h3, h4⟩ := mwk_p M k
    have e : mwk_F M (k + 1) = ms_w (mwk_F M k) 8 k (M 3 k) := by
      show ms_w (mwk_F M k) 8 k (mwk_F M k 3 k) = _
      rw [h1 3 k (by decide) (by decide) (by decide)]
    rw [e]
    refine ⟨fun t i a b c => by rw [ms_w_n (fun z => a z.1)]; exact h1 t i a b c, fun r hr => ?_, by rw [ms_w_n (by omega)]; exact h3, by rw [ms_w_n (by omega)]; exact h4⟩
    by_cases er : r = k
    · subst er; exact ms_w_s _ _ _ _
    · rw [ms_w_n (fun z => er z.2)]; exact h2 r (by omega)
theorem walk_end {Pn Dn : Nat} {g : Nat → Nat} {S : ds_S} {M : ms_S} (hP : Pn ≤ 10) (hD : Dn ≤ 14) (hg1 : ∀ p, p < Pn → g p < Dn) (hg2 : ∀ p q, p < Pn → q < Pn → g p = g q → p = q)
    (h13 : ∀ p, p < Pn → S.1 13 p 0 = nI (g p) ∧ M 4 p = nI (g p)) (h12 : ∀ p, p < Pn → M 3 p = S.1 12 p 0) (hv : ∀ p, p < Pn → S.1 12 p 0 = -1 ∨ ∃ d, d < Dn ∧ S.1 12 p 0 = nI d) (hd : ∀ p q, p < Pn → q < Pn → S.1 12 p 0 = S.1 12 q 0 → S.1 12 p 0 = -1 ∨ p = q) :
    mwT Pn Dn 16 0 (mwk_F M Pn) ∧ wkE S M (pl_L Pn Dn 15 0 (sa_F S Pn)) (mwl Pn Dn 16 0 (mwk_F M Pn)) := by
  obtain ⟨a1, a2, a3, a4, a5, a6⟩ := sa_p hD hv Pn (Nat.le_refl _)
  obtain ⟨b1, b2, b3, b4⟩ := mwk_p M Pn
  have hR : wkR Pn Dn (sa_F S Pn) (mwk_F M Pn) 0 := by
    refine ⟨fun p hp => ?_, fun p hp => by rw [a2 p hp]; exact hv p hp, fun p q hp hq e => ?_, fun d hd => ?_, fun j h => absurd h (Nat.not_lt_zero j), a3, b3, a4, b4⟩
    · rw [a2 p hp, b2 p hp, h12 p hp, a1 13 p 0 (by decide) (by decide) (by decide) (by decide), b1 4 p (by decide) (by decide) (by decide), (h13 p hp).1, (h13 p hp).2]
      exact ⟨rfl, rfl⟩
    · rw [a2 p hp, a2 q hq] at e
      rw [a2 p hp]
      exact hd p q hp hq e
    · rw [a5 d hd]
      constructor
      · rintro ⟨p, hp, z⟩; exact ⟨p, hp, by rw [a2 p hp]; exact z⟩
      · rintro ⟨p, hp, z⟩; exact ⟨p, hp, by rw [a2 p hp] at z; exact z⟩
  obtain ⟨r1, r2⟩ := wk_main hP hD hg1 hg2 15 0 _ _ (by omega) hR (fun p hp => by rw [a1 13 p 0 (by decide) (by decide) (by decide) (by decide)]; exact (h13 p hp).1) (Or.inl (sm_nonneg (fun p _ => by
    by_cases z : hom (fun p => nI (g p)) (fun p => (sa_F S Pn).1 14 p 0) p
    · rw [sm_ct z]; omega
    · rw [sm_cf z]; omega)))
  exact ⟨r1, wkE_step r2 (fun t i j c1 c2 c3 c4 _ _ _ => a1 t i j c1 c2 c3 c4) a6 (fun t i _ c2 c3 c4 => b1 t i c2 c3 c4)⟩
