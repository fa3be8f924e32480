/-! PURE: gaps -/
theorem fr_p {S : ds_S} {mi : Int32} (hm0 : 1 ≤ mi.toInt) (hm1 : mi.toInt ≤ 10080) : ∀ (L : List Nat) (n : Nat) (o : Option Nat) (t : Int32), chn (S.2.2 3) o L → L.length < n → L.Pairwise (fun i j => (S.1 21 i 0).toInt ≤ (S.1 20 j 0).toInt) → (∀ k, k ∈ L → 0 ≤ (S.1 20 k 0).toInt ∧ (S.1 20 k 0).toInt < (S.1 21 k 0).toInt ∧ (S.1 21 k 0).toInt ≤ 10080) → 0 ≤ t.toInt → t.toInt ≤ 10080 →
    t.toInt ≤ (fr_L S mi n o t).toInt ∧ (fr_L S mi n o t).toInt ≤ 10080 ∧ (∀ k, k ∈ L → (fr_L S mi n o t).toInt + mi.toInt ≤ (S.1 20 k 0).toInt ∨ (S.1 21 k 0).toInt ≤ (fr_L S mi n o t).toInt) ∧
    (∀ s : Int, t.toInt ≤ s → s < (fr_L S mi n o t).toInt → ∃ k, k ∈ L ∧ (S.1 20 k 0).toInt < s + mi.toInt ∧ s < (S.1 21 k 0).toInt)
  | [], 0, _, _, _, h, _, _, _, _ => absurd h (Nat.lt_irrefl 0)
  | [], n + 1, o, t, h, _, _, _, h0, h1 => by
    have h : o = none := h
    rw [h]
    exact ⟨Int.le_refl _, h1, fun k hk => absurd hk List.not_mem_nil, fun s a b => absurd (show s < t.toInt from b) (by omega)⟩
  | k :: L, 0, _, _, _, h, _, _, _, _ => absurd h (Nat.not_lt_zero _)
  | k :: L, n + 1, o, t, h, hl, hp, hr, h0, h1 => by
    obtain ⟨e, h⟩ := h
    rw [e]
    obtain ⟨p1, p2⟩ := List.pairwise_cons.mp hp
    have hrk := hr k List.mem_cons_self
    have hr' : ∀ j, j ∈ L → 0 ≤ (S.1 20 j 0).toInt ∧ (S.1 20 j 0).toInt < (S.1 21 j 0).toInt ∧ (S.1 21 j 0).toInt ≤ 10080 := fun j hj => hr j (List.mem_cons_of_mem _ hj)
    have et : (t + mi).toInt = t.toInt + mi.toInt := i_add (by omega) (by omega)
    unfold fr_L
    by_cases c1 : t + mi ≤ S.1 20 k 0
    · rw [if_pos c1]
      rw [Int32.le_iff_toInt_le, et] at c1
      obtain ⟨a1, a2, a3, a4⟩ := fr_p hm0 hm1 L n (S.2.2 3 k) t h (Nat.lt_of_succ_lt_succ hl) p2 hr' h0 h1
      have hT : (fr_L S mi n (S.2.2 3 k) t).toInt = t.toInt := by
        refine Classical.byContradiction (fun hne => ?_)
        obtain ⟨j, j1, j2, j3⟩ := a4 t.toInt (Int.le_refl _) (by omega)
        have := p1 j j1
        omega
      refine ⟨a1, a2, fun j hj => ?_, fun s s1 s2 => ?_⟩
      · rcases List.mem_cons.mp hj with q | q
        · rw [q, hT]; exact Or.inl c1
        · exact a3 j q
      · obtain ⟨j, j1, j2⟩ := a4 s s1 s2
        exact ⟨j, List.mem_cons_of_mem _ j1, j2⟩
    · rw [if_neg c1]
      rw [Int32.le_iff_toInt_le, et] at c1
      by_cases c2 : S.1 21 k 0 ≤ t
      · rw [if_pos c2]
        rw [Int32.le_iff_toInt_le] at c2
        obtain ⟨a1, a2, a3, a4⟩ := fr_p hm0 hm1 L n (S.2.2 3 k) t h (Nat.lt_of_succ_lt_succ hl) p2 hr' h0 h1
        refine ⟨a1, a2, fun j hj => ?_, fun s s1 s2 => ?_⟩
        · rcases List.mem_cons.mp hj with q | q
          · rw [q]; exact Or.inr (by omega)
          · exact a3 j q
        · obtain ⟨j, j1, j2⟩ := a4 s s1 s2
          exact ⟨j, List.mem_cons_of_mem _ j1, j2⟩
      · rw [if_neg c2]
        rw [Int32.le_iff_toInt_le] at c2
        obtain ⟨a1, a2, a3, a4⟩ := fr_p hm0 hm1 L n (S.2.2 3 k) (S.1 21 k 0) h (Nat.lt_of_succ_lt_succ hl) p2 hr' (by omega) (by omega)
        refine ⟨by omega, a2, fun j hj => ?_, fun s s1 s2 => ?_⟩
        · rcases List.mem_cons.mp hj with q | q
          · rw [q]; exact Or.inr a1
          · exact a3 j q
        · by_cases hs : s < (S.1 21 k 0).toInt
          · exact ⟨k, List.mem_cons_self, by omega, hs⟩
          · obtain ⟨j, j1, j2⟩ := a4 s (by omega) s2
            exact ⟨j, List.mem_cons_of_mem _ j1, j2⟩
theorem gp_p {S : ds_S} {M : ms_S} {nb Rn n0 : Nat} {L : Nat → List Nat} (hR : Rn ≤ 8) (hb : nb ≤ 300) (h : rmL S M nb Rn L) (hn : ∀ r, (L r).length < n0) {r : Nat} (hr : r < 8) {mi T : Int32} (hm0 : 1 ≤ mi.toInt) (hm1 : mi.toInt ≤ 10080) (hT1 : T.toInt ≤ 10080)
    (hfree : ∀ k, k ∈ L r → T.toInt + mi.toInt ≤ (S.1 20 k 0).toInt ∨ (S.1 21 k 0).toInt ≤ T.toInt) : ∀ (n : Nat) (t : Int32), 10081 - t.toInt ≤ n → 0 ≤ t.toInt → t.toInt ≤ T.toInt → (∀ s : Int, t.toInt ≤ s → s < T.toInt → ∃ k, k ∈ L r ∧ (S.1 20 k 0).toInt < s + mi.toInt ∧ s < (S.1 21 k 0).toInt) →
    gp_T M (nI r) mi nb n t ∧ gp_L M (nI r) mi nb n t = if 10080 < T + mi then -1 else T
  | 0, t, h1, h2, h3, _ => by exfalso; omega
  | n + 1, t, h1, h2, h3, h4 => by
    have et : (t + mi).toInt = t.toInt + mi.toInt := i_add (by omega) (by omega)
    have eT : (T + mi).toInt = T.toInt + mi.toInt := i_add (by omega) (by omega)
    have e10 : ((10080 : Int32)).toInt = 10080 := rfl
    unfold gp_L gp_T
    by_cases c1 : 10080 < t + mi
    · rw [if_pos c1]
      refine ⟨Or.inl c1, ?_⟩
      rw [if_pos]
      rw [Int32.lt_iff_toInt_lt, et, e10] at c1
      rw [Int32.lt_iff_toInt_lt, eT, e10]
      omega
    · rw [if_neg c1]
      rw [Int32.lt_iff_toInt_lt, et, e10] at c1
      rcases mt_iff hR hb h hn hr t (t + mi) with ⟨-, m2, m3⟩ | ⟨-, k, -, b2, -, b4, -, -, b7, b8⟩
      · rw [if_pos m2]
        refine ⟨Or.inr (Or.inl m2), ?_⟩
        have hTt : t.toInt = T.toInt := by
          refine Classical.byContradiction (fun hne => ?_)
          obtain ⟨j, j1, j2, j3⟩ := h4 t.toInt (Int.le_refl _) (by omega)
          have := m3 j j1
          rw [Int32.le_iff_toInt_le, Int32.le_iff_toInt_le, et] at this
          omega
        have hTt : t = T := Int32.toInt_inj.mp hTt
        rw [← hTt, if_neg]
        rw [Int32.lt_iff_toInt_lt, et, e10]
        exact c1
      · have hk := ((h.2.1 r k).mp b2).1
        have hne : ¬ mm_L M (nI r) t (t + mi) nb = -1 := by rw [b4]; exact nI_m1 (by omega)
        rw [if_neg hne, b4, nI_clamp (by omega)]
        obtain ⟨r', -, -, -, -, d5, -⟩ := h.2.2.2.1 k hk
        rw [d5]
        have hrk := rm_rng h b2
        rw [Int32.le_iff_toInt_le, et] at b7
        rw [Int32.le_iff_toInt_le] at b8
        have hfk := hfree k b2
        obtain ⟨i1, i2⟩ := gp_p hR hb h hn hr hm0 hm1 hT1 hfree n (S.1 21 k 0) (by omega) (by omega) (by omega) (fun s s1 s2 => h4 s (by omega) s2)
        exact ⟨Or.inr (Or.inr i1), i2⟩
theorem gap_eq {S : ds_S} {M : ms_S} {nb Rn n0 : Nat} {L : Nat → List Nat} (hR : Rn ≤ 8) (hb : nb ≤ 300) (h : rmL S M nb Rn L) (hn : ∀ r, (L r).length < n0) {r : Nat} (hr : r < 8) {y mi : Int32} (hm0 : 1 ≤ mi.toInt) (hm1 : mi.toInt ≤ 10080) (hy0 : 0 ≤ y.toInt) (hy1 : y.toInt < 10080) :
    gp_T M (nI r) mi nb 10082 y ∧ gp_L M (nI r) mi nb 10082 y = if 10080 < fr_L S mi n0 (S.2.2 2 r) y + mi then -1 else fr_L S mi n0 (S.2.2 2 r) y := by
  obtain ⟨a1, a2, a3, a4⟩ := fr_p hm0 hm1 (L r) n0 (S.2.2 2 r) y (h.1 r) (hn r) (h.2.2.1 r) (fun k hk => rm_rng h hk) hy0 (by omega)
  exact gp_p hR hb h hn hr hm0 hm1 a2 a3 10082 y (by omega) hy0 a1 a4
/-! PURE: places left over -/
def lsm (f : Nat → Int) : List Nat → Int
  | [] => 0
  | k :: L => f k + lsm f L
theorem lo_p {S : ds_S} {r : Nat} {F : Nat → Int} : ∀ (L : List Nat) (n : Nat) (o : Option Nat) (t : Int32), chn (S.2.2 3) o L → L.length < n → (∀ k, k ∈ L → (S.1 19 r 0 - S.1 22 k 0).toInt = F k) → lo_L S r n o t = t + Int32.ofInt (lsm F L)
  | [], 0, _, _, _, h, _ => absurd h (Nat.lt_irrefl 0)
  | [], n + 1, o, t, h, _, _ => by
    have h : o = none := h
    rw [h]
    show t = t + Int32.ofInt 0
    rw [show Int32.ofInt 0 = 0 from rfl, Int32.add_zero]
  | k :: L, 0, _, _, _, h, _ => absurd h (Nat.not_lt_zero _)
  | k :: L, n + 1, o, t, h, hl, hF => by
    obtain ⟨e, h⟩ := h
    rw [e]
    show lo_L S r n (S.2.2 3 k) (t + (S.1 19 r 0 - S.1 22 k 0)) = t + Int32.ofInt (F k + lsm F L)
    rw [lo_p L n (S.2.2 3 k) _ h (Nat.lt_of_succ_lt_succ hl) (fun j hj => hF j (List.mem_cons_of_mem _ hj)), Int32.ofInt_add, ← hF k List.mem_cons_self, Int32.ofInt_toInt, Int32.add_assoc]
theorem wa_p {S : ds_S} {n0 : Nat} {F : Nat → Int} {L : Nat → List Nat} (hc : ∀ r, chn (S.2.2 3) (S.2.2 2 r) (L r)) (hn : ∀ r, (L r).length < n0) (hF : ∀ r k, k ∈ L r → (S.1 19 r 0 - S.1 22 k 0).toInt = F k) : ∀ (n k : Nat) (t : Int32), wa_L S n0 n k t = t + Int32.ofInt (sm_S (fun r => lsm F (L r)) (k + n) - sm_S (fun r => lsm F (L r)) k)
  | 0, k, t => by
    show t = t + Int32.ofInt (sm_S (fun r => lsm F (L r)) k - sm_S (fun r => lsm F (L r)) k)
    rw [Int.sub_self, show Int32.ofInt 0 = 0 from rfl, Int32.add_zero]
  | n + 1, k, t => by
    show wa_L S n0 n (k + 1) (t + lo_L S k n0 (S.2.2 2 k) 0) = _
    rw [wa_p hc hn hF n (k + 1), lo_p (L k) n0 _ 0 (hc k) (hn k) (hF k), Int32.zero_add, Int32.add_assoc, ← Int32.ofInt_add]
    congr 2
    rw [show k + 1 + n = k + (n + 1) by omega]
    show lsm F (L k) + (sm_S (fun r => lsm F (L r)) (k + (n + 1)) - (sm_S (fun r => lsm F (L r)) k + lsm F (L k))) = _
    omega
theorem wm_p (M : ms_S) : ∀ n, wm_L M n = Int32.ofInt (sm_S (fun k => sm_c (¬ M 14 k = 0) (M 13 k).toInt) n)
  | 0 => rfl
  | n + 1 => by
    show (if M 14 n = 0 then wm_L M n else wm_L M n + M 13 n) = Int32.ofInt (sm_S (fun k => sm_c (¬ M 14 k = 0) (M 13 k).toInt) n + sm_c (¬ M 14 n = 0) (M 13 n).toInt)
    by_cases c : M 14 n = 0
    · rw [if_pos c, sm_cf (fun z => z c), wm_p M n, Int.add_zero]
    · rw [if_neg c, sm_ct c, wm_p M n, Int32.ofInt_add, Int32.ofInt_toInt]
theorem lsm_s {F : Nat → Int} {nb : Nat} {R : Nat → Nat → Prop} : ∀ (L : List Nat), L.Pairwise R → (∀ k, k ∈ L → k < nb ∧ ¬ R k k) → lsm F L = sm_S (fun k => sm_c (k ∈ L) (F k)) nb
  | [], _, _ => (sm_zero (fun k _ => sm_cf List.not_mem_nil)).symm
  | k :: L, hp, hk => by
    obtain ⟨p1, p2⟩ := List.pairwise_cons.mp hp
    have hkL : ¬ k ∈ L := fun z => (hk k List.mem_cons_self).2 (p1 k z)
    show F k + lsm F L = _
    rw [lsm_s L p2 (fun j hj => hk j (List.mem_cons_of_mem _ hj))]
    have e1 : sm_S (fun i => sm_c (i = k) (F i)) nb = F k := by
      rw [sm_single (f := fun i => sm_c (i = k) (F i)) (hk k List.mem_cons_self).1 (fun i _ hne => sm_cf hne), sm_ct rfl]
    rw [← e1, ← sm_add]
    refine sm_congr (fun i _ => ?_)
    by_cases c : i = k
    · subst c
      rw [sm_ct rfl, sm_cf hkL, sm_ct (P := i ∈ i :: L) List.mem_cons_self]; omega
    · rw [sm_cf c, sm_ce (P := i ∈ L) (Q := i ∈ k :: L) ⟨fun z => List.mem_cons_of_mem _ z, fun z => (List.mem_cons.mp z).resolve_left c⟩ (fun _ => rfl)]; omega
theorem waste_eq {S : ds_S} {M : ms_S} {nb Rn n0 : Nat} {L : Nat → List Nat} (h : rmL S M nb Rn L) (hn : ∀ r, (L r).length < n0) : wa_L S n0 Rn 0 0 = wm_L M nb := by
  have hF : ∀ r k, k ∈ L r → (S.1 19 r 0 - S.1 22 k 0).toInt = (M 13 k).toInt := fun r k hk => by
    obtain ⟨a, b, c⟩ := (h.2.1 r k).mp hk
    obtain ⟨r', -, d2, -, -, -, d6, -⟩ := h.2.2.2.1 k a
    rw [c] at d2
    cases d2
    rw [d6]
  rw [wa_p (F := fun k => (M 13 k).toInt) h.1 hn hF Rn 0 0, wm_p, Int32.zero_add]
  congr 1
  rw [Nat.zero_add]
  show sm_S (fun r => lsm (fun k => (M 13 k).toInt) (L r)) Rn - 0 = _
  rw [Int.sub_zero]
  rw [sm_congr (g := fun r => sm_S (fun k => sm_c (k ∈ L r) (M 13 k).toInt) nb) (fun r _ => lsm_s (R := fun i j => (S.1 21 i 0).toInt ≤ (S.1 20 j 0).toInt) (L r) (h.2.2.1 r) (fun k hk => ⟨((h.2.1 r k).mp hk).1, fun z => by have := rm_rng h hk; omega⟩))]
  rw [sm_swap]
  refine sm_congr (fun k hk => ?_)
  obtain ⟨r, d1, d2, -⟩ := h.2.2.2.1 k hk
  rw [sm_single (f := fun i => sm_c (k ∈ L i) (M 13 k).toInt) d1 (fun i _ hne => sm_cf (fun z => hne (by
    have := ((h.2.1 i k).mp z).2.2
    rw [d2] at this
    cases this
    rfl)))]
  exact sm_ce ⟨fun z => ((h.2.1 r k).mp z).2.1, fun z => (h.2.1 r k).mpr ⟨hk, z, d2⟩⟩ (fun _ => rfl)
