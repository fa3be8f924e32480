/-! PURE: the search for one person, as the class does it, keeps the method's invariant -/
def su (S : ds_S) (p : Nat) : Int := (S.2.1 0 p).toInt
def sv (S : ds_S) (d : Nat) : Int := (S.2.1 1 d).toInt
def sd (S : ds_S) (d : Nat) : Int := (S.2.1 2 d).toInt
def rcN (N : Nat) (S : ds_S) (d : Nat) : Prop := d < N ∧ ¬ S.1 15 d 0 = 0
def alN (S : ds_S) (p d : Nat) : Prop := S.1 11 p d = 0
def c54 : Int := 18014398509481984
def f62 : Int := 4611686018427387904
def wishR (S : ds_S) : Prop := ∀ p d, p < 10 → d < 14 → 0 ≤ (S.1 10 p d).toInt ∧ (S.1 10 p d).toInt ≤ 1000
def exc15 (Sb S : ds_S) : Prop := ∀ t i j, t ≠ 15 → S.1 t i j = Sb.1 t i j
theorem cn_le {P : Nat → Prop} : ∀ N, sm_S (fun d => sm_c (P d) 1) N ≤ N := by
  intro N
  induction N with
  | zero => exact Int.le_refl _
  | succ n ih =>
    show sm_S (fun d => sm_c (P d) 1) n + sm_c (P n) 1 ≤ _
    have : sm_c (P n) 1 ≤ 1 := by
      by_cases h : P n
      · rw [sm_ct h]; exact Int.le_refl _
      · rw [sm_cf h]; omega
    omega
theorem cn_all {P : Nat → Prop} : ∀ {N : Nat}, sm_S (fun d => sm_c (P d) 1) N = N → ∀ d, d < N → P d := by
  intro N
  induction N with
  | zero => intro _ d h; exact absurd h (Nat.not_lt_zero d)
  | succ n ih =>
    intro h d hd
    have h : sm_S (fun d => sm_c (P d) 1) n + sm_c (P n) 1 = ((n + 1 : Nat) : Int) := h
    have h1 := cn_le (P := P) n
    by_cases hp : P n
    · rw [sm_ct hp] at h
      rcases Nat.lt_or_eq_of_le (Nat.le_of_lt_succ hd) with h2 | h2
      · exact ih (by omega) d h2
      · rw [h2]; exact hp
    · rw [sm_cf hp] at h
      omega
theorem cn_add {P Q : Nat → Prop} {d0 N : Nat} (hd : d0 < N) (h0 : ¬ P d0) (hQ : ∀ d, d < N → (Q d ↔ P d ∨ d = d0)) : sm_S (fun d => sm_c (Q d) 1) N = sm_S (fun d => sm_c (P d) 1) N + 1 := by
  have e : sm_S (fun p => sm_c (p = d0) 1) N = 1 := by
    rw [sm_single (f := fun p => sm_c (p = d0) 1) hd (fun i _ hne => sm_cf hne), sm_ct rfl]
  have e2 := sm_add (fun p => sm_c (P p) 1) (fun p => sm_c (p = d0) 1) N
  have e3 : sm_S (fun p => sm_c (Q p) 1) N = sm_S (fun p => sm_c (P p) 1 + sm_c (p = d0) 1) N := by
    refine sm_congr (fun p hp => ?_)
    by_cases hpq : p = d0
    · subst hpq
      rw [sm_ct ((hQ p hp).mpr (Or.inr rfl)), sm_cf h0, sm_ct rfl]; rfl
    · rw [sm_cf (P := p = d0) hpq, sm_ce (P := Q p) (Q := P p) ⟨fun z => ((hQ p hp).mp z).resolve_right hpq, fun z => (hQ p hp).mpr (Or.inl z)⟩ (fun _ => rfl)]; omega
  rw [e3, e2, e]
/-- where the search stands -/
def ap_J (N q : Nat) (Sb : ds_S) (M : Nat → Prop) (S : ds_S) (x : Nat) (fr : Option Nat) (k : Nat) (rk : Nat → Nat) (Lk : Nat → Prop) : Prop :=
  exc15 Sb S ∧
  hs_I 10 N (cI Sb) (alN Sb) c54 M q (S.2.2 0) f62 (su S) (sv S) (sd S) (S.2.2 1) (rcN N S) rk k Lk ∧
  ((x = q ∧ fr = none) ∨ ∃ d', fr = some d' ∧ d' < N ∧ rcN N S d' ∧ S.2.2 0 d' = some x) ∧
  (∀ p, p < 10 → hs_T N q (S.2.2 0) (rcN N S) p → Lk p ∨ p = x) ∧
  sm_S (fun d => sm_c (rcN N S d) 1) N = k
theorem cI_all {S : ds_S} {N : Nat} (hN : N ≤ 14) (hw : wishR S) : ∀ p d, p < 10 → d < N → 0 ≤ cI S p d ∧ cI S p d ≤ c54 := fun p d hp hd => cI_range (hw p d hp (by omega)).1 (hw p d hp (by omega)).2 hp (by omega)
/-- the prices of a search are not large -/
theorem ap_bnd {N q : Nat} {Sb : ds_S} {M : Nat → Prop} {S : ds_S} {k : Nat} {rk : Nat → Nat} {Lk : Nat → Prop} (hN : N ≤ 14) (hq : q < 10) (hw : wishR Sb) (hk : k ≤ 13)
    (h : hs_I 10 N (cI Sb) (alN Sb) c54 M q (S.2.2 0) f62 (su S) (sv S) (sd S) (S.2.2 1) (rcN N S) rk k Lk) :
    (∀ d, d < N → -(61 * c54) ≤ sv S d ∧ sv S d ≤ 0) ∧ (∀ p, p < 10 → hs_T N q (S.2.2 0) (rcN N S) p → 0 ≤ su S p ∧ su S p ≤ 62 * c54) := by
  obtain ⟨h1, h2, h3, h4, h5, h6, h7⟩ := h
  have hc := cI_all hN hw
  have hpr := hs_price hq hc h1 (fun d hr => ⟨(h4 d hr).1, (h4 d hr).2.2⟩)
  have hv : ∀ d, d < N → -(61 * c54) ≤ sv S d ∧ sv S d ≤ 0 := by
    intro d hd
    refine ⟨?_, (h3 d hd).1⟩
    by_cases hr : rcN N S d
    · have hk := (h4 d hr).2.1
      have := (hpr (rk d) d hd (h4 d hr).2.2).1
      have e2 : ((rk d : Int)) * c54 ≤ 13 * c54 := Int.mul_le_mul_of_nonneg_right (by omega) (by decide)
      unfold c54 at *
      omega
    · have := (h3 d hd).2.2 hr
      unfold c54 at *
      omega
  refine ⟨hv, fun p hp ht => ?_⟩
  rcases ht with rfl | ⟨d, hd, hr, hs⟩
  · unfold c54 at *
    omega
  · obtain ⟨a1, a2, a3, a4⟩ := h1.1 d p hd hs
    have := hc p d hp hd
    have := hv d hd
    unfold c54 at *
    omega
theorem lf_zI {N : Nat} {Sb S : ds_S} {x d : Nat} (hN : N ≤ 14) (hw : wishR Sb) (hex : exc15 Sb S) (hx : x < 10) (hd : d < N) (hu : 0 ≤ su S x ∧ su S x ≤ 62 * c54) (hv : -(61 * c54) ≤ sv S d ∧ sv S d ≤ 0) : (lf_z S x d).toInt = cI Sb x d - su S x - sv S d := by
  have hc := cI_all hN hw x d hx hd
  have e0 : (pe_cost S x d).toInt = cI Sb x d := by
    rw [pe_costE hex]
    exact pe_costI (hw x d hx (by omega)).1 (hw x d hx (by omega)).2 hx (by omega)
  unfold su sv c54 at *
  have e1 : (pe_cost S x d - S.2.1 0 x).toInt = cI Sb x d - (S.2.1 0 x).toInt := by
    rw [j_sub (by rw [e0]; omega) (by rw [e0]; omega), e0]
  unfold lf_z
  rw [j_sub (by rw [e1]; omega) (by rw [e1]; omega), e1]
theorem f62_lt (a : Int64) : a < 4611686018427387904 ↔ a.toInt < f62 := Int64.lt_iff_toInt_lt
theorem ap_look {N q : Nat} {Sb : ds_S} {M : Nat → Prop} {S : ds_S} {x : Nat} {fr : Option Nat} {k : Nat} {rk : Nat → Nat} {Lk : Nat → Prop} (hN : N ≤ 14) (hq : q < 10) (hw : wishR Sb) (hk : k ≤ 13) (h : ap_J N q Sb M S x fr k rk Lk) :
    hs_I 10 N (cI Sb) (alN Sb) c54 M q (S.2.2 0) f62 (su S) (sv S) (sd (lf_F S x fr N)) ((lf_F S x fr N).2.2 1) (rcN N S) rk k (fun p => Lk p ∨ p = x) := by
  obtain ⟨hex, hI, hfr, htr, hct⟩ := h
  obtain ⟨hv, hu⟩ := ap_bnd hN hq hw hk hI
  have hM := hI.1
  have hx : x < 10 ∧ (M x ∨ x = q) ∧ hs_T N q (S.2.2 0) (rcN N S) x := by
    rcases hfr with ⟨rfl, -⟩ | ⟨d', -, hd', hr', hs'⟩
    · exact ⟨hq, Or.inr rfl, Or.inl rfl⟩
    · exact ⟨(hM.1 d' x hd' hs').1, Or.inl (hM.1 d' x hd' hs').2.1, Or.inr ⟨d', hd', hr', hs'⟩⟩
  have hz : ∀ d, d < N → (lf_z S x d).toInt = cI Sb x d - su S x - sv S d := fun d hd => lf_zI hN hw hex hx.1 hd (hu x hx.1 hx.2.2) (hv d hd)
  obtain ⟨p1, p2, p3, p4⟩ := lf_p S x fr N
  refine hs_look (fr := fr) hI hx.1 hx.2.1 hfr (fun d hd _ => ?_) (fun d hd hr ha hlt => ?_) (fun d hd ho => ?_)
  · have := cI_all hN hw x d hx.1 hd
    have := hu x hx.1 hx.2.2
    have := hv d hd
    unfold c54 f62 at *
    omega
  · have hr' : S.1 15 d 0 = 0 := Classical.byContradiction (fun z => hr ⟨hd, z⟩)
    have ha' : S.1 11 x d = 0 := by rw [hex 11 x d (by decide)]; exact ha
    have hl : lf_z S x d < S.2.1 2 d := by
      rw [Int64.lt_iff_toInt_lt, hz d hd]
      exact hlt
    obtain ⟨a, b⟩ := p3 d hd ⟨hr', ha', hl⟩
    exact ⟨by unfold sd; rw [a]; exact hz d hd, b⟩
  · have hn : ¬ (d < N ∧ lf_c S x d) := by
      rintro ⟨-, c1, c2, c3⟩
      rcases ho with ho | ho | ho
      · exact ho.2 c1
      · exact ho (by show Sb.1 11 x d = 0; rw [← hex 11 x d (by decide)]; exact c2)
      · rw [Int64.lt_iff_toInt_lt, hz d hd] at c3
        exact ho c3
    obtain ⟨a, b⟩ := p4 d hn
    exact ⟨by unfold sd; rw [a], b⟩
theorem ap_shift {N q : Nat} {Sb : ds_S} {M : Nat → Prop} {S : ds_S} {k : Nat} {rk : Nat → Nat} {Lk : Nat → Prop} {d0 : Nat} (hN : N ≤ 14) (hq : q < 10) (hqM : ¬ M q) (hw : wishR Sb) (hk : k ≤ 13)
    (h : hs_I 10 N (cI Sb) (alN Sb) c54 M q (S.2.2 0) f62 (su S) (sv S) (sd S) (S.2.2 1) (rcN N S) rk k Lk) (hall : ∀ p, p < 10 → hs_T N q (S.2.2 0) (rcN N S) p → Lk p)
    (hd0 : d0 < N) (hr0 : S.1 15 d0 0 = 0) (hf0 : S.2.1 2 d0 < 4611686018427387904) (hmin : ∀ d, d < N → S.1 15 d 0 = 0 → S.2.1 2 d0 ≤ S.2.1 2 d) :
    hs_J 10 N (cI Sb) (alN Sb) c54 M q (S.2.2 0) f62 (su (ap_3 N q S d0)) (sv (ap_3 N q S d0)) (sd (ap_3 N q S d0)) (S.2.2 1) (rcN N S) rk k Lk d0 := by
  obtain ⟨hv, hu⟩ := ap_bnd hN hq hw hk h
  have hM := h.1
  have hr0' : ¬ rcN N S d0 := fun z => z.2 hr0
  have hb0 : 0 ≤ sd S d0 := by
    rcases h.2.2.2.2.1 d0 hd0 hr0' with ⟨e, -⟩ | ⟨-, e, -⟩
    · rw [e]; decide
    · exact e
  have hb1 : sd S d0 < f62 := (f62_lt _).mp hf0
  have hqs : ∀ d, d < N → S.2.2 0 d ≠ some q := fun d hd hs => hqM (hM.1 d q hd hs).2.1
  have hS2 : ∀ d p, (ds_wJ S 0 q (S.2.1 0 q + S.2.1 2 d0)).2.2 0 d = some p ↔ S.2.2 0 d = some p := fun _ _ => Iff.rfl
  obtain ⟨p1, p2, p3, p4, p5, p6⟩ := sp_p (ds_wJ S 0 q (S.2.1 0 q + S.2.1 2 d0)) (S.2.1 2 d0) (N := N) (fun d d' p hd hd' e e' => hM.2.2 d d' p hd hd' e e') N (Nat.le_refl N)
  have t1 : ∀ d, (ds_wJ S 0 q (S.2.1 0 q + S.2.1 2 d0)).2.1 1 d = S.2.1 1 d := fun d => wJ_n (by omega)
  have t2 : ∀ d, (ds_wJ S 0 q (S.2.1 0 q + S.2.1 2 d0)).2.1 2 d = S.2.1 2 d := fun d => wJ_n (by omega)
  have t0 : ∀ p, p ≠ q → (ds_wJ S 0 q (S.2.1 0 q + S.2.1 2 d0)).2.1 0 p = S.2.1 0 p := fun p hp => wJ_n (fun z => hp z.2)
  have tq : (ds_wJ S 0 q (S.2.1 0 q + S.2.1 2 d0)).2.1 0 q = S.2.1 0 q + S.2.1 2 d0 := ds_u2_s _ _ _ _
  have hub : ∀ p, p < 10 → hs_T N q (S.2.2 0) (rcN N S) p → (S.2.1 0 p + S.2.1 2 d0).toInt = su S p + sd S d0 := by
    intro p hp ht
    have := hu p hp ht
    unfold su sd c54 f62 at *
    exact j_add (by omega) (by omega)
  refine hs_shift (d0 := d0) hq hqM (cI_all hN hw) hk h hall hd0 hr0' hb1 (fun d hd hr _ => ?_) (fun p hp ht => ?_) (fun p hp ht => ?_) (fun d hd hr => ?_) (fun d hd hr => ?_) (fun d hd hr hl => ?_) (fun d hd hr hl => ?_)
  · exact Int64.le_iff_toInt_le.mp (hmin d hd (Classical.byContradiction (fun z => hr ⟨hd, z⟩)))
  · have e := hub p hp ht
    rcases ht with rfl | ⟨d, hd, hr, hs⟩
    · have := p6 p (fun ⟨d, hd, _, hs⟩ => hqs d hd hs)
      show ((sp_F (ds_wJ S 0 p (S.2.1 0 p + S.2.1 2 d0)) (S.2.1 2 d0) N).2.1 0 p).toInt = _
      rw [this, tq]
      exact e
    · have := p5 p ⟨d, hd, hr.2, hs⟩
      show ((sp_F (ds_wJ S 0 q (S.2.1 0 q + S.2.1 2 d0)) (S.2.1 2 d0) N).2.1 0 p).toInt = _
      rw [this, t0 p (fun z => hqs d hd (z ▸ hs))]
      exact e
  · have := p6 p (fun ⟨d, hd, hr, hs⟩ => ht (Or.inr ⟨d, hd, ⟨hd, hr⟩, hs⟩))
    show ((sp_F (ds_wJ S 0 q (S.2.1 0 q + S.2.1 2 d0)) (S.2.1 2 d0) N).2.1 0 p).toInt = _
    rw [this, t0 p (fun z => ht (Or.inl z))]
    rfl
  · have := p3 d hd hr.2
    show ((sp_F (ds_wJ S 0 q (S.2.1 0 q + S.2.1 2 d0)) (S.2.1 2 d0) N).2.1 1 d).toInt = _
    rw [this, t1]
    have := hv d hd
    unfold sv sd c54 f62 at *
    exact j_sub (by omega) (by omega)
  · have := p4 d (fun z => hr ⟨hd, z.2⟩)
    show ((sp_F (ds_wJ S 0 q (S.2.1 0 q + S.2.1 2 d0)) (S.2.1 2 d0) N).2.1 1 d).toInt = _
    rw [this, t1]
    rfl
  · have hr' : S.1 15 d 0 = 0 := Classical.byContradiction (fun z => hr ⟨hd, z⟩)
    have := p1 d hd hr' (by rw [t2]; exact (f62_lt _).mpr hl)
    show ((sp_F (ds_wJ S 0 q (S.2.1 0 q + S.2.1 2 d0)) (S.2.1 2 d0) N).2.1 2 d).toInt = _
    rw [this, t2]
    have := Int64.le_iff_toInt_le.mp (hmin d hd hr')
    unfold sv sd c54 f62 at *
    exact j_sub (by omega) (by omega)
  · have := p2 d (fun z => hl ((f62_lt _).mp (by have := z.2.2; rw [t2] at this; exact this)))
    show ((sp_F (ds_wJ S 0 q (S.2.1 0 q + S.2.1 2 d0)) (S.2.1 2 d0) N).2.1 2 d).toInt = _
    rw [this, t2]
    rfl
theorem ho_22 (q : Nat) : ∀ (n : Nat) (S : ds_S) (o : Option Nat) (t i : Nat), t ≠ 0 → (ho_F q n S o).2.2 t i = S.2.2 t i
  | 0, _, _, _, _, _ => rfl
  | _ + 1, _, none, _, _, _ => rfl
  | n + 1, S, some d, t, i, ht => by
    show (ho_F q n (ds_wR S 0 d (match S.2.2 1 d with | none => some q | some d' => S.2.2 0 d')) (S.2.2 1 d)).2.2 t i = _
    rw [ho_22 q n _ _ t i ht]
    exact wR_n (fun z => ht z.1)
theorem ap_main {N q : Nat} {Sb : ds_S} {M : Nat → Prop} (hN : N ≤ 14) (hq : q < 10) (hqM : ¬ M q) (hw : wishR Sb) :
    ∀ (n k : Nat) (S : ds_S) (x : Nat) (fr : Option Nat) (rk : Nat → Nat) (Lk : Nat → Prop), k + n = N → ap_J N q Sb M S x fr k rk Lk →
      ap_T N q n S x fr ∧ exc15 Sb (ap_L N q n S x fr).2 ∧ (∀ t i, t ≠ 0 → t ≠ 1 → (ap_L N q n S x fr).2.2.2 t i = S.2.2 t i) ∧
      (((ap_L N q n S x fr).1 = 0 ∧ ∀ g, ¬ as_ok 10 N (fun p => M p ∨ p = q) (alN Sb) g) ∨
       ((ap_L N q n S x fr).1 = 1 ∧ hu_I 10 N (cI Sb) (alN Sb) c54 (fun p => M p ∨ p = q) ((ap_L N q n S x fr).2.2.2 0) (su (ap_L N q n S x fr).2) (sv (ap_L N q n S x fr).2))) := by
  intro n
  induction n with
  | zero =>
    intro k S x fr rk Lk hkn hJ
    obtain ⟨hex, hI, hfr, htr, hct⟩ := hJ
    have hkN : k = N := by omega
    subst hkN
    have hall := cn_all hct
    refine ⟨trivial, hex, fun _ _ _ _ => rfl, Or.inl ⟨rfl, fun g => ?_⟩⟩
    exact hs_none hI.1 hq hqM (fun d hr => ⟨hr.1, fun hs => ((hI.2.2.1 d hr.1).2.1 hs).2 hr⟩) (fun p d _ _ hd _ => hall d hd) g
  | succ n ih =>
    intro k S x fr rk Lk hkn hJ
    have hL := ap_look hN hq hw (by omega) hJ
    obtain ⟨hex, hI, hfr, htr, hct⟩ := hJ
    obtain ⟨p1, p2, p3, p4⟩ := lf_p S x fr N
    have q1 := lf_1 S x fr N
    have e0 : (lf_F S x fr N).2.2 0 = S.2.2 0 := funext (fun i => p2 0 i (by decide))
    have eu : su (lf_F S x fr N) = su S := funext (fun i => by unfold su; rw [p1 0 i (by decide)])
    have ev : sv (lf_F S x fr N) = sv S := funext (fun i => by unfold sv; rw [p1 1 i (by decide)])
    have er : rcN N (lf_F S x fr N) = rcN N S := funext (fun i => by unfold rcN; rw [q1])
    have hex1 : exc15 Sb (lf_F S x fr N) := fun t i j ht => by rw [q1]; exact hex t i j ht
    have hk13 : k ≤ 13 := by omega
    rw [← e0, ← eu, ← ev, ← er] at hL
    have htr1 : ∀ p, p < 10 → hs_T N q ((lf_F S x fr N).2.2 0) (rcN N (lf_F S x fr N)) p → Lk p ∨ p = x := by rw [e0, er]; exact htr
    rcases hns : ns_p (lf_F S x fr N) N with ⟨n1, n2, n3⟩ | ⟨d0, n0, n1, n2, n3, n4, n5⟩
    · rw [ap_L_none n1]
      refine ⟨by simp only [ap_T, n1], hex1, fun t i _ h1 => p2 t i h1, Or.inl ⟨rfl, fun g => ?_⟩⟩
      refine hs_none hL.1 hq hqM (fun d hr => ⟨hr.1, fun hs => ((hL.2.2.1 d hr.1).2.1 hs).2 hr⟩) (fun p d hp ht hd ha => ?_) g
      refine Classical.byContradiction (fun hr => ?_)
      have hr' : (lf_F S x fr N).1 15 d 0 = 0 := Classical.byContradiction (fun z => hr ⟨hd, z⟩)
      rcases hL.2.2.2.2.1 d hd hr with ⟨-, e⟩ | ⟨e, -⟩
      · exact e p (htr1 p hp ht) ha
      · exact n3 d hd hr' ((f62_lt _).mpr e)
    · have hJ2 := ap_shift hN hq hqM hw hk13 hL htr1 n0 n3 n4 n5
      have hr0 : ¬ rcN N (lf_F S x fr N) d0 := fun z => z.2 n3
      have s1 := sp_1 (ds_wJ (lf_F S x fr N) 0 q ((lf_F S x fr N).2.1 0 q + (lf_F S x fr N).2.1 2 d0)) ((lf_F S x fr N).2.1 2 d0) N
      have s2 := sp_2 (ds_wJ (lf_F S x fr N) 0 q ((lf_F S x fr N).2.1 0 q + (lf_F S x fr N).2.1 2 d0)) ((lf_F S x fr N).2.1 2 d0) N
      have s3 : (ap_3 N q (lf_F S x fr N) d0).2.2 = (lf_F S x fr N).2.2 := s2
      have s4 : ∀ t i j, ¬ (t = 15 ∧ i = d0 ∧ j = 0) → (ap_3 N q (lf_F S x fr N) d0).1 t i j = (lf_F S x fr N).1 t i j := fun t i j h => by
        show (ds_wI _ 15 d0 0 1).1 t i j = _
        rw [w3_n h, s1]
        rfl
      have s5 : (ap_3 N q (lf_F S x fr N) d0).1 15 d0 0 = 1 := ds_u3_s _ _ _ _ _
      have hex3 : exc15 Sb (ap_3 N q (lf_F S x fr N) d0) := fun t i j ht => by rw [s4 t i j (fun z => ht z.1)]; exact hex1 t i j ht
      have hrc : ∀ d, rcN N (ap_3 N q (lf_F S x fr N) d0) d ↔ rcN N (lf_F S x fr N) d ∨ d = d0 := by
        intro d
        unfold rcN
        by_cases e : d = d0
        · subst e
          rw [s5]
          exact ⟨fun _ => Or.inr rfl, fun _ => ⟨n0, by decide⟩⟩
        · rw [s4 15 d 0 (fun z => e z.2.1)]
          exact ⟨fun z => Or.inl z, fun z => z.resolve_right e⟩
      rcases hsit : (ap_3 N q (lf_F S x fr N) d0).2.2 0 d0 with _ | p0
      · rw [ap_L_end n1 hsit]
        have hsit1 : (lf_F S x fr N).2.2 0 d0 = none := by rw [← s3]; exact hsit
        have hI2 := hJ2.1
        have hk0 := hk_start (rk := rk) (n := k) hI2.1 (fun d hd hs => ((hI2.2.2.1 d hd).2.1 hs).1) n0 hr0 hsit1
        obtain ⟨r1, r2, r3, r4, r5⟩ := ho_p hq hqM hI2.1 (fun d hr => ⟨(hI2.2.2.2.1 d hr).1, (hI2.2.2.2.1 d hr).2.2⟩) 16 k d0 (ap_3 N q (lf_F S x fr N) d0) (by omega) (by rw [s3]) (by rw [s3]; exact hk0) hJ2.2
        refine ⟨by simp only [ap_T, n1, hsit]; rw [s3]; exact r5, fun t i j ht => by rw [r3]; exact hex3 t i j ht, fun t i h0 h1 => ?_, Or.inr ⟨rfl, ?_⟩⟩
        · rw [ho_22 q _ _ _ t i h0, s3]
          exact p2 t i h1
        · have hdn := hs_done hq (cI_all hN hw) hk13 hJ2 n0 hsit1 r1 r2
          have eu2 : su (ho_F q 16 (ap_3 N q (lf_F S x fr N) d0) (some d0)) = su (ap_3 N q (lf_F S x fr N) d0) := funext (fun i => by unfold su; rw [r4])
          have ev2 : sv (ho_F q 16 (ap_3 N q (lf_F S x fr N) d0) (some d0)) = sv (ap_3 N q (lf_F S x fr N) d0) := funext (fun i => by unfold sv; rw [r4])
          rw [eu2, ev2]
          exact hdn
      · rw [ap_L_go n1 hsit]
        have hsit1 : (lf_F S x fr N).2.2 0 d0 = some p0 := by rw [← s3]; exact hsit
        have hre := hs_reach (rc' := rcN N (ap_3 N q (lf_F S x fr N) d0)) hJ2 n0 hr0 hsit1 hrc
        have hcnt := cn_add (P := rcN N (lf_F S x fr N)) (Q := rcN N (ap_3 N q (lf_F S x fr N) d0)) n0 hr0 (fun d _ => hrc d)
        rw [er, hct] at hcnt
        have htr3 : ∀ p, p < 10 → hs_T N q ((ap_3 N q (lf_F S x fr N) d0).2.2 0) (rcN N (ap_3 N q (lf_F S x fr N) d0)) p → (Lk p ∨ p = x) ∨ p = p0 := by
          intro p hp ht
          rcases ht with e | ⟨d, hd, hr, hs⟩
          · exact Or.inl (htr1 p hp (Or.inl e))
          · rcases (hrc d).mp hr with hr | rfl
            · exact Or.inl (htr1 p hp (Or.inr ⟨d, hd, hr, by rw [← s3]; exact hs⟩))
            · rw [hsit] at hs
              cases hs
              exact Or.inr rfl
        obtain ⟨a1, a2, a3, a4⟩ := ih (k + 1) (ap_3 N q (lf_F S x fr N) d0) p0 (some d0) (fun d => if d = d0 then k else rk d) (fun p => Lk p ∨ p = x) (by omega)
          ⟨hex3, by rw [s3]; exact hre, Or.inr ⟨d0, rfl, n0, (hrc d0).mpr (Or.inr rfl), by rw [s3]; exact hsit1⟩, htr3, hcnt⟩
        refine ⟨by simp only [ap_T, n1, hsit]; exact a1, a2, fun t i h0 h1 => ?_, a4⟩
        rw [a3 t i h0 h1, s3]
        exact p2 t i h1
