/-! PURE: the model's choice is the cheapest seating -/
theorem sm_ext {f : Nat → Int} {n : Nat} : ∀ {m : Nat}, n ≤ m → (∀ i, n ≤ i → i < m → f i = 0) → sm_S f m = sm_S f n := by
  intro m
  induction m with
  | zero => intro h _; rw [show n = 0 by omega]
  | succ m ih =>
    intro h hf
    by_cases e : n = m + 1
    · rw [e]
    · show sm_S f m + f m = _
      rw [ih (by omega) (fun i a b => hf i a (by omega)), hf m (by omega) (by omega)]
      omega
theorem fb_Oo (M : ms_S) (but : Int32) : ∀ k, ∃ o r : Nat → Nat, (∀ j, j < (fb_O M but k).2 → (fb_O M but k).1 6 j = nI (o j) ∧ mb but k (o j) ∧ r (o j) = j) ∧ (∀ p, mb but k p → r p < (fb_O M but k).2 ∧ o (r p) = p) ∧ (∀ f : Nat → Int, sm_S (fun j => f (o j)) (fb_O M but k).2 = sm_S (fun p => sm_c (mb but k p) (f p)) k)
  | 0 => ⟨id, id, fun j h => absurd h (Nat.not_lt_zero j), fun p h => absurd h.1 (Nat.not_lt_zero p), fun f => rfl⟩
  | k + 1 => by
    obtain ⟨o, r, h1, h2, h3⟩ := fb_Oo M but k
    unfold fb_O
    by_cases e : nI k = but
    · rw [if_pos e, mb_same e]
      refine ⟨o, r, h1, h2, fun f => ?_⟩
      show _ = sm_S (fun p => sm_c (mb but k p) (f p)) k + sm_c (mb but k k) (f k)
      rw [sm_cf (P := mb but k k) (fun z => Nat.lt_irrefl k z.1), h3]
      omega
    · rw [if_neg e]
      have hne : ∀ p, mb but k p → p ≠ k := fun p hp z => by have := hp.1; omega
      refine ⟨fun j => if j = (fb_O M but k).2 then k else o j, fun p => if p = k then (fb_O M but k).2 else r p, fun j hj => ?_, fun p hp => ?_, fun f => ?_⟩
      · show ms_w (ms_w (fb_O M but k).1 6 (fb_O M but k).2 (nI k)) 25 0 (nI ((fb_O M but k).2 + 1)) 6 j = nI (if j = (fb_O M but k).2 then k else o j) ∧ mb but (k + 1) (if j = (fb_O M but k).2 then k else o j) ∧ (if (if j = (fb_O M but k).2 then k else o j) = k then (fb_O M but k).2 else r (if j = (fb_O M but k).2 then k else o j)) = j
        rw [ms_w_n (by omega)]
        by_cases ej : j = (fb_O M but k).2
        · rw [if_pos ej, if_pos rfl, ej, ms_w_s]
          exact ⟨rfl, ⟨by omega, e⟩, rfl⟩
        · have hj : j < (fb_O M but k).2 + 1 := hj
          obtain ⟨a, b, c⟩ := h1 j (by omega)
          rw [if_neg ej, ms_w_n (fun z => ej z.2), if_neg (hne _ b)]
          exact ⟨a, ⟨by have := b.1; omega, b.2⟩, c⟩
      · show (if p = k then (fb_O M but k).2 else r p) < (fb_O M but k).2 + 1 ∧ (if (if p = k then (fb_O M but k).2 else r p) = (fb_O M but k).2 then k else o (if p = k then (fb_O M but k).2 else r p)) = p
        by_cases ep : p = k
        · rw [if_pos ep, if_pos rfl]
          exact ⟨by omega, ep.symm⟩
        · obtain ⟨a, b⟩ := h2 p ⟨by have := hp.1; omega, hp.2⟩
          rw [if_neg ep, if_neg (by omega)]
          exact ⟨by omega, b⟩
      · show sm_S (fun j => f (if j = (fb_O M but k).2 then k else o j)) (fb_O M but k).2 + f (if (fb_O M but k).2 = (fb_O M but k).2 then k else o (fb_O M but k).2) = sm_S (fun p => sm_c (mb but (k + 1) p) (f p)) k + sm_c (mb but (k + 1) k) (f k)
        rw [if_pos rfl, sm_ct (P := mb but (k + 1) k) ⟨by omega, e⟩]
        rw [sm_congr (g := fun j => f (o j)) (fun j hj => by show f (if j = (fb_O M but k).2 then k else o j) = _; rw [if_neg (by omega)]), h3]
        rw [sm_congr (f := fun p => sm_c (mb but (k + 1) p) (f p)) (g := fun p => sm_c (mb but k p) (f p)) (fun p hp => sm_ce ⟨fun z => ⟨hp, z.2⟩, fun z => ⟨by omega, z.2⟩⟩ (fun _ => rfl))]
/-- how persons stand in the model's order -/
def fbO (but : Int32) (Pn mn : Nat) (T : ms_S) (o r : Nat → Nat) : Prop :=
  (∀ j, j < mn → T 6 j = nI (o j) ∧ mb but Pn (o j) ∧ r (o j) = j) ∧ (∀ p, mb but Pn p → r p < mn ∧ o (r p) = p) ∧ (∀ f : Nat → Int, sm_S (fun j => f (o j)) mn = sm_S (fun p => sm_c (mb but Pn p) (f p)) 10)
theorem mb_10 {but : Int32} {Pn : Nat} (hP : Pn ≤ 10) (f : Nat → Int) : sm_S (fun p => sm_c (mb but Pn p) (f p)) 10 = sm_S (fun p => sm_c (mb but Pn p) (f p)) Pn :=
  sm_ext hP (fun i h _ => sm_cf (fun z => by have := z.1; omega))
theorem fb_Ox (M : ms_S) (but : Int32) {Pn : Nat} (hP : Pn ≤ 10) : ∃ o r, fbO but Pn (fb_O M but Pn).2 (fb_O M but Pn).1 o r := by
  obtain ⟨o, r, h1, h2, h3⟩ := fb_Oo M but Pn
  exact ⟨o, r, h1, h2, fun f => (h3 f).trans (mb_10 hP f).symm⟩
theorem nI_ne : ∀ p, p < 14 → ¬ nI p = -1 := by decide +kernel
theorem fb_Oid (M : ms_S) : ∀ k, k ≤ 10 → (fb_O M (-1) k).2 = k ∧ ∀ j, j < k → (fb_O M (-1) k).1 6 j = nI j
  | 0, _ => ⟨rfl, fun j h => absurd h (Nat.not_lt_zero j)⟩
  | k + 1, hk => by
    obtain ⟨h1, h2⟩ := fb_Oid M k (by omega)
    unfold fb_O
    rw [if_neg (nI_ne k (by omega))]
    refine ⟨by show (fb_O M (-1) k).2 + 1 = _; rw [h1], fun j hj => ?_⟩
    show ms_w (ms_w (fb_O M (-1) k).1 6 (fb_O M (-1) k).2 (nI k)) 25 0 (nI ((fb_O M (-1) k).2 + 1)) 6 j = nI j
    rw [ms_w_n (by omega)]
    by_cases e : j = k
    · rw [e, h1, ms_w_s]
    · rw [ms_w_n (fun z => e (z.2.trans h1))]
      exact h2 j (by omega)
theorem fb_Oi (M : ms_S) {Pn : Nat} (hP : Pn ≤ 10) : fbO (-1) Pn Pn (fb_O M (-1) Pn).1 id id := by
  refine ⟨fun j hj => ⟨(fb_Oid M Pn hP).2 j hj, ⟨hj, nI_ne j (by omega)⟩, rfl⟩, fun p hp => ⟨hp.1, rfl⟩, fun f => ?_⟩
  rw [mb_10 hP]
  exact sm_congr (fun p hp => (sm_ct (P := mb (-1) Pn p) ⟨hp, nI_ne p (by omega)⟩).symm)
/-- what a person at a desk is worth to the model -/
def vI (S : ds_S) (p d : Nat) : Int := 16 * (S.1 10 p d).toInt - (if pe_wm S p (nI d) = 0 then 0 else 1)
theorem cI_vI (S : ds_S) (p d : Nat) : cI S p d = 17592186044416000 + (-1099511627776) * vI S p d + (d : Int) * 16 ^ (9 - p) := by
  unfold cI vI
  split <;> omega
theorem vI_r {S : ds_S} {p d : Nat} (hw : wishR S) (hp : p < 10) (hd : d < 14) : -1 ≤ vI S p d ∧ vI S p d ≤ 16000 := by
  have := hw p d hp hd
  unfold vI
  split <;> omega
/-- class and model know the same of persons and desks -/
def rl (M : ms_S) (S : ds_S) (Pn Dn : Nat) : Prop := ∀ p, p < Pn → M 3 p = S.1 12 p 0 ∧ ∀ d, d < Dn → M 1 (14 * p + d) = S.1 10 p d ∧ M 2 (14 * p + d) = S.1 11 p d
theorem mo_mvE {M : ms_S} {S : ds_S} {p : Nat} {x : Int32} (h : M 3 p = S.1 12 p 0) : mo_mv M p x = pe_wm S p x := by
  unfold mo_mv pe_wm
  rw [h]
  by_cases a : S.1 12 p 0 = -1
  · rw [if_pos a, if_pos (Or.inl a)]
  · rw [if_neg a]
    by_cases b : S.1 12 p 0 = x
    · rw [if_pos b, if_pos (Or.inr b)]
    · rw [if_neg b, if_neg (fun z => z.elim a b)]
theorem mo_valE {M : ms_S} {S : ds_S} {Pn Dn p d : Nat} (hP : Pn ≤ 10) (hD : Dn ≤ 14) (h : rl M S Pn Dn) (hw : wishR S) (hp : p < Pn) (hd : d < Dn) : (mo_val M p d).toInt = vI S p d := by
  have hr := hw p d (by omega) (by omega)
  have h1 : ((16 : Int32) * S.1 10 p d).toInt = 16 * (S.1 10 p d).toInt := i_mul (by show _ ≤ (16 : Int) * _; omega) (by show (16 : Int) * _ < _; omega)
  unfold mo_val vI
  rw [mo_mvE (h p hp).1, ((h p hp).2 d hd).1]
  have h2 : (pe_wm S p (nI d)).toInt = if pe_wm S p (nI d) = 0 then 0 else 1 := by
    unfold pe_wm
    split <;> rfl
  rw [i_sub (by rw [h1, h2]; split <;> omega) (by rw [h1, h2]; split <;> omega), h1, h2]
theorem fbB_of {M T : ms_S} {S : ds_S} {Pn Dn mn : Nat} {but : Int32} {o r : Nat → Nat} (hP : Pn ≤ 10) (hD : Dn ≤ 14) (hl : rl M S Pn Dn) (hw : wishR S) (hO : fbO but Pn mn T o r) (hT : ∀ t i, t ≠ 6 → t ≠ 25 → T t i = M t i) : fbB T mn Dn (fun i d => vI S (o i) d) (fun i d => alN S (o i) d) := fun i k hi hk => by
  obtain ⟨a, b, c⟩ := hO.1 i hi
  have ho := b.1
  have hn : (T 6 i).toNatClampNeg = o i := by rw [a]; exact nI_clamp (by omega)
  have hl' : rl T S Pn Dn := fun p hp => ⟨(hT 3 p (by decide) (by decide)).trans (hl p hp).1, fun d hd => ⟨(hT 1 _ (by decide) (by decide)).trans ((hl p hp).2 d hd).1, (hT 2 _ (by decide) (by decide)).trans ((hl p hp).2 d hd).2⟩⟩
  rw [hn]
  exact ⟨by rw [((hl' (o i) ho).2 k hk).2]; exact Iff.rfl, mo_valE hP hD hl' hw ho hk⟩
/-- the table of the model, for the class's state -/
theorem tab_g {M : ms_S} {S : ds_S} {Pn Dn mn : Nat} {but : Int32} {o r : Nat → Nat} (hP : Pn ≤ 10) (hD : Dn ≤ 14) (hl : rl M S Pn Dn) (hw : wishR S) (hmn : (fb_O M but Pn).2 = mn) (hO : fbO but Pn mn (fb_O M but Pn).1 o r) :
    ∀ s', s' < 2 ^ Dn → bt_L 31 s' ≤ mn → gd mn Dn (fun i d => vI S (o i) d) (fun i d => alN S (o i) d) s' (fb_S mn Dn (2 ^ Dn) (fb_O M but Pn).1 5 s') := by
  have h10 : mn ≤ 10 := by
    have := fb_Ole M but Pn
    omega
  exact fb_Sg h10 hD (fun i d hi hd => vI_r hw (by have := (hO.1 i hi).2.1.1; omega) (by omega)) (2 ^ Dn) _ (Nat.le_refl _) (fbB_of hP hD hl hw hO (fun t i h6 h25 => fb_On M but t i h6 h25 Pn)) (fun s' a b => absurd a (by omega))
/-! sums over members -/
noncomputable def mV (but : Int32) (Pn : Nat) (S : ds_S) (g : Nat → Nat) : Int := sm_S (fun p => sm_c (mb but Pn p) (vI S p (g p))) 10
noncomputable def mL (but : Int32) (Pn : Nat) (g : Nat → Nat) : Int := sm_S (fun p => sm_c (mb but Pn p) ((g p : Int) * 16 ^ (9 - p))) 10
theorem as_T_c (but : Int32) (Pn : Nat) (S : ds_S) (g : Nat → Nat) : as_T 10 (mb but Pn) (cI S) g = sm_S (fun p => sm_c (mb but Pn p) 17592186044416000) 10 + (-1099511627776) * mV but Pn S g + mL but Pn g := by
  unfold as_T mV mL
  rw [← sm_mul, ← sm_add, ← sm_add]
  refine sm_congr (fun p hp => ?_)
  by_cases h : mb but Pn p
  · rw [sm_ct h, sm_ct h, sm_ct h, sm_ct h, cI_vI]
  · rw [sm_cf h, sm_cf h, sm_cf h, sm_cf h]
    rfl
theorem mL_r {but : Int32} {Pn N : Nat} {al : Nat → Nat → Prop} {g : Nat → Nat} (hN : N ≤ 14) (h : as_ok 10 N (mb but Pn) al g) : 0 ≤ mL but Pn g ∧ mL but Pn g < 1099511627776 := by
  have h1 : mL but Pn g ≤ sm_S (fun p => 15 * 16 ^ (9 - p)) 10 := sm_le (fun p hp => by
    have h0 := j_pow0 p hp
    by_cases hM : mb but Pn p
    · rw [sm_ct hM]
      have := (h.1 p hp hM).1
      exact Int.mul_le_mul_of_nonneg_right (by omega) (by omega)
    · rw [sm_cf hM]; omega)
  have h2 : sm_S (fun p => 15 * 16 ^ (9 - p)) 10 = 1099511627775 := by decide +kernel
  refine ⟨sm_nonneg (fun p hp => ?_), by omega⟩
  have h0 := j_pow0 p hp
  by_cases hM : mb but Pn p
  · rw [sm_ct hM]
    exact Int.mul_nonneg (by omega) (by omega)
  · rw [sm_cf hM]; omega
/-- the cheapest is worth most, and then least in the order of desks -/
theorem ch_opt {but : Int32} {Pn N : Nat} {S : ds_S} {g : Nat → Nat} (hN : N ≤ 14) (hg : as_ok 10 N (mb but Pn) (alN S) g) (hmin : ∀ g', as_ok 10 N (mb but Pn) (alN S) g' → as_T 10 (mb but Pn) (cI S) g ≤ as_T 10 (mb but Pn) (cI S) g') :
    ∀ g', as_ok 10 N (mb but Pn) (alN S) g' → mV but Pn S g' ≤ mV but Pn S g ∧ (mV but Pn S g' = mV but Pn S g → mL but Pn g ≤ mL but Pn g') := by
  intro g' hg'
  have h := hmin g' hg'
  rw [as_T_c, as_T_c] at h
  have h1 := mL_r hN hg
  have h2 := mL_r hN hg'
  constructor
  · omega
  · intro e; rw [e] at h; omega
theorem cp_as {but : Int32} {Pn N mn : Nat} {S : ds_S} {T : ms_S} {o r : Nat → Nat} {g : Nat → Nat} (hP : Pn ≤ 10) (hO : fbO but Pn mn T o r) (h : as_ok 10 N (mb but Pn) (alN S) g) : cp mn N (fun i d => alN S (o i) d) 0 0 (fun i => g (o i)) := by
  refine ⟨fun i _ hi => ?_, fun i j _ hi _ hj e => ?_⟩
  · obtain ⟨a, b, c⟩ := hO.1 i hi
    have hb := b.1
    obtain ⟨d, f⟩ := h.1 (o i) (by omega) b
    exact ⟨d, by rw [Nat.zero_div], f⟩
  · obtain ⟨a, b, c⟩ := hO.1 i hi
    obtain ⟨a', b', c'⟩ := hO.1 j hj
    have hb := b.1
    have hb' := b'.1
    have := h.2 (o i) (o j) (by omega) (by omega) b b' e
    rw [← c, ← c', this]
theorem as_cp {but : Int32} {Pn N mn : Nat} {S : ds_S} {T : ms_S} {o r : Nat → Nat} {G : Nat → Nat} (hO : fbO but Pn mn T o r) (h : cp mn N (fun i d => alN S (o i) d) 0 0 G) : as_ok 10 N (mb but Pn) (alN S) (fun p => G (r p)) := by
  refine ⟨fun p _ hM => ?_, fun p q _ _ hp hq e => ?_⟩
  · obtain ⟨a, b⟩ := hO.2.1 p hM
    obtain ⟨c, -, d⟩ := h.1 (r p) (Nat.zero_le _) a
    exact ⟨c, by have d : alN S (o (r p)) (G (r p)) := d; rw [b] at d; exact d⟩
  · obtain ⟨a, b⟩ := hO.2.1 p hp
    obtain ⟨a', b'⟩ := hO.2.1 q hq
    have := h.2 (r p) (r q) (Nat.zero_le _) a (Nat.zero_le _) a' e
    rw [← b, ← b', this]
theorem tl_mV {but : Int32} {Pn mn : Nat} {S : ds_S} {T : ms_S} {o r : Nat → Nat} (hO : fbO but Pn mn T o r) (g : Nat → Nat) : tl mn (fun i d => vI S (o i) d) (fun i => g (o i)) 0 = mV but Pn S g := by
  unfold tl mV
  rw [← hO.2.2 (fun p => vI S p (g p))]
  show sm_S (fun i => vI S (o i) (g (o i))) mn - 0 = _
  omega
theorem tl_mVr {but : Int32} {Pn mn : Nat} {S : ds_S} {T : ms_S} {o r : Nat → Nat} (hO : fbO but Pn mn T o r) (G : Nat → Nat) : tl mn (fun i d => vI S (o i) d) G 0 = mV but Pn S (fun p => G (r p)) := by
  rw [← tl_mV hO]
  exact tl_c (Nat.zero_le _) (fun i _ hi => by show G i = G (r (o i)); rw [(hO.1 i hi).2.2])
/-- the table's first number -/
theorem tab_0 {M : ms_S} {S : ds_S} {Pn Dn mn : Nat} {but : Int32} {o r : Nat → Nat} (hP : Pn ≤ 10) (hD : Dn ≤ 14) (hl : rl M S Pn Dn) (hw : wishR S) (hmn : (fb_O M but Pn).2 = mn) (hO : fbO but Pn mn (fb_O M but Pn).1 o r) :
    ((∀ g, ¬ as_ok 10 Dn (mb but Pn) (alN S) g) → fb_S mn Dn (2 ^ Dn) (fb_O M but Pn).1 5 0 = -1000000000) ∧
    (∀ g, as_ok 10 Dn (mb but Pn) (alN S) g → (∀ g', as_ok 10 Dn (mb but Pn) (alN S) g' → mV but Pn S g' ≤ mV but Pn S g) → (fb_S mn Dn (2 ^ Dn) (fb_O M but Pn).1 5 0).toInt = mV but Pn S g ∧ -10 ≤ mV but Pn S g ∧ mV but Pn S g ≤ 160000) := by
  have hg := tab_g hP hD hl hw hmn hO 0 (Nat.pow_pos (by omega)) (by rw [bt_0]; omega)
  have h10 : mn ≤ 10 := by
    have := fb_Ole M but Pn
    omega
  unfold gd at hg
  rw [bt_0] at hg
  refine ⟨fun hno => ?_, fun g h1 h2 => ?_⟩
  · rcases hg with ⟨a, -⟩ | ⟨G, a, -⟩
    · exact a
    · exact absurd (as_cp hO a) (hno _)
  · rcases hg with ⟨-, a⟩ | ⟨G, a, b, c⟩
    · exact absurd (cp_as hP hO h1) (a _)
    · have x1 := c _ (cp_as hP hO h1)
      rw [tl_mV hO] at x1
      have x2 := h2 _ (as_cp hO a)
      rw [← tl_mVr hO, ← b] at x2
      have x3 := tl_r (vl := fun i d => vI S (o i) d) h10 (fun i d hi hd => vI_r hw (by have := (hO.1 i hi).2.1.1; omega) (by omega)) (Nat.zero_le mn) (cp_as hP hO h1)
      rw [tl_mV hO] at x3
      exact ⟨by omega, x3⟩
