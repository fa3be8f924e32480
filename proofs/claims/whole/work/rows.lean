section
/-! PURE: sums of integers over 0 .. n-1 -/
def sm_S (f : Nat → Int) : Nat → Int
  | 0 => 0
  | n + 1 => sm_S f n + f n
theorem sm_congr {f g : Nat → Int} : ∀ {n : Nat}, (∀ i, i < n → f i = g i) → sm_S f n = sm_S g n := by
  intro n
  induction n with
  | zero => intro _; rfl
  | succ n ih =>
    intro h
    show sm_S f n + f n = sm_S g n + g n
    rw [ih (fun i hi => h i (by omega)), h n (by omega)]
theorem sm_le {f g : Nat → Int} : ∀ {n : Nat}, (∀ i, i < n → f i ≤ g i) → sm_S f n ≤ sm_S g n := by
  intro n
  induction n with
  | zero => intro _; exact Int.le_refl _
  | succ n ih =>
    intro h
    show sm_S f n + f n ≤ sm_S g n + g n
    have h1 := ih (fun i hi => h i (by omega))
    have h2 := h n (by omega)
    omega
theorem sm_add (f g : Nat → Int) : ∀ n : Nat, sm_S (fun i => f i + g i) n = sm_S f n + sm_S g n := by
  intro n
  induction n with
  | zero => rfl
  | succ n ih =>
    show sm_S (fun i => f i + g i) n + (f n + g n) = (sm_S f n + f n) + (sm_S g n + g n)
    rw [ih]; omega
theorem sm_sub (f g : Nat → Int) : ∀ n : Nat, sm_S (fun i => f i - g i) n = sm_S f n - sm_S g n := by
  intro n
  induction n with
  | zero => rfl
  | succ n ih =>
    show sm_S (fun i => f i - g i) n + (f n - g n) = (sm_S f n + f n) - (sm_S g n + g n)
    rw [ih]; omega
theorem sm_mul (k : Int) (f : Nat → Int) : ∀ n : Nat, sm_S (fun i => k * f i) n = k * sm_S f n := by
  intro n
  induction n with
  | zero => exact (Int.mul_zero k).symm
  | succ n ih =>
    show sm_S (fun i => k * f i) n + k * f n = k * (sm_S f n + f n)
    rw [ih, Int.mul_add]
theorem sm_zero {f : Nat → Int} : ∀ {n : Nat}, (∀ i, i < n → f i = 0) → sm_S f n = 0 := by
  intro n
  induction n with
  | zero => intro _; rfl
  | succ n ih =>
    intro h
    show sm_S f n + f n = 0
    rw [ih (fun i hi => h i (by omega)), h n (by omega)]; rfl
theorem sm_single {f : Nat → Int} {k : Nat} : ∀ {n : Nat}, k < n → (∀ i, i < n → i ≠ k → f i = 0) → sm_S f n = f k := by
  intro n
  induction n with
  | zero => intro h _; exact absurd h (by omega)
  | succ n ih =>
    intro hk h
    show sm_S f n + f n = f k
    by_cases hkn : k = n
    · subst hkn
      rw [sm_zero (fun i hi => h i (by omega) (by omega))]; omega
    · rw [ih (by omega) (fun i hi hne => h i (by omega) hne), h n (by omega) (fun q => hkn q.symm)]; omega
theorem sm_nonneg {f : Nat → Int} {n : Nat} (h : ∀ i, i < n → 0 ≤ f i) : 0 ≤ sm_S f n := by
  have h1 := sm_le (f := fun _ => 0) (g := f) (n := n) h
  rw [sm_zero (f := fun _ => 0) (fun _ _ => rfl)] at h1
  exact h1
theorem sm_swap (f : Nat → Nat → Int) (m : Nat) : ∀ n : Nat, sm_S (fun i => sm_S (fun j => f i j) m) n = sm_S (fun j => sm_S (fun i => f i j) n) m := by
  intro n
  induction n with
  | zero => exact (sm_zero (fun _ _ => rfl)).symm
  | succ n ih =>
    show sm_S (fun i => sm_S (fun j => f i j) m) n + sm_S (fun j => f n j) m = sm_S (fun j => sm_S (fun i => f i j) n + f n j) m
    rw [ih, sm_add]
/-- a value where a proposition holds, else 0 -/
noncomputable def sm_c (P : Prop) (x : Int) : Int := @ite Int P (Classical.propDecidable P) x 0
theorem sm_ct {P : Prop} {x : Int} (h : P) : sm_c P x = x := by unfold sm_c; exact if_pos h
theorem sm_cf {P : Prop} {x : Int} (h : ¬ P) : sm_c P x = 0 := by unfold sm_c; exact if_neg h
theorem sm_ce {P Q : Prop} {x y : Int} (h : P ↔ Q) (hx : P → x = y) : sm_c P x = sm_c Q y := by
  by_cases hP : P
  · rw [sm_ct hP, sm_ct (h.mp hP), hx hP]
  · rw [sm_cf hP, sm_cf (fun q => hP (h.mpr q))]
theorem sm_cle {P : Prop} {x y : Int} (hx : P → x ≤ y) : sm_c P x ≤ sm_c P y := by
  by_cases hP : P
  · rw [sm_ct hP, sm_ct hP]; exact hx hP
  · rw [sm_cf hP, sm_cf hP]; exact Int.le_refl _
theorem sm_cadd {P : Prop} {x y : Int} : sm_c P (x + y) = sm_c P x + sm_c P y := by
  by_cases hP : P
  · rw [sm_ct hP, sm_ct hP, sm_ct hP]
  · rw [sm_cf hP, sm_cf hP, sm_cf hP]; rfl
/-- an assignment: every member gets an allowed place below D, no two the same -/
def as_ok (N D : Nat) (M : Nat → Prop) (al : Nat → Nat → Prop) (g : Nat → Nat) : Prop :=
  (∀ p, p < N → M p → g p < D ∧ al p (g p)) ∧ (∀ p q, p < N → q < N → M p → M q → g p = g q → p = q)
noncomputable def as_T (N : Nat) (M : Nat → Prop) (c : Nat → Nat → Int) (g : Nat → Nat) : Int := sm_S (fun p => sm_c (M p) (c p (g p))) N
/-- numbers at most 0: what an assignment picks of them is no less than all of them -/
theorem as_image {N D : Nat} {M : Nat → Prop} {g : Nat → Nat} {v : Nat → Int} (hg : ∀ p, p < N → M p → g p < D) (hinj : ∀ p q, p < N → q < N → M p → M q → g p = g q → p = q) (hv : ∀ d, d < D → v d ≤ 0) :
    sm_S v D ≤ sm_S (fun p => sm_c (M p) (v (g p))) N := by
  have e1 : sm_S (fun p => sm_c (M p) (v (g p))) N = sm_S (fun p => sm_S (fun d => sm_c (M p ∧ g p = d) (v d)) D) N := by
    refine sm_congr (fun p hp => ?_)
    by_cases hM : M p
    · rw [sm_single (f := fun d => sm_c (M p ∧ g p = d) (v d)) (hg p hp hM) (fun d _ hne => sm_cf (fun q => hne q.2.symm))]
      rw [sm_ct hM, sm_ct ⟨hM, rfl⟩]
    · rw [sm_cf hM, sm_zero (fun d _ => sm_cf (fun q => hM q.1))]
  rw [e1, sm_swap]
  refine sm_le (fun d hd => ?_)
  by_cases hex : ∃ p, p < N ∧ M p ∧ g p = d
  · obtain ⟨p, hp, hM, hgp⟩ := hex
    rw [sm_single (f := fun p => sm_c (M p ∧ g p = d) (v d)) hp (fun p' hp' hne => sm_cf (fun q => hne (hinj p' p hp' hp q.1 hM (q.2.trans hgp.symm))))]
    rw [sm_ct ⟨hM, hgp⟩]
    exact Int.le_refl _
  · rw [sm_zero (fun p hp => sm_cf (fun q => hex ⟨p, hp, q.1, q.2⟩))]
    exact hv d hd
/-- equality, where what isn't picked is 0 -/
theorem as_imageE {N D : Nat} {M : Nat → Prop} {g : Nat → Nat} {v : Nat → Int} (hg : ∀ p, p < N → M p → g p < D) (hinj : ∀ p q, p < N → q < N → M p → M q → g p = g q → p = q) (hv : ∀ d, d < D → (∀ p, p < N → M p → g p ≠ d) → v d = 0) :
    sm_S v D = sm_S (fun p => sm_c (M p) (v (g p))) N := by
  have e1 : sm_S (fun p => sm_c (M p) (v (g p))) N = sm_S (fun p => sm_S (fun d => sm_c (M p ∧ g p = d) (v d)) D) N := by
    refine sm_congr (fun p hp => ?_)
    by_cases hM : M p
    · rw [sm_single (f := fun d => sm_c (M p ∧ g p = d) (v d)) (hg p hp hM) (fun d _ hne => sm_cf (fun q => hne q.2.symm))]
      rw [sm_ct hM, sm_ct ⟨hM, rfl⟩]
    · rw [sm_cf hM, sm_zero (fun d _ => sm_cf (fun q => hM q.1))]
  rw [e1, sm_swap]
  refine sm_congr (fun d hd => ?_)
  by_cases hex : ∃ p, p < N ∧ M p ∧ g p = d
  · obtain ⟨p, hp, hM, hgp⟩ := hex
    rw [sm_single (f := fun p => sm_c (M p ∧ g p = d) (v d)) hp (fun p' hp' hne => sm_cf (fun q => hne (hinj p' p hp' hp q.1 hM (q.2.trans hgp.symm))))]
    rw [sm_ct ⟨hM, hgp⟩]
  · rw [sm_zero (fun p hp => sm_cf (fun q => hex ⟨p, hp, q.1, q.2⟩))]
    exact hv d hd (fun p hp hM hgp => hex ⟨p, hp, hM, hgp⟩)
/-- counting: an injection from the members A (below N) into B (below D) -/
theorem as_count {N D : Nat} {A B : Nat → Prop} {g : Nat → Nat} (hg : ∀ p, p < N → A p → g p < D ∧ B (g p)) (hinj : ∀ p q, p < N → q < N → A p → A q → g p = g q → p = q) :
    sm_S (fun p => sm_c (A p) 1) N ≤ sm_S (fun d => sm_c (B d) 1) D := by
  have h := as_image (N := N) (D := D) (M := A) (g := g) (v := fun d => - sm_c (B d) 1) (fun p hp hA => (hg p hp hA).1) hinj (fun d _ => by
    by_cases hB : B d
    · rw [sm_ct hB]; omega
    · rw [sm_cf hB]; omega)
  have e1 : sm_S (fun d => - sm_c (B d) 1) D = - sm_S (fun d => sm_c (B d) 1) D := by
    have := sm_sub (fun _ => 0) (fun d => sm_c (B d) 1) D
    rw [sm_zero (f := fun _ => 0) (fun _ _ => rfl)] at this
    rw [← Int.zero_sub, ← this]
    exact sm_congr (fun i _ => (Int.zero_sub _).symm)
  have e2 : sm_S (fun p => sm_c (A p) (- sm_c (B (g p)) 1)) N = - sm_S (fun p => sm_c (A p) 1) N := by
    have := sm_sub (fun _ => 0) (fun p => sm_c (A p) 1) N
    rw [sm_zero (f := fun _ => 0) (fun _ _ => rfl)] at this
    rw [← Int.zero_sub, ← this]
    refine sm_congr (fun p hp => ?_)
    by_cases hA : A p
    · rw [sm_ct hA, sm_ct hA, sm_ct (hg p hp hA).2]; rfl
    · rw [sm_cf hA, sm_cf hA]; rfl
  rw [e1, e2] at h
  omega
/-- LP duality: no assignment costs less than a feasible dual; a tight one costs just that -/
theorem as_dual {N D : Nat} {M : Nat → Prop} {al : Nat → Nat → Prop} {c : Nat → Nat → Int} {u v : Nat → Int} {g : Nat → Nat} (hg : as_ok N D M al g) (hv : ∀ d, d < D → v d ≤ 0)
    (hf : ∀ p d, p < N → M p → d < D → al p d → u p + v d ≤ c p d) : sm_S (fun p => sm_c (M p) (u p)) N + sm_S v D ≤ as_T N M c g := by
  have h1 := as_image (fun p hp hM => (hg.1 p hp hM).1) hg.2 hv
  have h2 : sm_S (fun p => sm_c (M p) (u p) + sm_c (M p) (v (g p))) N ≤ as_T N M c g := by
    refine sm_le (fun p hp => ?_)
    rw [← sm_cadd]
    exact sm_cle (fun hM => hf p (g p) hp hM (hg.1 p hp hM).1 (hg.1 p hp hM).2)
  rw [sm_add] at h2
  omega
theorem as_tight {N D : Nat} {M : Nat → Prop} {al : Nat → Nat → Prop} {c : Nat → Nat → Int} {u v : Nat → Int} {g : Nat → Nat} (hg : as_ok N D M al g) (hz : ∀ d, d < D → (∀ p, p < N → M p → g p ≠ d) → v d = 0)
    (ht : ∀ p, p < N → M p → u p + v (g p) = c p (g p)) : sm_S (fun p => sm_c (M p) (u p)) N + sm_S v D = as_T N M c g := by
  rw [as_imageE (fun p hp hM => (hg.1 p hp hM).1) hg.2 hz, ← sm_add]
  refine sm_congr (fun p hp => ?_)
  rw [← sm_cadd]
  exact sm_ce Iff.rfl (fun hM => ht p hp hM)
end
section
/-! PURE: the Hungarian method: members M are seated by 'sit' (place -> person), prices u (persons), v (places) -/
/-- every seated one is a member, allowed there, its edge tight; every member sits; nobody twice -/
def hu_M (N D : Nat) (c : Nat → Nat → Int) (al : Nat → Nat → Prop) (M : Nat → Prop) (sit : Nat → Option Nat) (u v : Nat → Int) : Prop :=
  (∀ d p, d < D → sit d = some p → p < N ∧ M p ∧ al p d ∧ u p + v d = c p d) ∧
  (∀ p, p < N → M p → ∃ d, d < D ∧ sit d = some p) ∧
  (∀ d d' p, d < D → d' < D → sit d = some p → sit d' = some p → d = d')
/-- between two persons -/
def hu_I (N D : Nat) (c : Nat → Nat → Int) (al : Nat → Nat → Prop) (C : Int) (M : Nat → Prop) (sit : Nat → Option Nat) (u v : Nat → Int) : Prop :=
  hu_M N D c al M sit u v ∧
  (∀ d, d < D → -(32 * C) ≤ v d ∧ v d ≤ 0 ∧ (sit d = none → v d = 0)) ∧
  (∀ p d, p < N → M p → d < D → al p d → u p + v d ≤ c p d)
/-- the tree: the newcomer, and who sits at a reached place -/
def hs_T (D : Nat) (q : Nat) (sit : Nat → Option Nat) (rc : Nat → Prop) (p : Nat) : Prop := p = q ∨ ∃ d, d < D ∧ rc d ∧ sit d = some p
/-- how a place hangs on the tree, by a tight edge -/
def hs_C (c : Nat → Nat → Int) (al : Nat → Nat → Prop) (q : Nat) (sit : Nat → Option Nat) (u v : Nat → Int) (bef : Nat → Option Nat) (rc : Nat → Prop) (rk : Nat → Nat) (d k : Nat) : Prop :=
  (bef d = none ∧ al q d ∧ u q + v d = c q d) ∨ (∃ d' p', bef d = some d' ∧ rc d' ∧ rk d' < k ∧ sit d' = some p' ∧ al p' d ∧ u p' + v d = c p' d)
/-- the nearest edge so far to a place that isn't reached -/
def hs_E (c : Nat → Nat → Int) (al : Nat → Nat → Prop) (q : Nat) (sit : Nat → Option Nat) (u v dist : Nat → Int) (bef : Nat → Option Nat) (rc : Nat → Prop) (F : Int) (Lk : Nat → Prop) (d : Nat) : Prop :=
  (dist d = F ∧ ∀ p, Lk p → ¬ al p d) ∨
  (dist d < F ∧ 0 ≤ dist d ∧ (∀ p, Lk p → al p d → dist d ≤ c p d - u p - v d) ∧
    ((bef d = none ∧ Lk q ∧ al q d ∧ dist d = c q d - u q - v d) ∨ ∃ d' p', bef d = some d' ∧ rc d' ∧ sit d' = some p' ∧ Lk p' ∧ al p' d ∧ dist d = c p' d - u p' - v d))
/-- inside the search for the newcomer q: n places are reached, Lk: those from whom it was looked -/
def hs_I (N D : Nat) (c : Nat → Nat → Int) (al : Nat → Nat → Prop) (C : Int) (M : Nat → Prop) (q : Nat) (sit : Nat → Option Nat) (F : Int) (u v dist : Nat → Int) (bef : Nat → Option Nat) (rc : Nat → Prop) (rk : Nat → Nat) (n : Nat) (Lk : Nat → Prop) : Prop :=
  hu_M N D c al M sit u v ∧
  (∀ p d, p < N → (M p ∨ p = q) → d < D → al p d → u p + v d ≤ c p d) ∧
  (∀ d, d < D → v d ≤ 0 ∧ (sit d = none → v d = 0 ∧ ¬ rc d) ∧ (¬ rc d → -(32 * C) ≤ v d)) ∧
  (∀ d, rc d → d < D ∧ rk d < n ∧ hs_C c al q sit u v bef rc rk d (rk d)) ∧
  (∀ d, d < D → ¬ rc d → hs_E c al q sit u v dist bef rc F Lk d) ∧
  (∀ p, Lk p → p < N ∧ hs_T D q sit rc p) ∧
  (0 ≤ u q ∧ u q ≤ 48 * C)
/-- by the chain: the price of a reached place beside the newcomer's -/
theorem hs_price {N D : Nat} {c : Nat → Nat → Int} {al : Nat → Nat → Prop} {C : Int} {M : Nat → Prop} {q : Nat} {sit : Nat → Option Nat} {u v : Nat → Int} {bef : Nat → Option Nat} {rc : Nat → Prop} {rk : Nat → Nat}
    (hq : q < N) (hc : ∀ p d, p < N → d < D → 0 ≤ c p d ∧ c p d ≤ C) (hM : hu_M N D c al M sit u v) (hC : ∀ d, rc d → d < D ∧ hs_C c al q sit u v bef rc rk d (rk d)) :
    ∀ (k d : Nat), d < D → hs_C c al q sit u v bef rc rk d k → -(u q) - k * C ≤ v d ∧ v d ≤ (k + 1) * C - u q := by
  intro k
  induction k using Nat.strongRecOn with
  | _ k ih =>
    intro d hd hch
    have hCn : 0 ≤ C := by
      have := hc q d hq hd
      omega
    have hkC : 0 ≤ (k : Int) * C := Int.mul_nonneg (by omega) hCn
    rcases hch with ⟨-, -, ht⟩ | ⟨d', p', -, hr, hlt, hs, -, ht⟩
    · have h1 := hc q d hq hd
      have e : ((k : Int) + 1) * C = k * C + C := by rw [Int.add_mul, Int.one_mul]
      omega
    · obtain ⟨hd', hch'⟩ := hC d' hr
      have h2 := ih (rk d') hlt d' hd' hch'
      obtain ⟨hp', -, -, ht'⟩ := hM.1 d' p' hd' hs
      have h3 := hc p' d hp' hd
      have h4 := hc p' d' hp' hd'
      have h5 : ((rk d' : Int) + 1) * C ≤ k * C := Int.mul_le_mul_of_nonneg_right (by omega) hCn
      have e1 : ((rk d' : Int) + 1) * C = rk d' * C + C := by rw [Int.add_mul, Int.one_mul]
      have e : ((k : Int) + 1) * C = k * C + C := by rw [Int.add_mul, Int.one_mul]
      omega
/-- the search begins -/
theorem hs_start {N D : Nat} {c : Nat → Nat → Int} {al : Nat → Nat → Prop} {C F : Int} {M : Nat → Prop} {q : Nat} {sit : Nat → Option Nat} {u u' v dist : Nat → Int} {bef : Nat → Option Nat} {rc : Nat → Prop} {rk : Nat → Nat}
    (hq : q < N) (hqM : ¬ M q) (hC0 : 0 ≤ C) (hc : ∀ p d, p < N → d < D → 0 ≤ c p d ∧ c p d ≤ C) (h : hu_I N D c al C M sit u v) (hu : ∀ p, p ≠ q → u' p = u p) (hu0 : u' q = 0) (hd : ∀ d, d < D → dist d = F) (hr : ∀ d, ¬ rc d) :
    hs_I N D c al C M q sit F u' v dist bef rc rk 0 (fun _ => False) := by
  obtain ⟨⟨h1, h2, h3⟩, h4, h5⟩ := h
  have hne : ∀ p, M p → p ≠ q := fun p hp e => hqM (e ▸ hp)
  refine ⟨⟨fun d p hd hs => ?_, h2, h3⟩, fun p d hp hM hd' ha => ?_, fun d hd' => ⟨(h4 d hd').2.1, fun hs => ⟨(h4 d hd').2.2 hs, hr d⟩, fun _ => (h4 d hd').1⟩, fun d hr' => absurd hr' (hr d), fun d hd' _ => Or.inl ⟨hd d hd', fun p hp => absurd hp id⟩, fun p hp => absurd hp id, ?_⟩
  · obtain ⟨a, b, e, f⟩ := h1 d p hd hs
    exact ⟨a, b, e, by rw [hu p (hne p b)]; exact f⟩
  · rcases hM with hM | rfl
    · rw [hu p (hne p hM)]; exact h5 p d hp hM hd' ha
    · rw [hu0]
      have := (h4 d hd').2.1
      have := (hc p d hp hd').1
      omega
  · rw [hu0]; omega
/-- it was looked from x, who is in the tree -/
theorem hs_look {N D : Nat} {c : Nat → Nat → Int} {al : Nat → Nat → Prop} {C F : Int} {M : Nat → Prop} {q : Nat} {sit : Nat → Option Nat} {u v dist dist' : Nat → Int} {bef bef' : Nat → Option Nat} {rc : Nat → Prop} {rk : Nat → Nat} {n : Nat} {Lk : Nat → Prop} {x : Nat} {fr : Option Nat}
    (h : hs_I N D c al C M q sit F u v dist bef rc rk n Lk) (hx : x < N) (hxM : M x ∨ x = q) (hfr : (x = q ∧ fr = none) ∨ ∃ d', fr = some d' ∧ d' < D ∧ rc d' ∧ sit d' = some x)
    (hF : ∀ d, d < D → al x d → c x d - u x - v d < F)
    (hn : ∀ d, d < D → ¬ rc d → al x d → c x d - u x - v d < dist d → dist' d = c x d - u x - v d ∧ bef' d = fr)
    (ho : ∀ d, d < D → (rc d ∨ ¬ al x d ∨ ¬ c x d - u x - v d < dist d) → dist' d = dist d ∧ bef' d = bef d) :
    hs_I N D c al C M q sit F u v dist' bef' rc rk n (fun p => Lk p ∨ p = x) := by
  obtain ⟨h1, h2, h3, h4, h5, h6, h7⟩ := h
  refine ⟨h1, h2, h3, fun d hr => ?_, fun d hd hr => ?_, fun p hp => ?_, h7⟩
  · obtain ⟨hd, hk, hch⟩ := h4 d hr
    refine ⟨hd, hk, ?_⟩
    unfold hs_C
    rw [(ho d hd (Or.inl hr)).2]
    exact hch
  · by_cases ha : al x d
    · by_cases hlt : c x d - u x - v d < dist d
      · obtain ⟨e1, e2⟩ := hn d hd hr ha hlt
        refine Or.inr ⟨by rw [e1]; exact hF d hd ha, by rw [e1]; have := h2 x d hx hxM hd ha; omega, fun p hp hap => ?_, ?_⟩
        · rw [e1]
          rcases hp with hp | rfl
          · rcases h5 d hd hr with ⟨-, hno⟩ | ⟨-, -, hmin, -⟩
            · exact absurd hap (hno p hp)
            · have := hmin p hp hap; omega
          · exact Int.le_refl _
        · rcases hfr with ⟨rfl, rfl⟩ | ⟨d', rfl, hd', hr', hs'⟩
          · exact Or.inl ⟨e2, Or.inr rfl, ha, e1⟩
          · exact Or.inr ⟨d', x, e2, hr', hs', Or.inr rfl, ha, e1⟩
      · obtain ⟨e1, e2⟩ := ho d hd (Or.inr (Or.inr hlt))
        rcases h5 d hd hr with ⟨hf, hno⟩ | ⟨ha1, ha2, hmin, hb⟩
        · exfalso
          have := hF d hd ha
          omega
        · refine Or.inr ⟨by rw [e1]; exact ha1, by rw [e1]; exact ha2, fun p hp hap => ?_, ?_⟩
          · rw [e1]
            rcases hp with hp | rfl
            · exact hmin p hp hap
            · omega
          · rw [e1, e2]
            rcases hb with ⟨b1, b2, b3, b4⟩ | ⟨d', p', b1, b2, b3, b4, b5, b6⟩
            · exact Or.inl ⟨b1, Or.inl b2, b3, b4⟩
            · exact Or.inr ⟨d', p', b1, b2, b3, Or.inl b4, b5, b6⟩
    · obtain ⟨e1, e2⟩ := ho d hd (Or.inr (Or.inl ha))
      rcases h5 d hd hr with ⟨hf, hno⟩ | ⟨ha1, ha2, hmin, hb⟩
      · refine Or.inl ⟨by rw [e1]; exact hf, fun p hp => ?_⟩
        rcases hp with hp | rfl
        · exact hno p hp
        · exact ha
      · refine Or.inr ⟨by rw [e1]; exact ha1, by rw [e1]; exact ha2, fun p hp hap => ?_, ?_⟩
        · rw [e1]
          rcases hp with hp | rfl
          · exact hmin p hp hap
          · exact absurd hap ha
        · rw [e1, e2]
          rcases hb with ⟨b1, b2, b3, b4⟩ | ⟨d', p', b1, b2, b3, b4, b5, b6⟩
          · exact Or.inl ⟨b1, Or.inl b2, b3, b4⟩
          · exact Or.inr ⟨d', p', b1, b2, b3, Or.inl b4, b5, b6⟩
  · rcases hp with hp | rfl
    · exact h6 p hp
    · refine ⟨hx, ?_⟩
      rcases hfr with ⟨rfl, -⟩ | ⟨d', -, hd', hr', hs'⟩
      · exact Or.inl rfl
      · exact Or.inr ⟨d', hd', hr', hs'⟩
/-- the reached places are as many as the tree's persons less one: no assignment where the tree's persons have only reached places -/
theorem hs_none {N D : Nat} {c : Nat → Nat → Int} {al : Nat → Nat → Prop} {M : Nat → Prop} {q : Nat} {sit : Nat → Option Nat} {u v : Nat → Int} {rc : Nat → Prop}
    (hM : hu_M N D c al M sit u v) (hq : q < N) (hqM : ¬ M q) (hrd : ∀ d, rc d → d < D ∧ sit d ≠ none) (hno : ∀ p d, p < N → hs_T D q sit rc p → d < D → al p d → rc d) (g : Nat → Nat) : ¬ as_ok N D (fun p => M p ∨ p = q) al g := by
  intro hg
  obtain ⟨h1, h2, h3⟩ := hM
  have hT : ∀ p, p < N → hs_T D q sit rc p → M p ∨ p = q := by
    intro p _ ht
    rcases ht with rfl | ⟨d, hd, -, hs⟩
    · exact Or.inr rfl
    · exact Or.inl (h1 d p hd hs).2.1
  have k1 := as_count (N := N) (D := D) (A := hs_T D q sit rc) (B := rc) (g := g) (fun p hp ht => by
      obtain ⟨a, b⟩ := hg.1 p hp (hT p hp ht)
      exact ⟨a, hno p (g p) hp ht a b⟩) (fun p p' hp hp' ht ht' e => hg.2 p p' hp hp' (hT p hp ht) (hT p' hp' ht') e)
  have k2 := as_count (N := D) (D := N) (A := rc) (B := fun p => hs_T D q sit rc p ∧ p ≠ q) (g := fun d => (sit d).getD 0) (fun d hd hr => by
      obtain ⟨p, hs⟩ : ∃ p, sit d = some p := by
        cases hs : sit d with
        | none => exact absurd hs (hrd d hr).2
        | some p => exact ⟨p, rfl⟩
      obtain ⟨a, b, -, -⟩ := h1 d p hd hs
      show (sit d).getD 0 < N ∧ _
      rw [hs]
      exact ⟨a, Or.inr ⟨d, hd, hr, hs⟩, fun e => hqM (e ▸ b)⟩) (fun d d' hd hd' hr hr' e => by
      cases hs : sit d with
      | none => exact absurd hs (hrd d hr).2
      | some p =>
        cases hs' : sit d' with
        | none => exact absurd hs' (hrd d' hr').2
        | some p' =>
          have e : (sit d).getD 0 = (sit d').getD 0 := e
          rw [hs, hs'] at e
          have e : p = p' := e
          subst e
          exact h3 d d' p hd hd' hs hs')
  have k3 : sm_S (fun p => sm_c (hs_T D q sit rc p) 1) N = sm_S (fun p => sm_c (hs_T D q sit rc p ∧ p ≠ q) 1) N + 1 := by
    have e : sm_S (fun p => sm_c (p = q) 1) N = 1 := by
      rw [sm_single (f := fun p => sm_c (p = q) 1) hq (fun i _ hne => sm_cf hne), sm_ct rfl]
    have e2 := sm_add (fun p => sm_c (hs_T D q sit rc p ∧ p ≠ q) 1) (fun p => sm_c (p = q) 1) N
    have e3 : sm_S (fun p => sm_c (hs_T D q sit rc p) 1) N = sm_S (fun p => sm_c (hs_T D q sit rc p ∧ p ≠ q) 1 + sm_c (p = q) 1) N := by
      refine sm_congr (fun p _ => ?_)
      by_cases hpq : p = q
      · rw [sm_ct (P := hs_T D q sit rc p) (Or.inl hpq), sm_cf (P := hs_T D q sit rc p ∧ p ≠ q) (fun z => z.2 hpq), sm_ct hpq]; rfl
      · rw [sm_cf (P := p = q) hpq, sm_ce (P := hs_T D q sit rc p) (Q := hs_T D q sit rc p ∧ p ≠ q) ⟨fun z => ⟨z, hpq⟩, fun z => z.1⟩ (fun _ => rfl)]; omega
    rw [e3, e2, e]
  omega
end
section
/-- what the shift of the prices by the least distance gives: prices, and how the nearest place hangs on the tree -/
def hs_J (N D : Nat) (c : Nat → Nat → Int) (al : Nat → Nat → Prop) (C : Int) (M : Nat → Prop) (q : Nat) (sit : Nat → Option Nat) (F : Int) (u v dist : Nat → Int) (bef : Nat → Option Nat) (rc : Nat → Prop) (rk : Nat → Nat) (n : Nat) (Lk : Nat → Prop) (d0 : Nat) : Prop :=
  hs_I N D c al C M q sit F u v dist bef rc rk n Lk ∧ hs_C c al q sit u v bef rc rk d0 n
theorem hs_shift {N D : Nat} {c : Nat → Nat → Int} {al : Nat → Nat → Prop} {C F : Int} {M : Nat → Prop} {q : Nat} {sit : Nat → Option Nat} {u v dist u' v' dist' : Nat → Int} {bef : Nat → Option Nat} {rc : Nat → Prop} {rk : Nat → Nat} {n : Nat} {Lk : Nat → Prop} {d0 : Nat}
    (hq : q < N) (hqM : ¬ M q) (hc : ∀ p d, p < N → d < D → 0 ≤ c p d ∧ c p d ≤ C) (hn14 : n ≤ 13)
    (h : hs_I N D c al C M q sit F u v dist bef rc rk n Lk) (hall : ∀ p, p < N → hs_T D q sit rc p → Lk p) (hd0 : d0 < D) (hr0 : ¬ rc d0) (hf0 : dist d0 < F) (hmin : ∀ d, d < D → ¬ rc d → dist d < F → dist d0 ≤ dist d)
    (hu1 : ∀ p, p < N → hs_T D q sit rc p → u' p = u p + dist d0) (hu2 : ∀ p, p < N → ¬ hs_T D q sit rc p → u' p = u p)
    (hv1 : ∀ d, d < D → rc d → v' d = v d - dist d0) (hv2 : ∀ d, d < D → ¬ rc d → v' d = v d)
    (hd1 : ∀ d, d < D → ¬ rc d → dist d < F → dist' d = dist d - dist d0) (hd2 : ∀ d, d < D → ¬ rc d → ¬ dist d < F → dist' d = dist d) :
    hs_J N D c al C M q sit F u' v' dist' bef rc rk n Lk d0 := by
  obtain ⟨⟨h1, h1b, h1c⟩, h2, h3, h4, h5, h6, h7⟩ := h
  have hby : 0 ≤ dist d0 := by
    rcases h5 d0 hd0 hr0 with ⟨e, -⟩ | ⟨-, e, -⟩
    · omega
    · exact e
  have hTq : hs_T D q sit rc q := Or.inl rfl
  have huq := hu1 q hq hTq
  have hTs : ∀ d p, d < D → sit d = some p → (hs_T D q sit rc p ↔ rc d) := by
    intro d p hd hs
    constructor
    · rintro (rfl | ⟨d1, hd1', hr1, hs1⟩)
      · exact absurd (h1 d p hd hs).2.1 hqM
      · exact h1c d1 d p hd1' hd hs1 hs ▸ hr1
    · exact fun hr => Or.inr ⟨d, hd, hr, hs⟩
  have hM' : hu_M N D c al M sit u' v' := by
    refine ⟨fun d p hd hs => ?_, h1b, h1c⟩
    obtain ⟨a1, a2, a3, a4⟩ := h1 d p hd hs
    refine ⟨a1, a2, a3, ?_⟩
    by_cases hr : rc d
    · rw [hu1 p a1 ((hTs d p hd hs).mpr hr), hv1 d hd hr]; omega
    · rw [hu2 p a1 (fun t => hr ((hTs d p hd hs).mp t)), hv2 d hd hr]; exact a4
  have hch : ∀ d k, d < D → rc d → hs_C c al q sit u v bef rc rk d k → hs_C c al q sit u' v' bef rc rk d k := by
    intro d k hd hr hch
    rcases hch with ⟨b1, b2, b3⟩ | ⟨d', p', b1, b2, b3, b4, b5, b6⟩
    · exact Or.inl ⟨b1, b2, by rw [huq, hv1 d hd hr]; omega⟩
    · have hd' := (h4 d' b2).1
      have hp' := (h1 d' p' hd' b4).1
      exact Or.inr ⟨d', p', b1, b2, b3, b4, b5, by rw [hu1 p' hp' ((hTs d' p' hd' b4).mpr b2), hv1 d hd hr]; omega⟩
  have hch0 : hs_C c al q sit u' v' bef rc rk d0 n := by
    rcases h5 d0 hd0 hr0 with ⟨e, -⟩ | ⟨-, -, -, hb⟩
    · omega
    · rcases hb with ⟨b1, -, b3, b4⟩ | ⟨d', p', b1, b2, b3, b4, b5, b6⟩
      · exact Or.inl ⟨b1, b3, by rw [huq, hv2 d0 hd0 hr0]; omega⟩
      · have hd' := h4 d' b2
        have hp' := (h1 d' p' hd'.1 b3).1
        exact Or.inr ⟨d', p', b1, b2, hd'.2.1, b3, b5, by rw [hu1 p' hp' ((hTs d' p' hd'.1 b3).mpr b2), hv2 d0 hd0 hr0]; omega⟩
  have hCn : 0 ≤ C := by
    have := hc q d0 hq hd0
    omega
  have hpr := hs_price (k := n) hq hc hM' (fun d hr => ⟨(h4 d hr).1, hch d (rk d) (h4 d hr).1 hr (h4 d hr).2.2⟩) d0 hd0 hch0
  have hub : u' q ≤ 48 * C := by
    have e1 : ((n : Int) + 1) * C ≤ 14 * C := Int.mul_le_mul_of_nonneg_right (by omega) hCn
    have e2 := (h3 d0 hd0).2.2 hr0
    rw [hv2 d0 hd0 hr0] at hpr
    omega
  refine ⟨⟨hM', fun p d hp hM hd ha => ?_, fun d hd => ?_, fun d hr => ⟨(h4 d hr).1, (h4 d hr).2.1, hch d _ (h4 d hr).1 hr (h4 d hr).2.2⟩, fun d hd hr => ?_, h6, ⟨by rw [huq]; omega, hub⟩⟩, hch0⟩
  · have h2' := h2 p d hp hM hd ha
    by_cases ht : hs_T D q sit rc p
    · rw [hu1 p hp ht]
      by_cases hr : rc d
      · rw [hv1 d hd hr]; omega
      · rw [hv2 d hd hr]
        rcases h5 d hd hr with ⟨-, hno⟩ | ⟨hlt, -, hm, -⟩
        · exact absurd ha (hno p (hall p hp ht))
        · have := hm p (hall p hp ht) ha
          have := hmin d hd hr hlt
          omega
    · rw [hu2 p hp ht]
      by_cases hr : rc d
      · rw [hv1 d hd hr]; omega
      · rw [hv2 d hd hr]; exact h2'
  · obtain ⟨a1, a2, a3⟩ := h3 d hd
    by_cases hr : rc d
    · rw [hv1 d hd hr]
      exact ⟨by omega, fun hs => absurd hr (a2 hs).2, fun z => absurd hr z⟩
    · rw [hv2 d hd hr]
      exact ⟨a1, a2, a3⟩
  · rcases h5 d hd hr with ⟨e, hno⟩ | ⟨hlt, h0, hm, hb⟩
    · exact Or.inl ⟨by rw [hd2 d hd hr (by omega)]; exact e, hno⟩
    · have e := hd1 d hd hr hlt
      have hmd := hmin d hd hr hlt
      refine Or.inr ⟨by omega, by omega, fun p hp hap => ?_, ?_⟩
      · have := hm p hp hap
        rw [hu1 p (h6 p hp).1 (h6 p hp).2, hv2 d hd hr]; omega
      · rcases hb with ⟨b1, b2, b3, b4⟩ | ⟨d', p', b1, b2, b3, b4, b5, b6⟩
        · exact Or.inl ⟨b1, b2, b3, by rw [huq, hv2 d hd hr]; omega⟩
        · exact Or.inr ⟨d', p', b1, b2, b3, b4, b5, by rw [hu1 p' (h6 p' b4).1 (h6 p' b4).2, hv2 d hd hr]; omega⟩
/-- the nearest place is taken: it is reached, the search goes on from its sitter -/
theorem hs_reach {N D : Nat} {c : Nat → Nat → Int} {al : Nat → Nat → Prop} {C F : Int} {M : Nat → Prop} {q : Nat} {sit : Nat → Option Nat} {u v dist : Nat → Int} {bef : Nat → Option Nat} {rc rc' : Nat → Prop} {rk : Nat → Nat} {n : Nat} {Lk : Nat → Prop} {d0 p0 : Nat}
    (h : hs_J N D c al C M q sit F u v dist bef rc rk n Lk d0) (hd0 : d0 < D) (hr0 : ¬ rc d0) (hs0 : sit d0 = some p0) (hrc : ∀ d, rc' d ↔ rc d ∨ d = d0) :
    hs_I N D c al C M q sit F u v dist bef rc' (fun d => if d = d0 then n else rk d) (n + 1) Lk := by
  obtain ⟨⟨h1, h2, h3, h4, h5, h6, h7⟩, h8⟩ := h
  have hne : ∀ d, rc d → d ≠ d0 := fun d hr e => hr0 (e ▸ hr)
  have hup : ∀ d k, hs_C c al q sit u v bef rc rk d k → hs_C c al q sit u v bef rc' (fun d => if d = d0 then n else rk d) d k := by
    intro d k hch
    rcases hch with b | ⟨d', p', b1, b2, b3, b4⟩
    · exact Or.inl b
    · exact Or.inr ⟨d', p', b1, (hrc d').mpr (Or.inl b2), by show (if d' = d0 then n else rk d') < k; rw [if_neg (hne d' b2)]; exact b3, b4⟩
  refine ⟨h1, h2, fun d hd => ⟨(h3 d hd).1, fun hs => ⟨((h3 d hd).2.1 hs).1, fun hr => ?_⟩, fun hr => (h3 d hd).2.2 (fun z => hr ((hrc d).mpr (Or.inl z)))⟩, fun d hr => ?_, fun d hd hr => ?_, fun p hp => ⟨(h6 p hp).1, ?_⟩, h7⟩
  · rcases (hrc d).mp hr with hr | rfl
    · exact ((h3 d hd).2.1 hs).2 hr
    · rw [hs0] at hs; cases hs
  · rcases (hrc d).mp hr with hr | rfl
    · obtain ⟨a1, a2, a3⟩ := h4 d hr
      refine ⟨a1, ?_, ?_⟩
      · show (if d = d0 then n else rk d) < n + 1
        rw [if_neg (hne d hr)]; omega
      · show hs_C c al q sit u v bef rc' (fun d => if d = d0 then n else rk d) d (if d = d0 then n else rk d)
        rw [if_neg (hne d hr)]
        exact hup d _ a3
    · refine ⟨hd0, ?_, ?_⟩
      · show (if d = d then n else rk d) < n + 1
        rw [if_pos rfl]; omega
      · show hs_C c al q sit u v bef rc' (fun e => if e = d then n else rk e) d (if d = d then n else rk d)
        rw [if_pos rfl]
        exact hup d n h8
  · have hr' : ¬ rc d := fun z => hr ((hrc d).mpr (Or.inl z))
    rcases h5 d hd hr' with a | ⟨a1, a2, a3, a4⟩
    · exact Or.inl a
    · refine Or.inr ⟨a1, a2, a3, ?_⟩
      rcases a4 with b | ⟨d', p', b1, b2, b3⟩
      · exact Or.inl b
      · exact Or.inr ⟨d', p', b1, (hrc d').mpr (Or.inl b2), b3⟩
  · rcases (h6 p hp).2 with e | ⟨d, hd, hr, hs⟩
    · exact Or.inl e
    · exact Or.inr ⟨d, hd, (hrc d).mpr (Or.inl hr), hs⟩
/-- handing on along the chain: all but place d are seated well; the places of lesser rank are as they were -/
def hk_I (N D : Nat) (c : Nat → Nat → Int) (al : Nat → Nat → Prop) (M : Nat → Prop) (sit : Nat → Option Nat) (u v : Nat → Int) (rc : Nat → Prop) (rk : Nat → Nat) (cur : Nat → Option Nat) (d k : Nat) : Prop :=
  (∀ e p, e < D → e ≠ d → cur e = some p → p < N ∧ M p ∧ al p e ∧ u p + v e = c p e) ∧
  (∀ p, p < N → M p → ∃ e, e < D ∧ e ≠ d ∧ cur e = some p) ∧
  (∀ e e' p, e < D → e' < D → e ≠ d → e' ≠ d → cur e = some p → cur e' = some p → e = e') ∧
  (∀ e, rc e → rk e < k → cur e = sit e) ∧
  (∀ e, e < D → e ≠ d → cur e = none → v e = 0) ∧
  (rc d → rk d = k) ∧ d < D
theorem hk_start {N D : Nat} {c : Nat → Nat → Int} {al : Nat → Nat → Prop} {M : Nat → Prop} {sit : Nat → Option Nat} {u v : Nat → Int} {rc : Nat → Prop} {rk : Nat → Nat} {d0 n : Nat}
    (hM : hu_M N D c al M sit u v) (hz : ∀ d, d < D → sit d = none → v d = 0) (hd0 : d0 < D) (hr0 : ¬ rc d0) (hs0 : sit d0 = none) : hk_I N D c al M sit u v rc rk sit d0 n := by
  obtain ⟨h1, h2, h3⟩ := hM
  refine ⟨fun e p he _ hs => h1 e p he hs, fun p hp hMp => ?_, fun e e' p he he' _ _ hs hs' => h3 e e' p he he' hs hs', fun e _ _ => rfl, fun e he _ hs => hz e he hs, fun hr => absurd hr hr0, hd0⟩
  obtain ⟨e, he, hs⟩ := h2 p hp hMp
  exact ⟨e, he, (fun z => by rw [z, hs0] at hs; cases hs), hs⟩
theorem hk_step {N D : Nat} {c : Nat → Nat → Int} {al : Nat → Nat → Prop} {M : Nat → Prop} {sit : Nat → Option Nat} {u v : Nat → Int} {rc : Nat → Prop} {rk : Nat → Nat} {cur cur' : Nat → Option Nat} {d k d' p' : Nat}
    (hM : hu_M N D c al M sit u v) (h : hk_I N D c al M sit u v rc rk cur d k) (hrd : rc d' → d' < D) (hr : rc d') (hk : rk d' < k) (hs : sit d' = some p') (ha : al p' d) (ht : u p' + v d = c p' d)
    (hc1 : cur' d = some p') (hc2 : ∀ e, e ≠ d → cur' e = cur e) : hk_I N D c al M sit u v rc rk cur' d' (rk d') ∧ cur d' = some p' ∧ d' ≠ d := by
  obtain ⟨h1, h2, h3, h4, h5, h6, h7⟩ := h
  have hd' := hrd hr
  have hne : d' ≠ d := by
    intro e
    subst e
    have := h6 hr
    omega
  have hcd : cur d' = some p' := (h4 d' hr hk).trans hs
  have hmp := hM.1 d' p' hd' hs
  refine ⟨⟨fun e p he hne' hc => ?_, fun p hp hMp => ?_, fun e e' p he he' hn hn' hc hc' => ?_, fun e hre hke => ?_, fun e he hn hc => ?_, fun _ => rfl, hd'⟩, hcd, hne⟩
  · by_cases hed : e = d
    · subst hed
      rw [hc1] at hc
      cases hc
      exact ⟨hmp.1, hmp.2.1, ha, ht⟩
    · rw [hc2 e hed] at hc
      exact h1 e p he hed hc
  · obtain ⟨e, he, hne', hc⟩ := h2 p hp hMp
    by_cases hed : e = d'
    · subst hed
      rw [hcd] at hc
      cases hc
      exact ⟨d, h7, fun z => hne z.symm, hc1⟩
    · exact ⟨e, he, hed, by rw [hc2 e hne']; exact hc⟩
  · by_cases hed : e = d
    · by_cases hed' : e' = d
      · rw [hed, hed']
      · exfalso
        subst hed
        rw [hc1] at hc
        cases hc
        rw [hc2 e' hed'] at hc'
        exact hn' (h3 e' d' p' he' hd' hed' hne hc' hcd)
    · rw [hc2 e hed] at hc
      by_cases hed' : e' = d
      · exfalso
        subst hed'
        rw [hc1] at hc'
        cases hc'
        exact hn (h3 e d' p' he hd' hed hne hc hcd)
      · rw [hc2 e' hed'] at hc'
        exact h3 e e' p he he' hed hed' hc hc'
  · have hed : e ≠ d := by
      intro z
      subst z
      have := h6 hre
      omega
    rw [hc2 e hed]
    exact h4 e hre (by omega)
  · have hed : e ≠ d := by
      intro z
      subst z
      rw [hc1] at hc
      cases hc
    rw [hc2 e hed] at hc
    exact h5 e he hed hc
theorem hk_end {N D : Nat} {c : Nat → Nat → Int} {al : Nat → Nat → Prop} {M : Nat → Prop} {q : Nat} {sit : Nat → Option Nat} {u v : Nat → Int} {rc : Nat → Prop} {rk : Nat → Nat} {cur cur' : Nat → Option Nat} {d k : Nat}
    (hq : q < N) (hqM : ¬ M q) (h : hk_I N D c al M sit u v rc rk cur d k) (ha : al q d) (ht : u q + v d = c q d)
    (hc1 : cur' d = some q) (hc2 : ∀ e, e ≠ d → cur' e = cur e) : hu_M N D c al (fun p => M p ∨ p = q) cur' u v ∧ ∀ e, e < D → cur' e = none → v e = 0 := by
  obtain ⟨h1, h2, h3, h4, h5, h6, h7⟩ := h
  refine ⟨⟨fun e p he hc => ?_, fun p hp hMp => ?_, fun e e' p he he' hc hc' => ?_⟩, fun e he hc => ?_⟩
  · by_cases hed : e = d
    · subst hed
      rw [hc1] at hc
      cases hc
      exact ⟨hq, Or.inr rfl, ha, ht⟩
    · rw [hc2 e hed] at hc
      obtain ⟨a1, a2, a3, a4⟩ := h1 e p he hed hc
      exact ⟨a1, Or.inl a2, a3, a4⟩
  · rcases hMp with hMp | rfl
    · obtain ⟨e, he, hne, hc⟩ := h2 p hp hMp
      exact ⟨e, he, by rw [hc2 e hne]; exact hc⟩
    · exact ⟨d, h7, hc1⟩
  · by_cases hed : e = d
    · by_cases hed' : e' = d
      · rw [hed, hed']
      · exfalso
        subst hed
        rw [hc1] at hc
        cases hc
        rw [hc2 e' hed'] at hc'
        exact hqM (h1 e' q he' hed' hc').2.1
    · rw [hc2 e hed] at hc
      by_cases hed' : e' = d
      · exfalso
        subst hed'
        rw [hc1] at hc'
        cases hc'
        exact hqM (h1 e q he hed hc).2.1
      · rw [hc2 e' hed'] at hc'
        exact h3 e e' p he he' hed hed' hc hc'
  · have hed : e ≠ d := by
      intro z
      subst z
      rw [hc1] at hc
      cases hc
    rw [hc2 e hed] at hc
    exact h5 e he hed hc
/-- the nearest place is free: behind the handing on the members are one more -/
theorem hs_done {N D : Nat} {c : Nat → Nat → Int} {al : Nat → Nat → Prop} {C F : Int} {M : Nat → Prop} {q : Nat} {sit sit' : Nat → Option Nat} {u v dist : Nat → Int} {bef : Nat → Option Nat} {rc : Nat → Prop} {rk : Nat → Nat} {n : Nat} {Lk : Nat → Prop} {d0 : Nat}
    (hq : q < N) (hc : ∀ p d, p < N → d < D → 0 ≤ c p d ∧ c p d ≤ C) (hn14 : n ≤ 13) (h : hs_J N D c al C M q sit F u v dist bef rc rk n Lk d0) (hd0 : d0 < D) (hs0 : sit d0 = none)
    (hM' : hu_M N D c al (fun p => M p ∨ p = q) sit' u v) (hz : ∀ e, e < D → sit' e = none → v e = 0) : hu_I N D c al C (fun p => M p ∨ p = q) sit' u v := by
  obtain ⟨⟨h1, h2, h3, h4, h5, h6, h7⟩, h8⟩ := h
  have hCn : 0 ≤ C := by
    have := hc q d0 hq hd0
    omega
  have hpr := hs_price hq hc h1 (fun d hr => ⟨(h4 d hr).1, (h4 d hr).2.2⟩)
  have hp0 := hpr n d0 hd0 h8
  have hv0 := ((h3 d0 hd0).2.1 hs0).1
  have e1 : ((n : Int) + 1) * C ≤ 14 * C := Int.mul_le_mul_of_nonneg_right (by omega) hCn
  refine ⟨hM', fun d hd => ⟨?_, (h3 d hd).1, hz d hd⟩, fun p d hp hMp hd ha => h2 p d hp hMp hd ha⟩
  by_cases hr : rc d
  · have hk := (h4 d hr).2.1
    have := hpr (rk d) d hd (h4 d hr).2.2
    have e2 : ((rk d : Int)) * C ≤ 13 * C := Int.mul_le_mul_of_nonneg_right (by omega) hCn
    omega
  · exact (h3 d hd).2.2 hr
end
