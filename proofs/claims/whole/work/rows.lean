section
/-! PURE: sums of integers over 0 .. n-1 -/
def sm_S (f : Nat → Int) : Nat → Int
  | 0 => 0
  | n + 1 => sm_S f n + f n
theorem sm_congr {f g : Nat → Int} : ∀ {n : Nat}, (∀ i, i < n → f i = g i) → sm_S f n = sm_S g n := by
  intro n
  induction n with
  | zero => intro _; rfl
  | succ n ih =>
    intro h
    show sm_S f n + f n = sm_S g n + g n
    rw [ih (fun i hi => h i (by omega)), h n (by omega)]
theorem sm_le {f g : Nat → Int} : ∀ {n : Nat}, (∀ i, i < n → f i ≤ g i) → sm_S f n ≤ sm_S g n := by
  intro n
  induction n with
  | zero => intro _; exact Int.le_refl _
  | succ n ih =>
    intro h
    show sm_S f n + f n ≤ sm_S g n + g n
    have h1 := ih (fun i hi => h i (by omega))
    have h2 := h n (by omega)
    omega
theorem sm_add (f g : Nat → Int) : ∀ n : Nat, sm_S (fun i => f i + g i) n = sm_S f n + sm_S g n := by
  intro n
  induction n with
  | zero => rfl
  | succ n ih =>
    show sm_S (fun i => f i + g i) n + (f n + g n) = (sm_S f n + f n) + (sm_S g n + g n)
    rw [ih]; omega
theorem sm_sub (f g : Nat → Int) : ∀ n : Nat, sm_S (fun i => f i - g i) n = sm_S f n - sm_S g n := by
  intro n
  induction n with
  | zero => rfl
  | succ n ih =>
    show sm_S (fun i => f i - g i) n + (f n - g n) = (sm_S f n + f n) - (sm_S g n + g n)
    rw [ih]; omega
theorem sm_mul (k : Int) (f : Nat → Int) : ∀ n : Nat, sm_S (fun i => k * f i) n = k * sm_S f n := by
  intro n
  induction n with
  | zero => exact (Int.mul_zero k).symm
  | succ n ih =>
    show sm_S (fun i => k * f i) n + k * f n = k * (sm_S f n + f n)
    rw [ih, Int.mul_add]
theorem sm_zero {f : Nat → Int} : ∀ {n : Nat}, (∀ i, i < n → f i = 0) → sm_S f n = 0 := by
  intro n
  induction n with
  | zero => intro _; rfl
  | succ n ih =>
    intro h
    show sm_S f n + f n = 0
    rw [ih (fun i hi => h i (by omega)), h n (by omega)]; rfl
theorem sm_single {f : Nat → Int} {k : Nat} : ∀ {n : Nat}, k < n → (∀ i, i < n → i ≠ k → f i = 0) → sm_S f n = f k := by
  intro n
  induction n with
  | zero => intro h _; exact absurd h (by omega)
  | succ n ih =>
    intro hk h
    show sm_S f n + f n = f k
    by_cases hkn : k = n
    · subst hkn
      rw [sm_zero (fun i hi => h i (by omega) (by omega))]; omega
    · rw [ih (by omega) (fun i hi hne => h i (by omega) hne), h n (by omega) (fun q => hkn q.symm)]; omega
theorem sm_nonneg {f : Nat → Int} {n : Nat} (h : ∀ i, i < n → 0 ≤ f i) : 0 ≤ sm_S f n := by
  have h1 := sm_le (f := fun _ => 0) (g := f) (n := n) h
  rw [sm_zero (f := fun _ => 0) (fun _ _ => rfl)] at h1
  exact h1
theorem sm_swap (f : Nat → Nat → Int) (m : Nat) : ∀ n : Nat, sm_S (fun i => sm_S (fun j => f i j) m) n = sm_S (fun j => sm_S (fun i => f i j) n) m := by
  intro n
  induction n with
  | zero => exact (sm_zero (fun _ _ => rfl)).symm
  | succ n ih =>
    show sm_S (fun i => sm_S (fun j => f i j) m) n + sm_S (fun j => f n j) m = sm_S (fun j => sm_S (fun i => f i j) n + f n j) m
    rw [ih, sm_add]
/-- a value where a proposition holds, else 0 -/
noncomputable def sm_c (P : Prop) (x : Int) : Int := @ite Int P (Classical.propDecidable P) x 0
theorem sm_ct {P : Prop} {x : Int} (h : P) : sm_c P x = x := by unfold sm_c; exact if_pos h
theorem sm_cf {P : Prop} {x : Int} (h : ¬ P) : sm_c P x = 0 := by unfold sm_c; exact if_neg h
theorem sm_ce {P Q : Prop} {x y : Int} (h : P ↔ Q) (hx : P → x = y) : sm_c P x = sm_c Q y := by
  by_cases hP : P
  · rw [sm_ct hP, sm_ct (h.mp hP), hx hP]
  · rw [sm_cf hP, sm_cf (fun q => hP (h.mpr q))]
theorem sm_cle {P : Prop} {x y : Int} (hx : P → x ≤ y) : sm_c P x ≤ sm_c P y := by
  by_cases hP : P
  · rw [sm_ct hP, sm_ct hP]; exact hx hP
  · rw [sm_cf hP, sm_cf hP]; exact Int.le_refl _
theorem sm_cadd {P : Prop} {x y : Int} : sm_c P (x + y) = sm_c P x + sm_c P y := by
  by_cases hP : P
  · rw [sm_ct hP, sm_ct hP, sm_ct hP]
  · rw [sm_cf hP, sm_cf hP, sm_cf hP]; rfl
/-- an assignment: every member gets an allowed place below D, no two the same -/
def as_ok (N D : Nat) (M : Nat → Prop) (al : Nat → Nat → Prop) (g : Nat → Nat) : Prop :=
  (∀ p, p < N → M p → g p < D ∧ al p (g p)) ∧ (∀ p q, p < N → q < N → M p → M q → g p = g q → p = q)
noncomputable def as_T (N : Nat) (M : Nat → Prop) (c : Nat → Nat → Int) (g : Nat → Nat) : Int := sm_S (fun p => sm_c (M p) (c p (g p))) N
/-- numbers at most 0: what an assignment picks of them is no less than all of them -/
theorem as_image {N D : Nat} {M : Nat → Prop} {g : Nat → Nat} {v : Nat → Int} (hg : ∀ p, p < N → M p → g p < D) (hinj : ∀ p q, p < N → q < N → M p → M q → g p = g q → p = q) (hv : ∀ d, d < D → v d ≤ 0) :
    sm_S v D ≤ sm_S (fun p => sm_c (M p) (v (g p))) N := by
  have e1 : sm_S (fun p => sm_c (M p) (v (g p))) N = sm_S (fun p => sm_S (fun d => sm_c (M p ∧ g p = d) (v d)) D) N := by
    refine sm_congr (fun p hp => ?_)
    by_cases hM : M p
    · rw [sm_single (f := fun d => sm_c (M p ∧ g p = d) (v d)) (hg p hp hM) (fun d _ hne => sm_cf (fun q => hne q.2.symm))]
      rw [sm_ct hM, sm_ct ⟨hM, rfl⟩]
    · rw [sm_cf hM, sm_zero (fun d _ => sm_cf (fun q => hM q.1))]
  rw [e1, sm_swap]
  refine sm_le (fun d hd => ?_)
  by_cases hex : ∃ p, p < N ∧ M p ∧ g p = d
  · obtain ⟨p, hp, hM, hgp⟩ := hex
    rw [sm_single (f := fun p => sm_c (M p ∧ g p = d) (v d)) hp (fun p' hp' hne => sm_cf (fun q => hne (hinj p' p hp' hp q.1 hM (q.2.trans hgp.symm))))]
    rw [sm_ct ⟨hM, hgp⟩]
    exact Int.le_refl _
  · rw [sm_zero (fun p hp => sm_cf (fun q => hex ⟨p, hp, q.1, q.2⟩))]
    exact hv d hd
/-- equality, where what isn't picked is 0 -/
theorem as_imageE {N D : Nat} {M : Nat → Prop} {g : Nat → Nat} {v : Nat → Int} (hg : ∀ p, p < N → M p → g p < D) (hinj : ∀ p q, p < N → q < N → M p → M q → g p = g q → p = q) (hv : ∀ d, d < D → (∀ p, p < N → M p → g p ≠ d) → v d = 0) :
    sm_S v D = sm_S (fun p => sm_c (M p) (v (g p))) N := by
  have e1 : sm_S (fun p => sm_c (M p) (v (g p))) N = sm_S (fun p => sm_S (fun d => sm_c (M p ∧ g p = d) (v d)) D) N := by
    refine sm_congr (fun p hp => ?_)
    by_cases hM : M p
    · rw [sm_single (f := fun d => sm_c (M p ∧ g p = d) (v d)) (hg p hp hM) (fun d _ hne => sm_cf (fun q => hne q.2.symm))]
      rw [sm_ct hM, sm_ct ⟨hM, rfl⟩]
    · rw [sm_cf hM, sm_zero (fun d _ => sm_cf (fun q => hM q.1))]
  rw [e1, sm_swap]
  refine sm_congr (fun d hd => ?_)
  by_cases hex : ∃ p, p < N ∧ M p ∧ g p = d
  · obtain ⟨p, hp, hM, hgp⟩ := hex
    rw [sm_single (f := fun p => sm_c (M p ∧ g p = d) (v d)) hp (fun p' hp' hne => sm_cf (fun q => hne (hinj p' p hp' hp q.1 hM (q.2.trans hgp.symm))))]
    rw [sm_ct ⟨hM, hgp⟩]
  · rw [sm_zero (fun p hp => sm_cf (fun q => hex ⟨p, hp, q.1, q.2⟩))]
    exact hv d hd (fun p hp hM hgp => hex ⟨p, hp, hM, hgp⟩)
/-- counting: an injection from the members A (below N) into B (below D) -/
theorem as_count {N D : Nat} {A B : Nat → Prop} {g : Nat → Nat} (hg : ∀ p, p < N → A p → g p < D ∧ B (g p)) (hinj : ∀ p q, p < N → q < N → A p → A q → g p = g q → p = q) :
    sm_S (fun p => sm_c (A p) 1) N ≤ sm_S (fun d => sm_c (B d) 1) D := by
  have h := as_image (N := N) (D := D) (M := A) (g := g) (v := fun d => - sm_c (B d) 1) (fun p hp hA => (hg p hp hA).1) hinj (fun d _ => by
    by_cases hB : B d
    · rw [sm_ct hB]; omega
    · rw [sm_cf hB]; omega)
  have e1 : sm_S (fun d => - sm_c (B d) 1) D = - sm_S (fun d => sm_c (B d) 1) D := by
    have := sm_sub (fun _ => 0) (fun d => sm_c (B d) 1) D
    rw [sm_zero (f := fun _ => 0) (fun _ _ => rfl)] at this
    rw [← Int.zero_sub, ← this]
    exact sm_congr (fun i _ => (Int.zero_sub _).symm)
  have e2 : sm_S (fun p => sm_c (A p) (- sm_c (B (g p)) 1)) N = - sm_S (fun p => sm_c (A p) 1) N := by
    have := sm_sub (fun _ => 0) (fun p => sm_c (A p) 1) N
    rw [sm_zero (f := fun _ => 0) (fun _ _ => rfl)] at this
    rw [← Int.zero_sub, ← this]
    refine sm_congr (fun p hp => ?_)
    by_cases hA : A p
    · rw [sm_ct hA, sm_ct hA, sm_ct (hg p hp hA).2]; rfl
    · rw [sm_cf hA, sm_cf hA]; rfl
  rw [e1, e2] at h
  omega
/-- LP duality: no assignment costs less than a feasible dual; a tight one costs just that -/
theorem as_dual {N D : Nat} {M : Nat → Prop} {al : Nat → Nat → Prop} {c : Nat → Nat → Int} {u v : Nat → Int} {g : Nat → Nat} (hg : as_ok N D M al g) (hv : ∀ d, d < D → v d ≤ 0)
    (hf : ∀ p d, p < N → M p → d < D → al p d → u p + v d ≤ c p d) : sm_S (fun p => sm_c (M p) (u p)) N + sm_S v D ≤ as_T N M c g := by
  have h1 := as_image (fun p hp hM => (hg.1 p hp hM).1) hg.2 hv
  have h2 : sm_S (fun p => sm_c (M p) (u p) + sm_c (M p) (v (g p))) N ≤ as_T N M c g := by
    refine sm_le (fun p hp => ?_)
    rw [← sm_cadd]
    exact sm_cle (fun hM => hf p (g p) hp hM (hg.1 p hp hM).1 (hg.1 p hp hM).2)
  rw [sm_add] at h2
  omega
theorem as_tight {N D : Nat} {M : Nat → Prop} {al : Nat → Nat → Prop} {c : Nat → Nat → Int} {u v : Nat → Int} {g : Nat → Nat} (hg : as_ok N D M al g) (hz : ∀ d, d < D → (∀ p, p < N → M p → g p ≠ d) → v d = 0)
    (ht : ∀ p, p < N → M p → u p + v (g p) = c p (g p)) : sm_S (fun p => sm_c (M p) (u p)) N + sm_S v D = as_T N M c g := by
  rw [as_imageE (fun p hp hM => (hg.1 p hp hM).1) hg.2 hz, ← sm_add]
  refine sm_congr (fun p hp => ?_)
  rw [← sm_cadd]
  exact sm_ce Iff.rfl (fun hM => ht p hp hM)
end
section
/-! PURE: the Hungarian method: members M are seated by 'sit' (place -> person), prices u (persons), v (places) -/
/-- every seated one is a member, allowed there, its edge tight; every member sits; nobody twice -/
def hu_M (N D : Nat) (c : Nat → Nat → Int) (al : Nat → Nat → Prop) (M : Nat → Prop) (sit : Nat → Option Nat) (u v : Nat → Int) : Prop :=
  (∀ d p, d < D → sit d = some p → p < N ∧ M p ∧ al p d ∧ u p + v d = c p d) ∧
  (∀ p, p < N → M p → ∃ d, d < D ∧ sit d = some p) ∧
  (∀ d d' p, d < D → d' < D → sit d = some p → sit d' = some p → d = d')
/-- between two persons -/
def hu_I (N D : Nat) (c : Nat → Nat → Int) (al : Nat → Nat → Prop) (C : Int) (M : Nat → Prop) (sit : Nat → Option Nat) (u v : Nat → Int) : Prop :=
  hu_M N D c al M sit u v ∧
  (∀ d, d < D → -(32 * C) ≤ v d ∧ v d ≤ 0 ∧ (sit d = none → v d = 0)) ∧
  (∀ p d, p < N → M p → d < D → al p d → u p + v d ≤ c p d)
/-- the tree: the newcomer, and who sits at a reached place -/
def hs_T (D : Nat) (q : Nat) (sit : Nat → Option Nat) (rc : Nat → Prop) (p : Nat) : Prop := p = q ∨ ∃ d, d < D ∧ rc d ∧ sit d = some p
/-- how a place hangs on the tree, by a tight edge -/
def hs_C (c : Nat → Nat → Int) (al : Nat → Nat → Prop) (q : Nat) (sit : Nat → Option Nat) (u v : Nat → Int) (bef : Nat → Option Nat) (rc : Nat → Prop) (rk : Nat → Nat) (d k : Nat) : Prop :=
  (bef d = none ∧ al q d ∧ u q + v d = c q d) ∨ (∃ d' p', bef d = some d' ∧ rc d' ∧ rk d' < k ∧ sit d' = some p' ∧ al p' d ∧ u p' + v d = c p' d)
/-- the nearest edge so far to a place that isn't reached -/
def hs_E (c : Nat → Nat → Int) (al : Nat → Nat → Prop) (q : Nat) (sit : Nat → Option Nat) (u v dist : Nat → Int) (bef : Nat → Option Nat) (rc : Nat → Prop) (F : Int) (Lk : Nat → Prop) (d : Nat) : Prop :=
  (dist d = F ∧ ∀ p, Lk p → ¬ al p d) ∨
  (dist d < F ∧ 0 ≤ dist d ∧ (∀ p, Lk p → al p d → dist d ≤ c p d - u p - v d) ∧
    ((bef d = none ∧ Lk q ∧ al q d ∧ dist d = c q d - u q - v d) ∨ ∃ d' p', bef d = some d' ∧ rc d' ∧ sit d' = some p' ∧ Lk p' ∧ al p' d ∧ dist d = c p' d - u p' - v d))
/-- inside the search for the newcomer q: n places are reached, Lk: those from whom it was looked -/
def hs_I (N D : Nat) (c : Nat → Nat → Int) (al : Nat → Nat → Prop) (C : Int) (M : Nat → Prop) (q : Nat) (sit : Nat → Option Nat) (F : Int) (u v dist : Nat → Int) (bef : Nat → Option Nat) (rc : Nat → Prop) (rk : Nat → Nat) (n : Nat) (Lk : Nat → Prop) : Prop :=
  hu_M N D c al M sit u v ∧
  (∀ p d, p < N → (M p ∨ p = q) → d < D → al p d → u p + v d ≤ c p d) ∧
  (∀ d, d < D → v d ≤ 0 ∧ (sit d = none → v d = 0 ∧ ¬ rc d) ∧ (¬ rc d → -(32 * C) ≤ v d)) ∧
  (∀ d, rc d → d < D ∧ rk d < n ∧ hs_C c al q sit u v bef rc rk d (rk d)) ∧
  (∀ d, d < D → ¬ rc d → hs_E c al q sit u v dist bef rc F Lk d) ∧
  (∀ p, Lk p → p < N ∧ hs_T D q sit rc p) ∧
  (0 ≤ u q ∧ u q ≤ 48 * C)
/-- by the chain: the price of a reached place beside the newcomer's -/
theorem hs_price {N D : Nat} {c : Nat → Nat → Int} {al : Nat → Nat → Prop} {C : Int} {M : Nat → Prop} {q : Nat} {sit : Nat → Option Nat} {u v : Nat → Int} {bef : Nat → Option Nat} {rc : Nat → Prop} {rk : Nat → Nat}
    (hq : q < N) (hc : ∀ p d, p < N → d < D → 0 ≤ c p d ∧ c p d ≤ C) (hM : hu_M N D c al M sit u v) (hC : ∀ d, rc d → d < D ∧ hs_C c al q sit u v bef rc rk d (rk d)) :
    ∀ (k d : Nat), d < D → hs_C c al q sit u v bef rc rk d k → -(u q) - k * C ≤ v d ∧ v d ≤ (k + 1) * C - u q := by
  intro k
  induction k using Nat.strongRecOn with
  | _ k ih =>
    intro d hd hch
    have hCn : 0 ≤ C := by
      have := hc q d hq hd
      omega
    have hkC : 0 ≤ (k : Int) * C := Int.mul_nonneg (by omega) hCn
    rcases hch with ⟨-, -, ht⟩ | ⟨d', p', -, hr, hlt, hs, -, ht⟩
    · have h1 := hc q d hq hd
      have e : ((k : Int) + 1) * C = k * C + C := by rw [Int.add_mul, Int.one_mul]
      omega
    · obtain ⟨hd', hch'⟩ := hC d' hr
      have h2 := ih (rk d') hlt d' hd' hch'
      obtain ⟨hp', -, -, ht'⟩ := hM.1 d' p' hd' hs
      have h3 := hc p' d hp' hd
      have h4 := hc p' d' hp' hd'
      have h5 : ((rk d' : Int) + 1) * C ≤ k * C := Int.mul_le_mul_of_nonneg_right (by omega) hCn
      have e1 : ((rk d' : Int) + 1) * C = rk d' * C + C := by rw [Int.add_mul, Int.one_mul]
      have e : ((k : Int) + 1) * C = k * C + C := by rw [Int.add_mul, Int.one_mul]
      omega
/-- the search begins -/
theorem hs_start {N D : Nat} {c : Nat → Nat → Int} {al : Nat → Nat → Prop} {C F : Int} {M : Nat → Prop} {q : Nat} {sit : Nat → Option Nat} {u u' v dist : Nat → Int} {bef : Nat → Option Nat} {rc : Nat → Prop} {rk : Nat → Nat}
    (hq : q < N) (hqM : ¬ M q) (hC0 : 0 ≤ C) (hc : ∀ p d, p < N → d < D → 0 ≤ c p d ∧ c p d ≤ C) (h : hu_I N D c al C M sit u v) (hu : ∀ p, p ≠ q → u' p = u p) (hu0 : u' q = 0) (hd : ∀ d, d < D → dist d = F) (hr : ∀ d, ¬ rc d) :
    hs_I N D c al C M q sit F u' v dist bef rc rk 0 (fun _ => False) := by
  obtain ⟨⟨h1, h2, h3⟩, h4, h5⟩ := h
  have hne : ∀ p, M p → p ≠ q := fun p hp e => hqM (e ▸ hp)
  refine ⟨⟨fun d p hd hs => ?_, h2, h3⟩, fun p d hp hM hd' ha => ?_, fun d hd' => ⟨(h4 d hd').2.1, fun hs => ⟨(h4 d hd').2.2 hs, hr d⟩, fun _ => (h4 d hd').1⟩, fun d hr' => absurd hr' (hr d), fun d hd' _ => Or.inl ⟨hd d hd', fun p hp => absurd hp id⟩, fun p hp => absurd hp id, ?_⟩
  · obtain ⟨a, b, e, f⟩ := h1 d p hd hs
    exact ⟨a, b, e, by rw [hu p (hne p b)]; exact f⟩
  · rcases hM with hM | rfl
    · rw [hu p (hne p hM)]; exact h5 p d hp hM hd' ha
    · rw [hu0]
      have := (h4 d hd').2.1
      have := (hc p d hp hd').1
      omega
  · rw [hu0]; omega
/-- it was looked from x, who is in the tree -/
theorem hs_look {N D : Nat} {c : Nat → Nat → Int} {al : Nat → Nat → Prop} {C F : Int} {M : Nat → Prop} {q : Nat} {sit : Nat → Option Nat} {u v dist dist' : Nat → Int} {bef bef' : Nat → Option Nat} {rc : Nat → Prop} {rk : Nat → Nat} {n : Nat} {Lk : Nat → Prop} {x : Nat} {fr : Option Nat}
    (h : hs_I N D c al C M q sit F u v dist bef rc rk n Lk) (hx : x < N) (hxM : M x ∨ x = q) (hfr : (x = q ∧ fr = none) ∨ ∃ d', fr = some d' ∧ d' < D ∧ rc d' ∧ sit d' = some x)
    (hF : ∀ d, d < D → al x d → c x d - u x - v d < F)
    (hn : ∀ d, d < D → ¬ rc d → al x d → c x d - u x - v d < dist d → dist' d = c x d - u x - v d ∧ bef' d = fr)
    (ho : ∀ d, d < D → (rc d ∨ ¬ al x d ∨ ¬ c x d - u x - v d < dist d) → dist' d = dist d ∧ bef' d = bef d) :
    hs_I N D c al C M q sit F u v dist' bef' rc rk n (fun p => Lk p ∨ p = x) := by
  obtain ⟨h1, h2, h3, h4, h5, h6, h7⟩ := h
  refine ⟨h1, h2, h3, fun d hr => ?_, fun d hd hr => ?_, fun p hp => ?_, h7⟩
  · obtain ⟨hd, hk, hch⟩ := h4 d hr
    refine ⟨hd, hk, ?_⟩
    unfold hs_C
    rw [(ho d hd (Or.inl hr)).2]
    exact hch
  · by_cases ha : al x d
    · by_cases hlt : c x d - u x - v d < dist d
      · obtain ⟨e1, e2⟩ := hn d hd hr ha hlt
        refine Or.inr ⟨by rw [e1]; exact hF d hd ha, by rw [e1]; have := h2 x d hx hxM hd ha; omega, fun p hp hap => ?_, ?_⟩
        · rw [e1]
          rcases hp with hp | rfl
          · rcases h5 d hd hr with ⟨-, hno⟩ | ⟨-, -, hmin, -⟩
            · exact absurd hap (hno p hp)
            · have := hmin p hp hap; omega
          · exact Int.le_refl _
        · rcases hfr with ⟨rfl, rfl⟩ | ⟨d', rfl, hd', hr', hs'⟩
          · exact Or.inl ⟨e2, Or.inr rfl, ha, e1⟩
          · exact Or.inr ⟨d', x, e2, hr', hs', Or.inr rfl, ha, e1⟩
      · obtain ⟨e1, e2⟩ := ho d hd (Or.inr (Or.inr hlt))
        rcases h5 d hd hr with ⟨hf, hno⟩ | ⟨ha1, ha2, hmin, hb⟩
        · exfalso
          have := hF d hd ha
          omega
        · refine Or.inr ⟨by rw [e1]; exact ha1, by rw [e1]; exact ha2, fun p hp hap => ?_, ?_⟩
          · rw [e1]
            rcases hp with hp | rfl
            · exact hmin p hp hap
            · omega
          · rw [e1, e2]
            rcases hb with ⟨b1, b2, b3, b4⟩ | ⟨d', p', b1, b2, b3, b4, b5, b6⟩
            · exact Or.inl ⟨b1, Or.inl b2, b3, b4⟩
            · exact Or.inr ⟨d', p', b1, b2, b3, Or.inl b4, b5, b6⟩
    · obtain ⟨e1, e2⟩ := ho d hd (Or.inr (Or.inl ha))
      rcases h5 d hd hr with ⟨hf, hno⟩ | ⟨ha1, ha2, hmin, hb⟩
      · refine Or.inl ⟨by rw [e1]; exact hf, fun p hp => ?_⟩
        rcases hp with hp | rfl
        · exact hno p hp
        · exact ha
      · refine Or.inr ⟨by rw [e1]; exact ha1, by rw [e1]; exact ha2, fun p hp hap => ?_, ?_⟩
        · rw [e1]
          rcases hp with hp | rfl
          · exact hmin p hp hap
          · exact absurd hap ha
        · rw [e1, e2]
          rcases hb with ⟨b1, b2, b3, b4⟩ | ⟨d', p', b1, b2, b3, b4, b5, b6⟩
          · exact Or.inl ⟨b1, Or.inl b2, b3, b4⟩
          · exact Or.inr ⟨d', p', b1, b2, b3, Or.inl b4, b5, b6⟩
  · rcases hp with hp | rfl
    · exact h6 p hp
    · refine ⟨hx, ?_⟩
      rcases hfr with ⟨rfl, -⟩ | ⟨d', -, hd', hr', hs'⟩
      · exact Or.inl rfl
      · exact Or.inr ⟨d', hd', hr', hs'⟩
/-- the reached places are as many as the tree's persons less one: no assignment where the tree's persons have only reached places -/
theorem hs_none {N D : Nat} {c : Nat → Nat → Int} {al : Nat → Nat → Prop} {M : Nat → Prop} {q : Nat} {sit : Nat → Option Nat} {u v : Nat → Int} {rc : Nat → Prop}
    (hM : hu_M N D c al M sit u v) (hq : q < N) (hqM : ¬ M q) (hrd : ∀ d, rc d → d < D ∧ sit d ≠ none) (hno : ∀ p d, p < N → hs_T D q sit rc p → d < D → al p d → rc d) (g : Nat → Nat) : ¬ as_ok N D (fun p => M p ∨ p = q) al g := by
  intro hg
  obtain ⟨h1, h2, h3⟩ := hM
  have hT : ∀ p, p < N → hs_T D q sit rc p → M p ∨ p = q := by
    intro p _ ht
    rcases ht with rfl | ⟨d, hd, -, hs⟩
    · exact Or.inr rfl
    · exact Or.inl (h1 d p hd hs).2.1
  have k1 := as_count (N := N) (D := D) (A := hs_T D q sit rc) (B := rc) (g := g) (fun p hp ht => by
      obtain ⟨a, b⟩ := hg.1 p hp (hT p hp ht)
      exact ⟨a, hno p (g p) hp ht a b⟩) (fun p p' hp hp' ht ht' e => hg.2 p p' hp hp' (hT p hp ht) (hT p' hp' ht') e)
  have k2 := as_count (N := D) (D := N) (A := rc) (B := fun p => hs_T D q sit rc p ∧ p ≠ q) (g := fun d => (sit d).getD 0) (fun d hd hr => by
      obtain ⟨p, hs⟩ : ∃ p, sit d = some p := by
        cases hs : sit d with
        | none => exact absurd hs (hrd d hr).2
        | some p => exact ⟨p, rfl⟩
      obtain ⟨a, b, -, -⟩ := h1 d p hd hs
      show (sit d).getD 0 < N ∧ _
      rw [hs]
      exact ⟨a, Or.inr ⟨d, hd, hr, hs⟩, fun e => hqM (e ▸ b)⟩) (fun d d' hd hd' hr hr' e => by
      cases hs : sit d with
      | none => exact absurd hs (hrd d hr).2
      | some p =>
        cases hs' : sit d' with
        | none => exact absurd hs' (hrd d' hr').2
        | some p' =>
          have e : (sit d).getD 0 = (sit d').getD 0 := e
          rw [hs, hs'] at e
          have e : p = p' := e
          subst e
          exact h3 d d' p hd hd' hs hs')
  have k3 : sm_S (fun p => sm_c (hs_T D q sit rc p) 1) N = sm_S (fun p => sm_c (hs_T D q sit rc p ∧ p ≠ q) 1) N + 1 := by
    have e : sm_S (fun p => sm_c (p = q) 1) N = 1 := by
      rw [sm_single (f := fun p => sm_c (p = q) 1) hq (fun i _ hne => sm_cf hne), sm_ct rfl]
    have e2 := sm_add (fun p => sm_c (hs_T D q sit rc p ∧ p ≠ q) 1) (fun p => sm_c (p = q) 1) N
    have e3 : sm_S (fun p => sm_c (hs_T D q sit rc p) 1) N = sm_S (fun p => sm_c (hs_T D q sit rc p ∧ p ≠ q) 1 + sm_c (p = q) 1) N := by
      refine sm_congr (fun p _ => ?_)
      by_cases hpq : p = q
      · rw [sm_ct (P := hs_T D q sit rc p) (Or.inl hpq), sm_cf (P := hs_T D q sit rc p ∧ p ≠ q) (fun z => z.2 hpq), sm_ct hpq]; rfl
      · rw [sm_cf (P := p = q) hpq, sm_ce (P := hs_T D q sit rc p) (Q := hs_T D q sit rc p ∧ p ≠ q) ⟨fun z => ⟨z, hpq⟩, fun z => z.1⟩ (fun _ => rfl)]; omega
    rw [e3, e2, e]
  omega
end
section
/-- what the shift of the prices by the least distance gives: prices, and how the nearest place hangs on the tree -/
def hs_J (N D : Nat) (c : Nat → Nat → Int) (al : Nat → Nat → Prop) (C : Int) (M : Nat → Prop) (q : Nat) (sit : Nat → Option Nat) (F : Int) (u v dist : Nat → Int) (bef : Nat → Option Nat) (rc : Nat → Prop) (rk : Nat → Nat) (n : Nat) (Lk : Nat → Prop) (d0 : Nat) : Prop :=
  hs_I N D c al C M q sit F u v dist bef rc rk n Lk ∧ hs_C c al q sit u v bef rc rk d0 n
theorem hs_shift {N D : Nat} {c : Nat → Nat → Int} {al : Nat → Nat → Prop} {C F : Int} {M : Nat → Prop} {q : Nat} {sit : Nat → Option Nat} {u v dist u' v' dist' : Nat → Int} {bef : Nat → Option Nat} {rc : Nat → Prop} {rk : Nat → Nat} {n : Nat} {Lk : Nat → Prop} {d0 : Nat}
    (hq : q < N) (hqM : ¬ M q) (hc : ∀ p d, p < N → d < D → 0 ≤ c p d ∧ c p d ≤ C) (hn14 : n ≤ 13)
    (h : hs_I N D c al C M q sit F u v dist bef rc rk n Lk) (hall : ∀ p, p < N → hs_T D q sit rc p → Lk p) (hd0 : d0 < D) (hr0 : ¬ rc d0) (hf0 : dist d0 < F) (hmin : ∀ d, d < D → ¬ rc d → dist d < F → dist d0 ≤ dist d)
    (hu1 : ∀ p, p < N → hs_T D q sit rc p → u' p = u p + dist d0) (hu2 : ∀ p, p < N → ¬ hs_T D q sit rc p → u' p = u p)
    (hv1 : ∀ d, d < D → rc d → v' d = v d - dist d0) (hv2 : ∀ d, d < D → ¬ rc d → v' d = v d)
    (hd1 : ∀ d, d < D → ¬ rc d → dist d < F → dist' d = dist d - dist d0) (hd2 : ∀ d, d < D → ¬ rc d → ¬ dist d < F → dist' d = dist d) :
    hs_J N D c al C M q sit F u' v' dist' bef rc rk n Lk d0 := by
  obtain ⟨⟨h1, h1b, h1c⟩, h2, h3, h4, h5, h6, h7⟩ := h
  have hby : 0 ≤ dist d0 := by
    rcases h5 d0 hd0 hr0 with ⟨e, -⟩ | ⟨-, e, -⟩
    · omega
    · exact e
  have hTq : hs_T D q sit rc q := Or.inl rfl
  have huq := hu1 q hq hTq
  have hTs : ∀ d p, d < D → sit d = some p → (hs_T D q sit rc p ↔ rc d) := by
    intro d p hd hs
    constructor
    · rintro (rfl | ⟨d1, hd1', hr1, hs1⟩)
      · exact absurd (h1 d p hd hs).2.1 hqM
      · exact h1c d1 d p hd1' hd hs1 hs ▸ hr1
    · exact fun hr => Or.inr ⟨d, hd, hr, hs⟩
  have hM' : hu_M N D c al M sit u' v' := by
    refine ⟨fun d p hd hs => ?_, h1b, h1c⟩
    obtain ⟨a1, a2, a3, a4⟩ := h1 d p hd hs
    refine ⟨a1, a2, a3, ?_⟩
    by_cases hr : rc d
    · rw [hu1 p a1 ((hTs d p hd hs).mpr hr), hv1 d hd hr]; omega
    · rw [hu2 p a1 (fun t => hr ((hTs d p hd hs).mp t)), hv2 d hd hr]; exact a4
  have hch : ∀ d k, d < D → rc d → hs_C c al q sit u v bef rc rk d k → hs_C c al q sit u' v' bef rc rk d k := by
    intro d k hd hr hch
    rcases hch with ⟨b1, b2, b3⟩ | ⟨d', p', b1, b2, b3, b4, b5, b6⟩
    · exact Or.inl ⟨b1, b2, by rw [huq, hv1 d hd hr]; omega⟩
    · have hd' := (h4 d' b2).1
      have hp' := (h1 d' p' hd' b4).1
      exact Or.inr ⟨d', p', b1, b2, b3, b4, b5, by rw [hu1 p' hp' ((hTs d' p' hd' b4).mpr b2), hv1 d hd hr]; omega⟩
  have hch0 : hs_C c al q sit u' v' bef rc rk d0 n := by
    rcases h5 d0 hd0 hr0 with ⟨e, -⟩ | ⟨-, -, -, hb⟩
    · omega
    · rcases hb with ⟨b1, -, b3, b4⟩ | ⟨d', p', b1, b2, b3, b4, b5, b6⟩
      · exact Or.inl ⟨b1, b3, by rw [huq, hv2 d0 hd0 hr0]; omega⟩
      · have hd' := h4 d' b2
        have hp' := (h1 d' p' hd'.1 b3).1
        exact Or.inr ⟨d', p', b1, b2, hd'.2.1, b3, b5, by rw [hu1 p' hp' ((hTs d' p' hd'.1 b3).mpr b2), hv2 d0 hd0 hr0]; omega⟩
  have hCn : 0 ≤ C := by
    have := hc q d0 hq hd0
    omega
  have hpr := hs_price (k := n) hq hc hM' (fun d hr => ⟨(h4 d hr).1, hch d (rk d) (h4 d hr).1 hr (h4 d hr).2.2⟩) d0 hd0 hch0
  have hub : u' q ≤ 48 * C := by
    have e1 : ((n : Int) + 1) * C ≤ 14 * C := Int.mul_le_mul_of_nonneg_right (by omega) hCn
    have e2 := (h3 d0 hd0).2.2 hr0
    rw [hv2 d0 hd0 hr0] at hpr
    omega
  refine ⟨⟨hM', fun p d hp hM hd ha => ?_, fun d hd => ?_, fun d hr => ⟨(h4 d hr).1, (h4 d hr).2.1, hch d _ (h4 d hr).1 hr (h4 d hr).2.2⟩, fun d hd hr => ?_, h6, ⟨by rw [huq]; omega, hub⟩⟩, hch0⟩
  · have h2' := h2 p d hp hM hd ha
    by_cases ht : hs_T D q sit rc p
    · rw [hu1 p hp ht]
      by_cases hr : rc d
      · rw [hv1 d hd hr]; omega
      · rw [hv2 d hd hr]
        rcases h5 d hd hr with ⟨-, hno⟩ | ⟨hlt, -, hm, -⟩
        · exact absurd ha (hno p (hall p hp ht))
        · have := hm p (hall p hp ht) ha
          have := hmin d hd hr hlt
          omega
    · rw [hu2 p hp ht]
      by_cases hr : rc d
      · rw [hv1 d hd hr]; omega
      · rw [hv2 d hd hr]; exact h2'
  · obtain ⟨a1, a2, a3⟩ := h3 d hd
    by_cases hr : rc d
    · rw [hv1 d hd hr]
      exact ⟨by omega, fun hs => absurd hr (a2 hs).2, fun z => absurd hr z⟩
    · rw [hv2 d hd hr]
      exact ⟨a1, a2, a3⟩
  · rcases h5 d hd hr with ⟨e, hno⟩ | ⟨hlt, h0, hm, hb⟩
    · exact Or.inl ⟨by rw [hd2 d hd hr (by omega)]; exact e, hno⟩
    · have e := hd1 d hd hr hlt
      have hmd := hmin d hd hr hlt
      refine Or.inr ⟨by omega, by omega, fun p hp hap => ?_, ?_⟩
      · have := hm p hp hap
        rw [hu1 p (h6 p hp).1 (h6 p hp).2, hv2 d hd hr]; omega
      · rcases hb with ⟨b1, b2, b3, b4⟩ | ⟨d', p', b1, b2, b3, b4, b5, b6⟩
        · exact Or.inl ⟨b1, b2, b3, by rw [huq, hv2 d hd hr]; omega⟩
        · exact Or.inr ⟨d', p', b1, b2, b3, b4, b5, by rw [hu1 p' (h6 p' b4).1 (h6 p' b4).2, hv2 d hd hr]; omega⟩
/-- the nearest place is taken: it is reached, the search goes on from its sitter -/
theorem hs_reach {N D : Nat} {c : Nat → Nat → Int} {al : Nat → Nat → Prop} {C F : Int} {M : Nat → Prop} {q : Nat} {sit : Nat → Option Nat} {u v dist : Nat → Int} {bef : Nat → Option Nat} {rc rc' : Nat → Prop} {rk : Nat → Nat} {n : Nat} {Lk : Nat → Prop} {d0 p0 : Nat}
    (h : hs_J N D c al C M q sit F u v dist bef rc rk n Lk d0) (hd0 : d0 < D) (hr0 : ¬ rc d0) (hs0 : sit d0 = some p0) (hrc : ∀ d, rc' d ↔ rc d ∨ d = d0) :
    hs_I N D c al C M q sit F u v dist bef rc' (fun d => if d = d0 then n else rk d) (n + 1) Lk := by
  obtain ⟨⟨h1, h2, h3, h4, h5, h6, h7⟩, h8⟩ := h
  have hne : ∀ d, rc d → d ≠ d0 := fun d hr e => hr0 (e ▸ hr)
  have hup : ∀ d k, hs_C c al q sit u v bef rc rk d k → hs_C c al q sit u v bef rc' (fun d => if d = d0 then n else rk d) d k := by
    intro d k hch
    rcases hch with b | ⟨d', p', b1, b2, b3, b4⟩
    · exact Or.inl b
    · exact Or.inr ⟨d', p', b1, (hrc d').mpr (Or.inl b2), by show (if d' = d0 then n else rk d') < k; rw [if_neg (hne d' b2)]; exact b3, b4⟩
  refine ⟨h1, h2, fun d hd => ⟨(h3 d hd).1, fun hs => ⟨((h3 d hd).2.1 hs).1, fun hr => ?_⟩, fun hr => (h3 d hd).2.2 (fun z => hr ((hrc d).mpr (Or.inl z)))⟩, fun d hr => ?_, fun d hd hr => ?_, fun p hp => ⟨(h6 p hp).1, ?_⟩, h7⟩
  · rcases (hrc d).mp hr with hr | rfl
    · exact ((h3 d hd).2.1 hs).2 hr
    · rw [hs0] at hs; cases hs
  · rcases (hrc d).mp hr with hr | rfl
    · obtain ⟨a1, a2, a3⟩ := h4 d hr
      refine ⟨a1, ?_, ?_⟩
      · show (if d = d0 then n else rk d) < n + 1
        rw [if_neg (hne d hr)]; omega
      · show hs_C c al q sit u v bef rc' (fun d => if d = d0 then n else rk d) d (if d = d0 then n else rk d)
        rw [if_neg (hne d hr)]
        exact hup d _ a3
    · refine ⟨hd0, ?_, ?_⟩
      · show (if d = d then n else rk d) < n + 1
        rw [if_pos rfl]; omega
      · show hs_C c al q sit u v bef rc' (fun e => if e = d then n else rk e) d (if d = d then n else rk d)
        rw [if_pos rfl]
        exact hup d n h8
  · have hr' : ¬ rc d := fun z => hr ((hrc d).mpr (Or.inl z))
    rcases h5 d hd hr' with a | ⟨a1, a2, a3, a4⟩
    · exact Or.inl a
    · refine Or.inr ⟨a1, a2, a3, ?_⟩
      rcases a4 with b | ⟨d', p', b1, b2, b3⟩
      · exact Or.inl b
      · exact Or.inr ⟨d', p', b1, (hrc d').mpr (Or.inl b2), b3⟩
  · rcases (h6 p hp).2 with e | ⟨d, hd, hr, hs⟩
    · exact Or.inl e
    · exact Or.inr ⟨d, hd, (hrc d).mpr (Or.inl hr), hs⟩
/-- handing on along the chain: all but place d are seated well; the places of lesser rank are as they were -/
def hk_I (N D : Nat) (c : Nat → Nat → Int) (al : Nat → Nat → Prop) (M : Nat → Prop) (sit : Nat → Option Nat) (u v : Nat → Int) (rc : Nat → Prop) (rk : Nat → Nat) (cur : Nat → Option Nat) (d k : Nat) : Prop :=
  (∀ e p, e < D → e ≠ d → cur e = some p → p < N ∧ M p ∧ al p e ∧ u p + v e = c p e) ∧
  (∀ p, p < N → M p → ∃ e, e < D ∧ e ≠ d ∧ cur e = some p) ∧
  (∀ e e' p, e < D → e' < D → e ≠ d → e' ≠ d → cur e = some p → cur e' = some p → e = e') ∧
  (∀ e, rc e → rk e < k → cur e = sit e) ∧
  (∀ e, e < D → e ≠ d → cur e = none → v e = 0) ∧
  (rc d → rk d = k) ∧ d < D
theorem hk_start {N D : Nat} {c : Nat → Nat → Int} {al : Nat → Nat → Prop} {M : Nat → Prop} {sit : Nat → Option Nat} {u v : Nat → Int} {rc : Nat → Prop} {rk : Nat → Nat} {d0 n : Nat}
    (hM : hu_M N D c al M sit u v) (hz : ∀ d, d < D → sit d = none → v d = 0) (hd0 : d0 < D) (hr0 : ¬ rc d0) (hs0 : sit d0 = none) : hk_I N D c al M sit u v rc rk sit d0 n := by
  obtain ⟨h1, h2, h3⟩ := hM
  refine ⟨fun e p he _ hs => h1 e p he hs, fun p hp hMp => ?_, fun e e' p he he' _ _ hs hs' => h3 e e' p he he' hs hs', fun e _ _ => rfl, fun e he _ hs => hz e he hs, fun hr => absurd hr hr0, hd0⟩
  obtain ⟨e, he, hs⟩ := h2 p hp hMp
  exact ⟨e, he, (fun z => by rw [z, hs0] at hs; cases hs), hs⟩
theorem hk_step {N D : Nat} {c : Nat → Nat → Int} {al : Nat → Nat → Prop} {M : Nat → Prop} {sit : Nat → Option Nat} {u v : Nat → Int} {rc : Nat → Prop} {rk : Nat → Nat} {cur cur' : Nat → Option Nat} {d k d' p' : Nat}
    (hM : hu_M N D c al M sit u v) (h : hk_I N D c al M sit u v rc rk cur d k) (hrd : rc d' → d' < D) (hr : rc d') (hk : rk d' < k) (hs : sit d' = some p') (ha : al p' d) (ht : u p' + v d = c p' d)
    (hc1 : cur' d = some p') (hc2 : ∀ e, e ≠ d → cur' e = cur e) : hk_I N D c al M sit u v rc rk cur' d' (rk d') ∧ cur d' = some p' ∧ d' ≠ d := by
  obtain ⟨h1, h2, h3, h4, h5, h6, h7⟩ := h
  have hd' := hrd hr
  have hne : d' ≠ d := by
    intro e
    subst e
    have := h6 hr
    omega
  have hcd : cur d' = some p' := (h4 d' hr hk).trans hs
  have hmp := hM.1 d' p' hd' hs
  refine ⟨⟨fun e p he hne' hc => ?_, fun p hp hMp => ?_, fun e e' p he he' hn hn' hc hc' => ?_, fun e hre hke => ?_, fun e he hn hc => ?_, fun _ => rfl, hd'⟩, hcd, hne⟩
  · by_cases hed : e = d
    · subst hed
      rw [hc1] at hc
      cases hc
      exact ⟨hmp.1, hmp.2.1, ha, ht⟩
    · rw [hc2 e hed] at hc
      exact h1 e p he hed hc
  · obtain ⟨e, he, hne', hc⟩ := h2 p hp hMp
    by_cases hed : e = d'
    · subst hed
      rw [hcd] at hc
      cases hc
      exact ⟨d, h7, fun z => hne z.symm, hc1⟩
    · exact ⟨e, he, hed, by rw [hc2 e hne']; exact hc⟩
  · by_cases hed : e = d
    · by_cases hed' : e' = d
      · rw [hed, hed']
      · exfalso
        subst hed
        rw [hc1] at hc
        cases hc
        rw [hc2 e' hed'] at hc'
        exact hn' (h3 e' d' p' he' hd' hed' hne hc' hcd)
    · rw [hc2 e hed] at hc
      by_cases hed' : e' = d
      · exfalso
        subst hed'
        rw [hc1] at hc'
        cases hc'
        exact hn (h3 e d' p' he hd' hed hne hc hcd)
      · rw [hc2 e' hed'] at hc'
        exact h3 e e' p he he' hed hed' hc hc'
  · have hed : e ≠ d := by
      intro z
      subst z
      have := h6 hre
      omega
    rw [hc2 e hed]
    exact h4 e hre (by omega)
  · have hed : e ≠ d := by
      intro z
      subst z
      rw [hc1] at hc
      cases hc
    rw [hc2 e hed] at hc
    exact h5 e he hed hc
theorem hk_end {N D : Nat} {c : Nat → Nat → Int} {al : Nat → Nat → Prop} {M : Nat → Prop} {q : Nat} {sit : Nat → Option Nat} {u v : Nat → Int} {rc : Nat → Prop} {rk : Nat → Nat} {cur cur' : Nat → Option Nat} {d k : Nat}
    (hq : q < N) (hqM : ¬ M q) (h : hk_I N D c al M sit u v rc rk cur d k) (ha : al q d) (ht : u q + v d = c q d)
    (hc1 : cur' d = some q) (hc2 : ∀ e, e ≠ d → cur' e = cur e) : hu_M N D c al (fun p => M p ∨ p = q) cur' u v ∧ ∀ e, e < D → cur' e = none → v e = 0 := by
  obtain ⟨h1, h2, h3, h4, h5, h6, h7⟩ := h
  refine ⟨⟨fun e p he hc => ?_, fun p hp hMp => ?_, fun e e' p he he' hc hc' => ?_⟩, fun e he hc => ?_⟩
  · by_cases hed : e = d
    · subst hed
      rw [hc1] at hc
      cases hc
      exact ⟨hq, Or.inr rfl, ha, ht⟩
    · rw [hc2 e hed] at hc
      obtain ⟨a1, a2, a3, a4⟩ := h1 e p he hed hc
      exact ⟨a1, Or.inl a2, a3, a4⟩
  · rcases hMp with hMp | rfl
    · obtain ⟨e, he, hne, hc⟩ := h2 p hp hMp
      exact ⟨e, he, by rw [hc2 e hne]; exact hc⟩
    · exact ⟨d, h7, hc1⟩
  · by_cases hed : e = d
    · by_cases hed' : e' = d
      · rw [hed, hed']
      · exfalso
        subst hed
        rw [hc1] at hc
        cases hc
        rw [hc2 e' hed'] at hc'
        exact hqM (h1 e' q he' hed' hc').2.1
    · rw [hc2 e hed] at hc
      by_cases hed' : e' = d
      · exfalso
        subst hed'
        rw [hc1] at hc'
        cases hc'
        exact hqM (h1 e q he hed hc).2.1
      · rw [hc2 e' hed'] at hc'
        exact h3 e e' p he he' hed hed' hc hc'
  · have hed : e ≠ d := by
      intro z
      subst z
      rw [hc1] at hc
      cases hc
    rw [hc2 e hed] at hc
    exact h5 e he hed hc
/-- the nearest place is free: behind the handing on the members are one more -/
theorem hs_done {N D : Nat} {c : Nat → Nat → Int} {al : Nat → Nat → Prop} {C F : Int} {M : Nat → Prop} {q : Nat} {sit sit' : Nat → Option Nat} {u v dist : Nat → Int} {bef : Nat → Option Nat} {rc : Nat → Prop} {rk : Nat → Nat} {n : Nat} {Lk : Nat → Prop} {d0 : Nat}
    (hq : q < N) (hc : ∀ p d, p < N → d < D → 0 ≤ c p d ∧ c p d ≤ C) (hn14 : n ≤ 13) (h : hs_J N D c al C M q sit F u v dist bef rc rk n Lk d0) (hd0 : d0 < D) (hs0 : sit d0 = none)
    (hM' : hu_M N D c al (fun p => M p ∨ p = q) sit' u v) (hz : ∀ e, e < D → sit' e = none → v e = 0) : hu_I N D c al C (fun p => M p ∨ p = q) sit' u v := by
  obtain ⟨⟨h1, h2, h3, h4, h5, h6, h7⟩, h8⟩ := h
  have hCn : 0 ≤ C := by
    have := hc q d0 hq hd0
    omega
  have hpr := hs_price hq hc h1 (fun d hr => ⟨(h4 d hr).1, (h4 d hr).2.2⟩)
  have hp0 := hpr n d0 hd0 h8
  have hv0 := ((h3 d0 hd0).2.1 hs0).1
  have e1 : ((n : Int) + 1) * C ≤ 14 * C := Int.mul_le_mul_of_nonneg_right (by omega) hCn
  refine ⟨hM', fun d hd => ⟨?_, (h3 d hd).1, hz d hd⟩, fun p d hp hMp hd ha => h2 p d hp hMp hd ha⟩
  by_cases hr : rc d
  · have hk := (h4 d hr).2.1
    have := hpr (rk d) d hd (h4 d hr).2.2
    have e2 : ((rk d : Int)) * C ≤ 13 * C := Int.mul_le_mul_of_nonneg_right (by omega) hCn
    omega
  · exact (h3 d hd).2.2 hr
end
section
-- ===== PART A: goes FIRST, ahead of the names: the tables' words, and 'selects' of the private methods out of them =====
/-- a private method of a class that the tables say can be made, by its rows of tables_1 -/
def lw_okq (q : MethodName × Nat) : Prop := (q.1.cls ≠ "java/lang/invoke/MethodHandle" ∧ q.1.cls ≠ "java/lang/invoke/VarHandle") ∧ Cond.instantiable q.1.cls q.2 ∈ tables_1 ∧ Cond.privateMethod q.1 ∈ tables_1 ∧ Cond.instanceMethod q.1 ∈ tables_1
theorem lw_p0 : lw_okq (⟨"DeskMoves$Matcher", "clearSpots", "(I)V"⟩, 2) := ⟨⟨by decide +kernel, by decide +kernel⟩, List.mem_of_getElem? (i := 26) (by decide +kernel), List.mem_of_getElem? (i := 195) (by decide +kernel), List.mem_of_getElem? (i := 196) (by decide +kernel)⟩
theorem lw_p1 : lw_okq (⟨"DeskMoves$Matcher", "addPerson", "(LDeskMoves$Person;)Z"⟩, 2) := ⟨⟨by decide +kernel, by decide +kernel⟩, List.mem_of_getElem? (i := 26) (by decide +kernel), List.mem_of_getElem? (i := 202) (by decide +kernel), List.mem_of_getElem? (i := 203) (by decide +kernel)⟩
theorem lw_p2 : lw_okq (⟨"DeskMoves$Matcher", "startSearch", "()V"⟩, 2) := ⟨⟨by decide +kernel, by decide +kernel⟩, List.mem_of_getElem? (i := 26) (by decide +kernel), List.mem_of_getElem? (i := 206) (by decide +kernel), List.mem_of_getElem? (i := 207) (by decide +kernel)⟩
theorem lw_p3 : lw_okq (⟨"DeskMoves$Matcher", "lookFrom", "(LDeskMoves$Person;LDeskMoves$Spot;)V"⟩, 2) := ⟨⟨by decide +kernel, by decide +kernel⟩, List.mem_of_getElem? (i := 26) (by decide +kernel), List.mem_of_getElem? (i := 211) (by decide +kernel), List.mem_of_getElem? (i := 212) (by decide +kernel)⟩
theorem lw_p4 : lw_okq (⟨"DeskMoves$Matcher", "nearestSpot", "()LDeskMoves$Spot;"⟩, 2) := ⟨⟨by decide +kernel, by decide +kernel⟩, List.mem_of_getElem? (i := 26) (by decide +kernel), List.mem_of_getElem? (i := 225) (by decide +kernel), List.mem_of_getElem? (i := 226) (by decide +kernel)⟩
theorem lw_p5 : lw_okq (⟨"DeskMoves$Matcher", "shiftPrices", "(LDeskMoves$Person;J)V"⟩, 2) := ⟨⟨by decide +kernel, by decide +kernel⟩, List.mem_of_getElem? (i := 26) (by decide +kernel), List.mem_of_getElem? (i := 229) (by decide +kernel), List.mem_of_getElem? (i := 230) (by decide +kernel)⟩
theorem lw_p6 : lw_okq (⟨"DeskMoves$Matcher", "handOn", "(LDeskMoves$Spot;LDeskMoves$Person;)V"⟩, 2) := ⟨⟨by decide +kernel, by decide +kernel⟩, List.mem_of_getElem? (i := 26) (by decide +kernel), List.mem_of_getElem? (i := 233) (by decide +kernel), List.mem_of_getElem? (i := 234) (by decide +kernel)⟩
theorem lw_p7 : lw_okq (⟨"DeskMoves$Matcher", "worthOfSpots", "()I"⟩, 2) := ⟨⟨by decide +kernel, by decide +kernel⟩, List.mem_of_getElem? (i := 26) (by decide +kernel), List.mem_of_getElem? (i := 237) (by decide +kernel), List.mem_of_getElem? (i := 238) (by decide +kernel)⟩
theorem lw_p8 : lw_okq (⟨"DeskMoves$Walk", "sitAtOldDesks", "([LDeskMoves$Person;I)V"⟩, 6) := ⟨⟨by decide +kernel, by decide +kernel⟩, List.mem_of_getElem? (i := 62) (by decide +kernel), List.mem_of_getElem? (i := 249) (by decide +kernel), List.mem_of_getElem? (i := 250) (by decide +kernel)⟩
theorem lw_p9 : lw_okq (⟨"DeskMoves$Walk", "firstWhoCanGoHome", "([LDeskMoves$Person;I)LDeskMoves$Person;"⟩, 6) := ⟨⟨by decide +kernel, by decide +kernel⟩, List.mem_of_getElem? (i := 62) (by decide +kernel), List.mem_of_getElem? (i := 253) (by decide +kernel), List.mem_of_getElem? (i := 254) (by decide +kernel)⟩
theorem lw_p10 : lw_okq (⟨"DeskMoves$Walk", "isFree", "(I)Z"⟩, 6) := ⟨⟨by decide +kernel, by decide +kernel⟩, List.mem_of_getElem? (i := 62) (by decide +kernel), List.mem_of_getElem? (i := 257) (by decide +kernel), List.mem_of_getElem? (i := 258) (by decide +kernel)⟩
theorem lw_p11 : lw_okq (⟨"DeskMoves$Walk", "go", "(LDeskMoves$Person;I)V"⟩, 6) := ⟨⟨by decide +kernel, by decide +kernel⟩, List.mem_of_getElem? (i := 62) (by decide +kernel), List.mem_of_getElem? (i := 261) (by decide +kernel), List.mem_of_getElem? (i := 262) (by decide +kernel)⟩
theorem lw_p12 : lw_okq (⟨"DeskMoves$Walk", "firstNotHome", "([LDeskMoves$Person;I)LDeskMoves$Person;"⟩, 6) := ⟨⟨by decide +kernel, by decide +kernel⟩, List.mem_of_getElem? (i := 62) (by decide +kernel), List.mem_of_getElem? (i := 265) (by decide +kernel), List.mem_of_getElem? (i := 266) (by decide +kernel)⟩
theorem lw_p13 : lw_okq (⟨"DeskMoves$Walk", "firstFreeDesk", "(I)I"⟩, 6) := ⟨⟨by decide +kernel, by decide +kernel⟩, List.mem_of_getElem? (i := 62) (by decide +kernel), List.mem_of_getElem? (i := 269) (by decide +kernel), List.mem_of_getElem? (i := 270) (by decide +kernel)⟩
theorem lw_p14 : lw_okq (⟨"java/lang/Throwable", "fillInStackTrace", "(I)Ljava/lang/Throwable;"⟩, 6) := ⟨⟨by decide +kernel, by decide +kernel⟩, List.mem_of_getElem? (i := 331) (by decide +kernel), List.mem_of_getElem? (i := 329) (by decide +kernel), List.mem_of_getElem? (i := 330) (by decide +kernel)⟩
theorem lw_p15 : lw_okq (⟨"DeskMoves", "checkPerson", "(I)V"⟩, 11) := ⟨⟨by decide +kernel, by decide +kernel⟩, List.mem_of_getElem? (i := 16) (by decide +kernel), List.mem_of_getElem? (i := 377) (by decide +kernel), List.mem_of_getElem? (i := 378) (by decide +kernel)⟩
def lw_privs_1 : List (MethodName × Nat) := [(⟨"DeskMoves$Matcher", "clearSpots", "(I)V"⟩, 2), (⟨"DeskMoves$Matcher", "addPerson", "(LDeskMoves$Person;)Z"⟩, 2), (⟨"DeskMoves$Matcher", "startSearch", "()V"⟩, 2), (⟨"DeskMoves$Matcher", "lookFrom", "(LDeskMoves$Person;LDeskMoves$Spot;)V"⟩, 2), (⟨"DeskMoves$Matcher", "nearestSpot", "()LDeskMoves$Spot;"⟩, 2), (⟨"DeskMoves$Matcher", "shiftPrices", "(LDeskMoves$Person;J)V"⟩, 2), (⟨"DeskMoves$Matcher", "handOn", "(LDeskMoves$Spot;LDeskMoves$Person;)V"⟩, 2), (⟨"DeskMoves$Matcher", "worthOfSpots", "()I"⟩, 2), (⟨"DeskMoves$Walk", "sitAtOldDesks", "([LDeskMoves$Person;I)V"⟩, 6), (⟨"DeskMoves$Walk", "firstWhoCanGoHome", "([LDeskMoves$Person;I)LDeskMoves$Person;"⟩, 6), (⟨"DeskMoves$Walk", "isFree", "(I)Z"⟩, 6), (⟨"DeskMoves$Walk", "go", "(LDeskMoves$Person;I)V"⟩, 6), (⟨"DeskMoves$Walk", "firstNotHome", "([LDeskMoves$Person;I)LDeskMoves$Person;"⟩, 6), (⟨"DeskMoves$Walk", "firstFreeDesk", "(I)I"⟩, 6), (⟨"java/lang/Throwable", "fillInStackTrace", "(I)Ljava/lang/Throwable;"⟩, 6), (⟨"DeskMoves", "checkPerson", "(I)V"⟩, 11)]
theorem lw_r1 : ∀ q ∈ lw_privs_1, lw_okq q := List.forall_mem_cons.mpr ⟨lw_p0, List.forall_mem_cons.mpr ⟨lw_p1, List.forall_mem_cons.mpr ⟨lw_p2, List.forall_mem_cons.mpr ⟨lw_p3, List.forall_mem_cons.mpr ⟨lw_p4, List.forall_mem_cons.mpr ⟨lw_p5, List.forall_mem_cons.mpr ⟨lw_p6, List.forall_mem_cons.mpr ⟨lw_p7, List.forall_mem_cons.mpr ⟨lw_p8, List.forall_mem_cons.mpr ⟨lw_p9, List.forall_mem_cons.mpr ⟨lw_p10, List.forall_mem_cons.mpr ⟨lw_p11, List.forall_mem_cons.mpr ⟨lw_p12, List.forall_mem_cons.mpr ⟨lw_p13, List.forall_mem_cons.mpr ⟨lw_p14, List.forall_mem_cons.mpr ⟨lw_p15, fun _ h => absurd h List.not_mem_nil⟩⟩⟩⟩⟩⟩⟩⟩⟩⟩⟩⟩⟩⟩⟩⟩
theorem lw_p16 : lw_okq (⟨"DeskMoves", "checkDesk", "(I)V"⟩, 11) := ⟨⟨by decide +kernel, by decide +kernel⟩, List.mem_of_getElem? (i := 16) (by decide +kernel), List.mem_of_getElem? (i := 397) (by decide +kernel), List.mem_of_getElem? (i := 398) (by decide +kernel)⟩
theorem lw_p17 : lw_okq (⟨"DeskMoves", "checkNobodyElseHas", "(II)V"⟩, 11) := ⟨⟨by decide +kernel, by decide +kernel⟩, List.mem_of_getElem? (i := 16) (by decide +kernel), List.mem_of_getElem? (i := 417) (by decide +kernel), List.mem_of_getElem? (i := 418) (by decide +kernel)⟩
theorem lw_p18 : lw_okq (⟨"DeskMoves", "checkSeatingMade", "()V"⟩, 11) := ⟨⟨by decide +kernel, by decide +kernel⟩, List.mem_of_getElem? (i := 16) (by decide +kernel), List.mem_of_getElem? (i := 436) (by decide +kernel), List.mem_of_getElem? (i := 437) (by decide +kernel)⟩
theorem lw_p19 : lw_okq (⟨"DeskMoves", "bestRoom", "(III)LDeskMoves$Room;"⟩, 11) := ⟨⟨by decide +kernel, by decide +kernel⟩, List.mem_of_getElem? (i := 16) (by decide +kernel), List.mem_of_getElem? (i := 483) (by decide +kernel), List.mem_of_getElem? (i := 484) (by decide +kernel)⟩
theorem lw_p20 : lw_okq (⟨"DeskMoves", "bookingNumbered", "(I)LDeskMoves$Booking;"⟩, 11) := ⟨⟨by decide +kernel, by decide +kernel⟩, List.mem_of_getElem? (i := 16) (by decide +kernel), List.mem_of_getElem? (i := 531) (by decide +kernel), List.mem_of_getElem? (i := 532) (by decide +kernel)⟩
theorem lw_p21 : lw_okq (⟨"DeskMoves", "checkRoom", "(I)V"⟩, 11) := ⟨⟨by decide +kernel, by decide +kernel⟩, List.mem_of_getElem? (i := 16) (by decide +kernel), List.mem_of_getElem? (i := 554) (by decide +kernel), List.mem_of_getElem? (i := 555) (by decide +kernel)⟩
theorem lw_p22 : lw_okq (⟨"DeskMoves", "checkMinute", "(I)V"⟩, 11) := ⟨⟨by decide +kernel, by decide +kernel⟩, List.mem_of_getElem? (i := 16) (by decide +kernel), List.mem_of_getElem? (i := 559) (by decide +kernel), List.mem_of_getElem? (i := 560) (by decide +kernel)⟩
theorem lw_p23 : lw_okq (⟨"DeskMovesModel", "isPerson", "(I)Z"⟩, 24) := ⟨⟨by decide +kernel, by decide +kernel⟩, List.mem_of_getElem? (i := 576) (by decide +kernel), List.mem_of_getElem? (i := 671) (by decide +kernel), List.mem_of_getElem? (i := 672) (by decide +kernel)⟩
theorem lw_p24 : lw_okq (⟨"DeskMovesModel", "isDesk", "(I)Z"⟩, 24) := ⟨⟨by decide +kernel, by decide +kernel⟩, List.mem_of_getElem? (i := 576) (by decide +kernel), List.mem_of_getElem? (i := 678) (by decide +kernel), List.mem_of_getElem? (i := 679) (by decide +kernel)⟩
theorem lw_p25 : lw_okq (⟨"DeskMovesModel", "findBest", "(I)I"⟩, 24) := ⟨⟨by decide +kernel, by decide +kernel⟩, List.mem_of_getElem? (i := 576) (by decide +kernel), List.mem_of_getElem? (i := 694) (by decide +kernel), List.mem_of_getElem? (i := 695) (by decide +kernel)⟩
theorem lw_p26 : lw_okq (⟨"DeskMovesModel", "value", "(II)I"⟩, 24) := ⟨⟨by decide +kernel, by decide +kernel⟩, List.mem_of_getElem? (i := 576) (by decide +kernel), List.mem_of_getElem? (i := 702) (by decide +kernel), List.mem_of_getElem? (i := 703) (by decide +kernel)⟩
theorem lw_p27 : lw_okq (⟨"DeskMovesModel", "isMove", "(II)Z"⟩, 24) := ⟨⟨by decide +kernel, by decide +kernel⟩, List.mem_of_getElem? (i := 576) (by decide +kernel), List.mem_of_getElem? (i := 706) (by decide +kernel), List.mem_of_getElem? (i := 707) (by decide +kernel)⟩
theorem lw_p28 : lw_okq (⟨"DeskMovesModel", "walk", "()V"⟩, 24) := ⟨⟨by decide +kernel, by decide +kernel⟩, List.mem_of_getElem? (i := 576) (by decide +kernel), List.mem_of_getElem? (i := 713) (by decide +kernel), List.mem_of_getElem? (i := 714) (by decide +kernel)⟩
theorem lw_p29 : lw_okq (⟨"DeskMovesModel", "goes", "()Z"⟩, 24) := ⟨⟨by decide +kernel, by decide +kernel⟩, List.mem_of_getElem? (i := 576) (by decide +kernel), List.mem_of_getElem? (i := 717) (by decide +kernel), List.mem_of_getElem? (i := 718) (by decide +kernel)⟩
theorem lw_p30 : lw_okq (⟨"DeskMovesModel", "isFree", "(I)Z"⟩, 24) := ⟨⟨by decide +kernel, by decide +kernel⟩, List.mem_of_getElem? (i := 576) (by decide +kernel), List.mem_of_getElem? (i := 721) (by decide +kernel), List.mem_of_getElem? (i := 722) (by decide +kernel)⟩
theorem lw_p31 : lw_okq (⟨"DeskMovesModel", "go", "(II)V"⟩, 24) := ⟨⟨by decide +kernel, by decide +kernel⟩, List.mem_of_getElem? (i := 576) (by decide +kernel), List.mem_of_getElem? (i := 725) (by decide +kernel), List.mem_of_getElem? (i := 726) (by decide +kernel)⟩
def lw_privs_2 : List (MethodName × Nat) := [(⟨"DeskMoves", "checkDesk", "(I)V"⟩, 11), (⟨"DeskMoves", "checkNobodyElseHas", "(II)V"⟩, 11), (⟨"DeskMoves", "checkSeatingMade", "()V"⟩, 11), (⟨"DeskMoves", "bestRoom", "(III)LDeskMoves$Room;"⟩, 11), (⟨"DeskMoves", "bookingNumbered", "(I)LDeskMoves$Booking;"⟩, 11), (⟨"DeskMoves", "checkRoom", "(I)V"⟩, 11), (⟨"DeskMoves", "checkMinute", "(I)V"⟩, 11), (⟨"DeskMovesModel", "isPerson", "(I)Z"⟩, 24), (⟨"DeskMovesModel", "isDesk", "(I)Z"⟩, 24), (⟨"DeskMovesModel", "findBest", "(I)I"⟩, 24), (⟨"DeskMovesModel", "value", "(II)I"⟩, 24), (⟨"DeskMovesModel", "isMove", "(II)Z"⟩, 24), (⟨"DeskMovesModel", "walk", "()V"⟩, 24), (⟨"DeskMovesModel", "goes", "()Z"⟩, 24), (⟨"DeskMovesModel", "isFree", "(I)Z"⟩, 24), (⟨"DeskMovesModel", "go", "(II)V"⟩, 24)]
theorem lw_r2 : ∀ q ∈ lw_privs_2, lw_okq q := List.forall_mem_cons.mpr ⟨lw_p16, List.forall_mem_cons.mpr ⟨lw_p17, List.forall_mem_cons.mpr ⟨lw_p18, List.forall_mem_cons.mpr ⟨lw_p19, List.forall_mem_cons.mpr ⟨lw_p20, List.forall_mem_cons.mpr ⟨lw_p21, List.forall_mem_cons.mpr ⟨lw_p22, List.forall_mem_cons.mpr ⟨lw_p23, List.forall_mem_cons.mpr ⟨lw_p24, List.forall_mem_cons.mpr ⟨lw_p25, List.forall_mem_cons.mpr ⟨lw_p26, List.forall_mem_cons.mpr ⟨lw_p27, List.forall_mem_cons.mpr ⟨lw_p28, List.forall_mem_cons.mpr ⟨lw_p29, List.forall_mem_cons.mpr ⟨lw_p30, List.forall_mem_cons.mpr ⟨lw_p31, fun _ h => absurd h List.not_mem_nil⟩⟩⟩⟩⟩⟩⟩⟩⟩⟩⟩⟩⟩⟩⟩⟩
theorem lw_p32 : lw_okq (⟨"DeskMovesModel", "meeting", "(III)I"⟩, 24) := ⟨⟨by decide +kernel, by decide +kernel⟩, List.mem_of_getElem? (i := 576) (by decide +kernel), List.mem_of_getElem? (i := 761) (by decide +kernel), List.mem_of_getElem? (i := 762) (by decide +kernel)⟩
theorem lw_p33 : lw_okq (⟨"DeskMovesModel", "isRoom", "(I)Z"⟩, 24) := ⟨⟨by decide +kernel, by decide +kernel⟩, List.mem_of_getElem? (i := 576) (by decide +kernel), List.mem_of_getElem? (i := 777) (by decide +kernel), List.mem_of_getElem? (i := 778) (by decide +kernel)⟩
def lw_privs_3 : List (MethodName × Nat) := [(⟨"DeskMovesModel", "meeting", "(III)I"⟩, 24), (⟨"DeskMovesModel", "isRoom", "(I)Z"⟩, 24)]
theorem lw_r3 : ∀ q ∈ lw_privs_3, lw_okq q := List.forall_mem_cons.mpr ⟨lw_p32, List.forall_mem_cons.mpr ⟨lw_p33, fun _ h => absurd h List.not_mem_nil⟩⟩
def lw_privs : List (MethodName × Nat) := lw_privs_1 ++ (lw_privs_2 ++ (lw_privs_3))
def lw_tbl : List Cond := k2_sels lw_privs ++ tables_1
theorem lw_privs_ok : ∀ q ∈ lw_privs, lw_okq q := by
  show ∀ q ∈ lw_privs_1 ++ (lw_privs_2 ++ (lw_privs_3)), lw_okq q
  exact List.forall_mem_append.mpr ⟨lw_r1, List.forall_mem_append.mpr ⟨lw_r2, lw_r3⟩⟩
def tb_G : List Cond := lw_tbl.filter goodWord
theorem tb_good {w : Cond} (h : w ∈ tb_G) : goodWord w = true := (List.mem_filter.mp h).2
theorem tb_sub {w : Cond} (h : w ∈ tb_G) : w ∈ lw_tbl := (List.mem_filter.mp h).1
theorem tb_in (i : Nat) {w : Cond} (h : lw_tbl[i]? = some w) (g : goodWord w = true) : w ∈ tb_G := List.mem_filter.mpr ⟨List.mem_of_getElem? h, g⟩
theorem tb_GoodIn {y : Cond} (hy : y ∈ tb_G) : GoodIn tb_G (y :: tb_G) := fun w hw => by
  rcases List.mem_cons.mp hw with rfl | h
  · exact ⟨hy, good_of_word (tb_good hy)⟩
  · exact ⟨h, good_of_word (tb_good h)⟩
end
section
def R_Bk : String := "DeskMoves$Booking"
def R_Ma : String := "DeskMoves$Matcher"
def R_Pe : String := "DeskMoves$Person"
def R_Ro : String := "DeskMoves$Room"
def R_Sp : String := "DeskMoves$Spot"
def R_Wa : String := "DeskMoves$Walk"
def R_De : String := "DeskMoves"
def R_Mo : String := "DeskMovesModel"
def R_La : String := "DeskMovesLaw"
def R_Th : String := "java/lang/Throwable"
def R_Ex : String := "java/lang/Exception"
def R_Re : String := "java/lang/RuntimeException"
def R_Is : String := "java/lang/IllegalStateException"
def R_Ia : String := "java/lang/IllegalArgumentException"
def R_Mt : String := "java/lang/Math"
abbrev b_De_init : ByteArray := prog_1_method_1_code
def y_De_init : MethodName := ⟨R_De, "<init>", "()V"⟩
abbrev b_Ma_init : ByteArray := prog_3_method_1_code
def y_Ma_init : MethodName := ⟨R_Ma, "<init>", "()V"⟩
abbrev b_Sp_init : ByteArray := prog_6_method_1_code
def y_Sp_init : MethodName := ⟨R_Sp, "<init>", "()V"⟩
abbrev b_Wa_init : ByteArray := prog_7_method_1_code
def y_Wa_init : MethodName := ⟨R_Wa, "<init>", "()V"⟩
abbrev b_Pe_init : ByteArray := prog_4_method_1_code
def y_Pe_init : MethodName := ⟨R_Pe, "<init>", "(I)V"⟩
abbrev b_Ro_init : ByteArray := prog_5_method_1_code
def y_Ro_init : MethodName := ⟨R_Ro, "<init>", "(I)V"⟩
abbrev b_De_seat : ByteArray := prog_1_method_7_code
def y_De_seat : MethodName := ⟨R_De, "seat", "()I"⟩
abbrev b_Ma_match : ByteArray := prog_3_method_2_code
def y_Ma_match : MethodName := ⟨R_Ma, "match", "([LDeskMoves$Person;III)I"⟩
abbrev b_Ma_clearSpots : ByteArray := prog_3_method_4_code
def y_Ma_clearSpots : MethodName := ⟨R_Ma, "clearSpots", "(I)V"⟩
abbrev b_Mt_min : ByteArray := prog_13_method_69_code
def y_Mt_min : MethodName := ⟨R_Mt, "min", "(II)I"⟩
abbrev b_Ma_addPerson : ByteArray := prog_3_method_6_code
def y_Ma_addPerson : MethodName := ⟨R_Ma, "addPerson", "(LDeskMoves$Person;)Z"⟩
abbrev b_Ma_startSearch : ByteArray := prog_3_method_7_code
def y_Ma_startSearch : MethodName := ⟨R_Ma, "startSearch", "()V"⟩
abbrev b_Ma_lookFrom : ByteArray := prog_3_method_8_code
def y_Ma_lookFrom : MethodName := ⟨R_Ma, "lookFrom", "(LDeskMoves$Person;LDeskMoves$Spot;)V"⟩
abbrev b_Pe_costAt : ByteArray := prog_4_method_3_code
def y_Pe_costAt : MethodName := ⟨R_Pe, "costAt", "(I)J"⟩
abbrev b_Pe_wouldMoveTo : ByteArray := prog_4_method_2_code
def y_Pe_wouldMoveTo : MethodName := ⟨R_Pe, "wouldMoveTo", "(I)Z"⟩
abbrev b_Ma_nearestSpot : ByteArray := prog_3_method_9_code
def y_Ma_nearestSpot : MethodName := ⟨R_Ma, "nearestSpot", "()LDeskMoves$Spot;"⟩
abbrev b_Ma_shiftPrices : ByteArray := prog_3_method_10_code
def y_Ma_shiftPrices : MethodName := ⟨R_Ma, "shiftPrices", "(LDeskMoves$Person;J)V"⟩
abbrev b_Ma_handOn : ByteArray := prog_3_method_11_code
def y_Ma_handOn : MethodName := ⟨R_Ma, "handOn", "(LDeskMoves$Spot;LDeskMoves$Person;)V"⟩
abbrev b_Ma_worthOfSpots : ByteArray := prog_3_method_5_code
def y_Ma_worthOfSpots : MethodName := ⟨R_Ma, "worthOfSpots", "()I"⟩
abbrev b_Ma_tellPersons : ByteArray := prog_3_method_3_code
def y_Ma_tellPersons : MethodName := ⟨R_Ma, "tellPersons", "()V"⟩
abbrev b_Wa_plan : ByteArray := prog_7_method_2_code
def y_Wa_plan : MethodName := ⟨R_Wa, "plan", "([LDeskMoves$Person;II)V"⟩
abbrev b_Wa_sitAtOldDesks : ByteArray := prog_7_method_3_code
def y_Wa_sitAtOldDesks : MethodName := ⟨R_Wa, "sitAtOldDesks", "([LDeskMoves$Person;I)V"⟩
abbrev b_Wa_firstWhoCanGoHome : ByteArray := prog_7_method_4_code
def y_Wa_firstWhoCanGoHome : MethodName := ⟨R_Wa, "firstWhoCanGoHome", "([LDeskMoves$Person;I)LDeskMoves$Person;"⟩
abbrev b_Wa_isFree : ByteArray := prog_7_method_7_code
def y_Wa_isFree : MethodName := ⟨R_Wa, "isFree", "(I)Z"⟩
abbrev b_Wa_go : ByteArray := prog_7_method_8_code
def y_Wa_go : MethodName := ⟨R_Wa, "go", "(LDeskMoves$Person;I)V"⟩
abbrev b_Wa_firstNotHome : ByteArray := prog_7_method_5_code
def y_Wa_firstNotHome : MethodName := ⟨R_Wa, "firstNotHome", "([LDeskMoves$Person;I)LDeskMoves$Person;"⟩
abbrev b_Wa_firstFreeDesk : ByteArray := prog_7_method_6_code
def y_Wa_firstFreeDesk : MethodName := ⟨R_Wa, "firstFreeDesk", "(I)I"⟩
abbrev b_De_moved : ByteArray := prog_1_method_9_code
def y_De_moved : MethodName := ⟨R_De, "moved", "()I"⟩
abbrev b_De_waste : ByteArray := prog_1_method_20_code
def y_De_waste : MethodName := ⟨R_De, "waste", "()I"⟩
abbrev b_Ro_placesLeftOver : ByteArray := prog_5_method_4_code
def y_Ro_placesLeftOver : MethodName := ⟨R_Ro, "placesLeftOver", "()I"⟩
abbrev b_La_desk : ByteArray := method_3_code
def y_La_desk : MethodName := ⟨R_La, "desk", "(LDeskMoves;[J)I"⟩
abbrev b_De_desk : ByteArray := prog_1_method_2_code
def y_De_desk : MethodName := ⟨R_De, "desk", "()I"⟩
abbrev b_Th_init___V : ByteArray := prog_16_method_1_code
def y_Th_init___V : MethodName := ⟨R_Th, "<init>", "()V"⟩
abbrev b_Th_init__Ljava_lang_String__V : ByteArray := prog_16_method_2_code
def y_Th_init__Ljava_lang_String__V : MethodName := ⟨R_Th, "<init>", "(Ljava/lang/String;)V"⟩
abbrev b_Is_init__Ljava_lang_String__V : ByteArray := prog_12_method_2_code
def y_Is_init__Ljava_lang_String__V : MethodName := ⟨R_Is, "<init>", "(Ljava/lang/String;)V"⟩
abbrev b_Re_init__Ljava_lang_String__V : ByteArray := prog_14_method_2_code
def y_Re_init__Ljava_lang_String__V : MethodName := ⟨R_Re, "<init>", "(Ljava/lang/String;)V"⟩
abbrev b_Ex_init__Ljava_lang_String__V : ByteArray := prog_10_method_2_code
def y_Ex_init__Ljava_lang_String__V : MethodName := ⟨R_Ex, "<init>", "(Ljava/lang/String;)V"⟩
abbrev b_La_person : ByteArray := method_4_code
def y_La_person : MethodName := ⟨R_La, "person", "(LDeskMoves;[J)I"⟩
abbrev b_De_person : ByteArray := prog_1_method_3_code
def y_De_person : MethodName := ⟨R_De, "person", "()I"⟩
abbrev b_La_wish : ByteArray := method_5_code
def y_La_wish : MethodName := ⟨R_La, "wish", "(LDeskMoves;III[J)I"⟩
abbrev b_De_wish : ByteArray := prog_1_method_4_code
def y_De_wish : MethodName := ⟨R_De, "wish", "(III)I"⟩
abbrev b_De_checkPerson : ByteArray := prog_1_method_21_code
def y_De_checkPerson : MethodName := ⟨R_De, "checkPerson", "(I)V"⟩
abbrev b_Ia_init__Ljava_lang_String__V : ByteArray := prog_11_method_2_code
def y_Ia_init__Ljava_lang_String__V : MethodName := ⟨R_Ia, "<init>", "(Ljava/lang/String;)V"⟩
abbrev b_De_checkDesk : ByteArray := prog_1_method_22_code
def y_De_checkDesk : MethodName := ⟨R_De, "checkDesk", "(I)V"⟩
abbrev b_La_bar : ByteArray := method_6_code
def y_La_bar : MethodName := ⟨R_La, "bar", "(LDeskMoves;IIZ[J)I"⟩
abbrev b_De_bar : ByteArray := prog_1_method_5_code
def y_De_bar : MethodName := ⟨R_De, "bar", "(IIZ)Z"⟩
abbrev b_La_sits : ByteArray := method_7_code
def y_La_sits : MethodName := ⟨R_La, "sits", "(LDeskMoves;II[J)I"⟩
abbrev b_De_sits : ByteArray := prog_1_method_6_code
def y_De_sits : MethodName := ⟨R_De, "sits", "(II)I"⟩
abbrev b_De_checkNobodyElseHas : ByteArray := prog_1_method_26_code
def y_De_checkNobodyElseHas : MethodName := ⟨R_De, "checkNobodyElseHas", "(II)V"⟩
abbrev b_La_deskOf : ByteArray := method_8_code
def y_La_deskOf : MethodName := ⟨R_La, "deskOf", "(LDeskMoves;I[J)I"⟩
abbrev b_De_deskOf : ByteArray := prog_1_method_8_code
def y_De_deskOf : MethodName := ⟨R_De, "deskOf", "(I)I"⟩
abbrev b_La_steps : ByteArray := method_9_code
def y_La_steps : MethodName := ⟨R_La, "steps", "(LDeskMoves;[J)I"⟩
abbrev b_De_steps : ByteArray := prog_1_method_10_code
def y_De_steps : MethodName := ⟨R_De, "steps", "()I"⟩
abbrev b_De_checkSeatingMade : ByteArray := prog_1_method_25_code
def y_De_checkSeatingMade : MethodName := ⟨R_De, "checkSeatingMade", "()V"⟩
abbrev b_La_step : ByteArray := method_10_code
def y_La_step : MethodName := ⟨R_La, "step", "(LDeskMoves;II[J)I"⟩
abbrev b_De_step : ByteArray := prog_1_method_11_code
def y_De_step : MethodName := ⟨R_De, "step", "(II)I"⟩
abbrev b_La_settle : ByteArray := method_11_code
def y_La_settle : MethodName := ⟨R_La, "settle", "(LDeskMoves;[J)I"⟩
abbrev b_De_settle : ByteArray := prog_1_method_12_code
def y_De_settle : MethodName := ⟨R_De, "settle", "()I"⟩
abbrev b_La_worthOf : ByteArray := method_12_code
def y_La_worthOf : MethodName := ⟨R_La, "worthOf", "(LDeskMoves;I[J)I"⟩
abbrev b_De_worthOf : ByteArray := prog_1_method_13_code
def y_De_worthOf : MethodName := ⟨R_De, "worthOf", "(I)I"⟩
abbrev b_La_room : ByteArray := method_13_code
def y_La_room : MethodName := ⟨R_La, "room", "(LDeskMoves;I[J)I"⟩
abbrev b_De_room : ByteArray := prog_1_method_14_code
def y_De_room : MethodName := ⟨R_De, "room", "(I)I"⟩
abbrev b_La_book : ByteArray := method_14_code
def y_La_book : MethodName := ⟨R_La, "book", "(LDeskMoves;III[J)I"⟩
abbrev b_De_book : ByteArray := prog_1_method_15_code
def y_De_book : MethodName := ⟨R_De, "book", "(III)I"⟩
abbrev b_De_bestRoom : ByteArray := prog_1_method_28_code
def y_De_bestRoom : MethodName := ⟨R_De, "bestRoom", "(III)LDeskMoves$Room;"⟩
abbrev b_Ro_bookingWithin : ByteArray := prog_5_method_2_code
def y_Ro_bookingWithin : MethodName := ⟨R_Ro, "bookingWithin", "(II)LDeskMoves$Booking;"⟩
abbrev b_Bk_init : ByteArray := prog_2_method_1_code
def y_Bk_init : MethodName := ⟨R_Bk, "<init>", "(ILDeskMoves$Room;III)V"⟩
abbrev b_Ro_add : ByteArray := prog_5_method_5_code
def y_Ro_add : MethodName := ⟨R_Ro, "add", "(LDeskMoves$Booking;)V"⟩
abbrev b_La_cancel : ByteArray := method_15_code
def y_La_cancel : MethodName := ⟨R_La, "cancel", "(LDeskMoves;I[J)I"⟩
abbrev b_De_cancel : ByteArray := prog_1_method_16_code
def y_De_cancel : MethodName := ⟨R_De, "cancel", "(I)Z"⟩
abbrev b_De_bookingNumbered : ByteArray := prog_1_method_27_code
def y_De_bookingNumbered : MethodName := ⟨R_De, "bookingNumbered", "(I)LDeskMoves$Booking;"⟩
abbrev b_Ro_remove : ByteArray := prog_5_method_6_code
def y_Ro_remove : MethodName := ⟨R_Ro, "remove", "(LDeskMoves$Booking;)Z"⟩
abbrev b_La_roomOf : ByteArray := method_16_code
def y_La_roomOf : MethodName := ⟨R_La, "roomOf", "(LDeskMoves;I[J)I"⟩
abbrev b_De_roomOf : ByteArray := prog_1_method_17_code
def y_De_roomOf : MethodName := ⟨R_De, "roomOf", "(I)I"⟩
abbrev b_La_inside : ByteArray := method_17_code
def y_La_inside : MethodName := ⟨R_La, "inside", "(LDeskMoves;II[J)I"⟩
abbrev b_De_inside : ByteArray := prog_1_method_18_code
def y_De_inside : MethodName := ⟨R_De, "inside", "(II)I"⟩
abbrev b_De_checkRoom : ByteArray := prog_1_method_23_code
def y_De_checkRoom : MethodName := ⟨R_De, "checkRoom", "(I)V"⟩
abbrev b_De_checkMinute : ByteArray := prog_1_method_24_code
def y_De_checkMinute : MethodName := ⟨R_De, "checkMinute", "(I)V"⟩
abbrev b_La_gap : ByteArray := method_18_code
def y_La_gap : MethodName := ⟨R_La, "gap", "(LDeskMoves;III[J)I"⟩
abbrev b_De_gap : ByteArray := prog_1_method_19_code
def y_De_gap : MethodName := ⟨R_De, "gap", "(III)I"⟩
abbrev b_Ro_firstFree : ByteArray := prog_5_method_3_code
def y_Ro_firstFree : MethodName := ⟨R_Ro, "firstFree", "(II)I"⟩
abbrev b_Mo_init : ByteArray := prog_9_method_1_code
def y_Mo_init : MethodName := ⟨R_Mo, "<init>", "()V"⟩
abbrev b_Mo_thrown : ByteArray := prog_9_method_2_code
def y_Mo_thrown : MethodName := ⟨R_Mo, "thrown", "()I"⟩
abbrev b_Mo_desk : ByteArray := prog_9_method_7_code
def y_Mo_desk : MethodName := ⟨R_Mo, "desk", "()I"⟩
abbrev b_Mo_person : ByteArray := prog_9_method_8_code
def y_Mo_person : MethodName := ⟨R_Mo, "person", "()I"⟩
abbrev b_Mo_wish : ByteArray := prog_9_method_9_code
def y_Mo_wish : MethodName := ⟨R_Mo, "wish", "(III)I"⟩
abbrev b_Mo_isPerson : ByteArray := prog_9_method_4_code
def y_Mo_isPerson : MethodName := ⟨R_Mo, "isPerson", "(I)Z"⟩
abbrev b_Mo_in : ByteArray := prog_9_method_3_code
def y_Mo_in : MethodName := ⟨R_Mo, "in", "(III)Z"⟩
abbrev b_Mo_isDesk : ByteArray := prog_9_method_5_code
def y_Mo_isDesk : MethodName := ⟨R_Mo, "isDesk", "(I)Z"⟩
abbrev b_Mo_bar : ByteArray := prog_9_method_10_code
def y_Mo_bar : MethodName := ⟨R_Mo, "bar", "(IIZ)Z"⟩
abbrev b_Mo_sits : ByteArray := prog_9_method_11_code
def y_Mo_sits : MethodName := ⟨R_Mo, "sits", "(II)I"⟩
abbrev b_Mo_seat : ByteArray := prog_9_method_17_code
def y_Mo_seat : MethodName := ⟨R_Mo, "seat", "()I"⟩
abbrev b_Mo_findBest : ByteArray := prog_9_method_15_code
def y_Mo_findBest : MethodName := ⟨R_Mo, "findBest", "(I)I"⟩
abbrev b_Mo_bits : ByteArray := prog_9_method_12_code
def y_Mo_bits : MethodName := ⟨R_Mo, "bits", "(I)I"⟩
abbrev b_Mo_value : ByteArray := prog_9_method_14_code
def y_Mo_value : MethodName := ⟨R_Mo, "value", "(II)I"⟩
abbrev b_Mo_isMove : ByteArray := prog_9_method_13_code
def y_Mo_isMove : MethodName := ⟨R_Mo, "isMove", "(II)Z"⟩
abbrev b_Mo_worthIn : ByteArray := prog_9_method_16_code
def y_Mo_worthIn : MethodName := ⟨R_Mo, "worthIn", "(I)I"⟩
abbrev b_Mo_walk : ByteArray := prog_9_method_25_code
def y_Mo_walk : MethodName := ⟨R_Mo, "walk", "()V"⟩
abbrev b_Mo_goes : ByteArray := prog_9_method_24_code
def y_Mo_goes : MethodName := ⟨R_Mo, "goes", "()Z"⟩
abbrev b_Mo_isFree : ByteArray := prog_9_method_22_code
def y_Mo_isFree : MethodName := ⟨R_Mo, "isFree", "(I)Z"⟩
abbrev b_Mo_go : ByteArray := prog_9_method_23_code
def y_Mo_go : MethodName := ⟨R_Mo, "go", "(II)V"⟩
abbrev b_Mo_deskOf : ByteArray := prog_9_method_18_code
def y_Mo_deskOf : MethodName := ⟨R_Mo, "deskOf", "(I)I"⟩
abbrev b_Mo_moved : ByteArray := prog_9_method_19_code
def y_Mo_moved : MethodName := ⟨R_Mo, "moved", "()I"⟩
abbrev b_Mo_worthOf : ByteArray := prog_9_method_20_code
def y_Mo_worthOf : MethodName := ⟨R_Mo, "worthOf", "(I)I"⟩
abbrev b_Mo_settle : ByteArray := prog_9_method_21_code
def y_Mo_settle : MethodName := ⟨R_Mo, "settle", "()I"⟩
abbrev b_Mo_steps : ByteArray := prog_9_method_26_code
def y_Mo_steps : MethodName := ⟨R_Mo, "steps", "()I"⟩
abbrev b_Mo_step : ByteArray := prog_9_method_27_code
def y_Mo_step : MethodName := ⟨R_Mo, "step", "(II)I"⟩
abbrev b_Mo_room : ByteArray := prog_9_method_28_code
def y_Mo_room : MethodName := ⟨R_Mo, "room", "(I)I"⟩
abbrev b_Mo_book : ByteArray := prog_9_method_30_code
def y_Mo_book : MethodName := ⟨R_Mo, "book", "(III)I"⟩
abbrev b_Mo_meeting : ByteArray := prog_9_method_29_code
def y_Mo_meeting : MethodName := ⟨R_Mo, "meeting", "(III)I"⟩
abbrev b_Mo_cancel : ByteArray := prog_9_method_31_code
def y_Mo_cancel : MethodName := ⟨R_Mo, "cancel", "(I)Z"⟩
abbrev b_Mo_roomOf : ByteArray := prog_9_method_32_code
def y_Mo_roomOf : MethodName := ⟨R_Mo, "roomOf", "(I)I"⟩
abbrev b_Mo_inside : ByteArray := prog_9_method_33_code
def y_Mo_inside : MethodName := ⟨R_Mo, "inside", "(II)I"⟩
abbrev b_Mo_isRoom : ByteArray := prog_9_method_6_code
def y_Mo_isRoom : MethodName := ⟨R_Mo, "isRoom", "(I)Z"⟩
abbrev b_Mo_gap : ByteArray := prog_9_method_34_code
def y_Mo_gap : MethodName := ⟨R_Mo, "gap", "(III)I"⟩
abbrev b_Mo_waste : ByteArray := prog_9_method_35_code
def y_Mo_waste : MethodName := ⟨R_Mo, "waste", "()I"⟩
theorem ii_La : (.initialized R_La : Cond) ∈ tb_G := tb_in 34 (by decide +kernel) (by decide +kernel)
theorem ii_De : (.initialized R_De : Cond) ∈ tb_G := tb_in 35 (by decide +kernel) (by decide +kernel)
theorem ii_Ma : (.initialized R_Ma : Cond) ∈ tb_G := tb_in 36 (by decide +kernel) (by decide +kernel)
theorem ii_Sp : (.initialized R_Sp : Cond) ∈ tb_G := tb_in 37 (by decide +kernel) (by decide +kernel)
theorem ii_Wa : (.initialized R_Wa : Cond) ∈ tb_G := tb_in 38 (by decide +kernel) (by decide +kernel)
theorem ii_Pe : (.initialized R_Pe : Cond) ∈ tb_G := tb_in 39 (by decide +kernel) (by decide +kernel)
theorem ii_Ro : (.initialized R_Ro : Cond) ∈ tb_G := tb_in 40 (by decide +kernel) (by decide +kernel)
theorem ii_Mo : (.initialized R_Mo : Cond) ∈ tb_G := tb_in 41 (by decide +kernel) (by decide +kernel)
theorem ii_Th : (.initialized R_Th : Cond) ∈ tb_G := tb_in 42 (by decide +kernel) (by decide +kernel)
theorem ii_Ex : (.initialized R_Ex : Cond) ∈ tb_G := tb_in 43 (by decide +kernel) (by decide +kernel)
theorem ii_Re : (.initialized R_Re : Cond) ∈ tb_G := tb_in 44 (by decide +kernel) (by decide +kernel)
theorem ii_Is : (.initialized R_Is : Cond) ∈ tb_G := tb_in 45 (by decide +kernel) (by decide +kernel)
theorem ii_Ia : (.initialized R_Ia : Cond) ∈ tb_G := tb_in 46 (by decide +kernel) (by decide +kernel)
theorem ii_Mt : (.initialized R_Mt : Cond) ∈ tb_G := tb_in 47 (by decide +kernel) (by decide +kernel)
theorem ii_Bk : (.initialized R_Bk : Cond) ∈ tb_G := tb_in 48 (by decide +kernel) (by decide +kernel)
theorem cl_La_De : (.classLink R_La 8 R_De : Cond) ∈ tb_G := tb_in 49 (by decide +kernel) (by decide +kernel)
theorem nn_De : (.instantiable R_De 11 : Cond) ∈ tb_G := tb_in 50 (by decide +kernel) (by decide +kernel)
theorem ml_La_De_init : (.methodLink R_La 67 y_De_init : Cond) ∈ tb_G := tb_in 51 (by decide +kernel) (by decide +kernel)
theorem im_De_init : (.instanceMethod y_De_init : Cond) ∈ tb_G := tb_in 52 (by decide +kernel) (by decide +kernel)
theorem cd_De_init : (.code y_De_init b_De_init 2 none : Cond) ∈ tb_G := tb_in 53 (by decide +kernel) (by decide +kernel)
theorem ml_De_Ob_init : (.methodLink R_De 3 objectInit : Cond) ∈ tb_G := tb_in 54 (by decide +kernel) (by decide +kernel)
theorem im_Ob_init : (.instanceMethod objectInit : Cond) ∈ tb_G := tb_in 55 (by decide +kernel) (by decide +kernel)
theorem cd_Ob_init : (.code objectInit ⟨#[0xb1]⟩ 1 none : Cond) ∈ tb_G := tb_in 56 (by decide +kernel) (by decide +kernel)
theorem cl_De_Pe : (.classLink R_De 9 R_Pe : Cond) ∈ tb_G := tb_in 57 (by decide +kernel) (by decide +kernel)
theorem ao_Pe : (.arrayOver (.object "DeskMoves$Person") : Cond) ∈ lw_tbl := List.mem_of_getElem? (i := 58) (by decide +kernel)
theorem cl_De_Ma : (.classLink R_De 15 R_Ma : Cond) ∈ tb_G := tb_in 59 (by decide +kernel) (by decide +kernel)
theorem nn_Ma : (.instantiable R_Ma 2 : Cond) ∈ tb_G := tb_in 60 (by decide +kernel) (by decide +kernel)
theorem ml_De_Ma_init : (.methodLink R_De 17 y_Ma_init : Cond) ∈ tb_G := tb_in 61 (by decide +kernel) (by decide +kernel)
theorem im_Ma_init : (.instanceMethod y_Ma_init : Cond) ∈ tb_G := tb_in 62 (by decide +kernel) (by decide +kernel)
theorem cd_Ma_init : (.code y_Ma_init b_Ma_init 2 none : Cond) ∈ tb_G := tb_in 63 (by decide +kernel) (by decide +kernel)
theorem ml_Ma_Ob_init : (.methodLink R_Ma 3 objectInit : Cond) ∈ tb_G := tb_in 64 (by decide +kernel) (by decide +kernel)
theorem cl_Ma_Sp : (.classLink R_Ma 9 R_Sp : Cond) ∈ tb_G := tb_in 65 (by decide +kernel) (by decide +kernel)
theorem ao_Sp : (.arrayOver (.object "DeskMoves$Spot") : Cond) ∈ lw_tbl := List.mem_of_getElem? (i := 66) (by decide +kernel)
theorem nn_Sp : (.instantiable R_Sp 5 : Cond) ∈ tb_G := tb_in 67 (by decide +kernel) (by decide +kernel)
theorem ml_Ma_Sp_init : (.methodLink R_Ma 17 y_Sp_init : Cond) ∈ tb_G := tb_in 68 (by decide +kernel) (by decide +kernel)
theorem im_Sp_init : (.instanceMethod y_Sp_init : Cond) ∈ tb_G := tb_in 69 (by decide +kernel) (by decide +kernel)
theorem cd_Sp_init : (.code y_Sp_init b_Sp_init 1 none : Cond) ∈ tb_G := tb_in 70 (by decide +kernel) (by decide +kernel)
theorem ml_Sp_Ob_init : (.methodLink R_Sp 1 objectInit : Cond) ∈ tb_G := tb_in 71 (by decide +kernel) (by decide +kernel)
theorem fl_Ma_Sp_sitter : (.fieldLink R_Ma 34 "DeskMoves$Spot" "sitter" "LDeskMoves$Person;" : Cond) ∈ tb_G := tb_in 72 (by decide +kernel) (by decide +kernel)
theorem fl_Ma_Sp_price : (.fieldLink R_Ma 49 "DeskMoves$Spot" "price" "J" : Cond) ∈ tb_G := tb_in 73 (by decide +kernel) (by decide +kernel)
theorem fl_Ma_Sp_distance : (.fieldLink R_Ma 69 "DeskMoves$Spot" "distance" "J" : Cond) ∈ tb_G := tb_in 74 (by decide +kernel) (by decide +kernel)
theorem fl_Ma_Sp_before : (.fieldLink R_Ma 86 "DeskMoves$Spot" "before" "LDeskMoves$Spot;" : Cond) ∈ tb_G := tb_in 75 (by decide +kernel) (by decide +kernel)
theorem fl_Ma_Sp_reached : (.fieldLink R_Ma 76 "DeskMoves$Spot" "reached" "Z" : Cond) ∈ tb_G := tb_in 76 (by decide +kernel) (by decide +kernel)
theorem fl_Ma_Ma_spots : (.fieldLink R_Ma 11 "DeskMoves$Matcher" "spots" "[LDeskMoves$Spot;" : Cond) ∈ tb_G := tb_in 88 (by decide +kernel) (by decide +kernel)
theorem fl_Ma_Ma_spotCount : (.fieldLink R_Ma 30 "DeskMoves$Matcher" "spotCount" "I" : Cond) ∈ tb_G := tb_in 89 (by decide +kernel) (by decide +kernel)
theorem cl_De_Wa : (.classLink R_De 22 R_Wa : Cond) ∈ tb_G := tb_in 95 (by decide +kernel) (by decide +kernel)
theorem nn_Wa : (.instantiable R_Wa 6 : Cond) ∈ tb_G := tb_in 96 (by decide +kernel) (by decide +kernel)
theorem ml_De_Wa_init : (.methodLink R_De 24 y_Wa_init : Cond) ∈ tb_G := tb_in 97 (by decide +kernel) (by decide +kernel)
theorem im_Wa_init : (.instanceMethod y_Wa_init : Cond) ∈ tb_G := tb_in 98 (by decide +kernel) (by decide +kernel)
theorem cd_Wa_init : (.code y_Wa_init b_Wa_init 1 none : Cond) ∈ tb_G := tb_in 99 (by decide +kernel) (by decide +kernel)
theorem ml_Wa_Ob_init : (.methodLink R_Wa 3 objectInit : Cond) ∈ tb_G := tb_in 100 (by decide +kernel) (by decide +kernel)
theorem fl_Wa_Wa_goers : (.fieldLink R_Wa 9 "DeskMoves$Walk" "goers" "[I" : Cond) ∈ tb_G := tb_in 101 (by decide +kernel) (by decide +kernel)
theorem fl_De_Wa_goers : (.fieldLink R_De 125 "DeskMoves$Walk" "goers" "[I" : Cond) ∈ tb_G := tb_in 102 (by decide +kernel) (by decide +kernel)
theorem fl_Wa_Wa_starts : (.fieldLink R_Wa 15 "DeskMoves$Walk" "starts" "[I" : Cond) ∈ tb_G := tb_in 103 (by decide +kernel) (by decide +kernel)
theorem fl_De_Wa_starts : (.fieldLink R_De 128 "DeskMoves$Walk" "starts" "[I" : Cond) ∈ tb_G := tb_in 104 (by decide +kernel) (by decide +kernel)
theorem fl_Wa_Wa_goals : (.fieldLink R_Wa 18 "DeskMoves$Walk" "goals" "[I" : Cond) ∈ tb_G := tb_in 105 (by decide +kernel) (by decide +kernel)
theorem fl_De_Wa_goals : (.fieldLink R_De 131 "DeskMoves$Walk" "goals" "[I" : Cond) ∈ tb_G := tb_in 106 (by decide +kernel) (by decide +kernel)
theorem fl_Wa_Wa_count : (.fieldLink R_Wa 50 "DeskMoves$Walk" "count" "I" : Cond) ∈ tb_G := tb_in 107 (by decide +kernel) (by decide +kernel)
theorem fl_De_Wa_count : (.fieldLink R_De 118 "DeskMoves$Walk" "count" "I" : Cond) ∈ tb_G := tb_in 108 (by decide +kernel) (by decide +kernel)
theorem fl_Wa_Wa_stuck : (.fieldLink R_Wa 46 "DeskMoves$Walk" "stuck" "Z" : Cond) ∈ tb_G := tb_in 109 (by decide +kernel) (by decide +kernel)
theorem fl_De_Wa_stuck : (.fieldLink R_De 115 "DeskMoves$Walk" "stuck" "Z" : Cond) ∈ tb_G := tb_in 110 (by decide +kernel) (by decide +kernel)
theorem fl_Wa_Wa_taken : (.fieldLink R_Wa 53 "DeskMoves$Walk" "taken" "I" : Cond) ∈ tb_G := tb_in 111 (by decide +kernel) (by decide +kernel)
theorem ac_int : (.arrayClass .int : Cond) ∈ tb_G := tb_in 125 (by decide +kernel) (by decide +kernel)
theorem cl_De_Ro : (.classLink R_De 29 R_Ro : Cond) ∈ tb_G := tb_in 126 (by decide +kernel) (by decide +kernel)
theorem ao_Ro : (.arrayOver (.object "DeskMoves$Room") : Cond) ∈ lw_tbl := List.mem_of_getElem? (i := 127) (by decide +kernel)
theorem cl_De_Bk : (.classLink R_De 35 R_Bk : Cond) ∈ tb_G := tb_in 128 (by decide +kernel) (by decide +kernel)
theorem ao_Bk : (.arrayOver (.object "DeskMoves$Booking") : Cond) ∈ lw_tbl := List.mem_of_getElem? (i := 129) (by decide +kernel)
theorem nn_Pe : (.instantiable R_Pe 7 : Cond) ∈ tb_G := tb_in 130 (by decide +kernel) (by decide +kernel)
theorem ml_De_Pe_init : (.methodLink R_De 41 y_Pe_init : Cond) ∈ tb_G := tb_in 131 (by decide +kernel) (by decide +kernel)
theorem im_Pe_init : (.instanceMethod y_Pe_init : Cond) ∈ tb_G := tb_in 132 (by decide +kernel) (by decide +kernel)
theorem cd_Pe_init : (.code y_Pe_init b_Pe_init 2 none : Cond) ∈ tb_G := tb_in 133 (by decide +kernel) (by decide +kernel)
theorem ml_Pe_Ob_init : (.methodLink R_Pe 3 objectInit : Cond) ∈ tb_G := tb_in 134 (by decide +kernel) (by decide +kernel)
theorem fl_Pe_Pe_number : (.fieldLink R_Pe 29 "DeskMoves$Person" "number" "I" : Cond) ∈ tb_G := tb_in 135 (by decide +kernel) (by decide +kernel)
theorem fl_Wa_Pe_number : (.fieldLink R_Wa 66 "DeskMoves$Person" "number" "I" : Cond) ∈ tb_G := tb_in 136 (by decide +kernel) (by decide +kernel)
theorem fl_Pe_Pe_wishes : (.fieldLink R_Pe 9 "DeskMoves$Person" "wishes" "[I" : Cond) ∈ tb_G := tb_in 137 (by decide +kernel) (by decide +kernel)
theorem fl_De_Pe_wishes : (.fieldLink R_De 76 "DeskMoves$Person" "wishes" "[I" : Cond) ∈ tb_G := tb_in 138 (by decide +kernel) (by decide +kernel)
theorem fl_Ma_Pe_wishes : (.fieldLink R_Ma 53 "DeskMoves$Person" "wishes" "[I" : Cond) ∈ tb_G := tb_in 139 (by decide +kernel) (by decide +kernel)
theorem fl_Pe_Pe_barred : (.fieldLink R_Pe 15 "DeskMoves$Person" "barred" "[Z" : Cond) ∈ tb_G := tb_in 140 (by decide +kernel) (by decide +kernel)
theorem fl_De_Pe_barred : (.fieldLink R_De 80 "DeskMoves$Person" "barred" "[Z" : Cond) ∈ tb_G := tb_in 141 (by decide +kernel) (by decide +kernel)
theorem fl_Ma_Pe_barred : (.fieldLink R_Ma 90 "DeskMoves$Person" "barred" "[Z" : Cond) ∈ tb_G := tb_in 142 (by decide +kernel) (by decide +kernel)
theorem fl_Pe_Pe_oldDesk : (.fieldLink R_Pe 19 "DeskMoves$Person" "oldDesk" "I" : Cond) ∈ tb_G := tb_in 143 (by decide +kernel) (by decide +kernel)
theorem fl_Wa_Pe_oldDesk : (.fieldLink R_Wa 56 "DeskMoves$Person" "oldDesk" "I" : Cond) ∈ tb_G := tb_in 144 (by decide +kernel) (by decide +kernel)
theorem fl_De_Pe_oldDesk : (.fieldLink R_De 88 "DeskMoves$Person" "oldDesk" "I" : Cond) ∈ tb_G := tb_in 145 (by decide +kernel) (by decide +kernel)
theorem fl_Pe_Pe_newDesk : (.fieldLink R_Pe 23 "DeskMoves$Person" "newDesk" "I" : Cond) ∈ tb_G := tb_in 146 (by decide +kernel) (by decide +kernel)
theorem fl_Wa_Pe_newDesk : (.fieldLink R_Wa 29 "DeskMoves$Person" "newDesk" "I" : Cond) ∈ tb_G := tb_in 147 (by decide +kernel) (by decide +kernel)
theorem fl_Ma_Pe_newDesk : (.fieldLink R_Ma 38 "DeskMoves$Person" "newDesk" "I" : Cond) ∈ tb_G := tb_in 148 (by decide +kernel) (by decide +kernel)
theorem fl_De_Pe_newDesk : (.fieldLink R_De 105 "DeskMoves$Person" "newDesk" "I" : Cond) ∈ tb_G := tb_in 149 (by decide +kernel) (by decide +kernel)
theorem fl_Pe_Pe_place : (.fieldLink R_Pe 26 "DeskMoves$Person" "place" "I" : Cond) ∈ tb_G := tb_in 150 (by decide +kernel) (by decide +kernel)
theorem fl_Wa_Pe_place : (.fieldLink R_Wa 59 "DeskMoves$Person" "place" "I" : Cond) ∈ tb_G := tb_in 151 (by decide +kernel) (by decide +kernel)
theorem fl_Ma_Pe_price : (.fieldLink R_Ma 60 "DeskMoves$Person" "price" "J" : Cond) ∈ tb_G := tb_in 152 (by decide +kernel) (by decide +kernel)
theorem ac_boolean : (.arrayClass .boolean : Cond) ∈ tb_G := tb_in 168 (by decide +kernel) (by decide +kernel)
theorem nn_Ro : (.instantiable R_Ro 3 : Cond) ∈ tb_G := tb_in 169 (by decide +kernel) (by decide +kernel)
theorem ml_De_Ro_init : (.methodLink R_De 44 y_Ro_init : Cond) ∈ tb_G := tb_in 170 (by decide +kernel) (by decide +kernel)
theorem im_Ro_init : (.instanceMethod y_Ro_init : Cond) ∈ tb_G := tb_in 171 (by decide +kernel) (by decide +kernel)
theorem cd_Ro_init : (.code y_Ro_init b_Ro_init 2 none : Cond) ∈ tb_G := tb_in 172 (by decide +kernel) (by decide +kernel)
theorem ml_Ro_Ob_init : (.methodLink R_Ro 1 objectInit : Cond) ∈ tb_G := tb_in 173 (by decide +kernel) (by decide +kernel)
theorem fl_Ro_Ro_number : (.fieldLink R_Ro 7 "DeskMoves$Room" "number" "I" : Cond) ∈ tb_G := tb_in 174 (by decide +kernel) (by decide +kernel)
theorem fl_De_Ro_number : (.fieldLink R_De 179 "DeskMoves$Room" "number" "I" : Cond) ∈ tb_G := tb_in 175 (by decide +kernel) (by decide +kernel)
theorem fl_Ro_Ro_places : (.fieldLink R_Ro 28 "DeskMoves$Room" "places" "I" : Cond) ∈ tb_G := tb_in 176 (by decide +kernel) (by decide +kernel)
theorem fl_De_Ro_places : (.fieldLink R_De 141 "DeskMoves$Room" "places" "I" : Cond) ∈ tb_G := tb_in 177 (by decide +kernel) (by decide +kernel)
theorem fl_Ro_Ro_first : (.fieldLink R_Ro 13 "DeskMoves$Room" "first" "LDeskMoves$Booking;" : Cond) ∈ tb_G := tb_in 178 (by decide +kernel) (by decide +kernel)
theorem fl_De_De_persons : (.fieldLink R_De 11 "DeskMoves" "persons" "[LDeskMoves$Person;" : Cond) ∈ tb_G := tb_in 186 (by decide +kernel) (by decide +kernel)
theorem fl_De_De_matcher : (.fieldLink R_De 18 "DeskMoves" "matcher" "LDeskMoves$Matcher;" : Cond) ∈ tb_G := tb_in 187 (by decide +kernel) (by decide +kernel)
theorem fl_De_De_walk : (.fieldLink R_De 25 "DeskMoves" "walk" "LDeskMoves$Walk;" : Cond) ∈ tb_G := tb_in 188 (by decide +kernel) (by decide +kernel)
theorem fl_De_De_rooms : (.fieldLink R_De 31 "DeskMoves" "rooms" "[LDeskMoves$Room;" : Cond) ∈ tb_G := tb_in 189 (by decide +kernel) (by decide +kernel)
theorem fl_De_De_bookings : (.fieldLink R_De 37 "DeskMoves" "bookings" "[LDeskMoves$Booking;" : Cond) ∈ tb_G := tb_in 190 (by decide +kernel) (by decide +kernel)
theorem fl_De_De_deskCount : (.fieldLink R_De 45 "DeskMoves" "deskCount" "I" : Cond) ∈ tb_G := tb_in 191 (by decide +kernel) (by decide +kernel)
theorem fl_De_De_personCount : (.fieldLink R_De 60 "DeskMoves" "personCount" "I" : Cond) ∈ tb_G := tb_in 192 (by decide +kernel) (by decide +kernel)
theorem fl_De_De_roomCount : (.fieldLink R_De 136 "DeskMoves" "roomCount" "I" : Cond) ∈ tb_G := tb_in 193 (by decide +kernel) (by decide +kernel)
theorem fl_De_De_bookingCount : (.fieldLink R_De 148 "DeskMoves" "bookingCount" "I" : Cond) ∈ tb_G := tb_in 194 (by decide +kernel) (by decide +kernel)
theorem fl_De_De_seatingMade : (.fieldLink R_De 56 "DeskMoves" "seatingMade" "Z" : Cond) ∈ tb_G := tb_in 195 (by decide +kernel) (by decide +kernel)
theorem fl_De_De_seatingWorth : (.fieldLink R_De 102 "DeskMoves" "seatingWorth" "I" : Cond) ∈ tb_G := tb_in 196 (by decide +kernel) (by decide +kernel)
theorem ml_La_De_seat : (.methodLink R_La 95 y_De_seat : Cond) ∈ tb_G := tb_in 220 (by decide +kernel) (by decide +kernel)
theorem im_De_seat : (.instanceMethod y_De_seat : Cond) ∈ tb_G := tb_in 221 (by decide +kernel) (by decide +kernel)
theorem cd_De_seat : (.code y_De_seat b_De_seat 2 (some .int) : Cond) ∈ tb_G := tb_in 223 (by decide +kernel) (by decide +kernel)
theorem ml_De_Ma_match : (.methodLink R_De 91 y_Ma_match : Cond) ∈ tb_G := tb_in 224 (by decide +kernel) (by decide +kernel)
theorem im_Ma_match : (.instanceMethod y_Ma_match : Cond) ∈ tb_G := tb_in 225 (by decide +kernel) (by decide +kernel)
theorem cd_Ma_match : (.code y_Ma_match b_Ma_match 6 (some .int) : Cond) ∈ tb_G := tb_in 227 (by decide +kernel) (by decide +kernel)
theorem ml_Ma_Ma_clearSpots : (.methodLink R_Ma 18 y_Ma_clearSpots : Cond) ∈ tb_G := tb_in 228 (by decide +kernel) (by decide +kernel)
theorem im_Ma_clearSpots : (.instanceMethod y_Ma_clearSpots : Cond) ∈ tb_G := tb_in 230 (by decide +kernel) (by decide +kernel)
theorem cd_Ma_clearSpots : (.code y_Ma_clearSpots b_Ma_clearSpots 3 none : Cond) ∈ tb_G := tb_in 231 (by decide +kernel) (by decide +kernel)
theorem ml_Ma_Mt_min : (.methodLink R_Ma 43 y_Mt_min : Cond) ∈ tb_G := tb_in 232 (by decide +kernel) (by decide +kernel)
theorem sm_Mt_min : (.static y_Mt_min : Cond) ∈ tb_G := tb_in 233 (by decide +kernel) (by decide +kernel)
theorem cd_Mt_min : (.code y_Mt_min b_Mt_min 2 (some .int) : Cond) ∈ tb_G := tb_in 234 (by decide +kernel) (by decide +kernel)
theorem ml_Ma_Ma_addPerson : (.methodLink R_Ma 22 y_Ma_addPerson : Cond) ∈ tb_G := tb_in 235 (by decide +kernel) (by decide +kernel)
theorem im_Ma_addPerson : (.instanceMethod y_Ma_addPerson : Cond) ∈ tb_G := tb_in 237 (by decide +kernel) (by decide +kernel)
theorem cd_Ma_addPerson : (.code y_Ma_addPerson b_Ma_addPerson 6 (some .boolean) : Cond) ∈ tb_G := tb_in 238 (by decide +kernel) (by decide +kernel)
theorem ml_Ma_Ma_startSearch : (.methodLink R_Ma 57 y_Ma_startSearch : Cond) ∈ tb_G := tb_in 239 (by decide +kernel) (by decide +kernel)
theorem im_Ma_startSearch : (.instanceMethod y_Ma_startSearch : Cond) ∈ tb_G := tb_in 241 (by decide +kernel) (by decide +kernel)
theorem cd_Ma_startSearch : (.code y_Ma_startSearch b_Ma_startSearch 2 none : Cond) ∈ tb_G := tb_in 242 (by decide +kernel) (by decide +kernel)
theorem kl_Ma_4611686018427387904 : (.constantLong R_Ma 84 4611686018427387904 : Cond) ∈ tb_G := tb_in 243 (by decide +kernel) (by decide +kernel)
theorem ml_Ma_Ma_lookFrom : (.methodLink R_Ma 61 y_Ma_lookFrom : Cond) ∈ tb_G := tb_in 244 (by decide +kernel) (by decide +kernel)
theorem im_Ma_lookFrom : (.instanceMethod y_Ma_lookFrom : Cond) ∈ tb_G := tb_in 246 (by decide +kernel) (by decide +kernel)
theorem cd_Ma_lookFrom : (.code y_Ma_lookFrom b_Ma_lookFrom 7 none : Cond) ∈ tb_G := tb_in 247 (by decide +kernel) (by decide +kernel)
theorem ml_Ma_Pe_costAt : (.methodLink R_Ma 94 y_Pe_costAt : Cond) ∈ tb_G := tb_in 248 (by decide +kernel) (by decide +kernel)
theorem im_Pe_costAt : (.instanceMethod y_Pe_costAt : Cond) ∈ tb_G := tb_in 249 (by decide +kernel) (by decide +kernel)
theorem cd_Pe_costAt : (.code y_Pe_costAt b_Pe_costAt 4 (some .long) : Cond) ∈ tb_G := tb_in 251 (by decide +kernel) (by decide +kernel)
theorem kl_Pe_17592186044416 : (.constantLong R_Pe 32 17592186044416 : Cond) ∈ tb_G := tb_in 252 (by decide +kernel) (by decide +kernel)
theorem ml_Pe_Pe_wouldMoveTo : (.methodLink R_Pe 34 y_Pe_wouldMoveTo : Cond) ∈ tb_G := tb_in 253 (by decide +kernel) (by decide +kernel)
theorem im_Pe_wouldMoveTo : (.instanceMethod y_Pe_wouldMoveTo : Cond) ∈ tb_G := tb_in 254 (by decide +kernel) (by decide +kernel)
theorem cd_Pe_wouldMoveTo : (.code y_Pe_wouldMoveTo b_Pe_wouldMoveTo 2 (some .boolean) : Cond) ∈ tb_G := tb_in 256 (by decide +kernel) (by decide +kernel)
theorem kl_Pe_1099511627776 : (.constantLong R_Pe 38 1099511627776 : Cond) ∈ tb_G := tb_in 257 (by decide +kernel) (by decide +kernel)
theorem ml_Ma_Ma_nearestSpot : (.methodLink R_Ma 65 y_Ma_nearestSpot : Cond) ∈ tb_G := tb_in 258 (by decide +kernel) (by decide +kernel)
theorem im_Ma_nearestSpot : (.instanceMethod y_Ma_nearestSpot : Cond) ∈ tb_G := tb_in 260 (by decide +kernel) (by decide +kernel)
theorem cd_Ma_nearestSpot : (.code y_Ma_nearestSpot b_Ma_nearestSpot 5 (some (.object "DeskMoves$Spot")) : Cond) ∈ tb_G := tb_in 261 (by decide +kernel) (by decide +kernel)
theorem ml_Ma_Ma_shiftPrices : (.methodLink R_Ma 72 y_Ma_shiftPrices : Cond) ∈ tb_G := tb_in 262 (by decide +kernel) (by decide +kernel)
theorem im_Ma_shiftPrices : (.instanceMethod y_Ma_shiftPrices : Cond) ∈ tb_G := tb_in 264 (by decide +kernel) (by decide +kernel)
theorem cd_Ma_shiftPrices : (.code y_Ma_shiftPrices b_Ma_shiftPrices 6 none : Cond) ∈ tb_G := tb_in 265 (by decide +kernel) (by decide +kernel)
theorem ml_Ma_Ma_handOn : (.methodLink R_Ma 80 y_Ma_handOn : Cond) ∈ tb_G := tb_in 266 (by decide +kernel) (by decide +kernel)
theorem im_Ma_handOn : (.instanceMethod y_Ma_handOn : Cond) ∈ tb_G := tb_in 268 (by decide +kernel) (by decide +kernel)
theorem cd_Ma_handOn : (.code y_Ma_handOn b_Ma_handOn 4 none : Cond) ∈ tb_G := tb_in 269 (by decide +kernel) (by decide +kernel)
theorem ml_Ma_Ma_worthOfSpots : (.methodLink R_Ma 26 y_Ma_worthOfSpots : Cond) ∈ tb_G := tb_in 270 (by decide +kernel) (by decide +kernel)
theorem im_Ma_worthOfSpots : (.instanceMethod y_Ma_worthOfSpots : Cond) ∈ tb_G := tb_in 272 (by decide +kernel) (by decide +kernel)
theorem cd_Ma_worthOfSpots : (.code y_Ma_worthOfSpots b_Ma_worthOfSpots 4 (some .int) : Cond) ∈ tb_G := tb_in 273 (by decide +kernel) (by decide +kernel)
theorem ml_De_Ma_tellPersons : (.methodLink R_De 95 y_Ma_tellPersons : Cond) ∈ tb_G := tb_in 274 (by decide +kernel) (by decide +kernel)
theorem im_Ma_tellPersons : (.instanceMethod y_Ma_tellPersons : Cond) ∈ tb_G := tb_in 275 (by decide +kernel) (by decide +kernel)
theorem cd_Ma_tellPersons : (.code y_Ma_tellPersons b_Ma_tellPersons 3 none : Cond) ∈ tb_G := tb_in 277 (by decide +kernel) (by decide +kernel)
theorem ml_De_Wa_plan : (.methodLink R_De 98 y_Wa_plan : Cond) ∈ tb_G := tb_in 278 (by decide +kernel) (by decide +kernel)
theorem im_Wa_plan : (.instanceMethod y_Wa_plan : Cond) ∈ tb_G := tb_in 279 (by decide +kernel) (by decide +kernel)
theorem cd_Wa_plan : (.code y_Wa_plan b_Wa_plan 7 none : Cond) ∈ tb_G := tb_in 281 (by decide +kernel) (by decide +kernel)
theorem ml_Wa_Wa_sitAtOldDesks : (.methodLink R_Wa 21 y_Wa_sitAtOldDesks : Cond) ∈ tb_G := tb_in 282 (by decide +kernel) (by decide +kernel)
theorem im_Wa_sitAtOldDesks : (.instanceMethod y_Wa_sitAtOldDesks : Cond) ∈ tb_G := tb_in 284 (by decide +kernel) (by decide +kernel)
theorem cd_Wa_sitAtOldDesks : (.code y_Wa_sitAtOldDesks b_Wa_sitAtOldDesks 4 none : Cond) ∈ tb_G := tb_in 285 (by decide +kernel) (by decide +kernel)
theorem ml_Wa_Wa_firstWhoCanGoHome : (.methodLink R_Wa 25 y_Wa_firstWhoCanGoHome : Cond) ∈ tb_G := tb_in 286 (by decide +kernel) (by decide +kernel)
theorem im_Wa_firstWhoCanGoHome : (.instanceMethod y_Wa_firstWhoCanGoHome : Cond) ∈ tb_G := tb_in 288 (by decide +kernel) (by decide +kernel)
theorem cd_Wa_firstWhoCanGoHome : (.code y_Wa_firstWhoCanGoHome b_Wa_firstWhoCanGoHome 5 (some (.object "DeskMoves$Person")) : Cond) ∈ tb_G := tb_in 289 (by decide +kernel) (by decide +kernel)
theorem ml_Wa_Wa_isFree : (.methodLink R_Wa 62 y_Wa_isFree : Cond) ∈ tb_G := tb_in 290 (by decide +kernel) (by decide +kernel)
theorem im_Wa_isFree : (.instanceMethod y_Wa_isFree : Cond) ∈ tb_G := tb_in 292 (by decide +kernel) (by decide +kernel)
theorem cd_Wa_isFree : (.code y_Wa_isFree b_Wa_isFree 2 (some .boolean) : Cond) ∈ tb_G := tb_in 293 (by decide +kernel) (by decide +kernel)
theorem ml_Wa_Wa_go : (.methodLink R_Wa 35 y_Wa_go : Cond) ∈ tb_G := tb_in 294 (by decide +kernel) (by decide +kernel)
theorem im_Wa_go : (.instanceMethod y_Wa_go : Cond) ∈ tb_G := tb_in 296 (by decide +kernel) (by decide +kernel)
theorem cd_Wa_go : (.code y_Wa_go b_Wa_go 3 none : Cond) ∈ tb_G := tb_in 297 (by decide +kernel) (by decide +kernel)
theorem ml_Wa_Wa_firstNotHome : (.methodLink R_Wa 39 y_Wa_firstNotHome : Cond) ∈ tb_G := tb_in 298 (by decide +kernel) (by decide +kernel)
theorem im_Wa_firstNotHome : (.instanceMethod y_Wa_firstNotHome : Cond) ∈ tb_G := tb_in 300 (by decide +kernel) (by decide +kernel)
theorem cd_Wa_firstNotHome : (.code y_Wa_firstNotHome b_Wa_firstNotHome 4 (some (.object "DeskMoves$Person")) : Cond) ∈ tb_G := tb_in 301 (by decide +kernel) (by decide +kernel)
theorem ml_Wa_Wa_firstFreeDesk : (.methodLink R_Wa 42 y_Wa_firstFreeDesk : Cond) ∈ tb_G := tb_in 302 (by decide +kernel) (by decide +kernel)
theorem im_Wa_firstFreeDesk : (.instanceMethod y_Wa_firstFreeDesk : Cond) ∈ tb_G := tb_in 304 (by decide +kernel) (by decide +kernel)
theorem cd_Wa_firstFreeDesk : (.code y_Wa_firstFreeDesk b_Wa_firstFreeDesk 3 (some .int) : Cond) ∈ tb_G := tb_in 305 (by decide +kernel) (by decide +kernel)
theorem ml_La_De_moved : (.methodLink R_La 103 y_De_moved : Cond) ∈ tb_G := tb_in 306 (by decide +kernel) (by decide +kernel)
theorem im_De_moved : (.instanceMethod y_De_moved : Cond) ∈ tb_G := tb_in 307 (by decide +kernel) (by decide +kernel)
theorem cd_De_moved : (.code y_De_moved b_De_moved 3 (some .int) : Cond) ∈ tb_G := tb_in 309 (by decide +kernel) (by decide +kernel)
theorem ml_De_Pe_wouldMoveTo : (.methodLink R_De 108 y_Pe_wouldMoveTo : Cond) ∈ tb_G := tb_in 310 (by decide +kernel) (by decide +kernel)
theorem ml_La_De_waste : (.methodLink R_La 137 y_De_waste : Cond) ∈ tb_G := tb_in 311 (by decide +kernel) (by decide +kernel)
theorem im_De_waste : (.instanceMethod y_De_waste : Cond) ∈ tb_G := tb_in 312 (by decide +kernel) (by decide +kernel)
theorem cd_De_waste : (.code y_De_waste b_De_waste 3 (some .int) : Cond) ∈ tb_G := tb_in 314 (by decide +kernel) (by decide +kernel)
theorem ml_De_Ro_placesLeftOver : (.methodLink R_De 196 y_Ro_placesLeftOver : Cond) ∈ tb_G := tb_in 315 (by decide +kernel) (by decide +kernel)
theorem im_Ro_placesLeftOver : (.instanceMethod y_Ro_placesLeftOver : Cond) ∈ tb_G := tb_in 316 (by decide +kernel) (by decide +kernel)
theorem cd_Ro_placesLeftOver : (.code y_Ro_placesLeftOver b_Ro_placesLeftOver 3 (some .int) : Cond) ∈ tb_G := tb_in 318 (by decide +kernel) (by decide +kernel)
theorem ml_La_La_desk : (.methodLink R_La 71 y_La_desk : Cond) ∈ tb_G := tb_in 319 (by decide +kernel) (by decide +kernel)
theorem sm_La_desk : (.static y_La_desk : Cond) ∈ tb_G := tb_in 320 (by decide +kernel) (by decide +kernel)
theorem cd_La_desk : (.codeWith y_La_desk b_La_desk 3 (some .int) [(0, 8, 11, 13)] : Cond) ∈ tb_G := tb_in 321 (by decide +kernel) (by decide +kernel)
theorem cl_La_Is : (.classLink R_La 13 R_Is : Cond) ∈ tb_G := tb_in 322 (by decide +kernel) (by decide +kernel)
theorem ml_La_De_desk : (.methodLink R_La 7 y_De_desk : Cond) ∈ tb_G := tb_in 323 (by decide +kernel) (by decide +kernel)
theorem im_De_desk : (.instanceMethod y_De_desk : Cond) ∈ tb_G := tb_in 324 (by decide +kernel) (by decide +kernel)
theorem cd_De_desk : (.code y_De_desk b_De_desk 1 (some .int) : Cond) ∈ tb_G := tb_in 326 (by decide +kernel) (by decide +kernel)
theorem cl_De_Is : (.classLink R_De 49 R_Is : Cond) ∈ tb_G := tb_in 327 (by decide +kernel) (by decide +kernel)
theorem fl_Th_Th_backtrace : (.fieldLink R_Th 198 "java/lang/Throwable" "backtrace" "Ljava/lang/Object;" : Cond) ∈ tb_G := tb_in 348 (by decide +kernel) (by decide +kernel)
theorem im_Th_init___V : (.instanceMethod y_Th_init___V : Cond) ∈ tb_G := tb_in 350 (by decide +kernel) (by decide +kernel)
theorem ml_Th_Ob_init : (.methodLink R_Th 1 objectInit : Cond) ∈ tb_G := tb_in 352 (by decide +kernel) (by decide +kernel)
theorem fl_Th_Th_UNASSIGNED_STACK : (.fieldLink R_Th 13 "java/lang/Throwable" "UNASSIGNED_STACK" "[Ljava/lang/StackTraceElement;" : Cond) ∈ tb_G := tb_in 353 (by decide +kernel) (by decide +kernel)
theorem fl_Th_Th_SUPPRESSED_SENTINEL : (.fieldLink R_Th 20 "java/lang/Throwable" "SUPPRESSED_SENTINEL" "Ljava/util/List;" : Cond) ∈ tb_G := tb_in 355 (by decide +kernel) (by decide +kernel)
theorem ml_De_Is_init__Ljava_lang_String__V : (.methodLink R_De 53 y_Is_init__Ljava_lang_String__V : Cond) ∈ tb_G := tb_in 368 (by decide +kernel) (by decide +kernel)
theorem im_Is_init__Ljava_lang_String__V : (.instanceMethod y_Is_init__Ljava_lang_String__V : Cond) ∈ tb_G := tb_in 369 (by decide +kernel) (by decide +kernel)
theorem ml_Is_Re_init__Ljava_lang_String__V : (.methodLink R_Is 7 y_Re_init__Ljava_lang_String__V : Cond) ∈ tb_G := tb_in 371 (by decide +kernel) (by decide +kernel)
theorem im_Re_init__Ljava_lang_String__V : (.instanceMethod y_Re_init__Ljava_lang_String__V : Cond) ∈ tb_G := tb_in 372 (by decide +kernel) (by decide +kernel)
theorem ml_Re_Ex_init__Ljava_lang_String__V : (.methodLink R_Re 7 y_Ex_init__Ljava_lang_String__V : Cond) ∈ tb_G := tb_in 374 (by decide +kernel) (by decide +kernel)
theorem im_Ex_init__Ljava_lang_String__V : (.instanceMethod y_Ex_init__Ljava_lang_String__V : Cond) ∈ tb_G := tb_in 375 (by decide +kernel) (by decide +kernel)
theorem ml_Ex_Th_init__Ljava_lang_String__V : (.methodLink R_Ex 7 y_Th_init__Ljava_lang_String__V : Cond) ∈ tb_G := tb_in 377 (by decide +kernel) (by decide +kernel)
theorem im_Th_init__Ljava_lang_String__V : (.instanceMethod y_Th_init__Ljava_lang_String__V : Cond) ∈ tb_G := tb_in 378 (by decide +kernel) (by decide +kernel)
theorem fl_Th_Th_detailMessage : (.fieldLink R_Th 31 "java/lang/Throwable" "detailMessage" "Ljava/lang/String;" : Cond) ∈ tb_G := tb_in 381 (by decide +kernel) (by decide +kernel)
theorem fl_Th_Th_cause : (.fieldLink R_Th 7 "java/lang/Throwable" "cause" "Ljava/lang/Throwable;" : Cond) ∈ tb_G := tb_in 382 (by decide +kernel) (by decide +kernel)
theorem fl_Th_Th_stackTrace : (.fieldLink R_Th 17 "java/lang/Throwable" "stackTrace" "[Ljava/lang/StackTraceElement;" : Cond) ∈ tb_G := tb_in 383 (by decide +kernel) (by decide +kernel)
theorem fl_Th_Th_suppressedExceptions : (.fieldLink R_Th 24 "java/lang/Throwable" "suppressedExceptions" "Ljava/util/List;" : Cond) ∈ tb_G := tb_in 384 (by decide +kernel) (by decide +kernel)
theorem ac_byte : (.arrayClass .byte : Cond) ∈ tb_G := tb_in 393 (by decide +kernel) (by decide +kernel)
theorem ml_La_La_person : (.methodLink R_La 80 y_La_person : Cond) ∈ tb_G := tb_in 394 (by decide +kernel) (by decide +kernel)
theorem sm_La_person : (.static y_La_person : Cond) ∈ tb_G := tb_in 395 (by decide +kernel) (by decide +kernel)
theorem cd_La_person : (.codeWith y_La_person b_La_person 3 (some .int) [(0, 8, 11, 13)] : Cond) ∈ tb_G := tb_in 396 (by decide +kernel) (by decide +kernel)
theorem ml_La_De_person : (.methodLink R_La 15 y_De_person : Cond) ∈ tb_G := tb_in 397 (by decide +kernel) (by decide +kernel)
theorem im_De_person : (.instanceMethod y_De_person : Cond) ∈ tb_G := tb_in 398 (by decide +kernel) (by decide +kernel)
theorem cd_De_person : (.code y_De_person b_De_person 1 (some .int) : Cond) ∈ tb_G := tb_in 400 (by decide +kernel) (by decide +kernel)
theorem ml_La_La_wish : (.methodLink R_La 83 y_La_wish : Cond) ∈ tb_G := tb_in 402 (by decide +kernel) (by decide +kernel)
theorem sm_La_wish : (.static y_La_wish : Cond) ∈ tb_G := tb_in 403 (by decide +kernel) (by decide +kernel)
theorem cd_La_wish : (.codeWith y_La_wish b_La_wish 6 (some .int) [(0, 12, 15, 22)] : Cond) ∈ tb_G := tb_in 404 (by decide +kernel) (by decide +kernel)
theorem cl_La_Ia : (.classLink R_La 22 R_Ia : Cond) ∈ tb_G := tb_in 405 (by decide +kernel) (by decide +kernel)
theorem ml_La_De_wish : (.methodLink R_La 18 y_De_wish : Cond) ∈ tb_G := tb_in 406 (by decide +kernel) (by decide +kernel)
theorem im_De_wish : (.instanceMethod y_De_wish : Cond) ∈ tb_G := tb_in 407 (by decide +kernel) (by decide +kernel)
theorem cd_De_wish : (.code y_De_wish b_De_wish 5 (some .int) : Cond) ∈ tb_G := tb_in 409 (by decide +kernel) (by decide +kernel)
theorem ml_De_De_checkPerson : (.methodLink R_De 65 y_De_checkPerson : Cond) ∈ tb_G := tb_in 410 (by decide +kernel) (by decide +kernel)
theorem im_De_checkPerson : (.instanceMethod y_De_checkPerson : Cond) ∈ tb_G := tb_in 412 (by decide +kernel) (by decide +kernel)
theorem cd_De_checkPerson : (.code y_De_checkPerson b_De_checkPerson 2 none : Cond) ∈ tb_G := tb_in 413 (by decide +kernel) (by decide +kernel)
theorem cl_De_Ia : (.classLink R_De 71 R_Ia : Cond) ∈ tb_G := tb_in 414 (by decide +kernel) (by decide +kernel)
theorem ml_De_Ia_init__Ljava_lang_String__V : (.methodLink R_De 75 y_Ia_init__Ljava_lang_String__V : Cond) ∈ tb_G := tb_in 424 (by decide +kernel) (by decide +kernel)
theorem im_Ia_init__Ljava_lang_String__V : (.instanceMethod y_Ia_init__Ljava_lang_String__V : Cond) ∈ tb_G := tb_in 425 (by decide +kernel) (by decide +kernel)
theorem ml_Ia_Re_init__Ljava_lang_String__V : (.methodLink R_Ia 7 y_Re_init__Ljava_lang_String__V : Cond) ∈ tb_G := tb_in 427 (by decide +kernel) (by decide +kernel)
theorem ml_De_De_checkDesk : (.methodLink R_De 68 y_De_checkDesk : Cond) ∈ tb_G := tb_in 430 (by decide +kernel) (by decide +kernel)
theorem im_De_checkDesk : (.instanceMethod y_De_checkDesk : Cond) ∈ tb_G := tb_in 432 (by decide +kernel) (by decide +kernel)
theorem cd_De_checkDesk : (.code y_De_checkDesk b_De_checkDesk 2 none : Cond) ∈ tb_G := tb_in 433 (by decide +kernel) (by decide +kernel)
theorem ml_La_La_bar : (.methodLink R_La 87 y_La_bar : Cond) ∈ tb_G := tb_in 436 (by decide +kernel) (by decide +kernel)
theorem sm_La_bar : (.static y_La_bar : Cond) ∈ tb_G := tb_in 437 (by decide +kernel) (by decide +kernel)
theorem cd_La_bar : (.codeWith y_La_bar b_La_bar 6 (some .int) [(0, 19, 22, 22)] : Cond) ∈ tb_G := tb_in 438 (by decide +kernel) (by decide +kernel)
theorem ml_La_De_bar : (.methodLink R_La 24 y_De_bar : Cond) ∈ tb_G := tb_in 439 (by decide +kernel) (by decide +kernel)
theorem im_De_bar : (.instanceMethod y_De_bar : Cond) ∈ tb_G := tb_in 440 (by decide +kernel) (by decide +kernel)
theorem cd_De_bar : (.code y_De_bar b_De_bar 5 (some .boolean) : Cond) ∈ tb_G := tb_in 442 (by decide +kernel) (by decide +kernel)
theorem ml_La_La_sits : (.methodLink R_La 91 y_La_sits : Cond) ∈ tb_G := tb_in 443 (by decide +kernel) (by decide +kernel)
theorem sm_La_sits : (.static y_La_sits : Cond) ∈ tb_G := tb_in 444 (by decide +kernel) (by decide +kernel)
theorem cd_La_sits : (.codeWith y_La_sits b_La_sits 5 (some .int) [(0, 10, 13, 22), (0, 10, 17, 13)] : Cond) ∈ tb_G := tb_in 445 (by decide +kernel) (by decide +kernel)
theorem ml_La_De_sits : (.methodLink R_La 28 y_De_sits : Cond) ∈ tb_G := tb_in 446 (by decide +kernel) (by decide +kernel)
theorem im_De_sits : (.instanceMethod y_De_sits : Cond) ∈ tb_G := tb_in 447 (by decide +kernel) (by decide +kernel)
theorem cd_De_sits : (.code y_De_sits b_De_sits 4 (some .int) : Cond) ∈ tb_G := tb_in 449 (by decide +kernel) (by decide +kernel)
theorem ml_De_De_checkNobodyElseHas : (.methodLink R_De 84 y_De_checkNobodyElseHas : Cond) ∈ tb_G := tb_in 450 (by decide +kernel) (by decide +kernel)
theorem im_De_checkNobodyElseHas : (.instanceMethod y_De_checkNobodyElseHas : Cond) ∈ tb_G := tb_in 452 (by decide +kernel) (by decide +kernel)
theorem cd_De_checkNobodyElseHas : (.code y_De_checkNobodyElseHas b_De_checkNobodyElseHas 4 none : Cond) ∈ tb_G := tb_in 453 (by decide +kernel) (by decide +kernel)
theorem ml_La_La_deskOf : (.methodLink R_La 99 y_La_deskOf : Cond) ∈ tb_G := tb_in 455 (by decide +kernel) (by decide +kernel)
theorem sm_La_deskOf : (.static y_La_deskOf : Cond) ∈ tb_G := tb_in 456 (by decide +kernel) (by decide +kernel)
theorem cd_La_deskOf : (.codeWith y_La_deskOf b_La_deskOf 4 (some .int) [(0, 9, 12, 22)] : Cond) ∈ tb_G := tb_in 457 (by decide +kernel) (by decide +kernel)
theorem ml_La_De_deskOf : (.methodLink R_La 32 y_De_deskOf : Cond) ∈ tb_G := tb_in 458 (by decide +kernel) (by decide +kernel)
theorem im_De_deskOf : (.instanceMethod y_De_deskOf : Cond) ∈ tb_G := tb_in 459 (by decide +kernel) (by decide +kernel)
theorem cd_De_deskOf : (.code y_De_deskOf b_De_deskOf 2 (some .int) : Cond) ∈ tb_G := tb_in 461 (by decide +kernel) (by decide +kernel)
theorem ml_La_La_steps : (.methodLink R_La 107 y_La_steps : Cond) ∈ tb_G := tb_in 462 (by decide +kernel) (by decide +kernel)
theorem sm_La_steps : (.static y_La_steps : Cond) ∈ tb_G := tb_in 463 (by decide +kernel) (by decide +kernel)
theorem cd_La_steps : (.codeWith y_La_steps b_La_steps 3 (some .int) [(0, 8, 11, 13)] : Cond) ∈ tb_G := tb_in 464 (by decide +kernel) (by decide +kernel)
theorem ml_La_De_steps : (.methodLink R_La 36 y_De_steps : Cond) ∈ tb_G := tb_in 465 (by decide +kernel) (by decide +kernel)
theorem im_De_steps : (.instanceMethod y_De_steps : Cond) ∈ tb_G := tb_in 466 (by decide +kernel) (by decide +kernel)
theorem cd_De_steps : (.code y_De_steps b_De_steps 1 (some .int) : Cond) ∈ tb_G := tb_in 468 (by decide +kernel) (by decide +kernel)
theorem ml_De_De_checkSeatingMade : (.methodLink R_De 112 y_De_checkSeatingMade : Cond) ∈ tb_G := tb_in 469 (by decide +kernel) (by decide +kernel)
theorem im_De_checkSeatingMade : (.instanceMethod y_De_checkSeatingMade : Cond) ∈ tb_G := tb_in 471 (by decide +kernel) (by decide +kernel)
theorem cd_De_checkSeatingMade : (.code y_De_checkSeatingMade b_De_checkSeatingMade 1 none : Cond) ∈ tb_G := tb_in 472 (by decide +kernel) (by decide +kernel)
theorem ml_La_La_step : (.methodLink R_La 110 y_La_step : Cond) ∈ tb_G := tb_in 474 (by decide +kernel) (by decide +kernel)
theorem sm_La_step : (.static y_La_step : Cond) ∈ tb_G := tb_in 475 (by decide +kernel) (by decide +kernel)
theorem cd_La_step : (.codeWith y_La_step b_La_step 5 (some .int) [(0, 10, 13, 22), (0, 10, 17, 13)] : Cond) ∈ tb_G := tb_in 476 (by decide +kernel) (by decide +kernel)
theorem ml_La_De_step : (.methodLink R_La 39 y_De_step : Cond) ∈ tb_G := tb_in 477 (by decide +kernel) (by decide +kernel)
theorem im_De_step : (.instanceMethod y_De_step : Cond) ∈ tb_G := tb_in 478 (by decide +kernel) (by decide +kernel)
theorem cd_De_step : (.code y_De_step b_De_step 3 (some .int) : Cond) ∈ tb_G := tb_in 480 (by decide +kernel) (by decide +kernel)
theorem ml_La_La_settle : (.methodLink R_La 113 y_La_settle : Cond) ∈ tb_G := tb_in 483 (by decide +kernel) (by decide +kernel)
theorem sm_La_settle : (.static y_La_settle : Cond) ∈ tb_G := tb_in 484 (by decide +kernel) (by decide +kernel)
theorem cd_La_settle : (.codeWith y_La_settle b_La_settle 3 (some .int) [(0, 8, 11, 13)] : Cond) ∈ tb_G := tb_in 485 (by decide +kernel) (by decide +kernel)
theorem ml_La_De_settle : (.methodLink R_La 42 y_De_settle : Cond) ∈ tb_G := tb_in 486 (by decide +kernel) (by decide +kernel)
theorem im_De_settle : (.instanceMethod y_De_settle : Cond) ∈ tb_G := tb_in 487 (by decide +kernel) (by decide +kernel)
theorem cd_De_settle : (.code y_De_settle b_De_settle 4 (some .int) : Cond) ∈ tb_G := tb_in 489 (by decide +kernel) (by decide +kernel)
theorem ml_La_La_worthOf : (.methodLink R_La 116 y_La_worthOf : Cond) ∈ tb_G := tb_in 490 (by decide +kernel) (by decide +kernel)
theorem sm_La_worthOf : (.static y_La_worthOf : Cond) ∈ tb_G := tb_in 491 (by decide +kernel) (by decide +kernel)
theorem cd_La_worthOf : (.codeWith y_La_worthOf b_La_worthOf 4 (some .int) [(0, 9, 12, 22), (0, 9, 15, 13)] : Cond) ∈ tb_G := tb_in 492 (by decide +kernel) (by decide +kernel)
theorem ml_La_De_worthOf : (.methodLink R_La 45 y_De_worthOf : Cond) ∈ tb_G := tb_in 493 (by decide +kernel) (by decide +kernel)
theorem im_De_worthOf : (.instanceMethod y_De_worthOf : Cond) ∈ tb_G := tb_in 494 (by decide +kernel) (by decide +kernel)
theorem cd_De_worthOf : (.code y_De_worthOf b_De_worthOf 2 (some .int) : Cond) ∈ tb_G := tb_in 496 (by decide +kernel) (by decide +kernel)
theorem ml_La_La_room : (.methodLink R_La 119 y_La_room : Cond) ∈ tb_G := tb_in 497 (by decide +kernel) (by decide +kernel)
theorem sm_La_room : (.static y_La_room : Cond) ∈ tb_G := tb_in 498 (by decide +kernel) (by decide +kernel)
theorem cd_La_room : (.codeWith y_La_room b_La_room 4 (some .int) [(0, 9, 12, 22), (0, 9, 15, 13)] : Cond) ∈ tb_G := tb_in 499 (by decide +kernel) (by decide +kernel)
theorem ml_La_De_room : (.methodLink R_La 48 y_De_room : Cond) ∈ tb_G := tb_in 500 (by decide +kernel) (by decide +kernel)
theorem im_De_room : (.instanceMethod y_De_room : Cond) ∈ tb_G := tb_in 501 (by decide +kernel) (by decide +kernel)
theorem cd_De_room : (.code y_De_room b_De_room 2 (some .int) : Cond) ∈ tb_G := tb_in 503 (by decide +kernel) (by decide +kernel)
theorem ml_La_La_book : (.methodLink R_La 122 y_La_book : Cond) ∈ tb_G := tb_in 506 (by decide +kernel) (by decide +kernel)
theorem sm_La_book : (.static y_La_book : Cond) ∈ tb_G := tb_in 507 (by decide +kernel) (by decide +kernel)
theorem cd_La_book : (.codeWith y_La_book b_La_book 6 (some .int) [(0, 12, 15, 22), (0, 12, 19, 13)] : Cond) ∈ tb_G := tb_in 508 (by decide +kernel) (by decide +kernel)
theorem ml_La_De_book : (.methodLink R_La 51 y_De_book : Cond) ∈ tb_G := tb_in 509 (by decide +kernel) (by decide +kernel)
theorem im_De_book : (.instanceMethod y_De_book : Cond) ∈ tb_G := tb_in 510 (by decide +kernel) (by decide +kernel)
theorem cd_De_book : (.code y_De_book b_De_book 6 (some .int) : Cond) ∈ tb_G := tb_in 512 (by decide +kernel) (by decide +kernel)
theorem ml_De_De_bestRoom : (.methodLink R_De 153 y_De_bestRoom : Cond) ∈ tb_G := tb_in 516 (by decide +kernel) (by decide +kernel)
theorem im_De_bestRoom : (.instanceMethod y_De_bestRoom : Cond) ∈ tb_G := tb_in 518 (by decide +kernel) (by decide +kernel)
theorem cd_De_bestRoom : (.code y_De_bestRoom b_De_bestRoom 8 (some (.object "DeskMoves$Room")) : Cond) ∈ tb_G := tb_in 519 (by decide +kernel) (by decide +kernel)
theorem ml_De_Ro_bookingWithin : (.methodLink R_De 186 y_Ro_bookingWithin : Cond) ∈ tb_G := tb_in 520 (by decide +kernel) (by decide +kernel)
theorem im_Ro_bookingWithin : (.instanceMethod y_Ro_bookingWithin : Cond) ∈ tb_G := tb_in 521 (by decide +kernel) (by decide +kernel)
theorem cd_Ro_bookingWithin : (.code y_Ro_bookingWithin b_Ro_bookingWithin 4 (some (.object "DeskMoves$Booking")) : Cond) ∈ tb_G := tb_in 523 (by decide +kernel) (by decide +kernel)
theorem nn_Bk : (.instantiable R_Bk 6 : Cond) ∈ tb_G := tb_in 524 (by decide +kernel) (by decide +kernel)
theorem ml_De_Bk_init : (.methodLink R_De 157 y_Bk_init : Cond) ∈ tb_G := tb_in 525 (by decide +kernel) (by decide +kernel)
theorem im_Bk_init : (.instanceMethod y_Bk_init : Cond) ∈ tb_G := tb_in 526 (by decide +kernel) (by decide +kernel)
theorem cd_Bk_init : (.code y_Bk_init b_Bk_init 6 none : Cond) ∈ tb_G := tb_in 527 (by decide +kernel) (by decide +kernel)
theorem ml_Bk_Ob_init : (.methodLink R_Bk 1 objectInit : Cond) ∈ tb_G := tb_in 528 (by decide +kernel) (by decide +kernel)
theorem fl_Bk_Bk_number : (.fieldLink R_Bk 7 "DeskMoves$Booking" "number" "I" : Cond) ∈ tb_G := tb_in 529 (by decide +kernel) (by decide +kernel)
theorem fl_De_Bk_number : (.fieldLink R_De 164 "DeskMoves$Booking" "number" "I" : Cond) ∈ tb_G := tb_in 530 (by decide +kernel) (by decide +kernel)
theorem fl_Bk_Bk_bookedRoom : (.fieldLink R_Bk 13 "DeskMoves$Booking" "bookedRoom" "LDeskMoves$Room;" : Cond) ∈ tb_G := tb_in 531 (by decide +kernel) (by decide +kernel)
theorem fl_De_Bk_bookedRoom : (.fieldLink R_De 171 "DeskMoves$Booking" "bookedRoom" "LDeskMoves$Room;" : Cond) ∈ tb_G := tb_in 532 (by decide +kernel) (by decide +kernel)
theorem fl_Bk_Bk_from : (.fieldLink R_Bk 17 "DeskMoves$Booking" "from" "I" : Cond) ∈ tb_G := tb_in 533 (by decide +kernel) (by decide +kernel)
theorem fl_Ro_Bk_from : (.fieldLink R_Ro 17 "DeskMoves$Booking" "from" "I" : Cond) ∈ tb_G := tb_in 534 (by decide +kernel) (by decide +kernel)
theorem fl_Bk_Bk_to : (.fieldLink R_Bk 20 "DeskMoves$Booking" "to" "I" : Cond) ∈ tb_G := tb_in 535 (by decide +kernel) (by decide +kernel)
theorem fl_Ro_Bk_to : (.fieldLink R_Ro 22 "DeskMoves$Booking" "to" "I" : Cond) ∈ tb_G := tb_in 536 (by decide +kernel) (by decide +kernel)
theorem fl_Bk_Bk_heads : (.fieldLink R_Bk 23 "DeskMoves$Booking" "heads" "I" : Cond) ∈ tb_G := tb_in 537 (by decide +kernel) (by decide +kernel)
theorem fl_Ro_Bk_heads : (.fieldLink R_Ro 31 "DeskMoves$Booking" "heads" "I" : Cond) ∈ tb_G := tb_in 538 (by decide +kernel) (by decide +kernel)
theorem fl_Ro_Bk_next : (.fieldLink R_Ro 25 "DeskMoves$Booking" "next" "LDeskMoves$Booking;" : Cond) ∈ tb_G := tb_in 539 (by decide +kernel) (by decide +kernel)
theorem ml_De_Ro_add : (.methodLink R_De 160 y_Ro_add : Cond) ∈ tb_G := tb_in 553 (by decide +kernel) (by decide +kernel)
theorem im_Ro_add : (.instanceMethod y_Ro_add : Cond) ∈ tb_G := tb_in 554 (by decide +kernel) (by decide +kernel)
theorem cd_Ro_add : (.code y_Ro_add b_Ro_add 4 none : Cond) ∈ tb_G := tb_in 556 (by decide +kernel) (by decide +kernel)
theorem ml_La_La_cancel : (.methodLink R_La 125 y_La_cancel : Cond) ∈ tb_G := tb_in 557 (by decide +kernel) (by decide +kernel)
theorem sm_La_cancel : (.static y_La_cancel : Cond) ∈ tb_G := tb_in 558 (by decide +kernel) (by decide +kernel)
theorem cd_La_cancel : (.codeWith y_La_cancel b_La_cancel 4 (some .int) [(0, 16, 19, 22)] : Cond) ∈ tb_G := tb_in 559 (by decide +kernel) (by decide +kernel)
theorem ml_La_De_cancel : (.methodLink R_La 54 y_De_cancel : Cond) ∈ tb_G := tb_in 560 (by decide +kernel) (by decide +kernel)
theorem im_De_cancel : (.instanceMethod y_De_cancel : Cond) ∈ tb_G := tb_in 561 (by decide +kernel) (by decide +kernel)
theorem cd_De_cancel : (.code y_De_cancel b_De_cancel 3 (some .boolean) : Cond) ∈ tb_G := tb_in 563 (by decide +kernel) (by decide +kernel)
theorem ml_De_De_bookingNumbered : (.methodLink R_De 167 y_De_bookingNumbered : Cond) ∈ tb_G := tb_in 564 (by decide +kernel) (by decide +kernel)
theorem im_De_bookingNumbered : (.instanceMethod y_De_bookingNumbered : Cond) ∈ tb_G := tb_in 566 (by decide +kernel) (by decide +kernel)
theorem cd_De_bookingNumbered : (.code y_De_bookingNumbered b_De_bookingNumbered 3 (some (.object "DeskMoves$Booking")) : Cond) ∈ tb_G := tb_in 567 (by decide +kernel) (by decide +kernel)
theorem ml_De_Ro_remove : (.methodLink R_De 175 y_Ro_remove : Cond) ∈ tb_G := tb_in 569 (by decide +kernel) (by decide +kernel)
theorem im_Ro_remove : (.instanceMethod y_Ro_remove : Cond) ∈ tb_G := tb_in 570 (by decide +kernel) (by decide +kernel)
theorem cd_Ro_remove : (.code y_Ro_remove b_Ro_remove 3 (some .boolean) : Cond) ∈ tb_G := tb_in 572 (by decide +kernel) (by decide +kernel)
theorem ml_La_La_roomOf : (.methodLink R_La 128 y_La_roomOf : Cond) ∈ tb_G := tb_in 573 (by decide +kernel) (by decide +kernel)
theorem sm_La_roomOf : (.static y_La_roomOf : Cond) ∈ tb_G := tb_in 574 (by decide +kernel) (by decide +kernel)
theorem cd_La_roomOf : (.codeWith y_La_roomOf b_La_roomOf 4 (some .int) [(0, 9, 12, 22)] : Cond) ∈ tb_G := tb_in 575 (by decide +kernel) (by decide +kernel)
theorem ml_La_De_roomOf : (.methodLink R_La 58 y_De_roomOf : Cond) ∈ tb_G := tb_in 576 (by decide +kernel) (by decide +kernel)
theorem im_De_roomOf : (.instanceMethod y_De_roomOf : Cond) ∈ tb_G := tb_in 577 (by decide +kernel) (by decide +kernel)
theorem cd_De_roomOf : (.code y_De_roomOf b_De_roomOf 2 (some .int) : Cond) ∈ tb_G := tb_in 579 (by decide +kernel) (by decide +kernel)
theorem ml_La_La_inside : (.methodLink R_La 131 y_La_inside : Cond) ∈ tb_G := tb_in 580 (by decide +kernel) (by decide +kernel)
theorem sm_La_inside : (.static y_La_inside : Cond) ∈ tb_G := tb_in 581 (by decide +kernel) (by decide +kernel)
theorem cd_La_inside : (.codeWith y_La_inside b_La_inside 5 (some .int) [(0, 10, 13, 22)] : Cond) ∈ tb_G := tb_in 582 (by decide +kernel) (by decide +kernel)
theorem ml_La_De_inside : (.methodLink R_La 61 y_De_inside : Cond) ∈ tb_G := tb_in 583 (by decide +kernel) (by decide +kernel)
theorem im_De_inside : (.instanceMethod y_De_inside : Cond) ∈ tb_G := tb_in 584 (by decide +kernel) (by decide +kernel)
theorem cd_De_inside : (.code y_De_inside b_De_inside 4 (some .int) : Cond) ∈ tb_G := tb_in 586 (by decide +kernel) (by decide +kernel)
theorem ml_De_De_checkRoom : (.methodLink R_De 180 y_De_checkRoom : Cond) ∈ tb_G := tb_in 587 (by decide +kernel) (by decide +kernel)
theorem im_De_checkRoom : (.instanceMethod y_De_checkRoom : Cond) ∈ tb_G := tb_in 589 (by decide +kernel) (by decide +kernel)
theorem cd_De_checkRoom : (.code y_De_checkRoom b_De_checkRoom 2 none : Cond) ∈ tb_G := tb_in 590 (by decide +kernel) (by decide +kernel)
theorem ml_De_De_checkMinute : (.methodLink R_De 183 y_De_checkMinute : Cond) ∈ tb_G := tb_in 592 (by decide +kernel) (by decide +kernel)
theorem im_De_checkMinute : (.instanceMethod y_De_checkMinute : Cond) ∈ tb_G := tb_in 594 (by decide +kernel) (by decide +kernel)
theorem cd_De_checkMinute : (.code y_De_checkMinute b_De_checkMinute 2 none : Cond) ∈ tb_G := tb_in 595 (by decide +kernel) (by decide +kernel)
theorem ml_La_La_gap : (.methodLink R_La 134 y_La_gap : Cond) ∈ tb_G := tb_in 597 (by decide +kernel) (by decide +kernel)
theorem sm_La_gap : (.static y_La_gap : Cond) ∈ tb_G := tb_in 598 (by decide +kernel) (by decide +kernel)
theorem cd_La_gap : (.codeWith y_La_gap b_La_gap 6 (some .int) [(0, 12, 15, 22)] : Cond) ∈ tb_G := tb_in 599 (by decide +kernel) (by decide +kernel)
theorem ml_La_De_gap : (.methodLink R_La 64 y_De_gap : Cond) ∈ tb_G := tb_in 600 (by decide +kernel) (by decide +kernel)
theorem im_De_gap : (.instanceMethod y_De_gap : Cond) ∈ tb_G := tb_in 601 (by decide +kernel) (by decide +kernel)
theorem cd_De_gap : (.code y_De_gap b_De_gap 5 (some .int) : Cond) ∈ tb_G := tb_in 603 (by decide +kernel) (by decide +kernel)
theorem ml_De_Ro_firstFree : (.methodLink R_De 192 y_Ro_firstFree : Cond) ∈ tb_G := tb_in 605 (by decide +kernel) (by decide +kernel)
theorem im_Ro_firstFree : (.instanceMethod y_Ro_firstFree : Cond) ∈ tb_G := tb_in 606 (by decide +kernel) (by decide +kernel)
theorem cd_Ro_firstFree : (.code y_Ro_firstFree b_Ro_firstFree 5 (some .int) : Cond) ∈ tb_G := tb_in 608 (by decide +kernel) (by decide +kernel)
theorem cl_La_Mo : (.classLink R_La 68 R_Mo : Cond) ∈ tb_G := tb_in 609 (by decide +kernel) (by decide +kernel)
theorem nn_Mo : (.instantiable R_Mo 24 : Cond) ∈ tb_G := tb_in 610 (by decide +kernel) (by decide +kernel)
theorem ml_La_Mo_init : (.methodLink R_La 70 y_Mo_init : Cond) ∈ tb_G := tb_in 611 (by decide +kernel) (by decide +kernel)
theorem im_Mo_init : (.instanceMethod y_Mo_init : Cond) ∈ tb_G := tb_in 612 (by decide +kernel) (by decide +kernel)
theorem cd_Mo_init : (.code y_Mo_init b_Mo_init 1 none : Cond) ∈ tb_G := tb_in 613 (by decide +kernel) (by decide +kernel)
theorem ml_Mo_Ob_init : (.methodLink R_Mo 1 objectInit : Cond) ∈ tb_G := tb_in 614 (by decide +kernel) (by decide +kernel)
theorem fl_Mo_Mo_thrown : (.fieldLink R_Mo 57 "DeskMovesModel" "thrown" "I" : Cond) ∈ tb_G := tb_in 615 (by decide +kernel) (by decide +kernel)
theorem fl_Mo_Mo_desks : (.fieldLink R_Mo 53 "DeskMovesModel" "desks" "I" : Cond) ∈ tb_G := tb_in 616 (by decide +kernel) (by decide +kernel)
theorem fl_Mo_Mo_persons : (.fieldLink R_Mo 60 "DeskMovesModel" "persons" "I" : Cond) ∈ tb_G := tb_in 617 (by decide +kernel) (by decide +kernel)
theorem fl_Mo_Mo_wishes : (.fieldLink R_Mo 7 "DeskMovesModel" "wishes" "[I" : Cond) ∈ tb_G := tb_in 618 (by decide +kernel) (by decide +kernel)
theorem fl_Mo_Mo_barred : (.fieldLink R_Mo 13 "DeskMovesModel" "barred" "[Z" : Cond) ∈ tb_G := tb_in 619 (by decide +kernel) (by decide +kernel)
theorem fl_Mo_Mo_olds : (.fieldLink R_Mo 17 "DeskMovesModel" "olds" "[I" : Cond) ∈ tb_G := tb_in 620 (by decide +kernel) (by decide +kernel)
theorem fl_Mo_Mo_made : (.fieldLink R_Mo 70 "DeskMovesModel" "made" "Z" : Cond) ∈ tb_G := tb_in 621 (by decide +kernel) (by decide +kernel)
theorem fl_Mo_Mo_worth : (.fieldLink R_Mo 103 "DeskMovesModel" "worth" "I" : Cond) ∈ tb_G := tb_in 622 (by decide +kernel) (by decide +kernel)
theorem fl_Mo_Mo_seats : (.fieldLink R_Mo 20 "DeskMovesModel" "seats" "[I" : Cond) ∈ tb_G := tb_in 623 (by decide +kernel) (by decide +kernel)
theorem fl_Mo_Mo_best : (.fieldLink R_Mo 23 "DeskMovesModel" "best" "[I" : Cond) ∈ tb_G := tb_in 624 (by decide +kernel) (by decide +kernel)
theorem fl_Mo_Mo_order : (.fieldLink R_Mo 26 "DeskMovesModel" "order" "[I" : Cond) ∈ tb_G := tb_in 625 (by decide +kernel) (by decide +kernel)
theorem fl_Mo_Mo_many : (.fieldLink R_Mo 85 "DeskMovesModel" "many" "I" : Cond) ∈ tb_G := tb_in 626 (by decide +kernel) (by decide +kernel)
theorem fl_Mo_Mo_gone : (.fieldLink R_Mo 109 "DeskMovesModel" "gone" "I" : Cond) ∈ tb_G := tb_in 627 (by decide +kernel) (by decide +kernel)
theorem fl_Mo_Mo_stuck : (.fieldLink R_Mo 119 "DeskMovesModel" "stuck" "Z" : Cond) ∈ tb_G := tb_in 628 (by decide +kernel) (by decide +kernel)
theorem fl_Mo_Mo_path : (.fieldLink R_Mo 29 "DeskMovesModel" "path" "[I" : Cond) ∈ tb_G := tb_in 629 (by decide +kernel) (by decide +kernel)
theorem fl_Mo_Mo_place : (.fieldLink R_Mo 32 "DeskMovesModel" "place" "[I" : Cond) ∈ tb_G := tb_in 630 (by decide +kernel) (by decide +kernel)
theorem fl_Mo_Mo_rooms : (.fieldLink R_Mo 67 "DeskMovesModel" "rooms" "I" : Cond) ∈ tb_G := tb_in 631 (by decide +kernel) (by decide +kernel)
theorem fl_Mo_Mo_places : (.fieldLink R_Mo 35 "DeskMovesModel" "places" "[I" : Cond) ∈ tb_G := tb_in 632 (by decide +kernel) (by decide +kernel)
theorem fl_Mo_Mo_bookings : (.fieldLink R_Mo 126 "DeskMovesModel" "bookings" "I" : Cond) ∈ tb_G := tb_in 633 (by decide +kernel) (by decide +kernel)
theorem fl_Mo_Mo_room : (.fieldLink R_Mo 38 "DeskMovesModel" "room" "[I" : Cond) ∈ tb_G := tb_in 634 (by decide +kernel) (by decide +kernel)
theorem fl_Mo_Mo_from : (.fieldLink R_Mo 41 "DeskMovesModel" "from" "[I" : Cond) ∈ tb_G := tb_in 635 (by decide +kernel) (by decide +kernel)
theorem fl_Mo_Mo_to : (.fieldLink R_Mo 44 "DeskMovesModel" "to" "[I" : Cond) ∈ tb_G := tb_in 636 (by decide +kernel) (by decide +kernel)
theorem fl_Mo_Mo_left : (.fieldLink R_Mo 47 "DeskMovesModel" "left" "[I" : Cond) ∈ tb_G := tb_in 637 (by decide +kernel) (by decide +kernel)
theorem fl_Mo_Mo_there : (.fieldLink R_Mo 50 "DeskMovesModel" "there" "[Z" : Cond) ∈ tb_G := tb_in 638 (by decide +kernel) (by decide +kernel)
theorem ml_La_Mo_thrown : (.methodLink R_La 77 y_Mo_thrown : Cond) ∈ tb_G := tb_in 688 (by decide +kernel) (by decide +kernel)
theorem im_Mo_thrown : (.instanceMethod y_Mo_thrown : Cond) ∈ tb_G := tb_in 689 (by decide +kernel) (by decide +kernel)
theorem cd_Mo_thrown : (.code y_Mo_thrown b_Mo_thrown 1 (some .int) : Cond) ∈ tb_G := tb_in 691 (by decide +kernel) (by decide +kernel)
theorem ml_La_Mo_desk : (.methodLink R_La 76 y_Mo_desk : Cond) ∈ tb_G := tb_in 692 (by decide +kernel) (by decide +kernel)
theorem im_Mo_desk : (.instanceMethod y_Mo_desk : Cond) ∈ tb_G := tb_in 693 (by decide +kernel) (by decide +kernel)
theorem cd_Mo_desk : (.code y_Mo_desk b_Mo_desk 1 (some .int) : Cond) ∈ tb_G := tb_in 695 (by decide +kernel) (by decide +kernel)
theorem ml_La_Mo_person : (.methodLink R_La 82 y_Mo_person : Cond) ∈ tb_G := tb_in 696 (by decide +kernel) (by decide +kernel)
theorem im_Mo_person : (.instanceMethod y_Mo_person : Cond) ∈ tb_G := tb_in 697 (by decide +kernel) (by decide +kernel)
theorem cd_Mo_person : (.code y_Mo_person b_Mo_person 1 (some .int) : Cond) ∈ tb_G := tb_in 699 (by decide +kernel) (by decide +kernel)
theorem ml_La_Mo_wish : (.methodLink R_La 86 y_Mo_wish : Cond) ∈ tb_G := tb_in 700 (by decide +kernel) (by decide +kernel)
theorem im_Mo_wish : (.instanceMethod y_Mo_wish : Cond) ∈ tb_G := tb_in 701 (by decide +kernel) (by decide +kernel)
theorem cd_Mo_wish : (.code y_Mo_wish b_Mo_wish 5 (some .int) : Cond) ∈ tb_G := tb_in 703 (by decide +kernel) (by decide +kernel)
theorem ml_Mo_Mo_isPerson : (.methodLink R_Mo 74 y_Mo_isPerson : Cond) ∈ tb_G := tb_in 704 (by decide +kernel) (by decide +kernel)
theorem im_Mo_isPerson : (.instanceMethod y_Mo_isPerson : Cond) ∈ tb_G := tb_in 706 (by decide +kernel) (by decide +kernel)
theorem cd_Mo_isPerson : (.code y_Mo_isPerson b_Mo_isPerson 2 (some .boolean) : Cond) ∈ tb_G := tb_in 707 (by decide +kernel) (by decide +kernel)
theorem ml_Mo_Mo_in : (.methodLink R_Mo 63 y_Mo_in : Cond) ∈ tb_G := tb_in 708 (by decide +kernel) (by decide +kernel)
theorem sm_Mo_in : (.static y_Mo_in : Cond) ∈ tb_G := tb_in 709 (by decide +kernel) (by decide +kernel)
theorem cd_Mo_in : (.code y_Mo_in b_Mo_in 3 (some .boolean) : Cond) ∈ tb_G := tb_in 710 (by decide +kernel) (by decide +kernel)
theorem ml_Mo_Mo_isDesk : (.methodLink R_Mo 78 y_Mo_isDesk : Cond) ∈ tb_G := tb_in 711 (by decide +kernel) (by decide +kernel)
theorem im_Mo_isDesk : (.instanceMethod y_Mo_isDesk : Cond) ∈ tb_G := tb_in 713 (by decide +kernel) (by decide +kernel)
theorem cd_Mo_isDesk : (.code y_Mo_isDesk b_Mo_isDesk 2 (some .boolean) : Cond) ∈ tb_G := tb_in 714 (by decide +kernel) (by decide +kernel)
theorem ml_La_Mo_bar : (.methodLink R_La 90 y_Mo_bar : Cond) ∈ tb_G := tb_in 715 (by decide +kernel) (by decide +kernel)
theorem im_Mo_bar : (.instanceMethod y_Mo_bar : Cond) ∈ tb_G := tb_in 716 (by decide +kernel) (by decide +kernel)
theorem cd_Mo_bar : (.code y_Mo_bar b_Mo_bar 5 (some .boolean) : Cond) ∈ tb_G := tb_in 718 (by decide +kernel) (by decide +kernel)
theorem ml_La_Mo_sits : (.methodLink R_La 94 y_Mo_sits : Cond) ∈ tb_G := tb_in 719 (by decide +kernel) (by decide +kernel)
theorem im_Mo_sits : (.instanceMethod y_Mo_sits : Cond) ∈ tb_G := tb_in 720 (by decide +kernel) (by decide +kernel)
theorem cd_Mo_sits : (.code y_Mo_sits b_Mo_sits 4 (some .int) : Cond) ∈ tb_G := tb_in 722 (by decide +kernel) (by decide +kernel)
theorem ml_La_Mo_seat : (.methodLink R_La 98 y_Mo_seat : Cond) ∈ tb_G := tb_in 723 (by decide +kernel) (by decide +kernel)
theorem im_Mo_seat : (.instanceMethod y_Mo_seat : Cond) ∈ tb_G := tb_in 724 (by decide +kernel) (by decide +kernel)
theorem cd_Mo_seat : (.code y_Mo_seat b_Mo_seat 5 (some .int) : Cond) ∈ tb_G := tb_in 726 (by decide +kernel) (by decide +kernel)
theorem ml_Mo_Mo_findBest : (.methodLink R_Mo 97 y_Mo_findBest : Cond) ∈ tb_G := tb_in 727 (by decide +kernel) (by decide +kernel)
theorem im_Mo_findBest : (.instanceMethod y_Mo_findBest : Cond) ∈ tb_G := tb_in 729 (by decide +kernel) (by decide +kernel)
theorem cd_Mo_findBest : (.code y_Mo_findBest b_Mo_findBest 8 (some .int) : Cond) ∈ tb_G := tb_in 730 (by decide +kernel) (by decide +kernel)
theorem ml_Mo_Mo_bits : (.methodLink R_Mo 88 y_Mo_bits : Cond) ∈ tb_G := tb_in 731 (by decide +kernel) (by decide +kernel)
theorem sm_Mo_bits : (.static y_Mo_bits : Cond) ∈ tb_G := tb_in 732 (by decide +kernel) (by decide +kernel)
theorem cd_Mo_bits : (.code y_Mo_bits b_Mo_bits 3 (some .int) : Cond) ∈ tb_G := tb_in 733 (by decide +kernel) (by decide +kernel)
theorem ki_Mo_m1000000000 : (.constant R_Mo 92 (-1000000000) : Cond) ∈ tb_G := tb_in 734 (by decide +kernel) (by decide +kernel)
theorem ml_Mo_Mo_value : (.methodLink R_Mo 93 y_Mo_value : Cond) ∈ tb_G := tb_in 735 (by decide +kernel) (by decide +kernel)
theorem im_Mo_value : (.instanceMethod y_Mo_value : Cond) ∈ tb_G := tb_in 737 (by decide +kernel) (by decide +kernel)
theorem cd_Mo_value : (.code y_Mo_value b_Mo_value 3 (some .int) : Cond) ∈ tb_G := tb_in 738 (by decide +kernel) (by decide +kernel)
theorem ml_Mo_Mo_isMove : (.methodLink R_Mo 81 y_Mo_isMove : Cond) ∈ tb_G := tb_in 739 (by decide +kernel) (by decide +kernel)
theorem im_Mo_isMove : (.instanceMethod y_Mo_isMove : Cond) ∈ tb_G := tb_in 741 (by decide +kernel) (by decide +kernel)
theorem cd_Mo_isMove : (.code y_Mo_isMove b_Mo_isMove 3 (some .boolean) : Cond) ∈ tb_G := tb_in 742 (by decide +kernel) (by decide +kernel)
theorem ml_Mo_Mo_worthIn : (.methodLink R_Mo 100 y_Mo_worthIn : Cond) ∈ tb_G := tb_in 743 (by decide +kernel) (by decide +kernel)
theorem sm_Mo_worthIn : (.static y_Mo_worthIn : Cond) ∈ tb_G := tb_in 744 (by decide +kernel) (by decide +kernel)
theorem cd_Mo_worthIn : (.code y_Mo_worthIn b_Mo_worthIn 1 (some .int) : Cond) ∈ tb_G := tb_in 745 (by decide +kernel) (by decide +kernel)
theorem ml_Mo_Mo_walk : (.methodLink R_Mo 106 y_Mo_walk : Cond) ∈ tb_G := tb_in 746 (by decide +kernel) (by decide +kernel)
theorem im_Mo_walk : (.instanceMethod y_Mo_walk : Cond) ∈ tb_G := tb_in 748 (by decide +kernel) (by decide +kernel)
theorem cd_Mo_walk : (.code y_Mo_walk b_Mo_walk 2 none : Cond) ∈ tb_G := tb_in 749 (by decide +kernel) (by decide +kernel)
theorem ml_Mo_Mo_goes : (.methodLink R_Mo 122 y_Mo_goes : Cond) ∈ tb_G := tb_in 750 (by decide +kernel) (by decide +kernel)
theorem im_Mo_goes : (.instanceMethod y_Mo_goes : Cond) ∈ tb_G := tb_in 752 (by decide +kernel) (by decide +kernel)
theorem cd_Mo_goes : (.code y_Mo_goes b_Mo_goes 3 (some .boolean) : Cond) ∈ tb_G := tb_in 753 (by decide +kernel) (by decide +kernel)
theorem ml_Mo_Mo_isFree : (.methodLink R_Mo 112 y_Mo_isFree : Cond) ∈ tb_G := tb_in 754 (by decide +kernel) (by decide +kernel)
theorem im_Mo_isFree : (.instanceMethod y_Mo_isFree : Cond) ∈ tb_G := tb_in 756 (by decide +kernel) (by decide +kernel)
theorem cd_Mo_isFree : (.code y_Mo_isFree b_Mo_isFree 4 (some .boolean) : Cond) ∈ tb_G := tb_in 757 (by decide +kernel) (by decide +kernel)
theorem ml_Mo_Mo_go : (.methodLink R_Mo 115 y_Mo_go : Cond) ∈ tb_G := tb_in 758 (by decide +kernel) (by decide +kernel)
theorem im_Mo_go : (.instanceMethod y_Mo_go : Cond) ∈ tb_G := tb_in 760 (by decide +kernel) (by decide +kernel)
theorem cd_Mo_go : (.code y_Mo_go b_Mo_go 3 none : Cond) ∈ tb_G := tb_in 761 (by decide +kernel) (by decide +kernel)
theorem ml_La_Mo_deskOf : (.methodLink R_La 102 y_Mo_deskOf : Cond) ∈ tb_G := tb_in 762 (by decide +kernel) (by decide +kernel)
theorem im_Mo_deskOf : (.instanceMethod y_Mo_deskOf : Cond) ∈ tb_G := tb_in 763 (by decide +kernel) (by decide +kernel)
theorem cd_Mo_deskOf : (.code y_Mo_deskOf b_Mo_deskOf 2 (some .int) : Cond) ∈ tb_G := tb_in 765 (by decide +kernel) (by decide +kernel)
theorem ml_La_Mo_moved : (.methodLink R_La 106 y_Mo_moved : Cond) ∈ tb_G := tb_in 766 (by decide +kernel) (by decide +kernel)
theorem im_Mo_moved : (.instanceMethod y_Mo_moved : Cond) ∈ tb_G := tb_in 767 (by decide +kernel) (by decide +kernel)
theorem cd_Mo_moved : (.code y_Mo_moved b_Mo_moved 3 (some .int) : Cond) ∈ tb_G := tb_in 769 (by decide +kernel) (by decide +kernel)
theorem ml_La_Mo_worthOf : (.methodLink R_La 118 y_Mo_worthOf : Cond) ∈ tb_G := tb_in 770 (by decide +kernel) (by decide +kernel)
theorem im_Mo_worthOf : (.instanceMethod y_Mo_worthOf : Cond) ∈ tb_G := tb_in 771 (by decide +kernel) (by decide +kernel)
theorem cd_Mo_worthOf : (.code y_Mo_worthOf b_Mo_worthOf 2 (some .int) : Cond) ∈ tb_G := tb_in 773 (by decide +kernel) (by decide +kernel)
theorem ml_La_Mo_settle : (.methodLink R_La 115 y_Mo_settle : Cond) ∈ tb_G := tb_in 774 (by decide +kernel) (by decide +kernel)
theorem im_Mo_settle : (.instanceMethod y_Mo_settle : Cond) ∈ tb_G := tb_in 775 (by decide +kernel) (by decide +kernel)
theorem cd_Mo_settle : (.code y_Mo_settle b_Mo_settle 3 (some .int) : Cond) ∈ tb_G := tb_in 777 (by decide +kernel) (by decide +kernel)
theorem ml_La_Mo_steps : (.methodLink R_La 109 y_Mo_steps : Cond) ∈ tb_G := tb_in 778 (by decide +kernel) (by decide +kernel)
theorem im_Mo_steps : (.instanceMethod y_Mo_steps : Cond) ∈ tb_G := tb_in 779 (by decide +kernel) (by decide +kernel)
theorem cd_Mo_steps : (.code y_Mo_steps b_Mo_steps 1 (some .int) : Cond) ∈ tb_G := tb_in 781 (by decide +kernel) (by decide +kernel)
theorem ml_La_Mo_step : (.methodLink R_La 112 y_Mo_step : Cond) ∈ tb_G := tb_in 782 (by decide +kernel) (by decide +kernel)
theorem im_Mo_step : (.instanceMethod y_Mo_step : Cond) ∈ tb_G := tb_in 783 (by decide +kernel) (by decide +kernel)
theorem cd_Mo_step : (.code y_Mo_step b_Mo_step 3 (some .int) : Cond) ∈ tb_G := tb_in 785 (by decide +kernel) (by decide +kernel)
theorem ml_La_Mo_room : (.methodLink R_La 121 y_Mo_room : Cond) ∈ tb_G := tb_in 786 (by decide +kernel) (by decide +kernel)
theorem im_Mo_room : (.instanceMethod y_Mo_room : Cond) ∈ tb_G := tb_in 787 (by decide +kernel) (by decide +kernel)
theorem cd_Mo_room : (.code y_Mo_room b_Mo_room 2 (some .int) : Cond) ∈ tb_G := tb_in 789 (by decide +kernel) (by decide +kernel)
theorem ml_La_Mo_book : (.methodLink R_La 124 y_Mo_book : Cond) ∈ tb_G := tb_in 790 (by decide +kernel) (by decide +kernel)
theorem im_Mo_book : (.instanceMethod y_Mo_book : Cond) ∈ tb_G := tb_in 791 (by decide +kernel) (by decide +kernel)
theorem cd_Mo_book : (.code y_Mo_book b_Mo_book 6 (some .int) : Cond) ∈ tb_G := tb_in 793 (by decide +kernel) (by decide +kernel)
theorem ml_Mo_Mo_meeting : (.methodLink R_Mo 129 y_Mo_meeting : Cond) ∈ tb_G := tb_in 794 (by decide +kernel) (by decide +kernel)
theorem im_Mo_meeting : (.instanceMethod y_Mo_meeting : Cond) ∈ tb_G := tb_in 796 (by decide +kernel) (by decide +kernel)
theorem cd_Mo_meeting : (.code y_Mo_meeting b_Mo_meeting 6 (some .int) : Cond) ∈ tb_G := tb_in 797 (by decide +kernel) (by decide +kernel)
theorem ml_La_Mo_cancel : (.methodLink R_La 127 y_Mo_cancel : Cond) ∈ tb_G := tb_in 798 (by decide +kernel) (by decide +kernel)
theorem im_Mo_cancel : (.instanceMethod y_Mo_cancel : Cond) ∈ tb_G := tb_in 799 (by decide +kernel) (by decide +kernel)
theorem cd_Mo_cancel : (.code y_Mo_cancel b_Mo_cancel 3 (some .boolean) : Cond) ∈ tb_G := tb_in 801 (by decide +kernel) (by decide +kernel)
theorem ml_La_Mo_roomOf : (.methodLink R_La 130 y_Mo_roomOf : Cond) ∈ tb_G := tb_in 802 (by decide +kernel) (by decide +kernel)
theorem im_Mo_roomOf : (.instanceMethod y_Mo_roomOf : Cond) ∈ tb_G := tb_in 803 (by decide +kernel) (by decide +kernel)
theorem cd_Mo_roomOf : (.code y_Mo_roomOf b_Mo_roomOf 2 (some .int) : Cond) ∈ tb_G := tb_in 805 (by decide +kernel) (by decide +kernel)
theorem ml_La_Mo_inside : (.methodLink R_La 133 y_Mo_inside : Cond) ∈ tb_G := tb_in 806 (by decide +kernel) (by decide +kernel)
theorem im_Mo_inside : (.instanceMethod y_Mo_inside : Cond) ∈ tb_G := tb_in 807 (by decide +kernel) (by decide +kernel)
theorem cd_Mo_inside : (.code y_Mo_inside b_Mo_inside 3 (some .int) : Cond) ∈ tb_G := tb_in 809 (by decide +kernel) (by decide +kernel)
theorem ml_Mo_Mo_isRoom : (.methodLink R_Mo 133 y_Mo_isRoom : Cond) ∈ tb_G := tb_in 810 (by decide +kernel) (by decide +kernel)
theorem im_Mo_isRoom : (.instanceMethod y_Mo_isRoom : Cond) ∈ tb_G := tb_in 812 (by decide +kernel) (by decide +kernel)
theorem cd_Mo_isRoom : (.code y_Mo_isRoom b_Mo_isRoom 2 (some .boolean) : Cond) ∈ tb_G := tb_in 813 (by decide +kernel) (by decide +kernel)
theorem ml_La_Mo_gap : (.methodLink R_La 136 y_Mo_gap : Cond) ∈ tb_G := tb_in 814 (by decide +kernel) (by decide +kernel)
theorem im_Mo_gap : (.instanceMethod y_Mo_gap : Cond) ∈ tb_G := tb_in 815 (by decide +kernel) (by decide +kernel)
theorem cd_Mo_gap : (.code y_Mo_gap b_Mo_gap 6 (some .int) : Cond) ∈ tb_G := tb_in 817 (by decide +kernel) (by decide +kernel)
theorem ml_La_Mo_waste : (.methodLink R_La 140 y_Mo_waste : Cond) ∈ tb_G := tb_in 818 (by decide +kernel) (by decide +kernel)
theorem im_Mo_waste : (.instanceMethod y_Mo_waste : Cond) ∈ tb_G := tb_in 819 (by decide +kernel) (by decide +kernel)
theorem cd_Mo_waste : (.code y_Mo_waste b_Mo_waste 3 (some .int) : Cond) ∈ tb_G := tb_in 821 (by decide +kernel) (by decide +kernel)
theorem ac_long : (.arrayClass .long : Cond) ∈ tb_G := tb_in 822 (by decide +kernel) (by decide +kernel)
theorem se_De_seat : (.selects R_De y_De_seat y_De_seat : Cond) ∈ tb_G := tb_in 222 (by decide +kernel) (by decide +kernel)
theorem se_Ma_match : (.selects R_Ma y_Ma_match y_Ma_match : Cond) ∈ tb_G := tb_in 226 (by decide +kernel) (by decide +kernel)
theorem se_Pe_costAt : (.selects R_Pe y_Pe_costAt y_Pe_costAt : Cond) ∈ tb_G := tb_in 250 (by decide +kernel) (by decide +kernel)
theorem se_Pe_wouldMoveTo : (.selects R_Pe y_Pe_wouldMoveTo y_Pe_wouldMoveTo : Cond) ∈ tb_G := tb_in 255 (by decide +kernel) (by decide +kernel)
theorem se_Ma_tellPersons : (.selects R_Ma y_Ma_tellPersons y_Ma_tellPersons : Cond) ∈ tb_G := tb_in 276 (by decide +kernel) (by decide +kernel)
theorem se_Wa_plan : (.selects R_Wa y_Wa_plan y_Wa_plan : Cond) ∈ tb_G := tb_in 280 (by decide +kernel) (by decide +kernel)
theorem se_De_moved : (.selects R_De y_De_moved y_De_moved : Cond) ∈ tb_G := tb_in 308 (by decide +kernel) (by decide +kernel)
theorem se_De_waste : (.selects R_De y_De_waste y_De_waste : Cond) ∈ tb_G := tb_in 313 (by decide +kernel) (by decide +kernel)
theorem se_Ro_placesLeftOver : (.selects R_Ro y_Ro_placesLeftOver y_Ro_placesLeftOver : Cond) ∈ tb_G := tb_in 317 (by decide +kernel) (by decide +kernel)
theorem se_De_desk : (.selects R_De y_De_desk y_De_desk : Cond) ∈ tb_G := tb_in 325 (by decide +kernel) (by decide +kernel)
theorem se_De_person : (.selects R_De y_De_person y_De_person : Cond) ∈ tb_G := tb_in 399 (by decide +kernel) (by decide +kernel)
theorem se_De_wish : (.selects R_De y_De_wish y_De_wish : Cond) ∈ tb_G := tb_in 408 (by decide +kernel) (by decide +kernel)
theorem se_De_bar : (.selects R_De y_De_bar y_De_bar : Cond) ∈ tb_G := tb_in 441 (by decide +kernel) (by decide +kernel)
theorem se_De_sits : (.selects R_De y_De_sits y_De_sits : Cond) ∈ tb_G := tb_in 448 (by decide +kernel) (by decide +kernel)
theorem se_De_deskOf : (.selects R_De y_De_deskOf y_De_deskOf : Cond) ∈ tb_G := tb_in 460 (by decide +kernel) (by decide +kernel)
theorem se_De_steps : (.selects R_De y_De_steps y_De_steps : Cond) ∈ tb_G := tb_in 467 (by decide +kernel) (by decide +kernel)
theorem se_De_step : (.selects R_De y_De_step y_De_step : Cond) ∈ tb_G := tb_in 479 (by decide +kernel) (by decide +kernel)
theorem se_De_settle : (.selects R_De y_De_settle y_De_settle : Cond) ∈ tb_G := tb_in 488 (by decide +kernel) (by decide +kernel)
theorem se_De_worthOf : (.selects R_De y_De_worthOf y_De_worthOf : Cond) ∈ tb_G := tb_in 495 (by decide +kernel) (by decide +kernel)
theorem se_De_room : (.selects R_De y_De_room y_De_room : Cond) ∈ tb_G := tb_in 502 (by decide +kernel) (by decide +kernel)
theorem se_De_book : (.selects R_De y_De_book y_De_book : Cond) ∈ tb_G := tb_in 511 (by decide +kernel) (by decide +kernel)
theorem se_Ro_bookingWithin : (.selects R_Ro y_Ro_bookingWithin y_Ro_bookingWithin : Cond) ∈ tb_G := tb_in 522 (by decide +kernel) (by decide +kernel)
theorem se_Ro_add : (.selects R_Ro y_Ro_add y_Ro_add : Cond) ∈ tb_G := tb_in 555 (by decide +kernel) (by decide +kernel)
theorem se_De_cancel : (.selects R_De y_De_cancel y_De_cancel : Cond) ∈ tb_G := tb_in 562 (by decide +kernel) (by decide +kernel)
theorem se_Ro_remove : (.selects R_Ro y_Ro_remove y_Ro_remove : Cond) ∈ tb_G := tb_in 571 (by decide +kernel) (by decide +kernel)
theorem se_De_roomOf : (.selects R_De y_De_roomOf y_De_roomOf : Cond) ∈ tb_G := tb_in 578 (by decide +kernel) (by decide +kernel)
theorem se_De_inside : (.selects R_De y_De_inside y_De_inside : Cond) ∈ tb_G := tb_in 585 (by decide +kernel) (by decide +kernel)
theorem se_De_gap : (.selects R_De y_De_gap y_De_gap : Cond) ∈ tb_G := tb_in 602 (by decide +kernel) (by decide +kernel)
theorem se_Ro_firstFree : (.selects R_Ro y_Ro_firstFree y_Ro_firstFree : Cond) ∈ tb_G := tb_in 607 (by decide +kernel) (by decide +kernel)
theorem se_Mo_thrown : (.selects R_Mo y_Mo_thrown y_Mo_thrown : Cond) ∈ tb_G := tb_in 690 (by decide +kernel) (by decide +kernel)
theorem se_Mo_desk : (.selects R_Mo y_Mo_desk y_Mo_desk : Cond) ∈ tb_G := tb_in 694 (by decide +kernel) (by decide +kernel)
theorem se_Mo_person : (.selects R_Mo y_Mo_person y_Mo_person : Cond) ∈ tb_G := tb_in 698 (by decide +kernel) (by decide +kernel)
theorem se_Mo_wish : (.selects R_Mo y_Mo_wish y_Mo_wish : Cond) ∈ tb_G := tb_in 702 (by decide +kernel) (by decide +kernel)
theorem se_Mo_bar : (.selects R_Mo y_Mo_bar y_Mo_bar : Cond) ∈ tb_G := tb_in 717 (by decide +kernel) (by decide +kernel)
theorem se_Mo_sits : (.selects R_Mo y_Mo_sits y_Mo_sits : Cond) ∈ tb_G := tb_in 721 (by decide +kernel) (by decide +kernel)
theorem se_Mo_seat : (.selects R_Mo y_Mo_seat y_Mo_seat : Cond) ∈ tb_G := tb_in 725 (by decide +kernel) (by decide +kernel)
theorem se_Mo_deskOf : (.selects R_Mo y_Mo_deskOf y_Mo_deskOf : Cond) ∈ tb_G := tb_in 764 (by decide +kernel) (by decide +kernel)
theorem se_Mo_moved : (.selects R_Mo y_Mo_moved y_Mo_moved : Cond) ∈ tb_G := tb_in 768 (by decide +kernel) (by decide +kernel)
theorem se_Mo_worthOf : (.selects R_Mo y_Mo_worthOf y_Mo_worthOf : Cond) ∈ tb_G := tb_in 772 (by decide +kernel) (by decide +kernel)
theorem se_Mo_settle : (.selects R_Mo y_Mo_settle y_Mo_settle : Cond) ∈ tb_G := tb_in 776 (by decide +kernel) (by decide +kernel)
theorem se_Mo_steps : (.selects R_Mo y_Mo_steps y_Mo_steps : Cond) ∈ tb_G := tb_in 780 (by decide +kernel) (by decide +kernel)
theorem se_Mo_step : (.selects R_Mo y_Mo_step y_Mo_step : Cond) ∈ tb_G := tb_in 784 (by decide +kernel) (by decide +kernel)
theorem se_Mo_room : (.selects R_Mo y_Mo_room y_Mo_room : Cond) ∈ tb_G := tb_in 788 (by decide +kernel) (by decide +kernel)
theorem se_Mo_book : (.selects R_Mo y_Mo_book y_Mo_book : Cond) ∈ tb_G := tb_in 792 (by decide +kernel) (by decide +kernel)
theorem se_Mo_cancel : (.selects R_Mo y_Mo_cancel y_Mo_cancel : Cond) ∈ tb_G := tb_in 800 (by decide +kernel) (by decide +kernel)
theorem se_Mo_roomOf : (.selects R_Mo y_Mo_roomOf y_Mo_roomOf : Cond) ∈ tb_G := tb_in 804 (by decide +kernel) (by decide +kernel)
theorem se_Mo_inside : (.selects R_Mo y_Mo_inside y_Mo_inside : Cond) ∈ tb_G := tb_in 808 (by decide +kernel) (by decide +kernel)
theorem se_Mo_gap : (.selects R_Mo y_Mo_gap y_Mo_gap : Cond) ∈ tb_G := tb_in 816 (by decide +kernel) (by decide +kernel)
theorem se_Mo_waste : (.selects R_Mo y_Mo_waste y_Mo_waste : Cond) ∈ tb_G := tb_in 820 (by decide +kernel) (by decide +kernel)
theorem se_Ma_clearSpots : (.selects R_Ma y_Ma_clearSpots y_Ma_clearSpots : Cond) ∈ tb_G := tb_in 0 (by decide +kernel) (by decide +kernel)
theorem se_Ma_addPerson : (.selects R_Ma y_Ma_addPerson y_Ma_addPerson : Cond) ∈ tb_G := tb_in 1 (by decide +kernel) (by decide +kernel)
theorem se_Ma_startSearch : (.selects R_Ma y_Ma_startSearch y_Ma_startSearch : Cond) ∈ tb_G := tb_in 2 (by decide +kernel) (by decide +kernel)
theorem se_Ma_lookFrom : (.selects R_Ma y_Ma_lookFrom y_Ma_lookFrom : Cond) ∈ tb_G := tb_in 3 (by decide +kernel) (by decide +kernel)
theorem se_Ma_nearestSpot : (.selects R_Ma y_Ma_nearestSpot y_Ma_nearestSpot : Cond) ∈ tb_G := tb_in 4 (by decide +kernel) (by decide +kernel)
theorem se_Ma_shiftPrices : (.selects R_Ma y_Ma_shiftPrices y_Ma_shiftPrices : Cond) ∈ tb_G := tb_in 5 (by decide +kernel) (by decide +kernel)
theorem se_Ma_handOn : (.selects R_Ma y_Ma_handOn y_Ma_handOn : Cond) ∈ tb_G := tb_in 6 (by decide +kernel) (by decide +kernel)
theorem se_Ma_worthOfSpots : (.selects R_Ma y_Ma_worthOfSpots y_Ma_worthOfSpots : Cond) ∈ tb_G := tb_in 7 (by decide +kernel) (by decide +kernel)
theorem se_Wa_sitAtOldDesks : (.selects R_Wa y_Wa_sitAtOldDesks y_Wa_sitAtOldDesks : Cond) ∈ tb_G := tb_in 8 (by decide +kernel) (by decide +kernel)
theorem se_Wa_firstWhoCanGoHome : (.selects R_Wa y_Wa_firstWhoCanGoHome y_Wa_firstWhoCanGoHome : Cond) ∈ tb_G := tb_in 9 (by decide +kernel) (by decide +kernel)
theorem se_Wa_isFree : (.selects R_Wa y_Wa_isFree y_Wa_isFree : Cond) ∈ tb_G := tb_in 10 (by decide +kernel) (by decide +kernel)
theorem se_Wa_go : (.selects R_Wa y_Wa_go y_Wa_go : Cond) ∈ tb_G := tb_in 11 (by decide +kernel) (by decide +kernel)
theorem se_Wa_firstNotHome : (.selects R_Wa y_Wa_firstNotHome y_Wa_firstNotHome : Cond) ∈ tb_G := tb_in 12 (by decide +kernel) (by decide +kernel)
theorem se_Wa_firstFreeDesk : (.selects R_Wa y_Wa_firstFreeDesk y_Wa_firstFreeDesk : Cond) ∈ tb_G := tb_in 13 (by decide +kernel) (by decide +kernel)
theorem se_De_checkPerson : (.selects R_De y_De_checkPerson y_De_checkPerson : Cond) ∈ tb_G := tb_in 15 (by decide +kernel) (by decide +kernel)
theorem se_De_checkDesk : (.selects R_De y_De_checkDesk y_De_checkDesk : Cond) ∈ tb_G := tb_in 16 (by decide +kernel) (by decide +kernel)
theorem se_De_checkNobodyElseHas : (.selects R_De y_De_checkNobodyElseHas y_De_checkNobodyElseHas : Cond) ∈ tb_G := tb_in 17 (by decide +kernel) (by decide +kernel)
theorem se_De_checkSeatingMade : (.selects R_De y_De_checkSeatingMade y_De_checkSeatingMade : Cond) ∈ tb_G := tb_in 18 (by decide +kernel) (by decide +kernel)
theorem se_De_bestRoom : (.selects R_De y_De_bestRoom y_De_bestRoom : Cond) ∈ tb_G := tb_in 19 (by decide +kernel) (by decide +kernel)
theorem se_De_bookingNumbered : (.selects R_De y_De_bookingNumbered y_De_bookingNumbered : Cond) ∈ tb_G := tb_in 20 (by decide +kernel) (by decide +kernel)
theorem se_De_checkRoom : (.selects R_De y_De_checkRoom y_De_checkRoom : Cond) ∈ tb_G := tb_in 21 (by decide +kernel) (by decide +kernel)
theorem se_De_checkMinute : (.selects R_De y_De_checkMinute y_De_checkMinute : Cond) ∈ tb_G := tb_in 22 (by decide +kernel) (by decide +kernel)
theorem se_Mo_isPerson : (.selects R_Mo y_Mo_isPerson y_Mo_isPerson : Cond) ∈ tb_G := tb_in 23 (by decide +kernel) (by decide +kernel)
theorem se_Mo_isDesk : (.selects R_Mo y_Mo_isDesk y_Mo_isDesk : Cond) ∈ tb_G := tb_in 24 (by decide +kernel) (by decide +kernel)
theorem se_Mo_findBest : (.selects R_Mo y_Mo_findBest y_Mo_findBest : Cond) ∈ tb_G := tb_in 25 (by decide +kernel) (by decide +kernel)
theorem se_Mo_value : (.selects R_Mo y_Mo_value y_Mo_value : Cond) ∈ tb_G := tb_in 26 (by decide +kernel) (by decide +kernel)
theorem se_Mo_isMove : (.selects R_Mo y_Mo_isMove y_Mo_isMove : Cond) ∈ tb_G := tb_in 27 (by decide +kernel) (by decide +kernel)
theorem se_Mo_walk : (.selects R_Mo y_Mo_walk y_Mo_walk : Cond) ∈ tb_G := tb_in 28 (by decide +kernel) (by decide +kernel)
theorem se_Mo_goes : (.selects R_Mo y_Mo_goes y_Mo_goes : Cond) ∈ tb_G := tb_in 29 (by decide +kernel) (by decide +kernel)
theorem se_Mo_isFree : (.selects R_Mo y_Mo_isFree y_Mo_isFree : Cond) ∈ tb_G := tb_in 30 (by decide +kernel) (by decide +kernel)
theorem se_Mo_go : (.selects R_Mo y_Mo_go y_Mo_go : Cond) ∈ tb_G := tb_in 31 (by decide +kernel) (by decide +kernel)
theorem se_Mo_meeting : (.selects R_Mo y_Mo_meeting y_Mo_meeting : Cond) ∈ tb_G := tb_in 32 (by decide +kernel) (by decide +kernel)
theorem se_Mo_isRoom : (.selects R_Mo y_Mo_isRoom y_Mo_isRoom : Cond) ∈ tb_G := tb_in 33 (by decide +kernel) (by decide +kernel)
def F_Bk : u_T := fun k => match k with
  | 0 => ("DeskMoves$Booking", "number", "I", true)
  | 1 => ("DeskMoves$Booking", "bookedRoom", "LDeskMoves$Room;", true)
  | 2 => ("DeskMoves$Booking", "from", "I", true)
  | 3 => ("DeskMoves$Booking", "to", "I", true)
  | 4 => ("DeskMoves$Booking", "heads", "I", true)
  | _ => ("DeskMoves$Booking", "next", "LDeskMoves$Booking;", false)
def t_Bk : Nat → FieldType := fun k => match k with
  | 0 => .int
  | 1 => .object "DeskMoves$Room"
  | 2 => .int
  | 3 => .int
  | 4 => .int
  | _ => .object "DeskMoves$Booking"
theorem n_Bk : ∀ a, a < 6 → ∀ b, b < 6 → a ≠ b → (F_Bk a).2.1 ≠ (F_Bk b).2.1 := by decide +kernel
theorem t_Bk_ok : ∀ k, k < 6 → parseFieldDescriptor (F_Bk k).2.2.1 = some (t_Bk k) := by decide +kernel
theorem i_Bk : ∀ w ∈ u_ws R_Bk F_Bk 6, w ∈ tb_G := by
  intro w hw
  obtain ⟨k, hk, rfl⟩ := List.mem_map.mp hw
  have hk := List.mem_range.mp hk
  match k, hk with
  | 0, _ => exact tb_in 540 (by decide +kernel) (by decide +kernel)
  | 1, _ => exact tb_in 542 (by decide +kernel) (by decide +kernel)
  | 2, _ => exact tb_in 544 (by decide +kernel) (by decide +kernel)
  | 3, _ => exact tb_in 546 (by decide +kernel) (by decide +kernel)
  | 4, _ => exact tb_in 548 (by decide +kernel) (by decide +kernel)
  | 5, _ => exact tb_in 550 (by decide +kernel) (by decide +kernel)
  | k + 6, hk => exact absurd hk (by omega)
def F_Ma : u_T := fun k => match k with
  | 0 => ("DeskMoves$Matcher", "spots", "[LDeskMoves$Spot;", true)
  | _ => ("DeskMoves$Matcher", "spotCount", "I", false)
def t_Ma : Nat → FieldType := fun k => match k with
  | 0 => .array (.object "DeskMoves$Spot")
  | _ => .int
theorem n_Ma : ∀ a, a < 2 → ∀ b, b < 2 → a ≠ b → (F_Ma a).2.1 ≠ (F_Ma b).2.1 := by decide +kernel
theorem t_Ma_ok : ∀ k, k < 2 → parseFieldDescriptor (F_Ma k).2.2.1 = some (t_Ma k) := by decide +kernel
theorem i_Ma : ∀ w ∈ u_ws R_Ma F_Ma 2, w ∈ tb_G := by
  intro w hw
  obtain ⟨k, hk, rfl⟩ := List.mem_map.mp hw
  have hk := List.mem_range.mp hk
  match k, hk with
  | 0, _ => exact tb_in 90 (by decide +kernel) (by decide +kernel)
  | 1, _ => exact tb_in 92 (by decide +kernel) (by decide +kernel)
  | k + 2, hk => exact absurd hk (by omega)
def F_Pe : u_T := fun k => match k with
  | 0 => ("DeskMoves$Person", "number", "I", true)
  | 1 => ("DeskMoves$Person", "wishes", "[I", true)
  | 2 => ("DeskMoves$Person", "barred", "[Z", true)
  | 3 => ("DeskMoves$Person", "oldDesk", "I", false)
  | 4 => ("DeskMoves$Person", "newDesk", "I", false)
  | 5 => ("DeskMoves$Person", "place", "I", false)
  | _ => ("DeskMoves$Person", "price", "J", false)
def t_Pe : Nat → FieldType := fun k => match k with
  | 0 => .int
  | 1 => .array .int
  | 2 => .array .boolean
  | 3 => .int
  | 4 => .int
  | 5 => .int
  | _ => .long
theorem n_Pe : ∀ a, a < 7 → ∀ b, b < 7 → a ≠ b → (F_Pe a).2.1 ≠ (F_Pe b).2.1 := by decide +kernel
theorem t_Pe_ok : ∀ k, k < 7 → parseFieldDescriptor (F_Pe k).2.2.1 = some (t_Pe k) := by decide +kernel
theorem i_Pe : ∀ w ∈ u_ws R_Pe F_Pe 7, w ∈ tb_G := by
  intro w hw
  obtain ⟨k, hk, rfl⟩ := List.mem_map.mp hw
  have hk := List.mem_range.mp hk
  match k, hk with
  | 0, _ => exact tb_in 153 (by decide +kernel) (by decide +kernel)
  | 1, _ => exact tb_in 155 (by decide +kernel) (by decide +kernel)
  | 2, _ => exact tb_in 157 (by decide +kernel) (by decide +kernel)
  | 3, _ => exact tb_in 159 (by decide +kernel) (by decide +kernel)
  | 4, _ => exact tb_in 161 (by decide +kernel) (by decide +kernel)
  | 5, _ => exact tb_in 163 (by decide +kernel) (by decide +kernel)
  | 6, _ => exact tb_in 165 (by decide +kernel) (by decide +kernel)
  | k + 7, hk => exact absurd hk (by omega)
def F_Ro : u_T := fun k => match k with
  | 0 => ("DeskMoves$Room", "number", "I", true)
  | 1 => ("DeskMoves$Room", "places", "I", false)
  | _ => ("DeskMoves$Room", "first", "LDeskMoves$Booking;", false)
def t_Ro : Nat → FieldType := fun k => match k with
  | 0 => .int
  | 1 => .int
  | _ => .object "DeskMoves$Booking"
theorem n_Ro : ∀ a, a < 3 → ∀ b, b < 3 → a ≠ b → (F_Ro a).2.1 ≠ (F_Ro b).2.1 := by decide +kernel
theorem t_Ro_ok : ∀ k, k < 3 → parseFieldDescriptor (F_Ro k).2.2.1 = some (t_Ro k) := by decide +kernel
theorem i_Ro : ∀ w ∈ u_ws R_Ro F_Ro 3, w ∈ tb_G := by
  intro w hw
  obtain ⟨k, hk, rfl⟩ := List.mem_map.mp hw
  have hk := List.mem_range.mp hk
  match k, hk with
  | 0, _ => exact tb_in 179 (by decide +kernel) (by decide +kernel)
  | 1, _ => exact tb_in 181 (by decide +kernel) (by decide +kernel)
  | 2, _ => exact tb_in 183 (by decide +kernel) (by decide +kernel)
  | k + 3, hk => exact absurd hk (by omega)
def F_Sp : u_T := fun k => match k with
  | 0 => ("DeskMoves$Spot", "sitter", "LDeskMoves$Person;", false)
  | 1 => ("DeskMoves$Spot", "price", "J", false)
  | 2 => ("DeskMoves$Spot", "distance", "J", false)
  | 3 => ("DeskMoves$Spot", "before", "LDeskMoves$Spot;", false)
  | _ => ("DeskMoves$Spot", "reached", "Z", false)
def t_Sp : Nat → FieldType := fun k => match k with
  | 0 => .object "DeskMoves$Person"
  | 1 => .long
  | 2 => .long
  | 3 => .object "DeskMoves$Spot"
  | _ => .boolean
theorem n_Sp : ∀ a, a < 5 → ∀ b, b < 5 → a ≠ b → (F_Sp a).2.1 ≠ (F_Sp b).2.1 := by decide +kernel
theorem t_Sp_ok : ∀ k, k < 5 → parseFieldDescriptor (F_Sp k).2.2.1 = some (t_Sp k) := by decide +kernel
theorem i_Sp : ∀ w ∈ u_ws R_Sp F_Sp 5, w ∈ tb_G := by
  intro w hw
  obtain ⟨k, hk, rfl⟩ := List.mem_map.mp hw
  have hk := List.mem_range.mp hk
  match k, hk with
  | 0, _ => exact tb_in 77 (by decide +kernel) (by decide +kernel)
  | 1, _ => exact tb_in 79 (by decide +kernel) (by decide +kernel)
  | 2, _ => exact tb_in 81 (by decide +kernel) (by decide +kernel)
  | 3, _ => exact tb_in 83 (by decide +kernel) (by decide +kernel)
  | 4, _ => exact tb_in 85 (by decide +kernel) (by decide +kernel)
  | k + 5, hk => exact absurd hk (by omega)
def F_Wa : u_T := fun k => match k with
  | 0 => ("DeskMoves$Walk", "goers", "[I", true)
  | 1 => ("DeskMoves$Walk", "starts", "[I", true)
  | 2 => ("DeskMoves$Walk", "goals", "[I", true)
  | 3 => ("DeskMoves$Walk", "count", "I", false)
  | 4 => ("DeskMoves$Walk", "stuck", "Z", false)
  | _ => ("DeskMoves$Walk", "taken", "I", false)
def t_Wa : Nat → FieldType := fun k => match k with
  | 0 => .array .int
  | 1 => .array .int
  | 2 => .array .int
  | 3 => .int
  | 4 => .boolean
  | _ => .int
theorem n_Wa : ∀ a, a < 6 → ∀ b, b < 6 → a ≠ b → (F_Wa a).2.1 ≠ (F_Wa b).2.1 := by decide +kernel
theorem t_Wa_ok : ∀ k, k < 6 → parseFieldDescriptor (F_Wa k).2.2.1 = some (t_Wa k) := by decide +kernel
theorem i_Wa : ∀ w ∈ u_ws R_Wa F_Wa 6, w ∈ tb_G := by
  intro w hw
  obtain ⟨k, hk, rfl⟩ := List.mem_map.mp hw
  have hk := List.mem_range.mp hk
  match k, hk with
  | 0, _ => exact tb_in 112 (by decide +kernel) (by decide +kernel)
  | 1, _ => exact tb_in 114 (by decide +kernel) (by decide +kernel)
  | 2, _ => exact tb_in 116 (by decide +kernel) (by decide +kernel)
  | 3, _ => exact tb_in 118 (by decide +kernel) (by decide +kernel)
  | 4, _ => exact tb_in 120 (by decide +kernel) (by decide +kernel)
  | 5, _ => exact tb_in 122 (by decide +kernel) (by decide +kernel)
  | k + 6, hk => exact absurd hk (by omega)
def F_De : u_T := fun k => match k with
  | 0 => ("DeskMoves", "persons", "[LDeskMoves$Person;", true)
  | 1 => ("DeskMoves", "matcher", "LDeskMoves$Matcher;", true)
  | 2 => ("DeskMoves", "walk", "LDeskMoves$Walk;", true)
  | 3 => ("DeskMoves", "rooms", "[LDeskMoves$Room;", true)
  | 4 => ("DeskMoves", "bookings", "[LDeskMoves$Booking;", true)
  | 5 => ("DeskMoves", "deskCount", "I", false)
  | 6 => ("DeskMoves", "personCount", "I", false)
  | 7 => ("DeskMoves", "roomCount", "I", false)
  | 8 => ("DeskMoves", "bookingCount", "I", false)
  | 9 => ("DeskMoves", "seatingMade", "Z", false)
  | _ => ("DeskMoves", "seatingWorth", "I", false)
def t_De : Nat → FieldType := fun k => match k with
  | 0 => .array (.object "DeskMoves$Person")
  | 1 => .object "DeskMoves$Matcher"
  | 2 => .object "DeskMoves$Walk"
  | 3 => .array (.object "DeskMoves$Room")
  | 4 => .array (.object "DeskMoves$Booking")
  | 5 => .int
  | 6 => .int
  | 7 => .int
  | 8 => .int
  | 9 => .boolean
  | _ => .int
theorem n_De : ∀ a, a < 11 → ∀ b, b < 11 → a ≠ b → (F_De a).2.1 ≠ (F_De b).2.1 := by decide +kernel
theorem t_De_ok : ∀ k, k < 11 → parseFieldDescriptor (F_De k).2.2.1 = some (t_De k) := by decide +kernel
theorem i_De : ∀ w ∈ u_ws R_De F_De 11, w ∈ tb_G := by
  intro w hw
  obtain ⟨k, hk, rfl⟩ := List.mem_map.mp hw
  have hk := List.mem_range.mp hk
  match k, hk with
  | 0, _ => exact tb_in 197 (by decide +kernel) (by decide +kernel)
  | 1, _ => exact tb_in 199 (by decide +kernel) (by decide +kernel)
  | 2, _ => exact tb_in 201 (by decide +kernel) (by decide +kernel)
  | 3, _ => exact tb_in 203 (by decide +kernel) (by decide +kernel)
  | 4, _ => exact tb_in 205 (by decide +kernel) (by decide +kernel)
  | 5, _ => exact tb_in 207 (by decide +kernel) (by decide +kernel)
  | 6, _ => exact tb_in 209 (by decide +kernel) (by decide +kernel)
  | 7, _ => exact tb_in 211 (by decide +kernel) (by decide +kernel)
  | 8, _ => exact tb_in 213 (by decide +kernel) (by decide +kernel)
  | 9, _ => exact tb_in 215 (by decide +kernel) (by decide +kernel)
  | 10, _ => exact tb_in 217 (by decide +kernel) (by decide +kernel)
  | k + 11, hk => exact absurd hk (by omega)
def F_Mo : u_T := fun k => match k with
  | 0 => ("DeskMovesModel", "thrown", "I", false)
  | 1 => ("DeskMovesModel", "desks", "I", false)
  | 2 => ("DeskMovesModel", "persons", "I", false)
  | 3 => ("DeskMovesModel", "wishes", "[I", true)
  | 4 => ("DeskMovesModel", "barred", "[Z", true)
  | 5 => ("DeskMovesModel", "olds", "[I", true)
  | 6 => ("DeskMovesModel", "made", "Z", false)
  | 7 => ("DeskMovesModel", "worth", "I", false)
  | 8 => ("DeskMovesModel", "seats", "[I", true)
  | 9 => ("DeskMovesModel", "best", "[I", true)
  | 10 => ("DeskMovesModel", "order", "[I", true)
  | 11 => ("DeskMovesModel", "many", "I", false)
  | 12 => ("DeskMovesModel", "gone", "I", false)
  | 13 => ("DeskMovesModel", "stuck", "Z", false)
  | 14 => ("DeskMovesModel", "path", "[I", true)
  | 15 => ("DeskMovesModel", "place", "[I", true)
  | 16 => ("DeskMovesModel", "rooms", "I", false)
  | 17 => ("DeskMovesModel", "places", "[I", true)
  | 18 => ("DeskMovesModel", "bookings", "I", false)
  | 19 => ("DeskMovesModel", "room", "[I", true)
  | 20 => ("DeskMovesModel", "from", "[I", true)
  | 21 => ("DeskMovesModel", "to", "[I", true)
  | 22 => ("DeskMovesModel", "left", "[I", true)
  | _ => ("DeskMovesModel", "there", "[Z", true)
def t_Mo : Nat → FieldType := fun k => match k with
  | 0 => .int
  | 1 => .int
  | 2 => .int
  | 3 => .array .int
  | 4 => .array .boolean
  | 5 => .array .int
  | 6 => .boolean
  | 7 => .int
  | 8 => .array .int
  | 9 => .array .int
  | 10 => .array .int
  | 11 => .int
  | 12 => .int
  | 13 => .boolean
  | 14 => .array .int
  | 15 => .array .int
  | 16 => .int
  | 17 => .array .int
  | 18 => .int
  | 19 => .array .int
  | 20 => .array .int
  | 21 => .array .int
  | 22 => .array .int
  | _ => .array .boolean
theorem n_Mo : ∀ a, a < 24 → ∀ b, b < 24 → a ≠ b → (F_Mo a).2.1 ≠ (F_Mo b).2.1 := by decide +kernel
theorem t_Mo_ok : ∀ k, k < 24 → parseFieldDescriptor (F_Mo k).2.2.1 = some (t_Mo k) := by decide +kernel
theorem i_Mo : ∀ w ∈ u_ws R_Mo F_Mo 24, w ∈ tb_G := by
  intro w hw
  obtain ⟨k, hk, rfl⟩ := List.mem_map.mp hw
  have hk := List.mem_range.mp hk
  match k, hk with
  | 0, _ => exact tb_in 639 (by decide +kernel) (by decide +kernel)
  | 1, _ => exact tb_in 641 (by decide +kernel) (by decide +kernel)
  | 2, _ => exact tb_in 643 (by decide +kernel) (by decide +kernel)
  | 3, _ => exact tb_in 645 (by decide +kernel) (by decide +kernel)
  | 4, _ => exact tb_in 647 (by decide +kernel) (by decide +kernel)
  | 5, _ => exact tb_in 649 (by decide +kernel) (by decide +kernel)
  | 6, _ => exact tb_in 651 (by decide +kernel) (by decide +kernel)
  | 7, _ => exact tb_in 653 (by decide +kernel) (by decide +kernel)
  | 8, _ => exact tb_in 655 (by decide +kernel) (by decide +kernel)
  | 9, _ => exact tb_in 657 (by decide +kernel) (by decide +kernel)
  | 10, _ => exact tb_in 659 (by decide +kernel) (by decide +kernel)
  | 11, _ => exact tb_in 661 (by decide +kernel) (by decide +kernel)
  | 12, _ => exact tb_in 663 (by decide +kernel) (by decide +kernel)
  | 13, _ => exact tb_in 665 (by decide +kernel) (by decide +kernel)
  | 14, _ => exact tb_in 667 (by decide +kernel) (by decide +kernel)
  | 15, _ => exact tb_in 669 (by decide +kernel) (by decide +kernel)
  | 16, _ => exact tb_in 671 (by decide +kernel) (by decide +kernel)
  | 17, _ => exact tb_in 673 (by decide +kernel) (by decide +kernel)
  | 18, _ => exact tb_in 675 (by decide +kernel) (by decide +kernel)
  | 19, _ => exact tb_in 677 (by decide +kernel) (by decide +kernel)
  | 20, _ => exact tb_in 679 (by decide +kernel) (by decide +kernel)
  | 21, _ => exact tb_in 681 (by decide +kernel) (by decide +kernel)
  | 22, _ => exact tb_in 683 (by decide +kernel) (by decide +kernel)
  | 23, _ => exact tb_in 685 (by decide +kernel) (by decide +kernel)
  | k + 24, hk => exact absurd hk (by omega)
abbrev cl_all : List vw_C := [(R_Bk, F_Bk, 6), (R_Ma, F_Ma, 2), (R_Pe, F_Pe, 7), (R_Ro, F_Ro, 3), (R_Sp, F_Sp, 5), (R_Wa, F_Wa, 6), (R_De, F_De, 11), (R_Mo, F_Mo, 24)]
end
section
theorem d_Bk_init_0 : decode b_Bk_init 0 = .ok (.aload_n 0, 1) := by decide +kernel
theorem d_Bk_init_1 : decode b_Bk_init 1 = .ok (.invokespecial 1, 3) := by decide +kernel
theorem d_Bk_init_4 : decode b_Bk_init 4 = .ok (.aload_n 0, 1) := by decide +kernel
theorem d_Bk_init_5 : decode b_Bk_init 5 = .ok (.iload_n 1, 1) := by decide +kernel
theorem d_Bk_init_6 : decode b_Bk_init 6 = .ok (.putfield 7, 3) := by decide +kernel
theorem d_Bk_init_9 : decode b_Bk_init 9 = .ok (.aload_n 0, 1) := by decide +kernel
theorem d_Bk_init_10 : decode b_Bk_init 10 = .ok (.aload_n 2, 1) := by decide +kernel
theorem d_Bk_init_11 : decode b_Bk_init 11 = .ok (.putfield 13, 3) := by decide +kernel
theorem d_Bk_init_14 : decode b_Bk_init 14 = .ok (.aload_n 0, 1) := by decide +kernel
theorem d_Bk_init_15 : decode b_Bk_init 15 = .ok (.iload_n 3, 1) := by decide +kernel
theorem d_Bk_init_16 : decode b_Bk_init 16 = .ok (.putfield 17, 3) := by decide +kernel
theorem d_Bk_init_19 : decode b_Bk_init 19 = .ok (.aload_n 0, 1) := by decide +kernel
theorem d_Bk_init_20 : decode b_Bk_init 20 = .ok (.iload 4, 2) := by decide +kernel
theorem d_Bk_init_22 : decode b_Bk_init 22 = .ok (.putfield 20, 3) := by decide +kernel
theorem d_Bk_init_25 : decode b_Bk_init 25 = .ok (.aload_n 0, 1) := by decide +kernel
theorem d_Bk_init_26 : decode b_Bk_init 26 = .ok (.iload 5, 2) := by decide +kernel
theorem d_Bk_init_28 : decode b_Bk_init 28 = .ok (.putfield 23, 3) := by decide +kernel
theorem d_Bk_init_31 : decode b_Bk_init 31 = .ok (.return_, 1) := by decide +kernel
theorem d_Ma_init_0 : decode b_Ma_init 0 = .ok (.aload_n 0, 1) := by decide +kernel
theorem d_Ma_init_1 : decode b_Ma_init 1 = .ok (.invokespecial 3, 3) := by decide +kernel
theorem d_Ma_init_4 : decode b_Ma_init 4 = .ok (.aload_n 0, 1) := by decide +kernel
theorem d_Ma_init_5 : decode b_Ma_init 5 = .ok (.bipush 14, 2) := by decide +kernel
theorem d_Ma_init_7 : decode b_Ma_init 7 = .ok (.anewarray 9, 3) := by decide +kernel
theorem d_Ma_init_10 : decode b_Ma_init 10 = .ok (.putfield 11, 3) := by decide +kernel
theorem d_Ma_init_13 : decode b_Ma_init 13 = .ok (.iconst 0, 1) := by decide +kernel
theorem d_Ma_init_14 : decode b_Ma_init 14 = .ok (.istore_n 1, 1) := by decide +kernel
theorem d_Ma_init_15 : decode b_Ma_init 15 = .ok (.iload_n 1, 1) := by decide +kernel
theorem d_Ma_init_16 : decode b_Ma_init 16 = .ok (.bipush 14, 2) := by decide +kernel
theorem d_Ma_init_18 : decode b_Ma_init 18 = .ok (.if_icmp .ge 22, 3) := by decide +kernel
theorem d_Ma_init_21 : decode b_Ma_init 21 = .ok (.aload_n 0, 1) := by decide +kernel
theorem d_Ma_init_22 : decode b_Ma_init 22 = .ok (.getfield 11, 3) := by decide +kernel
theorem d_Ma_init_25 : decode b_Ma_init 25 = .ok (.iload_n 1, 1) := by decide +kernel
theorem d_Ma_init_26 : decode b_Ma_init 26 = .ok (.new 9, 3) := by decide +kernel
theorem d_Ma_init_29 : decode b_Ma_init 29 = .ok (.dup, 1) := by decide +kernel
theorem d_Ma_init_30 : decode b_Ma_init 30 = .ok (.invokespecial 17, 3) := by decide +kernel
theorem d_Ma_init_33 : decode b_Ma_init 33 = .ok (.aastore, 1) := by decide +kernel
theorem d_Ma_init_34 : decode b_Ma_init 34 = .ok (.iinc 1 1, 3) := by decide +kernel
theorem d_Ma_init_37 : decode b_Ma_init 37 = .ok (.goto (-22), 3) := by decide +kernel
theorem d_Ma_init_40 : decode b_Ma_init 40 = .ok (.return_, 1) := by decide +kernel
theorem d_Ma_match_0 : decode b_Ma_match 0 = .ok (.aload_n 0, 1) := by decide +kernel
theorem d_Ma_match_1 : decode b_Ma_match 1 = .ok (.iload 4, 2) := by decide +kernel
theorem d_Ma_match_3 : decode b_Ma_match 3 = .ok (.invokevirtual 18, 3) := by decide +kernel
theorem d_Ma_match_6 : decode b_Ma_match 6 = .ok (.iconst 0, 1) := by decide +kernel
theorem d_Ma_match_7 : decode b_Ma_match 7 = .ok (.istore 5, 2) := by decide +kernel
theorem d_Ma_match_9 : decode b_Ma_match 9 = .ok (.iload 5, 2) := by decide +kernel
theorem d_Ma_match_11 : decode b_Ma_match 11 = .ok (.iload_n 2, 1) := by decide +kernel
theorem d_Ma_match_12 : decode b_Ma_match 12 = .ok (.if_icmp .ge 35, 3) := by decide +kernel
theorem d_Ma_match_15 : decode b_Ma_match 15 = .ok (.iload 5, 2) := by decide +kernel
theorem d_Ma_match_17 : decode b_Ma_match 17 = .ok (.aload_n 1, 1) := by decide +kernel
theorem d_Ma_match_18 : decode b_Ma_match 18 = .ok (.arraylength, 1) := by decide +kernel
theorem d_Ma_match_19 : decode b_Ma_match 19 = .ok (.if_icmp .ge 28, 3) := by decide +kernel
theorem d_Ma_match_22 : decode b_Ma_match 22 = .ok (.iload 5, 2) := by decide +kernel
theorem d_Ma_match_24 : decode b_Ma_match 24 = .ok (.iload_n 3, 1) := by decide +kernel
theorem d_Ma_match_25 : decode b_Ma_match 25 = .ok (.if_icmp .eq 16, 3) := by decide +kernel
theorem d_Ma_match_28 : decode b_Ma_match 28 = .ok (.aload_n 0, 1) := by decide +kernel
theorem d_Ma_match_29 : decode b_Ma_match 29 = .ok (.aload_n 1, 1) := by decide +kernel
theorem d_Ma_match_30 : decode b_Ma_match 30 = .ok (.iload 5, 2) := by decide +kernel
theorem d_Ma_match_32 : decode b_Ma_match 32 = .ok (.aaload, 1) := by decide +kernel
theorem d_Ma_match_33 : decode b_Ma_match 33 = .ok (.invokevirtual 22, 3) := by decide +kernel
theorem d_Ma_match_36 : decode b_Ma_match 36 = .ok (.ifCond .ne 5, 3) := by decide +kernel
theorem d_Ma_match_39 : decode b_Ma_match 39 = .ok (.iconst (-1), 1) := by decide +kernel
theorem d_Ma_match_40 : decode b_Ma_match 40 = .ok (.ireturn, 1) := by decide +kernel
theorem d_Ma_match_41 : decode b_Ma_match 41 = .ok (.iinc 5 1, 3) := by decide +kernel
theorem d_Ma_match_44 : decode b_Ma_match 44 = .ok (.goto (-35), 3) := by decide +kernel
theorem d_Ma_match_47 : decode b_Ma_match 47 = .ok (.aload_n 0, 1) := by decide +kernel
theorem d_Ma_match_48 : decode b_Ma_match 48 = .ok (.invokevirtual 26, 3) := by decide +kernel
theorem d_Ma_match_51 : decode b_Ma_match 51 = .ok (.ireturn, 1) := by decide +kernel
theorem d_Ma_tellPersons_0 : decode b_Ma_tellPersons 0 = .ok (.iconst 0, 1) := by decide +kernel
theorem d_Ma_tellPersons_1 : decode b_Ma_tellPersons 1 = .ok (.istore_n 1, 1) := by decide +kernel
theorem d_Ma_tellPersons_2 : decode b_Ma_tellPersons 2 = .ok (.iload_n 1, 1) := by decide +kernel
theorem d_Ma_tellPersons_3 : decode b_Ma_tellPersons 3 = .ok (.aload_n 0, 1) := by decide +kernel
theorem d_Ma_tellPersons_4 : decode b_Ma_tellPersons 4 = .ok (.getfield 30, 3) := by decide +kernel
theorem d_Ma_tellPersons_7 : decode b_Ma_tellPersons 7 = .ok (.if_icmp .ge 28, 3) := by decide +kernel
theorem d_Ma_tellPersons_10 : decode b_Ma_tellPersons 10 = .ok (.aload_n 0, 1) := by decide +kernel
theorem d_Ma_tellPersons_11 : decode b_Ma_tellPersons 11 = .ok (.getfield 11, 3) := by decide +kernel
theorem d_Ma_tellPersons_14 : decode b_Ma_tellPersons 14 = .ok (.iload_n 1, 1) := by decide +kernel
theorem d_Ma_tellPersons_15 : decode b_Ma_tellPersons 15 = .ok (.aaload, 1) := by decide +kernel
theorem d_Ma_tellPersons_16 : decode b_Ma_tellPersons 16 = .ok (.getfield 34, 3) := by decide +kernel
theorem d_Ma_tellPersons_19 : decode b_Ma_tellPersons 19 = .ok (.astore_n 2, 1) := by decide +kernel
theorem d_Ma_tellPersons_20 : decode b_Ma_tellPersons 20 = .ok (.aload_n 2, 1) := by decide +kernel
theorem d_Ma_tellPersons_21 : decode b_Ma_tellPersons 21 = .ok (.ifnull 8, 3) := by decide +kernel
theorem d_Ma_tellPersons_24 : decode b_Ma_tellPersons 24 = .ok (.aload_n 2, 1) := by decide +kernel
theorem d_Ma_tellPersons_25 : decode b_Ma_tellPersons 25 = .ok (.iload_n 1, 1) := by decide +kernel
theorem d_Ma_tellPersons_26 : decode b_Ma_tellPersons 26 = .ok (.putfield 38, 3) := by decide +kernel
theorem d_Ma_tellPersons_29 : decode b_Ma_tellPersons 29 = .ok (.iinc 1 1, 3) := by decide +kernel
theorem d_Ma_tellPersons_32 : decode b_Ma_tellPersons 32 = .ok (.goto (-30), 3) := by decide +kernel
theorem d_Ma_tellPersons_35 : decode b_Ma_tellPersons 35 = .ok (.return_, 1) := by decide +kernel
theorem d_Ma_clearSpots_0 : decode b_Ma_clearSpots 0 = .ok (.aload_n 0, 1) := by decide +kernel
theorem d_Ma_clearSpots_1 : decode b_Ma_clearSpots 1 = .ok (.iload_n 1, 1) := by decide +kernel
theorem d_Ma_clearSpots_2 : decode b_Ma_clearSpots 2 = .ok (.bipush 14, 2) := by decide +kernel
theorem d_Ma_clearSpots_4 : decode b_Ma_clearSpots 4 = .ok (.invokestatic 43, 3) := by decide +kernel
theorem d_Ma_clearSpots_7 : decode b_Ma_clearSpots 7 = .ok (.putfield 30, 3) := by decide +kernel
theorem d_Ma_clearSpots_10 : decode b_Ma_clearSpots 10 = .ok (.iconst 0, 1) := by decide +kernel
theorem d_Ma_clearSpots_11 : decode b_Ma_clearSpots 11 = .ok (.istore_n 2, 1) := by decide +kernel
theorem d_Ma_clearSpots_12 : decode b_Ma_clearSpots 12 = .ok (.iload_n 2, 1) := by decide +kernel
theorem d_Ma_clearSpots_13 : decode b_Ma_clearSpots 13 = .ok (.aload_n 0, 1) := by decide +kernel
theorem d_Ma_clearSpots_14 : decode b_Ma_clearSpots 14 = .ok (.getfield 30, 3) := by decide +kernel
theorem d_Ma_clearSpots_17 : decode b_Ma_clearSpots 17 = .ok (.if_icmp .ge 29, 3) := by decide +kernel
theorem d_Ma_clearSpots_20 : decode b_Ma_clearSpots 20 = .ok (.aload_n 0, 1) := by decide +kernel
theorem d_Ma_clearSpots_21 : decode b_Ma_clearSpots 21 = .ok (.getfield 11, 3) := by decide +kernel
theorem d_Ma_clearSpots_24 : decode b_Ma_clearSpots 24 = .ok (.iload_n 2, 1) := by decide +kernel
theorem d_Ma_clearSpots_25 : decode b_Ma_clearSpots 25 = .ok (.aaload, 1) := by decide +kernel
theorem d_Ma_clearSpots_26 : decode b_Ma_clearSpots 26 = .ok (.aconst_null, 1) := by decide +kernel
theorem d_Ma_clearSpots_27 : decode b_Ma_clearSpots 27 = .ok (.putfield 34, 3) := by decide +kernel
theorem d_Ma_clearSpots_30 : decode b_Ma_clearSpots 30 = .ok (.aload_n 0, 1) := by decide +kernel
theorem d_Ma_clearSpots_31 : decode b_Ma_clearSpots 31 = .ok (.getfield 11, 3) := by decide +kernel
theorem d_Ma_clearSpots_34 : decode b_Ma_clearSpots 34 = .ok (.iload_n 2, 1) := by decide +kernel
theorem d_Ma_clearSpots_35 : decode b_Ma_clearSpots 35 = .ok (.aaload, 1) := by decide +kernel
theorem d_Ma_clearSpots_36 : decode b_Ma_clearSpots 36 = .ok (.lconst 0, 1) := by decide +kernel
theorem d_Ma_clearSpots_37 : decode b_Ma_clearSpots 37 = .ok (.putfield 49, 3) := by decide +kernel
theorem d_Ma_clearSpots_40 : decode b_Ma_clearSpots 40 = .ok (.iinc 2 1, 3) := by decide +kernel
theorem d_Ma_clearSpots_43 : decode b_Ma_clearSpots 43 = .ok (.goto (-31), 3) := by decide +kernel
theorem d_Ma_clearSpots_46 : decode b_Ma_clearSpots 46 = .ok (.return_, 1) := by decide +kernel
theorem d_Ma_worthOfSpots_0 : decode b_Ma_worthOfSpots 0 = .ok (.iconst 0, 1) := by decide +kernel
theorem d_Ma_worthOfSpots_1 : decode b_Ma_worthOfSpots 1 = .ok (.istore_n 1, 1) := by decide +kernel
theorem d_Ma_worthOfSpots_2 : decode b_Ma_worthOfSpots 2 = .ok (.iconst 0, 1) := by decide +kernel
theorem d_Ma_worthOfSpots_3 : decode b_Ma_worthOfSpots 3 = .ok (.istore_n 2, 1) := by decide +kernel
theorem d_Ma_worthOfSpots_4 : decode b_Ma_worthOfSpots 4 = .ok (.iload_n 2, 1) := by decide +kernel
theorem d_Ma_worthOfSpots_5 : decode b_Ma_worthOfSpots 5 = .ok (.aload_n 0, 1) := by decide +kernel
theorem d_Ma_worthOfSpots_6 : decode b_Ma_worthOfSpots 6 = .ok (.getfield 30, 3) := by decide +kernel
theorem d_Ma_worthOfSpots_9 : decode b_Ma_worthOfSpots 9 = .ok (.if_icmp .ge 32, 3) := by decide +kernel
theorem d_Ma_worthOfSpots_12 : decode b_Ma_worthOfSpots 12 = .ok (.aload_n 0, 1) := by decide +kernel
theorem d_Ma_worthOfSpots_13 : decode b_Ma_worthOfSpots 13 = .ok (.getfield 11, 3) := by decide +kernel
theorem d_Ma_worthOfSpots_16 : decode b_Ma_worthOfSpots 16 = .ok (.iload_n 2, 1) := by decide +kernel
theorem d_Ma_worthOfSpots_17 : decode b_Ma_worthOfSpots 17 = .ok (.aaload, 1) := by decide +kernel
theorem d_Ma_worthOfSpots_18 : decode b_Ma_worthOfSpots 18 = .ok (.getfield 34, 3) := by decide +kernel
theorem d_Ma_worthOfSpots_21 : decode b_Ma_worthOfSpots 21 = .ok (.astore_n 3, 1) := by decide +kernel
theorem d_Ma_worthOfSpots_22 : decode b_Ma_worthOfSpots 22 = .ok (.aload_n 3, 1) := by decide +kernel
theorem d_Ma_worthOfSpots_23 : decode b_Ma_worthOfSpots 23 = .ok (.ifnull 12, 3) := by decide +kernel
theorem d_Ma_worthOfSpots_26 : decode b_Ma_worthOfSpots 26 = .ok (.iload_n 1, 1) := by decide +kernel
theorem d_Ma_worthOfSpots_27 : decode b_Ma_worthOfSpots 27 = .ok (.aload_n 3, 1) := by decide +kernel
theorem d_Ma_worthOfSpots_28 : decode b_Ma_worthOfSpots 28 = .ok (.getfield 53, 3) := by decide +kernel
theorem d_Ma_worthOfSpots_31 : decode b_Ma_worthOfSpots 31 = .ok (.iload_n 2, 1) := by decide +kernel
theorem d_Ma_worthOfSpots_32 : decode b_Ma_worthOfSpots 32 = .ok (.iaload, 1) := by decide +kernel
theorem d_Ma_worthOfSpots_33 : decode b_Ma_worthOfSpots 33 = .ok (.iadd, 1) := by decide +kernel
theorem d_Ma_worthOfSpots_34 : decode b_Ma_worthOfSpots 34 = .ok (.istore_n 1, 1) := by decide +kernel
theorem d_Ma_worthOfSpots_35 : decode b_Ma_worthOfSpots 35 = .ok (.iinc 2 1, 3) := by decide +kernel
theorem d_Ma_worthOfSpots_38 : decode b_Ma_worthOfSpots 38 = .ok (.goto (-34), 3) := by decide +kernel
theorem d_Ma_worthOfSpots_41 : decode b_Ma_worthOfSpots 41 = .ok (.iload_n 1, 1) := by decide +kernel
theorem d_Ma_worthOfSpots_42 : decode b_Ma_worthOfSpots 42 = .ok (.ireturn, 1) := by decide +kernel
theorem d_Ma_addPerson_0 : decode b_Ma_addPerson 0 = .ok (.aload_n 0, 1) := by decide +kernel
theorem d_Ma_addPerson_1 : decode b_Ma_addPerson 1 = .ok (.invokevirtual 57, 3) := by decide +kernel
theorem d_Ma_addPerson_4 : decode b_Ma_addPerson 4 = .ok (.aload_n 1, 1) := by decide +kernel
theorem d_Ma_addPerson_5 : decode b_Ma_addPerson 5 = .ok (.lconst 0, 1) := by decide +kernel
theorem d_Ma_addPerson_6 : decode b_Ma_addPerson 6 = .ok (.putfield 60, 3) := by decide +kernel
theorem d_Ma_addPerson_9 : decode b_Ma_addPerson 9 = .ok (.aload_n 1, 1) := by decide +kernel
theorem d_Ma_addPerson_10 : decode b_Ma_addPerson 10 = .ok (.astore_n 2, 1) := by decide +kernel
theorem d_Ma_addPerson_11 : decode b_Ma_addPerson 11 = .ok (.aconst_null, 1) := by decide +kernel
theorem d_Ma_addPerson_12 : decode b_Ma_addPerson 12 = .ok (.astore_n 3, 1) := by decide +kernel
theorem d_Ma_addPerson_13 : decode b_Ma_addPerson 13 = .ok (.iconst 0, 1) := by decide +kernel
theorem d_Ma_addPerson_14 : decode b_Ma_addPerson 14 = .ok (.istore 4, 2) := by decide +kernel
theorem d_Ma_addPerson_16 : decode b_Ma_addPerson 16 = .ok (.iload 4, 2) := by decide +kernel
theorem d_Ma_addPerson_18 : decode b_Ma_addPerson 18 = .ok (.aload_n 0, 1) := by decide +kernel
theorem d_Ma_addPerson_19 : decode b_Ma_addPerson 19 = .ok (.getfield 30, 3) := by decide +kernel
theorem d_Ma_addPerson_22 : decode b_Ma_addPerson 22 = .ok (.if_icmp .ge 70, 3) := by decide +kernel
theorem d_Ma_addPerson_25 : decode b_Ma_addPerson 25 = .ok (.aload_n 0, 1) := by decide +kernel
theorem d_Ma_addPerson_26 : decode b_Ma_addPerson 26 = .ok (.aload_n 2, 1) := by decide +kernel
theorem d_Ma_addPerson_27 : decode b_Ma_addPerson 27 = .ok (.aload_n 3, 1) := by decide +kernel
theorem d_Ma_addPerson_28 : decode b_Ma_addPerson 28 = .ok (.invokevirtual 61, 3) := by decide +kernel
theorem d_Ma_addPerson_31 : decode b_Ma_addPerson 31 = .ok (.aload_n 0, 1) := by decide +kernel
theorem d_Ma_addPerson_32 : decode b_Ma_addPerson 32 = .ok (.invokevirtual 65, 3) := by decide +kernel
theorem d_Ma_addPerson_35 : decode b_Ma_addPerson 35 = .ok (.astore 5, 2) := by decide +kernel
theorem d_Ma_addPerson_37 : decode b_Ma_addPerson 37 = .ok (.aload 5, 2) := by decide +kernel
theorem d_Ma_addPerson_39 : decode b_Ma_addPerson 39 = .ok (.ifnonnull 5, 3) := by decide +kernel
theorem d_Ma_addPerson_42 : decode b_Ma_addPerson 42 = .ok (.iconst 0, 1) := by decide +kernel
theorem d_Ma_addPerson_43 : decode b_Ma_addPerson 43 = .ok (.ireturn, 1) := by decide +kernel
theorem d_Ma_addPerson_44 : decode b_Ma_addPerson 44 = .ok (.aload_n 0, 1) := by decide +kernel
theorem d_Ma_addPerson_45 : decode b_Ma_addPerson 45 = .ok (.aload_n 1, 1) := by decide +kernel
theorem d_Ma_addPerson_46 : decode b_Ma_addPerson 46 = .ok (.aload 5, 2) := by decide +kernel
theorem d_Ma_addPerson_48 : decode b_Ma_addPerson 48 = .ok (.getfield 69, 3) := by decide +kernel
theorem d_Ma_addPerson_51 : decode b_Ma_addPerson 51 = .ok (.invokevirtual 72, 3) := by decide +kernel
theorem d_Ma_addPerson_54 : decode b_Ma_addPerson 54 = .ok (.aload 5, 2) := by decide +kernel
theorem d_Ma_addPerson_56 : decode b_Ma_addPerson 56 = .ok (.iconst 1, 1) := by decide +kernel
theorem d_Ma_addPerson_57 : decode b_Ma_addPerson 57 = .ok (.putfield 76, 3) := by decide +kernel
theorem d_Ma_addPerson_60 : decode b_Ma_addPerson 60 = .ok (.aload 5, 2) := by decide +kernel
theorem d_Ma_addPerson_62 : decode b_Ma_addPerson 62 = .ok (.getfield 34, 3) := by decide +kernel
theorem d_Ma_addPerson_65 : decode b_Ma_addPerson 65 = .ok (.ifnonnull 12, 3) := by decide +kernel
theorem d_Ma_addPerson_68 : decode b_Ma_addPerson 68 = .ok (.aload_n 0, 1) := by decide +kernel
theorem d_Ma_addPerson_69 : decode b_Ma_addPerson 69 = .ok (.aload 5, 2) := by decide +kernel
theorem d_Ma_addPerson_71 : decode b_Ma_addPerson 71 = .ok (.aload_n 1, 1) := by decide +kernel
theorem d_Ma_addPerson_72 : decode b_Ma_addPerson 72 = .ok (.invokevirtual 80, 3) := by decide +kernel
theorem d_Ma_addPerson_75 : decode b_Ma_addPerson 75 = .ok (.iconst 1, 1) := by decide +kernel
theorem d_Ma_addPerson_76 : decode b_Ma_addPerson 76 = .ok (.ireturn, 1) := by decide +kernel
theorem d_Ma_addPerson_77 : decode b_Ma_addPerson 77 = .ok (.aload 5, 2) := by decide +kernel
theorem d_Ma_addPerson_79 : decode b_Ma_addPerson 79 = .ok (.getfield 34, 3) := by decide +kernel
theorem d_Ma_addPerson_82 : decode b_Ma_addPerson 82 = .ok (.astore_n 2, 1) := by decide +kernel
theorem d_Ma_addPerson_83 : decode b_Ma_addPerson 83 = .ok (.aload 5, 2) := by decide +kernel
theorem d_Ma_addPerson_85 : decode b_Ma_addPerson 85 = .ok (.astore_n 3, 1) := by decide +kernel
theorem d_Ma_addPerson_86 : decode b_Ma_addPerson 86 = .ok (.iinc 4 1, 3) := by decide +kernel
theorem d_Ma_addPerson_89 : decode b_Ma_addPerson 89 = .ok (.goto (-73), 3) := by decide +kernel
theorem d_Ma_addPerson_92 : decode b_Ma_addPerson 92 = .ok (.iconst 0, 1) := by decide +kernel
theorem d_Ma_addPerson_93 : decode b_Ma_addPerson 93 = .ok (.ireturn, 1) := by decide +kernel
theorem d_Ma_startSearch_0 : decode b_Ma_startSearch 0 = .ok (.iconst 0, 1) := by decide +kernel
theorem d_Ma_startSearch_1 : decode b_Ma_startSearch 1 = .ok (.istore_n 1, 1) := by decide +kernel
theorem d_Ma_startSearch_2 : decode b_Ma_startSearch 2 = .ok (.iload_n 1, 1) := by decide +kernel
theorem d_Ma_startSearch_3 : decode b_Ma_startSearch 3 = .ok (.aload_n 0, 1) := by decide +kernel
theorem d_Ma_startSearch_4 : decode b_Ma_startSearch 4 = .ok (.getfield 30, 3) := by decide +kernel
theorem d_Ma_startSearch_7 : decode b_Ma_startSearch 7 = .ok (.if_icmp .ge 41, 3) := by decide +kernel
theorem d_Ma_startSearch_10 : decode b_Ma_startSearch 10 = .ok (.aload_n 0, 1) := by decide +kernel
theorem d_Ma_startSearch_11 : decode b_Ma_startSearch 11 = .ok (.getfield 11, 3) := by decide +kernel
theorem d_Ma_startSearch_14 : decode b_Ma_startSearch 14 = .ok (.iload_n 1, 1) := by decide +kernel
theorem d_Ma_startSearch_15 : decode b_Ma_startSearch 15 = .ok (.aaload, 1) := by decide +kernel
theorem d_Ma_startSearch_16 : decode b_Ma_startSearch 16 = .ok (.ldc2_w 84, 3) := by decide +kernel
theorem d_Ma_startSearch_19 : decode b_Ma_startSearch 19 = .ok (.putfield 69, 3) := by decide +kernel
theorem d_Ma_startSearch_22 : decode b_Ma_startSearch 22 = .ok (.aload_n 0, 1) := by decide +kernel
theorem d_Ma_startSearch_23 : decode b_Ma_startSearch 23 = .ok (.getfield 11, 3) := by decide +kernel
theorem d_Ma_startSearch_26 : decode b_Ma_startSearch 26 = .ok (.iload_n 1, 1) := by decide +kernel
theorem d_Ma_startSearch_27 : decode b_Ma_startSearch 27 = .ok (.aaload, 1) := by decide +kernel
theorem d_Ma_startSearch_28 : decode b_Ma_startSearch 28 = .ok (.aconst_null, 1) := by decide +kernel
theorem d_Ma_startSearch_29 : decode b_Ma_startSearch 29 = .ok (.putfield 86, 3) := by decide +kernel
theorem d_Ma_startSearch_32 : decode b_Ma_startSearch 32 = .ok (.aload_n 0, 1) := by decide +kernel
theorem d_Ma_startSearch_33 : decode b_Ma_startSearch 33 = .ok (.getfield 11, 3) := by decide +kernel
theorem d_Ma_startSearch_36 : decode b_Ma_startSearch 36 = .ok (.iload_n 1, 1) := by decide +kernel
theorem d_Ma_startSearch_37 : decode b_Ma_startSearch 37 = .ok (.aaload, 1) := by decide +kernel
theorem d_Ma_startSearch_38 : decode b_Ma_startSearch 38 = .ok (.iconst 0, 1) := by decide +kernel
theorem d_Ma_startSearch_39 : decode b_Ma_startSearch 39 = .ok (.putfield 76, 3) := by decide +kernel
theorem d_Ma_startSearch_42 : decode b_Ma_startSearch 42 = .ok (.iinc 1 1, 3) := by decide +kernel
theorem d_Ma_startSearch_45 : decode b_Ma_startSearch 45 = .ok (.goto (-43), 3) := by decide +kernel
theorem d_Ma_startSearch_48 : decode b_Ma_startSearch 48 = .ok (.return_, 1) := by decide +kernel
theorem d_Ma_lookFrom_0 : decode b_Ma_lookFrom 0 = .ok (.iconst 0, 1) := by decide +kernel
theorem d_Ma_lookFrom_1 : decode b_Ma_lookFrom 1 = .ok (.istore_n 3, 1) := by decide +kernel
theorem d_Ma_lookFrom_2 : decode b_Ma_lookFrom 2 = .ok (.iload_n 3, 1) := by decide +kernel
theorem d_Ma_lookFrom_3 : decode b_Ma_lookFrom 3 = .ok (.aload_n 0, 1) := by decide +kernel
theorem d_Ma_lookFrom_4 : decode b_Ma_lookFrom 4 = .ok (.getfield 30, 3) := by decide +kernel
theorem d_Ma_lookFrom_7 : decode b_Ma_lookFrom 7 = .ok (.if_icmp .ge 79, 3) := by decide +kernel
theorem d_Ma_lookFrom_10 : decode b_Ma_lookFrom 10 = .ok (.aload_n 0, 1) := by decide +kernel
theorem d_Ma_lookFrom_11 : decode b_Ma_lookFrom 11 = .ok (.getfield 11, 3) := by decide +kernel
theorem d_Ma_lookFrom_14 : decode b_Ma_lookFrom 14 = .ok (.iload_n 3, 1) := by decide +kernel
theorem d_Ma_lookFrom_15 : decode b_Ma_lookFrom 15 = .ok (.aaload, 1) := by decide +kernel
theorem d_Ma_lookFrom_16 : decode b_Ma_lookFrom 16 = .ok (.astore 4, 2) := by decide +kernel
theorem d_Ma_lookFrom_18 : decode b_Ma_lookFrom 18 = .ok (.aload 4, 2) := by decide +kernel
theorem d_Ma_lookFrom_20 : decode b_Ma_lookFrom 20 = .ok (.getfield 76, 3) := by decide +kernel
theorem d_Ma_lookFrom_23 : decode b_Ma_lookFrom 23 = .ok (.ifCond .ne 57, 3) := by decide +kernel
theorem d_Ma_lookFrom_26 : decode b_Ma_lookFrom 26 = .ok (.aload_n 1, 1) := by decide +kernel
theorem d_Ma_lookFrom_27 : decode b_Ma_lookFrom 27 = .ok (.getfield 90, 3) := by decide +kernel
theorem d_Ma_lookFrom_30 : decode b_Ma_lookFrom 30 = .ok (.iload_n 3, 1) := by decide +kernel
theorem d_Ma_lookFrom_31 : decode b_Ma_lookFrom 31 = .ok (.baload, 1) := by decide +kernel
theorem d_Ma_lookFrom_32 : decode b_Ma_lookFrom 32 = .ok (.ifCond .eq 6, 3) := by decide +kernel
theorem d_Ma_lookFrom_35 : decode b_Ma_lookFrom 35 = .ok (.goto 45, 3) := by decide +kernel
theorem d_Ma_lookFrom_38 : decode b_Ma_lookFrom 38 = .ok (.aload_n 1, 1) := by decide +kernel
theorem d_Ma_lookFrom_39 : decode b_Ma_lookFrom 39 = .ok (.iload_n 3, 1) := by decide +kernel
theorem d_Ma_lookFrom_40 : decode b_Ma_lookFrom 40 = .ok (.invokevirtual 94, 3) := by decide +kernel
theorem d_Ma_lookFrom_43 : decode b_Ma_lookFrom 43 = .ok (.aload_n 1, 1) := by decide +kernel
theorem d_Ma_lookFrom_44 : decode b_Ma_lookFrom 44 = .ok (.getfield 60, 3) := by decide +kernel
theorem d_Ma_lookFrom_47 : decode b_Ma_lookFrom 47 = .ok (.lsub, 1) := by decide +kernel
theorem d_Ma_lookFrom_48 : decode b_Ma_lookFrom 48 = .ok (.aload 4, 2) := by decide +kernel
theorem d_Ma_lookFrom_50 : decode b_Ma_lookFrom 50 = .ok (.getfield 49, 3) := by decide +kernel
theorem d_Ma_lookFrom_53 : decode b_Ma_lookFrom 53 = .ok (.lsub, 1) := by decide +kernel
theorem d_Ma_lookFrom_54 : decode b_Ma_lookFrom 54 = .ok (.lstore 5, 2) := by decide +kernel
theorem d_Ma_lookFrom_56 : decode b_Ma_lookFrom 56 = .ok (.lload 5, 2) := by decide +kernel
theorem d_Ma_lookFrom_58 : decode b_Ma_lookFrom 58 = .ok (.aload 4, 2) := by decide +kernel
theorem d_Ma_lookFrom_60 : decode b_Ma_lookFrom 60 = .ok (.getfield 69, 3) := by decide +kernel
theorem d_Ma_lookFrom_63 : decode b_Ma_lookFrom 63 = .ok (.lcmp, 1) := by decide +kernel
theorem d_Ma_lookFrom_64 : decode b_Ma_lookFrom 64 = .ok (.ifCond .ge 16, 3) := by decide +kernel
theorem d_Ma_lookFrom_67 : decode b_Ma_lookFrom 67 = .ok (.aload 4, 2) := by decide +kernel
theorem d_Ma_lookFrom_69 : decode b_Ma_lookFrom 69 = .ok (.lload 5, 2) := by decide +kernel
theorem d_Ma_lookFrom_71 : decode b_Ma_lookFrom 71 = .ok (.putfield 69, 3) := by decide +kernel
theorem d_Ma_lookFrom_74 : decode b_Ma_lookFrom 74 = .ok (.aload 4, 2) := by decide +kernel
theorem d_Ma_lookFrom_76 : decode b_Ma_lookFrom 76 = .ok (.aload_n 2, 1) := by decide +kernel
theorem d_Ma_lookFrom_77 : decode b_Ma_lookFrom 77 = .ok (.putfield 86, 3) := by decide +kernel
theorem d_Ma_lookFrom_80 : decode b_Ma_lookFrom 80 = .ok (.iinc 3 1, 3) := by decide +kernel
theorem d_Ma_lookFrom_83 : decode b_Ma_lookFrom 83 = .ok (.goto (-81), 3) := by decide +kernel
theorem d_Ma_lookFrom_86 : decode b_Ma_lookFrom 86 = .ok (.return_, 1) := by decide +kernel
theorem d_Ma_nearestSpot_0 : decode b_Ma_nearestSpot 0 = .ok (.aconst_null, 1) := by decide +kernel
theorem d_Ma_nearestSpot_1 : decode b_Ma_nearestSpot 1 = .ok (.astore_n 1, 1) := by decide +kernel
theorem d_Ma_nearestSpot_2 : decode b_Ma_nearestSpot 2 = .ok (.ldc2_w 84, 3) := by decide +kernel
theorem d_Ma_nearestSpot_5 : decode b_Ma_nearestSpot 5 = .ok (.lstore_n 2, 1) := by decide +kernel
theorem d_Ma_nearestSpot_6 : decode b_Ma_nearestSpot 6 = .ok (.iconst 0, 1) := by decide +kernel
theorem d_Ma_nearestSpot_7 : decode b_Ma_nearestSpot 7 = .ok (.istore 4, 2) := by decide +kernel
theorem d_Ma_nearestSpot_9 : decode b_Ma_nearestSpot 9 = .ok (.iload 4, 2) := by decide +kernel
theorem d_Ma_nearestSpot_11 : decode b_Ma_nearestSpot 11 = .ok (.aload_n 0, 1) := by decide +kernel
theorem d_Ma_nearestSpot_12 : decode b_Ma_nearestSpot 12 = .ok (.getfield 30, 3) := by decide +kernel
theorem d_Ma_nearestSpot_15 : decode b_Ma_nearestSpot 15 = .ok (.if_icmp .ge 50, 3) := by decide +kernel
theorem d_Ma_nearestSpot_18 : decode b_Ma_nearestSpot 18 = .ok (.aload_n 0, 1) := by decide +kernel
theorem d_Ma_nearestSpot_19 : decode b_Ma_nearestSpot 19 = .ok (.getfield 11, 3) := by decide +kernel
theorem d_Ma_nearestSpot_22 : decode b_Ma_nearestSpot 22 = .ok (.iload 4, 2) := by decide +kernel
theorem d_Ma_nearestSpot_24 : decode b_Ma_nearestSpot 24 = .ok (.aaload, 1) := by decide +kernel
theorem d_Ma_nearestSpot_25 : decode b_Ma_nearestSpot 25 = .ok (.getfield 76, 3) := by decide +kernel
theorem d_Ma_nearestSpot_28 : decode b_Ma_nearestSpot 28 = .ok (.ifCond .ne 31, 3) := by decide +kernel
theorem d_Ma_nearestSpot_31 : decode b_Ma_nearestSpot 31 = .ok (.aload_n 0, 1) := by decide +kernel
theorem d_Ma_nearestSpot_32 : decode b_Ma_nearestSpot 32 = .ok (.getfield 11, 3) := by decide +kernel
theorem d_Ma_nearestSpot_35 : decode b_Ma_nearestSpot 35 = .ok (.iload 4, 2) := by decide +kernel
theorem d_Ma_nearestSpot_37 : decode b_Ma_nearestSpot 37 = .ok (.aaload, 1) := by decide +kernel
theorem d_Ma_nearestSpot_38 : decode b_Ma_nearestSpot 38 = .ok (.getfield 69, 3) := by decide +kernel
theorem d_Ma_nearestSpot_41 : decode b_Ma_nearestSpot 41 = .ok (.lload_n 2, 1) := by decide +kernel
theorem d_Ma_nearestSpot_42 : decode b_Ma_nearestSpot 42 = .ok (.lcmp, 1) := by decide +kernel
theorem d_Ma_nearestSpot_43 : decode b_Ma_nearestSpot 43 = .ok (.ifCond .ge 16, 3) := by decide +kernel
theorem d_Ma_nearestSpot_46 : decode b_Ma_nearestSpot 46 = .ok (.aload_n 0, 1) := by decide +kernel
theorem d_Ma_nearestSpot_47 : decode b_Ma_nearestSpot 47 = .ok (.getfield 11, 3) := by decide +kernel
theorem d_Ma_nearestSpot_50 : decode b_Ma_nearestSpot 50 = .ok (.iload 4, 2) := by decide +kernel
theorem d_Ma_nearestSpot_52 : decode b_Ma_nearestSpot 52 = .ok (.aaload, 1) := by decide +kernel
theorem d_Ma_nearestSpot_53 : decode b_Ma_nearestSpot 53 = .ok (.astore_n 1, 1) := by decide +kernel
theorem d_Ma_nearestSpot_54 : decode b_Ma_nearestSpot 54 = .ok (.aload_n 1, 1) := by decide +kernel
theorem d_Ma_nearestSpot_55 : decode b_Ma_nearestSpot 55 = .ok (.getfield 69, 3) := by decide +kernel
theorem d_Ma_nearestSpot_58 : decode b_Ma_nearestSpot 58 = .ok (.lstore_n 2, 1) := by decide +kernel
theorem d_Ma_nearestSpot_59 : decode b_Ma_nearestSpot 59 = .ok (.iinc 4 1, 3) := by decide +kernel
theorem d_Ma_nearestSpot_62 : decode b_Ma_nearestSpot 62 = .ok (.goto (-53), 3) := by decide +kernel
theorem d_Ma_nearestSpot_65 : decode b_Ma_nearestSpot 65 = .ok (.aload_n 1, 1) := by decide +kernel
theorem d_Ma_nearestSpot_66 : decode b_Ma_nearestSpot 66 = .ok (.areturn, 1) := by decide +kernel
theorem d_Ma_shiftPrices_0 : decode b_Ma_shiftPrices 0 = .ok (.aload_n 1, 1) := by decide +kernel
theorem d_Ma_shiftPrices_1 : decode b_Ma_shiftPrices 1 = .ok (.dup, 1) := by decide +kernel
theorem d_Ma_shiftPrices_2 : decode b_Ma_shiftPrices 2 = .ok (.getfield 60, 3) := by decide +kernel
theorem d_Ma_shiftPrices_5 : decode b_Ma_shiftPrices 5 = .ok (.lload_n 2, 1) := by decide +kernel
theorem d_Ma_shiftPrices_6 : decode b_Ma_shiftPrices 6 = .ok (.ladd, 1) := by decide +kernel
theorem d_Ma_shiftPrices_7 : decode b_Ma_shiftPrices 7 = .ok (.putfield 60, 3) := by decide +kernel
theorem d_Ma_shiftPrices_10 : decode b_Ma_shiftPrices 10 = .ok (.iconst 0, 1) := by decide +kernel
theorem d_Ma_shiftPrices_11 : decode b_Ma_shiftPrices 11 = .ok (.istore 4, 2) := by decide +kernel
theorem d_Ma_shiftPrices_13 : decode b_Ma_shiftPrices 13 = .ok (.iload 4, 2) := by decide +kernel
theorem d_Ma_shiftPrices_15 : decode b_Ma_shiftPrices 15 = .ok (.aload_n 0, 1) := by decide +kernel
theorem d_Ma_shiftPrices_16 : decode b_Ma_shiftPrices 16 = .ok (.getfield 30, 3) := by decide +kernel
theorem d_Ma_shiftPrices_19 : decode b_Ma_shiftPrices 19 = .ok (.if_icmp .ge 85, 3) := by decide +kernel
theorem d_Ma_shiftPrices_22 : decode b_Ma_shiftPrices 22 = .ok (.aload_n 0, 1) := by decide +kernel
theorem d_Ma_shiftPrices_23 : decode b_Ma_shiftPrices 23 = .ok (.getfield 11, 3) := by decide +kernel
theorem d_Ma_shiftPrices_26 : decode b_Ma_shiftPrices 26 = .ok (.iload 4, 2) := by decide +kernel
theorem d_Ma_shiftPrices_28 : decode b_Ma_shiftPrices 28 = .ok (.aaload, 1) := by decide +kernel
theorem d_Ma_shiftPrices_29 : decode b_Ma_shiftPrices 29 = .ok (.astore 5, 2) := by decide +kernel
theorem d_Ma_shiftPrices_31 : decode b_Ma_shiftPrices 31 = .ok (.aload 5, 2) := by decide +kernel
theorem d_Ma_shiftPrices_33 : decode b_Ma_shiftPrices 33 = .ok (.getfield 76, 3) := by decide +kernel
theorem d_Ma_shiftPrices_36 : decode b_Ma_shiftPrices 36 = .ok (.ifCond .eq 39, 3) := by decide +kernel
theorem d_Ma_shiftPrices_39 : decode b_Ma_shiftPrices 39 = .ok (.aload 5, 2) := by decide +kernel
theorem d_Ma_shiftPrices_41 : decode b_Ma_shiftPrices 41 = .ok (.dup, 1) := by decide +kernel
theorem d_Ma_shiftPrices_42 : decode b_Ma_shiftPrices 42 = .ok (.getfield 49, 3) := by decide +kernel
theorem d_Ma_shiftPrices_45 : decode b_Ma_shiftPrices 45 = .ok (.lload_n 2, 1) := by decide +kernel
theorem d_Ma_shiftPrices_46 : decode b_Ma_shiftPrices 46 = .ok (.lsub, 1) := by decide +kernel
theorem d_Ma_shiftPrices_47 : decode b_Ma_shiftPrices 47 = .ok (.putfield 49, 3) := by decide +kernel
theorem d_Ma_shiftPrices_50 : decode b_Ma_shiftPrices 50 = .ok (.aload 5, 2) := by decide +kernel
theorem d_Ma_shiftPrices_52 : decode b_Ma_shiftPrices 52 = .ok (.getfield 34, 3) := by decide +kernel
theorem d_Ma_shiftPrices_55 : decode b_Ma_shiftPrices 55 = .ok (.ifnull 43, 3) := by decide +kernel
theorem d_Ma_shiftPrices_58 : decode b_Ma_shiftPrices 58 = .ok (.aload 5, 2) := by decide +kernel
theorem d_Ma_shiftPrices_60 : decode b_Ma_shiftPrices 60 = .ok (.getfield 34, 3) := by decide +kernel
theorem d_Ma_shiftPrices_63 : decode b_Ma_shiftPrices 63 = .ok (.dup, 1) := by decide +kernel
theorem d_Ma_shiftPrices_64 : decode b_Ma_shiftPrices 64 = .ok (.getfield 60, 3) := by decide +kernel
theorem d_Ma_shiftPrices_67 : decode b_Ma_shiftPrices 67 = .ok (.lload_n 2, 1) := by decide +kernel
theorem d_Ma_shiftPrices_68 : decode b_Ma_shiftPrices 68 = .ok (.ladd, 1) := by decide +kernel
theorem d_Ma_shiftPrices_69 : decode b_Ma_shiftPrices 69 = .ok (.putfield 60, 3) := by decide +kernel
theorem d_Ma_shiftPrices_72 : decode b_Ma_shiftPrices 72 = .ok (.goto 26, 3) := by decide +kernel
theorem d_Ma_shiftPrices_75 : decode b_Ma_shiftPrices 75 = .ok (.aload 5, 2) := by decide +kernel
theorem d_Ma_shiftPrices_77 : decode b_Ma_shiftPrices 77 = .ok (.getfield 69, 3) := by decide +kernel
theorem d_Ma_shiftPrices_80 : decode b_Ma_shiftPrices 80 = .ok (.ldc2_w 84, 3) := by decide +kernel
theorem d_Ma_shiftPrices_83 : decode b_Ma_shiftPrices 83 = .ok (.lcmp, 1) := by decide +kernel
theorem d_Ma_shiftPrices_84 : decode b_Ma_shiftPrices 84 = .ok (.ifCond .ge 14, 3) := by decide +kernel
theorem d_Ma_shiftPrices_87 : decode b_Ma_shiftPrices 87 = .ok (.aload 5, 2) := by decide +kernel
theorem d_Ma_shiftPrices_89 : decode b_Ma_shiftPrices 89 = .ok (.dup, 1) := by decide +kernel
theorem d_Ma_shiftPrices_90 : decode b_Ma_shiftPrices 90 = .ok (.getfield 69, 3) := by decide +kernel
theorem d_Ma_shiftPrices_93 : decode b_Ma_shiftPrices 93 = .ok (.lload_n 2, 1) := by decide +kernel
theorem d_Ma_shiftPrices_94 : decode b_Ma_shiftPrices 94 = .ok (.lsub, 1) := by decide +kernel
theorem d_Ma_shiftPrices_95 : decode b_Ma_shiftPrices 95 = .ok (.putfield 69, 3) := by decide +kernel
theorem d_Ma_shiftPrices_98 : decode b_Ma_shiftPrices 98 = .ok (.iinc 4 1, 3) := by decide +kernel
theorem d_Ma_shiftPrices_101 : decode b_Ma_shiftPrices 101 = .ok (.goto (-88), 3) := by decide +kernel
theorem d_Ma_shiftPrices_104 : decode b_Ma_shiftPrices 104 = .ok (.return_, 1) := by decide +kernel
theorem d_Ma_handOn_0 : decode b_Ma_handOn 0 = .ok (.aload_n 1, 1) := by decide +kernel
theorem d_Ma_handOn_1 : decode b_Ma_handOn 1 = .ok (.astore_n 3, 1) := by decide +kernel
theorem d_Ma_handOn_2 : decode b_Ma_handOn 2 = .ok (.aload_n 3, 1) := by decide +kernel
theorem d_Ma_handOn_3 : decode b_Ma_handOn 3 = .ok (.ifnull 33, 3) := by decide +kernel
theorem d_Ma_handOn_6 : decode b_Ma_handOn 6 = .ok (.aload_n 3, 1) := by decide +kernel
theorem d_Ma_handOn_7 : decode b_Ma_handOn 7 = .ok (.aload_n 3, 1) := by decide +kernel
theorem d_Ma_handOn_8 : decode b_Ma_handOn 8 = .ok (.getfield 86, 3) := by decide +kernel
theorem d_Ma_handOn_11 : decode b_Ma_handOn 11 = .ok (.ifnonnull 7, 3) := by decide +kernel
theorem d_Ma_handOn_14 : decode b_Ma_handOn 14 = .ok (.aload_n 2, 1) := by decide +kernel
theorem d_Ma_handOn_15 : decode b_Ma_handOn 15 = .ok (.goto 10, 3) := by decide +kernel
theorem d_Ma_handOn_18 : decode b_Ma_handOn 18 = .ok (.aload_n 3, 1) := by decide +kernel
theorem d_Ma_handOn_19 : decode b_Ma_handOn 19 = .ok (.getfield 86, 3) := by decide +kernel
theorem d_Ma_handOn_22 : decode b_Ma_handOn 22 = .ok (.getfield 34, 3) := by decide +kernel
theorem d_Ma_handOn_25 : decode b_Ma_handOn 25 = .ok (.putfield 34, 3) := by decide +kernel
theorem d_Ma_handOn_28 : decode b_Ma_handOn 28 = .ok (.aload_n 3, 1) := by decide +kernel
theorem d_Ma_handOn_29 : decode b_Ma_handOn 29 = .ok (.getfield 86, 3) := by decide +kernel
theorem d_Ma_handOn_32 : decode b_Ma_handOn 32 = .ok (.astore_n 3, 1) := by decide +kernel
theorem d_Ma_handOn_33 : decode b_Ma_handOn 33 = .ok (.goto (-31), 3) := by decide +kernel
theorem d_Ma_handOn_36 : decode b_Ma_handOn 36 = .ok (.return_, 1) := by decide +kernel
theorem d_Pe_init_0 : decode b_Pe_init 0 = .ok (.aload_n 0, 1) := by decide +kernel
theorem d_Pe_init_1 : decode b_Pe_init 1 = .ok (.invokespecial 3, 3) := by decide +kernel
theorem d_Pe_init_4 : decode b_Pe_init 4 = .ok (.aload_n 0, 1) := by decide +kernel
theorem d_Pe_init_5 : decode b_Pe_init 5 = .ok (.bipush 14, 2) := by decide +kernel
theorem d_Pe_init_7 : decode b_Pe_init 7 = .ok (.newarray .int, 2) := by decide +kernel
theorem d_Pe_init_9 : decode b_Pe_init 9 = .ok (.putfield 9, 3) := by decide +kernel
theorem d_Pe_init_12 : decode b_Pe_init 12 = .ok (.aload_n 0, 1) := by decide +kernel
theorem d_Pe_init_13 : decode b_Pe_init 13 = .ok (.bipush 14, 2) := by decide +kernel
theorem d_Pe_init_15 : decode b_Pe_init 15 = .ok (.newarray .boolean, 2) := by decide +kernel
theorem d_Pe_init_17 : decode b_Pe_init 17 = .ok (.putfield 15, 3) := by decide +kernel
theorem d_Pe_init_20 : decode b_Pe_init 20 = .ok (.aload_n 0, 1) := by decide +kernel
theorem d_Pe_init_21 : decode b_Pe_init 21 = .ok (.iconst (-1), 1) := by decide +kernel
theorem d_Pe_init_22 : decode b_Pe_init 22 = .ok (.putfield 19, 3) := by decide +kernel
theorem d_Pe_init_25 : decode b_Pe_init 25 = .ok (.aload_n 0, 1) := by decide +kernel
theorem d_Pe_init_26 : decode b_Pe_init 26 = .ok (.iconst (-1), 1) := by decide +kernel
theorem d_Pe_init_27 : decode b_Pe_init 27 = .ok (.putfield 23, 3) := by decide +kernel
theorem d_Pe_init_30 : decode b_Pe_init 30 = .ok (.aload_n 0, 1) := by decide +kernel
theorem d_Pe_init_31 : decode b_Pe_init 31 = .ok (.iconst (-1), 1) := by decide +kernel
theorem d_Pe_init_32 : decode b_Pe_init 32 = .ok (.putfield 26, 3) := by decide +kernel
theorem d_Pe_init_35 : decode b_Pe_init 35 = .ok (.aload_n 0, 1) := by decide +kernel
theorem d_Pe_init_36 : decode b_Pe_init 36 = .ok (.iload_n 1, 1) := by decide +kernel
theorem d_Pe_init_37 : decode b_Pe_init 37 = .ok (.putfield 29, 3) := by decide +kernel
theorem d_Pe_init_40 : decode b_Pe_init 40 = .ok (.return_, 1) := by decide +kernel
theorem d_Pe_wouldMoveTo_0 : decode b_Pe_wouldMoveTo 0 = .ok (.aload_n 0, 1) := by decide +kernel
theorem d_Pe_wouldMoveTo_1 : decode b_Pe_wouldMoveTo 1 = .ok (.getfield 19, 3) := by decide +kernel
theorem d_Pe_wouldMoveTo_4 : decode b_Pe_wouldMoveTo 4 = .ok (.iconst (-1), 1) := by decide +kernel
theorem d_Pe_wouldMoveTo_5 : decode b_Pe_wouldMoveTo 5 = .ok (.if_icmp .eq 15, 3) := by decide +kernel
theorem d_Pe_wouldMoveTo_8 : decode b_Pe_wouldMoveTo 8 = .ok (.aload_n 0, 1) := by decide +kernel
theorem d_Pe_wouldMoveTo_9 : decode b_Pe_wouldMoveTo 9 = .ok (.getfield 19, 3) := by decide +kernel
theorem d_Pe_wouldMoveTo_12 : decode b_Pe_wouldMoveTo 12 = .ok (.iload_n 1, 1) := by decide +kernel
theorem d_Pe_wouldMoveTo_13 : decode b_Pe_wouldMoveTo 13 = .ok (.if_icmp .eq 7, 3) := by decide +kernel
theorem d_Pe_wouldMoveTo_16 : decode b_Pe_wouldMoveTo 16 = .ok (.iconst 1, 1) := by decide +kernel
theorem d_Pe_wouldMoveTo_17 : decode b_Pe_wouldMoveTo 17 = .ok (.goto 4, 3) := by decide +kernel
theorem d_Pe_wouldMoveTo_20 : decode b_Pe_wouldMoveTo 20 = .ok (.iconst 0, 1) := by decide +kernel
theorem d_Pe_wouldMoveTo_21 : decode b_Pe_wouldMoveTo 21 = .ok (.ireturn, 1) := by decide +kernel
theorem d_Pe_costAt_0 : decode b_Pe_costAt 0 = .ok (.sipush 1000, 3) := by decide +kernel
theorem d_Pe_costAt_3 : decode b_Pe_costAt 3 = .ok (.aload_n 0, 1) := by decide +kernel
theorem d_Pe_costAt_4 : decode b_Pe_costAt 4 = .ok (.getfield 9, 3) := by decide +kernel
theorem d_Pe_costAt_7 : decode b_Pe_costAt 7 = .ok (.iload_n 1, 1) := by decide +kernel
theorem d_Pe_costAt_8 : decode b_Pe_costAt 8 = .ok (.iaload, 1) := by decide +kernel
theorem d_Pe_costAt_9 : decode b_Pe_costAt 9 = .ok (.isub, 1) := by decide +kernel
theorem d_Pe_costAt_10 : decode b_Pe_costAt 10 = .ok (.i2l, 1) := by decide +kernel
theorem d_Pe_costAt_11 : decode b_Pe_costAt 11 = .ok (.ldc2_w 32, 3) := by decide +kernel
theorem d_Pe_costAt_14 : decode b_Pe_costAt 14 = .ok (.lmul, 1) := by decide +kernel
theorem d_Pe_costAt_15 : decode b_Pe_costAt 15 = .ok (.lstore_n 2, 1) := by decide +kernel
theorem d_Pe_costAt_16 : decode b_Pe_costAt 16 = .ok (.aload_n 0, 1) := by decide +kernel
theorem d_Pe_costAt_17 : decode b_Pe_costAt 17 = .ok (.iload_n 1, 1) := by decide +kernel
theorem d_Pe_costAt_18 : decode b_Pe_costAt 18 = .ok (.invokevirtual 34, 3) := by decide +kernel
theorem d_Pe_costAt_21 : decode b_Pe_costAt 21 = .ok (.ifCond .eq 9, 3) := by decide +kernel
theorem d_Pe_costAt_24 : decode b_Pe_costAt 24 = .ok (.lload_n 2, 1) := by decide +kernel
theorem d_Pe_costAt_25 : decode b_Pe_costAt 25 = .ok (.ldc2_w 38, 3) := by decide +kernel
theorem d_Pe_costAt_28 : decode b_Pe_costAt 28 = .ok (.ladd, 1) := by decide +kernel
theorem d_Pe_costAt_29 : decode b_Pe_costAt 29 = .ok (.lstore_n 2, 1) := by decide +kernel
theorem d_Pe_costAt_30 : decode b_Pe_costAt 30 = .ok (.lload_n 2, 1) := by decide +kernel
theorem d_Pe_costAt_31 : decode b_Pe_costAt 31 = .ok (.iload_n 1, 1) := by decide +kernel
theorem d_Pe_costAt_32 : decode b_Pe_costAt 32 = .ok (.i2l, 1) := by decide +kernel
theorem d_Pe_costAt_33 : decode b_Pe_costAt 33 = .ok (.iconst 4, 1) := by decide +kernel
theorem d_Pe_costAt_34 : decode b_Pe_costAt 34 = .ok (.bipush 9, 2) := by decide +kernel
theorem d_Pe_costAt_36 : decode b_Pe_costAt 36 = .ok (.aload_n 0, 1) := by decide +kernel
theorem d_Pe_costAt_37 : decode b_Pe_costAt 37 = .ok (.getfield 29, 3) := by decide +kernel
theorem d_Pe_costAt_40 : decode b_Pe_costAt 40 = .ok (.isub, 1) := by decide +kernel
theorem d_Pe_costAt_41 : decode b_Pe_costAt 41 = .ok (.imul, 1) := by decide +kernel
theorem d_Pe_costAt_42 : decode b_Pe_costAt 42 = .ok (.lshl, 1) := by decide +kernel
theorem d_Pe_costAt_43 : decode b_Pe_costAt 43 = .ok (.ladd, 1) := by decide +kernel
theorem d_Pe_costAt_44 : decode b_Pe_costAt 44 = .ok (.lreturn, 1) := by decide +kernel
theorem d_Ro_init_0 : decode b_Ro_init 0 = .ok (.aload_n 0, 1) := by decide +kernel
theorem d_Ro_init_1 : decode b_Ro_init 1 = .ok (.invokespecial 1, 3) := by decide +kernel
theorem d_Ro_init_4 : decode b_Ro_init 4 = .ok (.aload_n 0, 1) := by decide +kernel
theorem d_Ro_init_5 : decode b_Ro_init 5 = .ok (.iload_n 1, 1) := by decide +kernel
theorem d_Ro_init_6 : decode b_Ro_init 6 = .ok (.putfield 7, 3) := by decide +kernel
theorem d_Ro_init_9 : decode b_Ro_init 9 = .ok (.return_, 1) := by decide +kernel
theorem d_Ro_bookingWithin_0 : decode b_Ro_bookingWithin 0 = .ok (.aload_n 0, 1) := by decide +kernel
theorem d_Ro_bookingWithin_1 : decode b_Ro_bookingWithin 1 = .ok (.getfield 13, 3) := by decide +kernel
theorem d_Ro_bookingWithin_4 : decode b_Ro_bookingWithin 4 = .ok (.astore_n 3, 1) := by decide +kernel
theorem d_Ro_bookingWithin_5 : decode b_Ro_bookingWithin 5 = .ok (.aload_n 3, 1) := by decide +kernel
theorem d_Ro_bookingWithin_6 : decode b_Ro_bookingWithin 6 = .ok (.ifnull 29, 3) := by decide +kernel
theorem d_Ro_bookingWithin_9 : decode b_Ro_bookingWithin 9 = .ok (.aload_n 3, 1) := by decide +kernel
theorem d_Ro_bookingWithin_10 : decode b_Ro_bookingWithin 10 = .ok (.getfield 17, 3) := by decide +kernel
theorem d_Ro_bookingWithin_13 : decode b_Ro_bookingWithin 13 = .ok (.iload_n 2, 1) := by decide +kernel
theorem d_Ro_bookingWithin_14 : decode b_Ro_bookingWithin 14 = .ok (.if_icmp .ge 13, 3) := by decide +kernel
theorem d_Ro_bookingWithin_17 : decode b_Ro_bookingWithin 17 = .ok (.aload_n 3, 1) := by decide +kernel
theorem d_Ro_bookingWithin_18 : decode b_Ro_bookingWithin 18 = .ok (.getfield 22, 3) := by decide +kernel
theorem d_Ro_bookingWithin_21 : decode b_Ro_bookingWithin 21 = .ok (.iload_n 1, 1) := by decide +kernel
theorem d_Ro_bookingWithin_22 : decode b_Ro_bookingWithin 22 = .ok (.if_icmp .le 5, 3) := by decide +kernel
theorem d_Ro_bookingWithin_25 : decode b_Ro_bookingWithin 25 = .ok (.aload_n 3, 1) := by decide +kernel
theorem d_Ro_bookingWithin_26 : decode b_Ro_bookingWithin 26 = .ok (.areturn, 1) := by decide +kernel
theorem d_Ro_bookingWithin_27 : decode b_Ro_bookingWithin 27 = .ok (.aload_n 3, 1) := by decide +kernel
theorem d_Ro_bookingWithin_28 : decode b_Ro_bookingWithin 28 = .ok (.getfield 25, 3) := by decide +kernel
theorem d_Ro_bookingWithin_31 : decode b_Ro_bookingWithin 31 = .ok (.astore_n 3, 1) := by decide +kernel
theorem d_Ro_bookingWithin_32 : decode b_Ro_bookingWithin 32 = .ok (.goto (-27), 3) := by decide +kernel
theorem d_Ro_bookingWithin_35 : decode b_Ro_bookingWithin 35 = .ok (.aconst_null, 1) := by decide +kernel
theorem d_Ro_bookingWithin_36 : decode b_Ro_bookingWithin 36 = .ok (.areturn, 1) := by decide +kernel
theorem d_Ro_firstFree_0 : decode b_Ro_firstFree 0 = .ok (.iload_n 1, 1) := by decide +kernel
theorem d_Ro_firstFree_1 : decode b_Ro_firstFree 1 = .ok (.istore_n 3, 1) := by decide +kernel
theorem d_Ro_firstFree_2 : decode b_Ro_firstFree 2 = .ok (.aload_n 0, 1) := by decide +kernel
theorem d_Ro_firstFree_3 : decode b_Ro_firstFree 3 = .ok (.getfield 13, 3) := by decide +kernel
theorem d_Ro_firstFree_6 : decode b_Ro_firstFree 6 = .ok (.astore 4, 2) := by decide +kernel
theorem d_Ro_firstFree_8 : decode b_Ro_firstFree 8 = .ok (.aload 4, 2) := by decide +kernel
theorem d_Ro_firstFree_10 : decode b_Ro_firstFree 10 = .ok (.ifnull 39, 3) := by decide +kernel
theorem d_Ro_firstFree_13 : decode b_Ro_firstFree 13 = .ok (.aload 4, 2) := by decide +kernel
theorem d_Ro_firstFree_15 : decode b_Ro_firstFree 15 = .ok (.getfield 17, 3) := by decide +kernel
theorem d_Ro_firstFree_18 : decode b_Ro_firstFree 18 = .ok (.iload_n 3, 1) := by decide +kernel
theorem d_Ro_firstFree_19 : decode b_Ro_firstFree 19 = .ok (.iload_n 2, 1) := by decide +kernel
theorem d_Ro_firstFree_20 : decode b_Ro_firstFree 20 = .ok (.iadd, 1) := by decide +kernel
theorem d_Ro_firstFree_21 : decode b_Ro_firstFree 21 = .ok (.if_icmp .ge 18, 3) := by decide +kernel
theorem d_Ro_firstFree_24 : decode b_Ro_firstFree 24 = .ok (.aload 4, 2) := by decide +kernel
theorem d_Ro_firstFree_26 : decode b_Ro_firstFree 26 = .ok (.getfield 22, 3) := by decide +kernel
theorem d_Ro_firstFree_29 : decode b_Ro_firstFree 29 = .ok (.iload_n 3, 1) := by decide +kernel
theorem d_Ro_firstFree_30 : decode b_Ro_firstFree 30 = .ok (.if_icmp .le 9, 3) := by decide +kernel
theorem d_Ro_firstFree_33 : decode b_Ro_firstFree 33 = .ok (.aload 4, 2) := by decide +kernel
theorem d_Ro_firstFree_35 : decode b_Ro_firstFree 35 = .ok (.getfield 22, 3) := by decide +kernel
theorem d_Ro_firstFree_38 : decode b_Ro_firstFree 38 = .ok (.istore_n 3, 1) := by decide +kernel
theorem d_Ro_firstFree_39 : decode b_Ro_firstFree 39 = .ok (.aload 4, 2) := by decide +kernel
theorem d_Ro_firstFree_41 : decode b_Ro_firstFree 41 = .ok (.getfield 25, 3) := by decide +kernel
theorem d_Ro_firstFree_44 : decode b_Ro_firstFree 44 = .ok (.astore 4, 2) := by decide +kernel
theorem d_Ro_firstFree_46 : decode b_Ro_firstFree 46 = .ok (.goto (-38), 3) := by decide +kernel
theorem d_Ro_firstFree_49 : decode b_Ro_firstFree 49 = .ok (.iload_n 3, 1) := by decide +kernel
theorem d_Ro_firstFree_50 : decode b_Ro_firstFree 50 = .ok (.ireturn, 1) := by decide +kernel
theorem d_Ro_placesLeftOver_0 : decode b_Ro_placesLeftOver 0 = .ok (.iconst 0, 1) := by decide +kernel
theorem d_Ro_placesLeftOver_1 : decode b_Ro_placesLeftOver 1 = .ok (.istore_n 1, 1) := by decide +kernel
theorem d_Ro_placesLeftOver_2 : decode b_Ro_placesLeftOver 2 = .ok (.aload_n 0, 1) := by decide +kernel
theorem d_Ro_placesLeftOver_3 : decode b_Ro_placesLeftOver 3 = .ok (.getfield 13, 3) := by decide +kernel
theorem d_Ro_placesLeftOver_6 : decode b_Ro_placesLeftOver 6 = .ok (.astore_n 2, 1) := by decide +kernel
theorem d_Ro_placesLeftOver_7 : decode b_Ro_placesLeftOver 7 = .ok (.aload_n 2, 1) := by decide +kernel
theorem d_Ro_placesLeftOver_8 : decode b_Ro_placesLeftOver 8 = .ok (.ifnull 23, 3) := by decide +kernel
theorem d_Ro_placesLeftOver_11 : decode b_Ro_placesLeftOver 11 = .ok (.iload_n 1, 1) := by decide +kernel
theorem d_Ro_placesLeftOver_12 : decode b_Ro_placesLeftOver 12 = .ok (.aload_n 0, 1) := by decide +kernel
theorem d_Ro_placesLeftOver_13 : decode b_Ro_placesLeftOver 13 = .ok (.getfield 28, 3) := by decide +kernel
theorem d_Ro_placesLeftOver_16 : decode b_Ro_placesLeftOver 16 = .ok (.aload_n 2, 1) := by decide +kernel
theorem d_Ro_placesLeftOver_17 : decode b_Ro_placesLeftOver 17 = .ok (.getfield 31, 3) := by decide +kernel
theorem d_Ro_placesLeftOver_20 : decode b_Ro_placesLeftOver 20 = .ok (.isub, 1) := by decide +kernel
theorem d_Ro_placesLeftOver_21 : decode b_Ro_placesLeftOver 21 = .ok (.iadd, 1) := by decide +kernel
theorem d_Ro_placesLeftOver_22 : decode b_Ro_placesLeftOver 22 = .ok (.istore_n 1, 1) := by decide +kernel
theorem d_Ro_placesLeftOver_23 : decode b_Ro_placesLeftOver 23 = .ok (.aload_n 2, 1) := by decide +kernel
theorem d_Ro_placesLeftOver_24 : decode b_Ro_placesLeftOver 24 = .ok (.getfield 25, 3) := by decide +kernel
theorem d_Ro_placesLeftOver_27 : decode b_Ro_placesLeftOver 27 = .ok (.astore_n 2, 1) := by decide +kernel
theorem d_Ro_placesLeftOver_28 : decode b_Ro_placesLeftOver 28 = .ok (.goto (-21), 3) := by decide +kernel
theorem d_Ro_placesLeftOver_31 : decode b_Ro_placesLeftOver 31 = .ok (.iload_n 1, 1) := by decide +kernel
theorem d_Ro_placesLeftOver_32 : decode b_Ro_placesLeftOver 32 = .ok (.ireturn, 1) := by decide +kernel
theorem d_Ro_add_0 : decode b_Ro_add 0 = .ok (.aconst_null, 1) := by decide +kernel
theorem d_Ro_add_1 : decode b_Ro_add 1 = .ok (.astore_n 2, 1) := by decide +kernel
theorem d_Ro_add_2 : decode b_Ro_add 2 = .ok (.aload_n 0, 1) := by decide +kernel
theorem d_Ro_add_3 : decode b_Ro_add 3 = .ok (.getfield 13, 3) := by decide +kernel
theorem d_Ro_add_6 : decode b_Ro_add 6 = .ok (.astore_n 3, 1) := by decide +kernel
theorem d_Ro_add_7 : decode b_Ro_add 7 = .ok (.aload_n 3, 1) := by decide +kernel
theorem d_Ro_add_8 : decode b_Ro_add 8 = .ok (.ifnull 24, 3) := by decide +kernel
theorem d_Ro_add_11 : decode b_Ro_add 11 = .ok (.aload_n 3, 1) := by decide +kernel
theorem d_Ro_add_12 : decode b_Ro_add 12 = .ok (.getfield 17, 3) := by decide +kernel
theorem d_Ro_add_15 : decode b_Ro_add 15 = .ok (.aload_n 1, 1) := by decide +kernel
theorem d_Ro_add_16 : decode b_Ro_add 16 = .ok (.getfield 17, 3) := by decide +kernel
theorem d_Ro_add_19 : decode b_Ro_add 19 = .ok (.if_icmp .ge 13, 3) := by decide +kernel
theorem d_Ro_add_22 : decode b_Ro_add 22 = .ok (.aload_n 3, 1) := by decide +kernel
theorem d_Ro_add_23 : decode b_Ro_add 23 = .ok (.astore_n 2, 1) := by decide +kernel
theorem d_Ro_add_24 : decode b_Ro_add 24 = .ok (.aload_n 3, 1) := by decide +kernel
theorem d_Ro_add_25 : decode b_Ro_add 25 = .ok (.getfield 25, 3) := by decide +kernel
theorem d_Ro_add_28 : decode b_Ro_add 28 = .ok (.astore_n 3, 1) := by decide +kernel
theorem d_Ro_add_29 : decode b_Ro_add 29 = .ok (.goto (-22), 3) := by decide +kernel
theorem d_Ro_add_32 : decode b_Ro_add 32 = .ok (.aload_n 2, 1) := by decide +kernel
theorem d_Ro_add_33 : decode b_Ro_add 33 = .ok (.ifnonnull 19, 3) := by decide +kernel
theorem d_Ro_add_36 : decode b_Ro_add 36 = .ok (.aload_n 1, 1) := by decide +kernel
theorem d_Ro_add_37 : decode b_Ro_add 37 = .ok (.aload_n 0, 1) := by decide +kernel
theorem d_Ro_add_38 : decode b_Ro_add 38 = .ok (.getfield 13, 3) := by decide +kernel
theorem d_Ro_add_41 : decode b_Ro_add 41 = .ok (.putfield 25, 3) := by decide +kernel
theorem d_Ro_add_44 : decode b_Ro_add 44 = .ok (.aload_n 0, 1) := by decide +kernel
theorem d_Ro_add_45 : decode b_Ro_add 45 = .ok (.aload_n 1, 1) := by decide +kernel
theorem d_Ro_add_46 : decode b_Ro_add 46 = .ok (.putfield 13, 3) := by decide +kernel
theorem d_Ro_add_49 : decode b_Ro_add 49 = .ok (.goto 16, 3) := by decide +kernel
theorem d_Ro_add_52 : decode b_Ro_add 52 = .ok (.aload_n 1, 1) := by decide +kernel
theorem d_Ro_add_53 : decode b_Ro_add 53 = .ok (.aload_n 2, 1) := by decide +kernel
theorem d_Ro_add_54 : decode b_Ro_add 54 = .ok (.getfield 25, 3) := by decide +kernel
theorem d_Ro_add_57 : decode b_Ro_add 57 = .ok (.putfield 25, 3) := by decide +kernel
theorem d_Ro_add_60 : decode b_Ro_add 60 = .ok (.aload_n 2, 1) := by decide +kernel
theorem d_Ro_add_61 : decode b_Ro_add 61 = .ok (.aload_n 1, 1) := by decide +kernel
theorem d_Ro_add_62 : decode b_Ro_add 62 = .ok (.putfield 25, 3) := by decide +kernel
theorem d_Ro_add_65 : decode b_Ro_add 65 = .ok (.return_, 1) := by decide +kernel
theorem d_Ro_remove_0 : decode b_Ro_remove 0 = .ok (.aload_n 0, 1) := by decide +kernel
theorem d_Ro_remove_1 : decode b_Ro_remove 1 = .ok (.getfield 13, 3) := by decide +kernel
theorem d_Ro_remove_4 : decode b_Ro_remove 4 = .ok (.aload_n 1, 1) := by decide +kernel
theorem d_Ro_remove_5 : decode b_Ro_remove 5 = .ok (.if_acmp .ne 13, 3) := by decide +kernel
theorem d_Ro_remove_8 : decode b_Ro_remove 8 = .ok (.aload_n 0, 1) := by decide +kernel
theorem d_Ro_remove_9 : decode b_Ro_remove 9 = .ok (.aload_n 1, 1) := by decide +kernel
theorem d_Ro_remove_10 : decode b_Ro_remove 10 = .ok (.getfield 25, 3) := by decide +kernel
theorem d_Ro_remove_13 : decode b_Ro_remove 13 = .ok (.putfield 13, 3) := by decide +kernel
theorem d_Ro_remove_16 : decode b_Ro_remove 16 = .ok (.iconst 1, 1) := by decide +kernel
theorem d_Ro_remove_17 : decode b_Ro_remove 17 = .ok (.ireturn, 1) := by decide +kernel
theorem d_Ro_remove_18 : decode b_Ro_remove 18 = .ok (.aload_n 0, 1) := by decide +kernel
theorem d_Ro_remove_19 : decode b_Ro_remove 19 = .ok (.getfield 13, 3) := by decide +kernel
theorem d_Ro_remove_22 : decode b_Ro_remove 22 = .ok (.astore_n 2, 1) := by decide +kernel
theorem d_Ro_remove_23 : decode b_Ro_remove 23 = .ok (.aload_n 2, 1) := by decide +kernel
theorem d_Ro_remove_24 : decode b_Ro_remove 24 = .ok (.ifnull 29, 3) := by decide +kernel
theorem d_Ro_remove_27 : decode b_Ro_remove 27 = .ok (.aload_n 2, 1) := by decide +kernel
theorem d_Ro_remove_28 : decode b_Ro_remove 28 = .ok (.getfield 25, 3) := by decide +kernel
theorem d_Ro_remove_31 : decode b_Ro_remove 31 = .ok (.aload_n 1, 1) := by decide +kernel
theorem d_Ro_remove_32 : decode b_Ro_remove 32 = .ok (.if_acmp .ne 13, 3) := by decide +kernel
theorem d_Ro_remove_35 : decode b_Ro_remove 35 = .ok (.aload_n 2, 1) := by decide +kernel
theorem d_Ro_remove_36 : decode b_Ro_remove 36 = .ok (.aload_n 1, 1) := by decide +kernel
theorem d_Ro_remove_37 : decode b_Ro_remove 37 = .ok (.getfield 25, 3) := by decide +kernel
theorem d_Ro_remove_40 : decode b_Ro_remove 40 = .ok (.putfield 25, 3) := by decide +kernel
theorem d_Ro_remove_43 : decode b_Ro_remove 43 = .ok (.iconst 1, 1) := by decide +kernel
theorem d_Ro_remove_44 : decode b_Ro_remove 44 = .ok (.ireturn, 1) := by decide +kernel
theorem d_Ro_remove_45 : decode b_Ro_remove 45 = .ok (.aload_n 2, 1) := by decide +kernel
theorem d_Ro_remove_46 : decode b_Ro_remove 46 = .ok (.getfield 25, 3) := by decide +kernel
theorem d_Ro_remove_49 : decode b_Ro_remove 49 = .ok (.astore_n 2, 1) := by decide +kernel
theorem d_Ro_remove_50 : decode b_Ro_remove 50 = .ok (.goto (-27), 3) := by decide +kernel
theorem d_Ro_remove_53 : decode b_Ro_remove 53 = .ok (.iconst 0, 1) := by decide +kernel
theorem d_Ro_remove_54 : decode b_Ro_remove 54 = .ok (.ireturn, 1) := by decide +kernel
theorem d_Sp_init_0 : decode b_Sp_init 0 = .ok (.aload_n 0, 1) := by decide +kernel
theorem d_Sp_init_1 : decode b_Sp_init 1 = .ok (.invokespecial 1, 3) := by decide +kernel
theorem d_Sp_init_4 : decode b_Sp_init 4 = .ok (.return_, 1) := by decide +kernel
theorem d_Wa_init_0 : decode b_Wa_init 0 = .ok (.aload_n 0, 1) := by decide +kernel
theorem d_Wa_init_1 : decode b_Wa_init 1 = .ok (.invokespecial 3, 3) := by decide +kernel
theorem d_Wa_init_4 : decode b_Wa_init 4 = .ok (.aload_n 0, 1) := by decide +kernel
theorem d_Wa_init_5 : decode b_Wa_init 5 = .ok (.bipush 15, 2) := by decide +kernel
theorem d_Wa_init_7 : decode b_Wa_init 7 = .ok (.newarray .int, 2) := by decide +kernel
theorem d_Wa_init_9 : decode b_Wa_init 9 = .ok (.putfield 9, 3) := by decide +kernel
theorem d_Wa_init_12 : decode b_Wa_init 12 = .ok (.aload_n 0, 1) := by decide +kernel
theorem d_Wa_init_13 : decode b_Wa_init 13 = .ok (.bipush 15, 2) := by decide +kernel
theorem d_Wa_init_15 : decode b_Wa_init 15 = .ok (.newarray .int, 2) := by decide +kernel
theorem d_Wa_init_17 : decode b_Wa_init 17 = .ok (.putfield 15, 3) := by decide +kernel
theorem d_Wa_init_20 : decode b_Wa_init 20 = .ok (.aload_n 0, 1) := by decide +kernel
theorem d_Wa_init_21 : decode b_Wa_init 21 = .ok (.bipush 15, 2) := by decide +kernel
theorem d_Wa_init_23 : decode b_Wa_init 23 = .ok (.newarray .int, 2) := by decide +kernel
theorem d_Wa_init_25 : decode b_Wa_init 25 = .ok (.putfield 18, 3) := by decide +kernel
theorem d_Wa_init_28 : decode b_Wa_init 28 = .ok (.return_, 1) := by decide +kernel
theorem d_Wa_plan_0 : decode b_Wa_plan 0 = .ok (.aload_n 0, 1) := by decide +kernel
theorem d_Wa_plan_1 : decode b_Wa_plan 1 = .ok (.aload_n 1, 1) := by decide +kernel
theorem d_Wa_plan_2 : decode b_Wa_plan 2 = .ok (.iload_n 2, 1) := by decide +kernel
theorem d_Wa_plan_3 : decode b_Wa_plan 3 = .ok (.invokevirtual 21, 3) := by decide +kernel
theorem d_Wa_plan_6 : decode b_Wa_plan 6 = .ok (.iconst 0, 1) := by decide +kernel
theorem d_Wa_plan_7 : decode b_Wa_plan 7 = .ok (.istore 4, 2) := by decide +kernel
theorem d_Wa_plan_9 : decode b_Wa_plan 9 = .ok (.iload 4, 2) := by decide +kernel
theorem d_Wa_plan_11 : decode b_Wa_plan 11 = .ok (.bipush 15, 2) := by decide +kernel
theorem d_Wa_plan_13 : decode b_Wa_plan 13 = .ok (.if_icmp .ge 77, 3) := by decide +kernel
theorem d_Wa_plan_16 : decode b_Wa_plan 16 = .ok (.aload_n 0, 1) := by decide +kernel
theorem d_Wa_plan_17 : decode b_Wa_plan 17 = .ok (.aload_n 1, 1) := by decide +kernel
theorem d_Wa_plan_18 : decode b_Wa_plan 18 = .ok (.iload_n 2, 1) := by decide +kernel
theorem d_Wa_plan_19 : decode b_Wa_plan 19 = .ok (.invokevirtual 25, 3) := by decide +kernel
theorem d_Wa_plan_22 : decode b_Wa_plan 22 = .ok (.astore 5, 2) := by decide +kernel
theorem d_Wa_plan_24 : decode b_Wa_plan 24 = .ok (.aload 5, 2) := by decide +kernel
theorem d_Wa_plan_26 : decode b_Wa_plan 26 = .ok (.ifnull 17, 3) := by decide +kernel
theorem d_Wa_plan_29 : decode b_Wa_plan 29 = .ok (.aload_n 0, 1) := by decide +kernel
theorem d_Wa_plan_30 : decode b_Wa_plan 30 = .ok (.aload 5, 2) := by decide +kernel
theorem d_Wa_plan_32 : decode b_Wa_plan 32 = .ok (.aload 5, 2) := by decide +kernel
theorem d_Wa_plan_34 : decode b_Wa_plan 34 = .ok (.getfield 29, 3) := by decide +kernel
theorem d_Wa_plan_37 : decode b_Wa_plan 37 = .ok (.invokevirtual 35, 3) := by decide +kernel
theorem d_Wa_plan_40 : decode b_Wa_plan 40 = .ok (.goto 44, 3) := by decide +kernel
theorem d_Wa_plan_43 : decode b_Wa_plan 43 = .ok (.aload_n 0, 1) := by decide +kernel
theorem d_Wa_plan_44 : decode b_Wa_plan 44 = .ok (.aload_n 1, 1) := by decide +kernel
theorem d_Wa_plan_45 : decode b_Wa_plan 45 = .ok (.iload_n 2, 1) := by decide +kernel
theorem d_Wa_plan_46 : decode b_Wa_plan 46 = .ok (.invokevirtual 39, 3) := by decide +kernel
theorem d_Wa_plan_49 : decode b_Wa_plan 49 = .ok (.astore 5, 2) := by decide +kernel
theorem d_Wa_plan_51 : decode b_Wa_plan 51 = .ok (.aload 5, 2) := by decide +kernel
theorem d_Wa_plan_53 : decode b_Wa_plan 53 = .ok (.ifnonnull 4, 3) := by decide +kernel
theorem d_Wa_plan_56 : decode b_Wa_plan 56 = .ok (.return_, 1) := by decide +kernel
theorem d_Wa_plan_57 : decode b_Wa_plan 57 = .ok (.aload_n 0, 1) := by decide +kernel
theorem d_Wa_plan_58 : decode b_Wa_plan 58 = .ok (.iload_n 3, 1) := by decide +kernel
theorem d_Wa_plan_59 : decode b_Wa_plan 59 = .ok (.invokevirtual 42, 3) := by decide +kernel
theorem d_Wa_plan_62 : decode b_Wa_plan 62 = .ok (.istore 6, 2) := by decide +kernel
theorem d_Wa_plan_64 : decode b_Wa_plan 64 = .ok (.iload 6, 2) := by decide +kernel
theorem d_Wa_plan_66 : decode b_Wa_plan 66 = .ok (.iconst (-1), 1) := by decide +kernel
theorem d_Wa_plan_67 : decode b_Wa_plan 67 = .ok (.if_icmp .ne 9, 3) := by decide +kernel
theorem d_Wa_plan_70 : decode b_Wa_plan 70 = .ok (.aload_n 0, 1) := by decide +kernel
theorem d_Wa_plan_71 : decode b_Wa_plan 71 = .ok (.iconst 1, 1) := by decide +kernel
theorem d_Wa_plan_72 : decode b_Wa_plan 72 = .ok (.putfield 46, 3) := by decide +kernel
theorem d_Wa_plan_75 : decode b_Wa_plan 75 = .ok (.return_, 1) := by decide +kernel
theorem d_Wa_plan_76 : decode b_Wa_plan 76 = .ok (.aload_n 0, 1) := by decide +kernel
theorem d_Wa_plan_77 : decode b_Wa_plan 77 = .ok (.aload 5, 2) := by decide +kernel
theorem d_Wa_plan_79 : decode b_Wa_plan 79 = .ok (.iload 6, 2) := by decide +kernel
theorem d_Wa_plan_81 : decode b_Wa_plan 81 = .ok (.invokevirtual 35, 3) := by decide +kernel
theorem d_Wa_plan_84 : decode b_Wa_plan 84 = .ok (.iinc 4 1, 3) := by decide +kernel
theorem d_Wa_plan_87 : decode b_Wa_plan 87 = .ok (.goto (-78), 3) := by decide +kernel
theorem d_Wa_plan_90 : decode b_Wa_plan 90 = .ok (.return_, 1) := by decide +kernel
theorem d_Wa_sitAtOldDesks_0 : decode b_Wa_sitAtOldDesks 0 = .ok (.aload_n 0, 1) := by decide +kernel
theorem d_Wa_sitAtOldDesks_1 : decode b_Wa_sitAtOldDesks 1 = .ok (.iconst 0, 1) := by decide +kernel
theorem d_Wa_sitAtOldDesks_2 : decode b_Wa_sitAtOldDesks 2 = .ok (.putfield 50, 3) := by decide +kernel
theorem d_Wa_sitAtOldDesks_5 : decode b_Wa_sitAtOldDesks 5 = .ok (.aload_n 0, 1) := by decide +kernel
theorem d_Wa_sitAtOldDesks_6 : decode b_Wa_sitAtOldDesks 6 = .ok (.iconst 0, 1) := by decide +kernel
theorem d_Wa_sitAtOldDesks_7 : decode b_Wa_sitAtOldDesks 7 = .ok (.putfield 46, 3) := by decide +kernel
theorem d_Wa_sitAtOldDesks_10 : decode b_Wa_sitAtOldDesks 10 = .ok (.aload_n 0, 1) := by decide +kernel
theorem d_Wa_sitAtOldDesks_11 : decode b_Wa_sitAtOldDesks 11 = .ok (.iconst 0, 1) := by decide +kernel
theorem d_Wa_sitAtOldDesks_12 : decode b_Wa_sitAtOldDesks 12 = .ok (.putfield 53, 3) := by decide +kernel
theorem d_Wa_sitAtOldDesks_15 : decode b_Wa_sitAtOldDesks 15 = .ok (.iconst 0, 1) := by decide +kernel
theorem d_Wa_sitAtOldDesks_16 : decode b_Wa_sitAtOldDesks 16 = .ok (.istore_n 3, 1) := by decide +kernel
theorem d_Wa_sitAtOldDesks_17 : decode b_Wa_sitAtOldDesks 17 = .ok (.iload_n 3, 1) := by decide +kernel
theorem d_Wa_sitAtOldDesks_18 : decode b_Wa_sitAtOldDesks 18 = .ok (.iload_n 2, 1) := by decide +kernel
theorem d_Wa_sitAtOldDesks_19 : decode b_Wa_sitAtOldDesks 19 = .ok (.if_icmp .ge 54, 3) := by decide +kernel
theorem d_Wa_sitAtOldDesks_22 : decode b_Wa_sitAtOldDesks 22 = .ok (.iload_n 3, 1) := by decide +kernel
theorem d_Wa_sitAtOldDesks_23 : decode b_Wa_sitAtOldDesks 23 = .ok (.aload_n 1, 1) := by decide +kernel
theorem d_Wa_sitAtOldDesks_24 : decode b_Wa_sitAtOldDesks 24 = .ok (.arraylength, 1) := by decide +kernel
theorem d_Wa_sitAtOldDesks_25 : decode b_Wa_sitAtOldDesks 25 = .ok (.if_icmp .ge 48, 3) := by decide +kernel
theorem d_Wa_sitAtOldDesks_28 : decode b_Wa_sitAtOldDesks 28 = .ok (.aload_n 1, 1) := by decide +kernel
theorem d_Wa_sitAtOldDesks_29 : decode b_Wa_sitAtOldDesks 29 = .ok (.iload_n 3, 1) := by decide +kernel
theorem d_Wa_sitAtOldDesks_30 : decode b_Wa_sitAtOldDesks 30 = .ok (.aaload, 1) := by decide +kernel
theorem d_Wa_sitAtOldDesks_31 : decode b_Wa_sitAtOldDesks 31 = .ok (.aload_n 1, 1) := by decide +kernel
theorem d_Wa_sitAtOldDesks_32 : decode b_Wa_sitAtOldDesks 32 = .ok (.iload_n 3, 1) := by decide +kernel
theorem d_Wa_sitAtOldDesks_33 : decode b_Wa_sitAtOldDesks 33 = .ok (.aaload, 1) := by decide +kernel
theorem d_Wa_sitAtOldDesks_34 : decode b_Wa_sitAtOldDesks 34 = .ok (.getfield 56, 3) := by decide +kernel
theorem d_Wa_sitAtOldDesks_37 : decode b_Wa_sitAtOldDesks 37 = .ok (.putfield 59, 3) := by decide +kernel
theorem d_Wa_sitAtOldDesks_40 : decode b_Wa_sitAtOldDesks 40 = .ok (.aload_n 1, 1) := by decide +kernel
theorem d_Wa_sitAtOldDesks_41 : decode b_Wa_sitAtOldDesks 41 = .ok (.iload_n 3, 1) := by decide +kernel
theorem d_Wa_sitAtOldDesks_42 : decode b_Wa_sitAtOldDesks 42 = .ok (.aaload, 1) := by decide +kernel
theorem d_Wa_sitAtOldDesks_43 : decode b_Wa_sitAtOldDesks 43 = .ok (.getfield 59, 3) := by decide +kernel
theorem d_Wa_sitAtOldDesks_46 : decode b_Wa_sitAtOldDesks 46 = .ok (.iconst (-1), 1) := by decide +kernel
theorem d_Wa_sitAtOldDesks_47 : decode b_Wa_sitAtOldDesks 47 = .ok (.if_icmp .eq 20, 3) := by decide +kernel
theorem d_Wa_sitAtOldDesks_50 : decode b_Wa_sitAtOldDesks 50 = .ok (.aload_n 0, 1) := by decide +kernel
theorem d_Wa_sitAtOldDesks_51 : decode b_Wa_sitAtOldDesks 51 = .ok (.dup, 1) := by decide +kernel
theorem d_Wa_sitAtOldDesks_52 : decode b_Wa_sitAtOldDesks 52 = .ok (.getfield 53, 3) := by decide +kernel
theorem d_Wa_sitAtOldDesks_55 : decode b_Wa_sitAtOldDesks 55 = .ok (.iconst 1, 1) := by decide +kernel
theorem d_Wa_sitAtOldDesks_56 : decode b_Wa_sitAtOldDesks 56 = .ok (.aload_n 1, 1) := by decide +kernel
theorem d_Wa_sitAtOldDesks_57 : decode b_Wa_sitAtOldDesks 57 = .ok (.iload_n 3, 1) := by decide +kernel
theorem d_Wa_sitAtOldDesks_58 : decode b_Wa_sitAtOldDesks 58 = .ok (.aaload, 1) := by decide +kernel
theorem d_Wa_sitAtOldDesks_59 : decode b_Wa_sitAtOldDesks 59 = .ok (.getfield 59, 3) := by decide +kernel
theorem d_Wa_sitAtOldDesks_62 : decode b_Wa_sitAtOldDesks 62 = .ok (.ishl, 1) := by decide +kernel
theorem d_Wa_sitAtOldDesks_63 : decode b_Wa_sitAtOldDesks 63 = .ok (.ior, 1) := by decide +kernel
theorem d_Wa_sitAtOldDesks_64 : decode b_Wa_sitAtOldDesks 64 = .ok (.putfield 53, 3) := by decide +kernel
theorem d_Wa_sitAtOldDesks_67 : decode b_Wa_sitAtOldDesks 67 = .ok (.iinc 3 1, 3) := by decide +kernel
theorem d_Wa_sitAtOldDesks_70 : decode b_Wa_sitAtOldDesks 70 = .ok (.goto (-53), 3) := by decide +kernel
theorem d_Wa_sitAtOldDesks_73 : decode b_Wa_sitAtOldDesks 73 = .ok (.return_, 1) := by decide +kernel
theorem d_Wa_firstWhoCanGoHome_0 : decode b_Wa_firstWhoCanGoHome 0 = .ok (.iconst 0, 1) := by decide +kernel
theorem d_Wa_firstWhoCanGoHome_1 : decode b_Wa_firstWhoCanGoHome 1 = .ok (.istore_n 3, 1) := by decide +kernel
theorem d_Wa_firstWhoCanGoHome_2 : decode b_Wa_firstWhoCanGoHome 2 = .ok (.iload_n 3, 1) := by decide +kernel
theorem d_Wa_firstWhoCanGoHome_3 : decode b_Wa_firstWhoCanGoHome 3 = .ok (.iload_n 2, 1) := by decide +kernel
theorem d_Wa_firstWhoCanGoHome_4 : decode b_Wa_firstWhoCanGoHome 4 = .ok (.if_icmp .ge 48, 3) := by decide +kernel
theorem d_Wa_firstWhoCanGoHome_7 : decode b_Wa_firstWhoCanGoHome 7 = .ok (.iload_n 3, 1) := by decide +kernel
theorem d_Wa_firstWhoCanGoHome_8 : decode b_Wa_firstWhoCanGoHome 8 = .ok (.aload_n 1, 1) := by decide +kernel
theorem d_Wa_firstWhoCanGoHome_9 : decode b_Wa_firstWhoCanGoHome 9 = .ok (.arraylength, 1) := by decide +kernel
theorem d_Wa_firstWhoCanGoHome_10 : decode b_Wa_firstWhoCanGoHome 10 = .ok (.if_icmp .ge 42, 3) := by decide +kernel
theorem d_Wa_firstWhoCanGoHome_13 : decode b_Wa_firstWhoCanGoHome 13 = .ok (.aload_n 1, 1) := by decide +kernel
theorem d_Wa_firstWhoCanGoHome_14 : decode b_Wa_firstWhoCanGoHome 14 = .ok (.iload_n 3, 1) := by decide +kernel
theorem d_Wa_firstWhoCanGoHome_15 : decode b_Wa_firstWhoCanGoHome 15 = .ok (.aaload, 1) := by decide +kernel
theorem d_Wa_firstWhoCanGoHome_16 : decode b_Wa_firstWhoCanGoHome 16 = .ok (.astore 4, 2) := by decide +kernel
theorem d_Wa_firstWhoCanGoHome_18 : decode b_Wa_firstWhoCanGoHome 18 = .ok (.aload 4, 2) := by decide +kernel
theorem d_Wa_firstWhoCanGoHome_20 : decode b_Wa_firstWhoCanGoHome 20 = .ok (.getfield 59, 3) := by decide +kernel
theorem d_Wa_firstWhoCanGoHome_23 : decode b_Wa_firstWhoCanGoHome 23 = .ok (.aload 4, 2) := by decide +kernel
theorem d_Wa_firstWhoCanGoHome_25 : decode b_Wa_firstWhoCanGoHome 25 = .ok (.getfield 29, 3) := by decide +kernel
theorem d_Wa_firstWhoCanGoHome_28 : decode b_Wa_firstWhoCanGoHome 28 = .ok (.if_icmp .eq 18, 3) := by decide +kernel
theorem d_Wa_firstWhoCanGoHome_31 : decode b_Wa_firstWhoCanGoHome 31 = .ok (.aload_n 0, 1) := by decide +kernel
theorem d_Wa_firstWhoCanGoHome_32 : decode b_Wa_firstWhoCanGoHome 32 = .ok (.aload 4, 2) := by decide +kernel
theorem d_Wa_firstWhoCanGoHome_34 : decode b_Wa_firstWhoCanGoHome 34 = .ok (.getfield 29, 3) := by decide +kernel
theorem d_Wa_firstWhoCanGoHome_37 : decode b_Wa_firstWhoCanGoHome 37 = .ok (.invokevirtual 62, 3) := by decide +kernel
theorem d_Wa_firstWhoCanGoHome_40 : decode b_Wa_firstWhoCanGoHome 40 = .ok (.ifCond .eq 6, 3) := by decide +kernel
theorem d_Wa_firstWhoCanGoHome_43 : decode b_Wa_firstWhoCanGoHome 43 = .ok (.aload 4, 2) := by decide +kernel
theorem d_Wa_firstWhoCanGoHome_45 : decode b_Wa_firstWhoCanGoHome 45 = .ok (.areturn, 1) := by decide +kernel
theorem d_Wa_firstWhoCanGoHome_46 : decode b_Wa_firstWhoCanGoHome 46 = .ok (.iinc 3 1, 3) := by decide +kernel
theorem d_Wa_firstWhoCanGoHome_49 : decode b_Wa_firstWhoCanGoHome 49 = .ok (.goto (-47), 3) := by decide +kernel
theorem d_Wa_firstWhoCanGoHome_52 : decode b_Wa_firstWhoCanGoHome 52 = .ok (.aconst_null, 1) := by decide +kernel
theorem d_Wa_firstWhoCanGoHome_53 : decode b_Wa_firstWhoCanGoHome 53 = .ok (.areturn, 1) := by decide +kernel
theorem d_Wa_firstNotHome_0 : decode b_Wa_firstNotHome 0 = .ok (.iconst 0, 1) := by decide +kernel
theorem d_Wa_firstNotHome_1 : decode b_Wa_firstNotHome 1 = .ok (.istore_n 3, 1) := by decide +kernel
theorem d_Wa_firstNotHome_2 : decode b_Wa_firstNotHome 2 = .ok (.iload_n 3, 1) := by decide +kernel
theorem d_Wa_firstNotHome_3 : decode b_Wa_firstNotHome 3 = .ok (.iload_n 2, 1) := by decide +kernel
theorem d_Wa_firstNotHome_4 : decode b_Wa_firstNotHome 4 = .ok (.if_icmp .ge 34, 3) := by decide +kernel
theorem d_Wa_firstNotHome_7 : decode b_Wa_firstNotHome 7 = .ok (.iload_n 3, 1) := by decide +kernel
theorem d_Wa_firstNotHome_8 : decode b_Wa_firstNotHome 8 = .ok (.aload_n 1, 1) := by decide +kernel
theorem d_Wa_firstNotHome_9 : decode b_Wa_firstNotHome 9 = .ok (.arraylength, 1) := by decide +kernel
theorem d_Wa_firstNotHome_10 : decode b_Wa_firstNotHome 10 = .ok (.if_icmp .ge 28, 3) := by decide +kernel
theorem d_Wa_firstNotHome_13 : decode b_Wa_firstNotHome 13 = .ok (.aload_n 1, 1) := by decide +kernel
theorem d_Wa_firstNotHome_14 : decode b_Wa_firstNotHome 14 = .ok (.iload_n 3, 1) := by decide +kernel
theorem d_Wa_firstNotHome_15 : decode b_Wa_firstNotHome 15 = .ok (.aaload, 1) := by decide +kernel
theorem d_Wa_firstNotHome_16 : decode b_Wa_firstNotHome 16 = .ok (.getfield 59, 3) := by decide +kernel
theorem d_Wa_firstNotHome_19 : decode b_Wa_firstNotHome 19 = .ok (.aload_n 1, 1) := by decide +kernel
theorem d_Wa_firstNotHome_20 : decode b_Wa_firstNotHome 20 = .ok (.iload_n 3, 1) := by decide +kernel
theorem d_Wa_firstNotHome_21 : decode b_Wa_firstNotHome 21 = .ok (.aaload, 1) := by decide +kernel
theorem d_Wa_firstNotHome_22 : decode b_Wa_firstNotHome 22 = .ok (.getfield 29, 3) := by decide +kernel
theorem d_Wa_firstNotHome_25 : decode b_Wa_firstNotHome 25 = .ok (.if_icmp .eq 7, 3) := by decide +kernel
theorem d_Wa_firstNotHome_28 : decode b_Wa_firstNotHome 28 = .ok (.aload_n 1, 1) := by decide +kernel
theorem d_Wa_firstNotHome_29 : decode b_Wa_firstNotHome 29 = .ok (.iload_n 3, 1) := by decide +kernel
theorem d_Wa_firstNotHome_30 : decode b_Wa_firstNotHome 30 = .ok (.aaload, 1) := by decide +kernel
theorem d_Wa_firstNotHome_31 : decode b_Wa_firstNotHome 31 = .ok (.areturn, 1) := by decide +kernel
theorem d_Wa_firstNotHome_32 : decode b_Wa_firstNotHome 32 = .ok (.iinc 3 1, 3) := by decide +kernel
theorem d_Wa_firstNotHome_35 : decode b_Wa_firstNotHome 35 = .ok (.goto (-33), 3) := by decide +kernel
theorem d_Wa_firstNotHome_38 : decode b_Wa_firstNotHome 38 = .ok (.aconst_null, 1) := by decide +kernel
theorem d_Wa_firstNotHome_39 : decode b_Wa_firstNotHome 39 = .ok (.areturn, 1) := by decide +kernel
theorem d_Wa_firstFreeDesk_0 : decode b_Wa_firstFreeDesk 0 = .ok (.iconst 0, 1) := by decide +kernel
theorem d_Wa_firstFreeDesk_1 : decode b_Wa_firstFreeDesk 1 = .ok (.istore_n 2, 1) := by decide +kernel
theorem d_Wa_firstFreeDesk_2 : decode b_Wa_firstFreeDesk 2 = .ok (.iload_n 2, 1) := by decide +kernel
theorem d_Wa_firstFreeDesk_3 : decode b_Wa_firstFreeDesk 3 = .ok (.iload_n 1, 1) := by decide +kernel
theorem d_Wa_firstFreeDesk_4 : decode b_Wa_firstFreeDesk 4 = .ok (.if_icmp .ge 19, 3) := by decide +kernel
theorem d_Wa_firstFreeDesk_7 : decode b_Wa_firstFreeDesk 7 = .ok (.aload_n 0, 1) := by decide +kernel
theorem d_Wa_firstFreeDesk_8 : decode b_Wa_firstFreeDesk 8 = .ok (.iload_n 2, 1) := by decide +kernel
theorem d_Wa_firstFreeDesk_9 : decode b_Wa_firstFreeDesk 9 = .ok (.invokevirtual 62, 3) := by decide +kernel
theorem d_Wa_firstFreeDesk_12 : decode b_Wa_firstFreeDesk 12 = .ok (.ifCond .eq 5, 3) := by decide +kernel
theorem d_Wa_firstFreeDesk_15 : decode b_Wa_firstFreeDesk 15 = .ok (.iload_n 2, 1) := by decide +kernel
theorem d_Wa_firstFreeDesk_16 : decode b_Wa_firstFreeDesk 16 = .ok (.ireturn, 1) := by decide +kernel
theorem d_Wa_firstFreeDesk_17 : decode b_Wa_firstFreeDesk 17 = .ok (.iinc 2 1, 3) := by decide +kernel
theorem d_Wa_firstFreeDesk_20 : decode b_Wa_firstFreeDesk 20 = .ok (.goto (-18), 3) := by decide +kernel
theorem d_Wa_firstFreeDesk_23 : decode b_Wa_firstFreeDesk 23 = .ok (.iconst (-1), 1) := by decide +kernel
theorem d_Wa_firstFreeDesk_24 : decode b_Wa_firstFreeDesk 24 = .ok (.ireturn, 1) := by decide +kernel
theorem d_Wa_isFree_0 : decode b_Wa_isFree 0 = .ok (.aload_n 0, 1) := by decide +kernel
theorem d_Wa_isFree_1 : decode b_Wa_isFree 1 = .ok (.getfield 53, 3) := by decide +kernel
theorem d_Wa_isFree_4 : decode b_Wa_isFree 4 = .ok (.iconst 1, 1) := by decide +kernel
theorem d_Wa_isFree_5 : decode b_Wa_isFree 5 = .ok (.iload_n 1, 1) := by decide +kernel
theorem d_Wa_isFree_6 : decode b_Wa_isFree 6 = .ok (.ishl, 1) := by decide +kernel
theorem d_Wa_isFree_7 : decode b_Wa_isFree 7 = .ok (.iand, 1) := by decide +kernel
theorem d_Wa_isFree_8 : decode b_Wa_isFree 8 = .ok (.ifCond .ne 7, 3) := by decide +kernel
theorem d_Wa_isFree_11 : decode b_Wa_isFree 11 = .ok (.iconst 1, 1) := by decide +kernel
theorem d_Wa_isFree_12 : decode b_Wa_isFree 12 = .ok (.goto 4, 3) := by decide +kernel
theorem d_Wa_isFree_15 : decode b_Wa_isFree 15 = .ok (.iconst 0, 1) := by decide +kernel
theorem d_Wa_isFree_16 : decode b_Wa_isFree 16 = .ok (.ireturn, 1) := by decide +kernel
theorem d_Wa_go_0 : decode b_Wa_go 0 = .ok (.aload_n 0, 1) := by decide +kernel
theorem d_Wa_go_1 : decode b_Wa_go 1 = .ok (.getfield 50, 3) := by decide +kernel
theorem d_Wa_go_4 : decode b_Wa_go 4 = .ok (.bipush 15, 2) := by decide +kernel
theorem d_Wa_go_6 : decode b_Wa_go 6 = .ok (.if_icmp .lt 4, 3) := by decide +kernel
theorem d_Wa_go_9 : decode b_Wa_go 9 = .ok (.return_, 1) := by decide +kernel
theorem d_Wa_go_10 : decode b_Wa_go 10 = .ok (.aload_n 0, 1) := by decide +kernel
theorem d_Wa_go_11 : decode b_Wa_go 11 = .ok (.getfield 9, 3) := by decide +kernel
theorem d_Wa_go_14 : decode b_Wa_go 14 = .ok (.aload_n 0, 1) := by decide +kernel
theorem d_Wa_go_15 : decode b_Wa_go 15 = .ok (.getfield 50, 3) := by decide +kernel
theorem d_Wa_go_18 : decode b_Wa_go 18 = .ok (.aload_n 1, 1) := by decide +kernel
theorem d_Wa_go_19 : decode b_Wa_go 19 = .ok (.getfield 66, 3) := by decide +kernel
theorem d_Wa_go_22 : decode b_Wa_go 22 = .ok (.iastore, 1) := by decide +kernel
theorem d_Wa_go_23 : decode b_Wa_go 23 = .ok (.aload_n 0, 1) := by decide +kernel
theorem d_Wa_go_24 : decode b_Wa_go 24 = .ok (.getfield 15, 3) := by decide +kernel
theorem d_Wa_go_27 : decode b_Wa_go 27 = .ok (.aload_n 0, 1) := by decide +kernel
theorem d_Wa_go_28 : decode b_Wa_go 28 = .ok (.getfield 50, 3) := by decide +kernel
theorem d_Wa_go_31 : decode b_Wa_go 31 = .ok (.aload_n 1, 1) := by decide +kernel
theorem d_Wa_go_32 : decode b_Wa_go 32 = .ok (.getfield 59, 3) := by decide +kernel
theorem d_Wa_go_35 : decode b_Wa_go 35 = .ok (.iastore, 1) := by decide +kernel
theorem d_Wa_go_36 : decode b_Wa_go 36 = .ok (.aload_n 0, 1) := by decide +kernel
theorem d_Wa_go_37 : decode b_Wa_go 37 = .ok (.getfield 18, 3) := by decide +kernel
theorem d_Wa_go_40 : decode b_Wa_go 40 = .ok (.aload_n 0, 1) := by decide +kernel
theorem d_Wa_go_41 : decode b_Wa_go 41 = .ok (.getfield 50, 3) := by decide +kernel
theorem d_Wa_go_44 : decode b_Wa_go 44 = .ok (.iload_n 2, 1) := by decide +kernel
theorem d_Wa_go_45 : decode b_Wa_go 45 = .ok (.iastore, 1) := by decide +kernel
theorem d_Wa_go_46 : decode b_Wa_go 46 = .ok (.aload_n 0, 1) := by decide +kernel
theorem d_Wa_go_47 : decode b_Wa_go 47 = .ok (.dup, 1) := by decide +kernel
theorem d_Wa_go_48 : decode b_Wa_go 48 = .ok (.getfield 50, 3) := by decide +kernel
theorem d_Wa_go_51 : decode b_Wa_go 51 = .ok (.iconst 1, 1) := by decide +kernel
theorem d_Wa_go_52 : decode b_Wa_go 52 = .ok (.iadd, 1) := by decide +kernel
theorem d_Wa_go_53 : decode b_Wa_go 53 = .ok (.putfield 50, 3) := by decide +kernel
theorem d_Wa_go_56 : decode b_Wa_go 56 = .ok (.aload_n 1, 1) := by decide +kernel
theorem d_Wa_go_57 : decode b_Wa_go 57 = .ok (.getfield 59, 3) := by decide +kernel
theorem d_Wa_go_60 : decode b_Wa_go 60 = .ok (.iconst (-1), 1) := by decide +kernel
theorem d_Wa_go_61 : decode b_Wa_go 61 = .ok (.if_icmp .eq 20, 3) := by decide +kernel
theorem d_Wa_go_64 : decode b_Wa_go 64 = .ok (.aload_n 0, 1) := by decide +kernel
theorem d_Wa_go_65 : decode b_Wa_go 65 = .ok (.dup, 1) := by decide +kernel
theorem d_Wa_go_66 : decode b_Wa_go 66 = .ok (.getfield 53, 3) := by decide +kernel
theorem d_Wa_go_69 : decode b_Wa_go 69 = .ok (.iconst 1, 1) := by decide +kernel
theorem d_Wa_go_70 : decode b_Wa_go 70 = .ok (.aload_n 1, 1) := by decide +kernel
theorem d_Wa_go_71 : decode b_Wa_go 71 = .ok (.getfield 59, 3) := by decide +kernel
theorem d_Wa_go_74 : decode b_Wa_go 74 = .ok (.ishl, 1) := by decide +kernel
theorem d_Wa_go_75 : decode b_Wa_go 75 = .ok (.iconst (-1), 1) := by decide +kernel
theorem d_Wa_go_76 : decode b_Wa_go 76 = .ok (.ixor, 1) := by decide +kernel
theorem d_Wa_go_77 : decode b_Wa_go 77 = .ok (.iand, 1) := by decide +kernel
theorem d_Wa_go_78 : decode b_Wa_go 78 = .ok (.putfield 53, 3) := by decide +kernel
theorem d_Wa_go_81 : decode b_Wa_go 81 = .ok (.aload_n 0, 1) := by decide +kernel
theorem d_Wa_go_82 : decode b_Wa_go 82 = .ok (.dup, 1) := by decide +kernel
theorem d_Wa_go_83 : decode b_Wa_go 83 = .ok (.getfield 53, 3) := by decide +kernel
theorem d_Wa_go_86 : decode b_Wa_go 86 = .ok (.iconst 1, 1) := by decide +kernel
theorem d_Wa_go_87 : decode b_Wa_go 87 = .ok (.iload_n 2, 1) := by decide +kernel
theorem d_Wa_go_88 : decode b_Wa_go 88 = .ok (.ishl, 1) := by decide +kernel
theorem d_Wa_go_89 : decode b_Wa_go 89 = .ok (.ior, 1) := by decide +kernel
theorem d_Wa_go_90 : decode b_Wa_go 90 = .ok (.putfield 53, 3) := by decide +kernel
theorem d_Wa_go_93 : decode b_Wa_go 93 = .ok (.aload_n 1, 1) := by decide +kernel
theorem d_Wa_go_94 : decode b_Wa_go 94 = .ok (.iload_n 2, 1) := by decide +kernel
theorem d_Wa_go_95 : decode b_Wa_go 95 = .ok (.putfield 59, 3) := by decide +kernel
theorem d_Wa_go_98 : decode b_Wa_go 98 = .ok (.return_, 1) := by decide +kernel
end
section
theorem d_De_init_0 : decode b_De_init 0 = .ok (.aload_n 0, 1) := by decide +kernel
theorem d_De_init_1 : decode b_De_init 1 = .ok (.invokespecial 3, 3) := by decide +kernel
theorem d_De_init_4 : decode b_De_init 4 = .ok (.aload_n 0, 1) := by decide +kernel
theorem d_De_init_5 : decode b_De_init 5 = .ok (.bipush 10, 2) := by decide +kernel
theorem d_De_init_7 : decode b_De_init 7 = .ok (.anewarray 9, 3) := by decide +kernel
theorem d_De_init_10 : decode b_De_init 10 = .ok (.putfield 11, 3) := by decide +kernel
theorem d_De_init_13 : decode b_De_init 13 = .ok (.aload_n 0, 1) := by decide +kernel
theorem d_De_init_14 : decode b_De_init 14 = .ok (.new 15, 3) := by decide +kernel
theorem d_De_init_17 : decode b_De_init 17 = .ok (.dup, 1) := by decide +kernel
theorem d_De_init_18 : decode b_De_init 18 = .ok (.invokespecial 17, 3) := by decide +kernel
theorem d_De_init_21 : decode b_De_init 21 = .ok (.putfield 18, 3) := by decide +kernel
theorem d_De_init_24 : decode b_De_init 24 = .ok (.aload_n 0, 1) := by decide +kernel
theorem d_De_init_25 : decode b_De_init 25 = .ok (.new 22, 3) := by decide +kernel
theorem d_De_init_28 : decode b_De_init 28 = .ok (.dup, 1) := by decide +kernel
theorem d_De_init_29 : decode b_De_init 29 = .ok (.invokespecial 24, 3) := by decide +kernel
theorem d_De_init_32 : decode b_De_init 32 = .ok (.putfield 25, 3) := by decide +kernel
theorem d_De_init_35 : decode b_De_init 35 = .ok (.aload_n 0, 1) := by decide +kernel
theorem d_De_init_36 : decode b_De_init 36 = .ok (.bipush 8, 2) := by decide +kernel
theorem d_De_init_38 : decode b_De_init 38 = .ok (.anewarray 29, 3) := by decide +kernel
theorem d_De_init_41 : decode b_De_init 41 = .ok (.putfield 31, 3) := by decide +kernel
theorem d_De_init_44 : decode b_De_init 44 = .ok (.aload_n 0, 1) := by decide +kernel
theorem d_De_init_45 : decode b_De_init 45 = .ok (.sipush 300, 3) := by decide +kernel
theorem d_De_init_48 : decode b_De_init 48 = .ok (.anewarray 35, 3) := by decide +kernel
theorem d_De_init_51 : decode b_De_init 51 = .ok (.putfield 37, 3) := by decide +kernel
theorem d_De_init_54 : decode b_De_init 54 = .ok (.iconst 0, 1) := by decide +kernel
theorem d_De_init_55 : decode b_De_init 55 = .ok (.istore_n 1, 1) := by decide +kernel
theorem d_De_init_56 : decode b_De_init 56 = .ok (.iload_n 1, 1) := by decide +kernel
theorem d_De_init_57 : decode b_De_init 57 = .ok (.bipush 10, 2) := by decide +kernel
theorem d_De_init_59 : decode b_De_init 59 = .ok (.if_icmp .ge 23, 3) := by decide +kernel
theorem d_De_init_62 : decode b_De_init 62 = .ok (.aload_n 0, 1) := by decide +kernel
theorem d_De_init_63 : decode b_De_init 63 = .ok (.getfield 11, 3) := by decide +kernel
theorem d_De_init_66 : decode b_De_init 66 = .ok (.iload_n 1, 1) := by decide +kernel
theorem d_De_init_67 : decode b_De_init 67 = .ok (.new 9, 3) := by decide +kernel
theorem d_De_init_70 : decode b_De_init 70 = .ok (.dup, 1) := by decide +kernel
theorem d_De_init_71 : decode b_De_init 71 = .ok (.iload_n 1, 1) := by decide +kernel
theorem d_De_init_72 : decode b_De_init 72 = .ok (.invokespecial 41, 3) := by decide +kernel
theorem d_De_init_75 : decode b_De_init 75 = .ok (.aastore, 1) := by decide +kernel
theorem d_De_init_76 : decode b_De_init 76 = .ok (.iinc 1 1, 3) := by decide +kernel
theorem d_De_init_79 : decode b_De_init 79 = .ok (.goto (-23), 3) := by decide +kernel
theorem d_De_init_82 : decode b_De_init 82 = .ok (.iconst 0, 1) := by decide +kernel
theorem d_De_init_83 : decode b_De_init 83 = .ok (.istore_n 1, 1) := by decide +kernel
theorem d_De_init_84 : decode b_De_init 84 = .ok (.iload_n 1, 1) := by decide +kernel
theorem d_De_init_85 : decode b_De_init 85 = .ok (.bipush 8, 2) := by decide +kernel
theorem d_De_init_87 : decode b_De_init 87 = .ok (.if_icmp .ge 23, 3) := by decide +kernel
theorem d_De_init_90 : decode b_De_init 90 = .ok (.aload_n 0, 1) := by decide +kernel
theorem d_De_init_91 : decode b_De_init 91 = .ok (.getfield 31, 3) := by decide +kernel
theorem d_De_init_94 : decode b_De_init 94 = .ok (.iload_n 1, 1) := by decide +kernel
theorem d_De_init_95 : decode b_De_init 95 = .ok (.new 29, 3) := by decide +kernel
theorem d_De_init_98 : decode b_De_init 98 = .ok (.dup, 1) := by decide +kernel
theorem d_De_init_99 : decode b_De_init 99 = .ok (.iload_n 1, 1) := by decide +kernel
theorem d_De_init_100 : decode b_De_init 100 = .ok (.invokespecial 44, 3) := by decide +kernel
theorem d_De_init_103 : decode b_De_init 103 = .ok (.aastore, 1) := by decide +kernel
theorem d_De_init_104 : decode b_De_init 104 = .ok (.iinc 1 1, 3) := by decide +kernel
theorem d_De_init_107 : decode b_De_init 107 = .ok (.goto (-23), 3) := by decide +kernel
theorem d_De_init_110 : decode b_De_init 110 = .ok (.return_, 1) := by decide +kernel
theorem d_De_desk_0 : decode b_De_desk 0 = .ok (.aload_n 0, 1) := by decide +kernel
theorem d_De_desk_1 : decode b_De_desk 1 = .ok (.getfield 45, 3) := by decide +kernel
theorem d_De_desk_4 : decode b_De_desk 4 = .ok (.bipush 14, 2) := by decide +kernel
theorem d_De_desk_6 : decode b_De_desk 6 = .ok (.if_icmp .lt 13, 3) := by decide +kernel
theorem d_De_desk_9 : decode b_De_desk 9 = .ok (.new 49, 3) := by decide +kernel
theorem d_De_desk_12 : decode b_De_desk 12 = .ok (.dup, 1) := by decide +kernel
theorem d_De_desk_13 : decode b_De_desk 13 = .ok (.ldc 51, 2) := by decide +kernel
theorem d_De_desk_15 : decode b_De_desk 15 = .ok (.invokespecial 53, 3) := by decide +kernel
theorem d_De_desk_18 : decode b_De_desk 18 = .ok (.athrow, 1) := by decide +kernel
theorem d_De_desk_19 : decode b_De_desk 19 = .ok (.aload_n 0, 1) := by decide +kernel
theorem d_De_desk_20 : decode b_De_desk 20 = .ok (.iconst 0, 1) := by decide +kernel
theorem d_De_desk_21 : decode b_De_desk 21 = .ok (.putfield 56, 3) := by decide +kernel
theorem d_De_desk_24 : decode b_De_desk 24 = .ok (.aload_n 0, 1) := by decide +kernel
theorem d_De_desk_25 : decode b_De_desk 25 = .ok (.dup, 1) := by decide +kernel
theorem d_De_desk_26 : decode b_De_desk 26 = .ok (.getfield 45, 3) := by decide +kernel
theorem d_De_desk_29 : decode b_De_desk 29 = .ok (.iconst 1, 1) := by decide +kernel
theorem d_De_desk_30 : decode b_De_desk 30 = .ok (.iadd, 1) := by decide +kernel
theorem d_De_desk_31 : decode b_De_desk 31 = .ok (.putfield 45, 3) := by decide +kernel
theorem d_De_desk_34 : decode b_De_desk 34 = .ok (.aload_n 0, 1) := by decide +kernel
theorem d_De_desk_35 : decode b_De_desk 35 = .ok (.getfield 45, 3) := by decide +kernel
theorem d_De_desk_38 : decode b_De_desk 38 = .ok (.iconst 1, 1) := by decide +kernel
theorem d_De_desk_39 : decode b_De_desk 39 = .ok (.isub, 1) := by decide +kernel
theorem d_De_desk_40 : decode b_De_desk 40 = .ok (.ireturn, 1) := by decide +kernel
theorem d_De_person_0 : decode b_De_person 0 = .ok (.aload_n 0, 1) := by decide +kernel
theorem d_De_person_1 : decode b_De_person 1 = .ok (.getfield 60, 3) := by decide +kernel
theorem d_De_person_4 : decode b_De_person 4 = .ok (.bipush 10, 2) := by decide +kernel
theorem d_De_person_6 : decode b_De_person 6 = .ok (.if_icmp .lt 13, 3) := by decide +kernel
theorem d_De_person_9 : decode b_De_person 9 = .ok (.new 49, 3) := by decide +kernel
theorem d_De_person_12 : decode b_De_person 12 = .ok (.dup, 1) := by decide +kernel
theorem d_De_person_13 : decode b_De_person 13 = .ok (.ldc 63, 2) := by decide +kernel
theorem d_De_person_15 : decode b_De_person 15 = .ok (.invokespecial 53, 3) := by decide +kernel
theorem d_De_person_18 : decode b_De_person 18 = .ok (.athrow, 1) := by decide +kernel
theorem d_De_person_19 : decode b_De_person 19 = .ok (.aload_n 0, 1) := by decide +kernel
theorem d_De_person_20 : decode b_De_person 20 = .ok (.iconst 0, 1) := by decide +kernel
theorem d_De_person_21 : decode b_De_person 21 = .ok (.putfield 56, 3) := by decide +kernel
theorem d_De_person_24 : decode b_De_person 24 = .ok (.aload_n 0, 1) := by decide +kernel
theorem d_De_person_25 : decode b_De_person 25 = .ok (.dup, 1) := by decide +kernel
theorem d_De_person_26 : decode b_De_person 26 = .ok (.getfield 60, 3) := by decide +kernel
theorem d_De_person_29 : decode b_De_person 29 = .ok (.iconst 1, 1) := by decide +kernel
theorem d_De_person_30 : decode b_De_person 30 = .ok (.iadd, 1) := by decide +kernel
theorem d_De_person_31 : decode b_De_person 31 = .ok (.putfield 60, 3) := by decide +kernel
theorem d_De_person_34 : decode b_De_person 34 = .ok (.aload_n 0, 1) := by decide +kernel
theorem d_De_person_35 : decode b_De_person 35 = .ok (.getfield 60, 3) := by decide +kernel
theorem d_De_person_38 : decode b_De_person 38 = .ok (.iconst 1, 1) := by decide +kernel
theorem d_De_person_39 : decode b_De_person 39 = .ok (.isub, 1) := by decide +kernel
theorem d_De_person_40 : decode b_De_person 40 = .ok (.ireturn, 1) := by decide +kernel
theorem d_De_wish_0 : decode b_De_wish 0 = .ok (.aload_n 0, 1) := by decide +kernel
theorem d_De_wish_1 : decode b_De_wish 1 = .ok (.iload_n 1, 1) := by decide +kernel
theorem d_De_wish_2 : decode b_De_wish 2 = .ok (.invokevirtual 65, 3) := by decide +kernel
theorem d_De_wish_5 : decode b_De_wish 5 = .ok (.aload_n 0, 1) := by decide +kernel
theorem d_De_wish_6 : decode b_De_wish 6 = .ok (.iload_n 2, 1) := by decide +kernel
theorem d_De_wish_7 : decode b_De_wish 7 = .ok (.invokevirtual 68, 3) := by decide +kernel
theorem d_De_wish_10 : decode b_De_wish 10 = .ok (.iload_n 3, 1) := by decide +kernel
theorem d_De_wish_11 : decode b_De_wish 11 = .ok (.ifCond .lt 10, 3) := by decide +kernel
theorem d_De_wish_14 : decode b_De_wish 14 = .ok (.iload_n 3, 1) := by decide +kernel
theorem d_De_wish_15 : decode b_De_wish 15 = .ok (.sipush 1000, 3) := by decide +kernel
theorem d_De_wish_18 : decode b_De_wish 18 = .ok (.if_icmp .le 13, 3) := by decide +kernel
theorem d_De_wish_21 : decode b_De_wish 21 = .ok (.new 71, 3) := by decide +kernel
theorem d_De_wish_24 : decode b_De_wish 24 = .ok (.dup, 1) := by decide +kernel
theorem d_De_wish_25 : decode b_De_wish 25 = .ok (.ldc 73, 2) := by decide +kernel
theorem d_De_wish_27 : decode b_De_wish 27 = .ok (.invokespecial 75, 3) := by decide +kernel
theorem d_De_wish_30 : decode b_De_wish 30 = .ok (.athrow, 1) := by decide +kernel
theorem d_De_wish_31 : decode b_De_wish 31 = .ok (.aload_n 0, 1) := by decide +kernel
theorem d_De_wish_32 : decode b_De_wish 32 = .ok (.getfield 11, 3) := by decide +kernel
theorem d_De_wish_35 : decode b_De_wish 35 = .ok (.iload_n 1, 1) := by decide +kernel
theorem d_De_wish_36 : decode b_De_wish 36 = .ok (.aaload, 1) := by decide +kernel
theorem d_De_wish_37 : decode b_De_wish 37 = .ok (.getfield 76, 3) := by decide +kernel
theorem d_De_wish_40 : decode b_De_wish 40 = .ok (.iload_n 2, 1) := by decide +kernel
theorem d_De_wish_41 : decode b_De_wish 41 = .ok (.iaload, 1) := by decide +kernel
theorem d_De_wish_42 : decode b_De_wish 42 = .ok (.istore 4, 2) := by decide +kernel
theorem d_De_wish_44 : decode b_De_wish 44 = .ok (.aload_n 0, 1) := by decide +kernel
theorem d_De_wish_45 : decode b_De_wish 45 = .ok (.getfield 11, 3) := by decide +kernel
theorem d_De_wish_48 : decode b_De_wish 48 = .ok (.iload_n 1, 1) := by decide +kernel
theorem d_De_wish_49 : decode b_De_wish 49 = .ok (.aaload, 1) := by decide +kernel
theorem d_De_wish_50 : decode b_De_wish 50 = .ok (.getfield 76, 3) := by decide +kernel
theorem d_De_wish_53 : decode b_De_wish 53 = .ok (.iload_n 2, 1) := by decide +kernel
theorem d_De_wish_54 : decode b_De_wish 54 = .ok (.iload_n 3, 1) := by decide +kernel
theorem d_De_wish_55 : decode b_De_wish 55 = .ok (.iastore, 1) := by decide +kernel
theorem d_De_wish_56 : decode b_De_wish 56 = .ok (.aload_n 0, 1) := by decide +kernel
theorem d_De_wish_57 : decode b_De_wish 57 = .ok (.iconst 0, 1) := by decide +kernel
theorem d_De_wish_58 : decode b_De_wish 58 = .ok (.putfield 56, 3) := by decide +kernel
theorem d_De_wish_61 : decode b_De_wish 61 = .ok (.iload 4, 2) := by decide +kernel
theorem d_De_wish_63 : decode b_De_wish 63 = .ok (.ireturn, 1) := by decide +kernel
theorem d_De_bar_0 : decode b_De_bar 0 = .ok (.aload_n 0, 1) := by decide +kernel
theorem d_De_bar_1 : decode b_De_bar 1 = .ok (.iload_n 1, 1) := by decide +kernel
theorem d_De_bar_2 : decode b_De_bar 2 = .ok (.invokevirtual 65, 3) := by decide +kernel
theorem d_De_bar_5 : decode b_De_bar 5 = .ok (.aload_n 0, 1) := by decide +kernel
theorem d_De_bar_6 : decode b_De_bar 6 = .ok (.iload_n 2, 1) := by decide +kernel
theorem d_De_bar_7 : decode b_De_bar 7 = .ok (.invokevirtual 68, 3) := by decide +kernel
theorem d_De_bar_10 : decode b_De_bar 10 = .ok (.aload_n 0, 1) := by decide +kernel
theorem d_De_bar_11 : decode b_De_bar 11 = .ok (.getfield 11, 3) := by decide +kernel
theorem d_De_bar_14 : decode b_De_bar 14 = .ok (.iload_n 1, 1) := by decide +kernel
theorem d_De_bar_15 : decode b_De_bar 15 = .ok (.aaload, 1) := by decide +kernel
theorem d_De_bar_16 : decode b_De_bar 16 = .ok (.getfield 80, 3) := by decide +kernel
theorem d_De_bar_19 : decode b_De_bar 19 = .ok (.iload_n 2, 1) := by decide +kernel
theorem d_De_bar_20 : decode b_De_bar 20 = .ok (.baload, 1) := by decide +kernel
theorem d_De_bar_21 : decode b_De_bar 21 = .ok (.istore 4, 2) := by decide +kernel
theorem d_De_bar_23 : decode b_De_bar 23 = .ok (.aload_n 0, 1) := by decide +kernel
theorem d_De_bar_24 : decode b_De_bar 24 = .ok (.getfield 11, 3) := by decide +kernel
theorem d_De_bar_27 : decode b_De_bar 27 = .ok (.iload_n 1, 1) := by decide +kernel
theorem d_De_bar_28 : decode b_De_bar 28 = .ok (.aaload, 1) := by decide +kernel
theorem d_De_bar_29 : decode b_De_bar 29 = .ok (.getfield 80, 3) := by decide +kernel
theorem d_De_bar_32 : decode b_De_bar 32 = .ok (.iload_n 2, 1) := by decide +kernel
theorem d_De_bar_33 : decode b_De_bar 33 = .ok (.iload_n 3, 1) := by decide +kernel
theorem d_De_bar_34 : decode b_De_bar 34 = .ok (.bastore, 1) := by decide +kernel
theorem d_De_bar_35 : decode b_De_bar 35 = .ok (.aload_n 0, 1) := by decide +kernel
theorem d_De_bar_36 : decode b_De_bar 36 = .ok (.iconst 0, 1) := by decide +kernel
theorem d_De_bar_37 : decode b_De_bar 37 = .ok (.putfield 56, 3) := by decide +kernel
theorem d_De_bar_40 : decode b_De_bar 40 = .ok (.iload 4, 2) := by decide +kernel
theorem d_De_bar_42 : decode b_De_bar 42 = .ok (.ireturn, 1) := by decide +kernel
theorem d_De_sits_0 : decode b_De_sits 0 = .ok (.aload_n 0, 1) := by decide +kernel
theorem d_De_sits_1 : decode b_De_sits 1 = .ok (.iload_n 1, 1) := by decide +kernel
theorem d_De_sits_2 : decode b_De_sits 2 = .ok (.invokevirtual 65, 3) := by decide +kernel
theorem d_De_sits_5 : decode b_De_sits 5 = .ok (.iload_n 2, 1) := by decide +kernel
theorem d_De_sits_6 : decode b_De_sits 6 = .ok (.iconst (-1), 1) := by decide +kernel
theorem d_De_sits_7 : decode b_De_sits 7 = .ok (.if_icmp .eq 14, 3) := by decide +kernel
theorem d_De_sits_10 : decode b_De_sits 10 = .ok (.aload_n 0, 1) := by decide +kernel
theorem d_De_sits_11 : decode b_De_sits 11 = .ok (.iload_n 2, 1) := by decide +kernel
theorem d_De_sits_12 : decode b_De_sits 12 = .ok (.invokevirtual 68, 3) := by decide +kernel
theorem d_De_sits_15 : decode b_De_sits 15 = .ok (.aload_n 0, 1) := by decide +kernel
theorem d_De_sits_16 : decode b_De_sits 16 = .ok (.iload_n 1, 1) := by decide +kernel
theorem d_De_sits_17 : decode b_De_sits 17 = .ok (.iload_n 2, 1) := by decide +kernel
theorem d_De_sits_18 : decode b_De_sits 18 = .ok (.invokevirtual 84, 3) := by decide +kernel
theorem d_De_sits_21 : decode b_De_sits 21 = .ok (.aload_n 0, 1) := by decide +kernel
theorem d_De_sits_22 : decode b_De_sits 22 = .ok (.getfield 11, 3) := by decide +kernel
theorem d_De_sits_25 : decode b_De_sits 25 = .ok (.iload_n 1, 1) := by decide +kernel
theorem d_De_sits_26 : decode b_De_sits 26 = .ok (.aaload, 1) := by decide +kernel
theorem d_De_sits_27 : decode b_De_sits 27 = .ok (.getfield 88, 3) := by decide +kernel
theorem d_De_sits_30 : decode b_De_sits 30 = .ok (.istore_n 3, 1) := by decide +kernel
theorem d_De_sits_31 : decode b_De_sits 31 = .ok (.aload_n 0, 1) := by decide +kernel
theorem d_De_sits_32 : decode b_De_sits 32 = .ok (.getfield 11, 3) := by decide +kernel
theorem d_De_sits_35 : decode b_De_sits 35 = .ok (.iload_n 1, 1) := by decide +kernel
theorem d_De_sits_36 : decode b_De_sits 36 = .ok (.aaload, 1) := by decide +kernel
theorem d_De_sits_37 : decode b_De_sits 37 = .ok (.iload_n 2, 1) := by decide +kernel
theorem d_De_sits_38 : decode b_De_sits 38 = .ok (.putfield 88, 3) := by decide +kernel
theorem d_De_sits_41 : decode b_De_sits 41 = .ok (.aload_n 0, 1) := by decide +kernel
theorem d_De_sits_42 : decode b_De_sits 42 = .ok (.iconst 0, 1) := by decide +kernel
theorem d_De_sits_43 : decode b_De_sits 43 = .ok (.putfield 56, 3) := by decide +kernel
theorem d_De_sits_46 : decode b_De_sits 46 = .ok (.iload_n 3, 1) := by decide +kernel
theorem d_De_sits_47 : decode b_De_sits 47 = .ok (.ireturn, 1) := by decide +kernel
theorem d_De_seat_0 : decode b_De_seat 0 = .ok (.aload_n 0, 1) := by decide +kernel
theorem d_De_seat_1 : decode b_De_seat 1 = .ok (.getfield 18, 3) := by decide +kernel
theorem d_De_seat_4 : decode b_De_seat 4 = .ok (.aload_n 0, 1) := by decide +kernel
theorem d_De_seat_5 : decode b_De_seat 5 = .ok (.getfield 11, 3) := by decide +kernel
theorem d_De_seat_8 : decode b_De_seat 8 = .ok (.aload_n 0, 1) := by decide +kernel
theorem d_De_seat_9 : decode b_De_seat 9 = .ok (.getfield 60, 3) := by decide +kernel
theorem d_De_seat_12 : decode b_De_seat 12 = .ok (.iconst (-1), 1) := by decide +kernel
theorem d_De_seat_13 : decode b_De_seat 13 = .ok (.aload_n 0, 1) := by decide +kernel
theorem d_De_seat_14 : decode b_De_seat 14 = .ok (.getfield 45, 3) := by decide +kernel
theorem d_De_seat_17 : decode b_De_seat 17 = .ok (.invokevirtual 91, 3) := by decide +kernel
theorem d_De_seat_20 : decode b_De_seat 20 = .ok (.istore_n 1, 1) := by decide +kernel
theorem d_De_seat_21 : decode b_De_seat 21 = .ok (.iload_n 1, 1) := by decide +kernel
theorem d_De_seat_22 : decode b_De_seat 22 = .ok (.iconst (-1), 1) := by decide +kernel
theorem d_De_seat_23 : decode b_De_seat 23 = .ok (.if_icmp .ne 10, 3) := by decide +kernel
theorem d_De_seat_26 : decode b_De_seat 26 = .ok (.aload_n 0, 1) := by decide +kernel
theorem d_De_seat_27 : decode b_De_seat 27 = .ok (.iconst 0, 1) := by decide +kernel
theorem d_De_seat_28 : decode b_De_seat 28 = .ok (.putfield 56, 3) := by decide +kernel
theorem d_De_seat_31 : decode b_De_seat 31 = .ok (.iconst (-1), 1) := by decide +kernel
theorem d_De_seat_32 : decode b_De_seat 32 = .ok (.ireturn, 1) := by decide +kernel
theorem d_De_seat_33 : decode b_De_seat 33 = .ok (.aload_n 0, 1) := by decide +kernel
theorem d_De_seat_34 : decode b_De_seat 34 = .ok (.getfield 18, 3) := by decide +kernel
theorem d_De_seat_37 : decode b_De_seat 37 = .ok (.invokevirtual 95, 3) := by decide +kernel
theorem d_De_seat_40 : decode b_De_seat 40 = .ok (.aload_n 0, 1) := by decide +kernel
theorem d_De_seat_41 : decode b_De_seat 41 = .ok (.getfield 25, 3) := by decide +kernel
theorem d_De_seat_44 : decode b_De_seat 44 = .ok (.aload_n 0, 1) := by decide +kernel
theorem d_De_seat_45 : decode b_De_seat 45 = .ok (.getfield 11, 3) := by decide +kernel
theorem d_De_seat_48 : decode b_De_seat 48 = .ok (.aload_n 0, 1) := by decide +kernel
theorem d_De_seat_49 : decode b_De_seat 49 = .ok (.getfield 60, 3) := by decide +kernel
theorem d_De_seat_52 : decode b_De_seat 52 = .ok (.aload_n 0, 1) := by decide +kernel
theorem d_De_seat_53 : decode b_De_seat 53 = .ok (.getfield 45, 3) := by decide +kernel
theorem d_De_seat_56 : decode b_De_seat 56 = .ok (.invokevirtual 98, 3) := by decide +kernel
theorem d_De_seat_59 : decode b_De_seat 59 = .ok (.aload_n 0, 1) := by decide +kernel
theorem d_De_seat_60 : decode b_De_seat 60 = .ok (.iconst 1, 1) := by decide +kernel
theorem d_De_seat_61 : decode b_De_seat 61 = .ok (.putfield 56, 3) := by decide +kernel
theorem d_De_seat_64 : decode b_De_seat 64 = .ok (.aload_n 0, 1) := by decide +kernel
theorem d_De_seat_65 : decode b_De_seat 65 = .ok (.iload_n 1, 1) := by decide +kernel
theorem d_De_seat_66 : decode b_De_seat 66 = .ok (.putfield 102, 3) := by decide +kernel
theorem d_De_seat_69 : decode b_De_seat 69 = .ok (.iload_n 1, 1) := by decide +kernel
theorem d_De_seat_70 : decode b_De_seat 70 = .ok (.ireturn, 1) := by decide +kernel
theorem d_De_deskOf_0 : decode b_De_deskOf 0 = .ok (.aload_n 0, 1) := by decide +kernel
theorem d_De_deskOf_1 : decode b_De_deskOf 1 = .ok (.iload_n 1, 1) := by decide +kernel
theorem d_De_deskOf_2 : decode b_De_deskOf 2 = .ok (.invokevirtual 65, 3) := by decide +kernel
theorem d_De_deskOf_5 : decode b_De_deskOf 5 = .ok (.aload_n 0, 1) := by decide +kernel
theorem d_De_deskOf_6 : decode b_De_deskOf 6 = .ok (.getfield 56, 3) := by decide +kernel
theorem d_De_deskOf_9 : decode b_De_deskOf 9 = .ok (.ifCond .eq 15, 3) := by decide +kernel
theorem d_De_deskOf_12 : decode b_De_deskOf 12 = .ok (.aload_n 0, 1) := by decide +kernel
theorem d_De_deskOf_13 : decode b_De_deskOf 13 = .ok (.getfield 11, 3) := by decide +kernel
theorem d_De_deskOf_16 : decode b_De_deskOf 16 = .ok (.iload_n 1, 1) := by decide +kernel
theorem d_De_deskOf_17 : decode b_De_deskOf 17 = .ok (.aaload, 1) := by decide +kernel
theorem d_De_deskOf_18 : decode b_De_deskOf 18 = .ok (.getfield 105, 3) := by decide +kernel
theorem d_De_deskOf_21 : decode b_De_deskOf 21 = .ok (.goto 4, 3) := by decide +kernel
theorem d_De_deskOf_24 : decode b_De_deskOf 24 = .ok (.iconst (-1), 1) := by decide +kernel
theorem d_De_deskOf_25 : decode b_De_deskOf 25 = .ok (.ireturn, 1) := by decide +kernel
theorem d_De_moved_0 : decode b_De_moved 0 = .ok (.aload_n 0, 1) := by decide +kernel
theorem d_De_moved_1 : decode b_De_moved 1 = .ok (.getfield 56, 3) := by decide +kernel
theorem d_De_moved_4 : decode b_De_moved 4 = .ok (.ifCond .ne 5, 3) := by decide +kernel
theorem d_De_moved_7 : decode b_De_moved 7 = .ok (.iconst (-1), 1) := by decide +kernel
theorem d_De_moved_8 : decode b_De_moved 8 = .ok (.ireturn, 1) := by decide +kernel
theorem d_De_moved_9 : decode b_De_moved 9 = .ok (.iconst 0, 1) := by decide +kernel
theorem d_De_moved_10 : decode b_De_moved 10 = .ok (.istore_n 1, 1) := by decide +kernel
theorem d_De_moved_11 : decode b_De_moved 11 = .ok (.iconst 0, 1) := by decide +kernel
theorem d_De_moved_12 : decode b_De_moved 12 = .ok (.istore_n 2, 1) := by decide +kernel
theorem d_De_moved_13 : decode b_De_moved 13 = .ok (.iload_n 2, 1) := by decide +kernel
theorem d_De_moved_14 : decode b_De_moved 14 = .ok (.aload_n 0, 1) := by decide +kernel
theorem d_De_moved_15 : decode b_De_moved 15 = .ok (.getfield 60, 3) := by decide +kernel
theorem d_De_moved_18 : decode b_De_moved 18 = .ok (.if_icmp .ge 33, 3) := by decide +kernel
theorem d_De_moved_21 : decode b_De_moved 21 = .ok (.aload_n 0, 1) := by decide +kernel
theorem d_De_moved_22 : decode b_De_moved 22 = .ok (.getfield 11, 3) := by decide +kernel
theorem d_De_moved_25 : decode b_De_moved 25 = .ok (.iload_n 2, 1) := by decide +kernel
theorem d_De_moved_26 : decode b_De_moved 26 = .ok (.aaload, 1) := by decide +kernel
theorem d_De_moved_27 : decode b_De_moved 27 = .ok (.aload_n 0, 1) := by decide +kernel
theorem d_De_moved_28 : decode b_De_moved 28 = .ok (.getfield 11, 3) := by decide +kernel
theorem d_De_moved_31 : decode b_De_moved 31 = .ok (.iload_n 2, 1) := by decide +kernel
theorem d_De_moved_32 : decode b_De_moved 32 = .ok (.aaload, 1) := by decide +kernel
theorem d_De_moved_33 : decode b_De_moved 33 = .ok (.getfield 105, 3) := by decide +kernel
theorem d_De_moved_36 : decode b_De_moved 36 = .ok (.invokevirtual 108, 3) := by decide +kernel
theorem d_De_moved_39 : decode b_De_moved 39 = .ok (.ifCond .eq 6, 3) := by decide +kernel
theorem d_De_moved_42 : decode b_De_moved 42 = .ok (.iinc 1 1, 3) := by decide +kernel
theorem d_De_moved_45 : decode b_De_moved 45 = .ok (.iinc 2 1, 3) := by decide +kernel
theorem d_De_moved_48 : decode b_De_moved 48 = .ok (.goto (-35), 3) := by decide +kernel
theorem d_De_moved_51 : decode b_De_moved 51 = .ok (.iload_n 1, 1) := by decide +kernel
theorem d_De_moved_52 : decode b_De_moved 52 = .ok (.ireturn, 1) := by decide +kernel
theorem d_De_steps_0 : decode b_De_steps 0 = .ok (.aload_n 0, 1) := by decide +kernel
theorem d_De_steps_1 : decode b_De_steps 1 = .ok (.invokevirtual 112, 3) := by decide +kernel
theorem d_De_steps_4 : decode b_De_steps 4 = .ok (.aload_n 0, 1) := by decide +kernel
theorem d_De_steps_5 : decode b_De_steps 5 = .ok (.getfield 25, 3) := by decide +kernel
theorem d_De_steps_8 : decode b_De_steps 8 = .ok (.getfield 115, 3) := by decide +kernel
theorem d_De_steps_11 : decode b_De_steps 11 = .ok (.ifCond .eq 8, 3) := by decide +kernel
theorem d_De_steps_14 : decode b_De_steps 14 = .ok (.bipush (-2), 2) := by decide +kernel
theorem d_De_steps_16 : decode b_De_steps 16 = .ok (.goto 10, 3) := by decide +kernel
theorem d_De_steps_19 : decode b_De_steps 19 = .ok (.aload_n 0, 1) := by decide +kernel
theorem d_De_steps_20 : decode b_De_steps 20 = .ok (.getfield 25, 3) := by decide +kernel
theorem d_De_steps_23 : decode b_De_steps 23 = .ok (.getfield 118, 3) := by decide +kernel
theorem d_De_steps_26 : decode b_De_steps 26 = .ok (.ireturn, 1) := by decide +kernel
theorem d_De_step_0 : decode b_De_step 0 = .ok (.iload_n 2, 1) := by decide +kernel
theorem d_De_step_1 : decode b_De_step 1 = .ok (.ifCond .lt 12, 3) := by decide +kernel
theorem d_De_step_4 : decode b_De_step 4 = .ok (.iload_n 2, 1) := by decide +kernel
theorem d_De_step_5 : decode b_De_step 5 = .ok (.iconst 2, 1) := by decide +kernel
theorem d_De_step_6 : decode b_De_step 6 = .ok (.if_icmp .gt 7, 3) := by decide +kernel
theorem d_De_step_9 : decode b_De_step 9 = .ok (.iload_n 1, 1) := by decide +kernel
theorem d_De_step_10 : decode b_De_step 10 = .ok (.ifCond .ge 13, 3) := by decide +kernel
theorem d_De_step_13 : decode b_De_step 13 = .ok (.new 71, 3) := by decide +kernel
theorem d_De_step_16 : decode b_De_step 16 = .ok (.dup, 1) := by decide +kernel
theorem d_De_step_17 : decode b_De_step 17 = .ok (.ldc 121, 2) := by decide +kernel
theorem d_De_step_19 : decode b_De_step 19 = .ok (.invokespecial 75, 3) := by decide +kernel
theorem d_De_step_22 : decode b_De_step 22 = .ok (.athrow, 1) := by decide +kernel
theorem d_De_step_23 : decode b_De_step 23 = .ok (.aload_n 0, 1) := by decide +kernel
theorem d_De_step_24 : decode b_De_step 24 = .ok (.invokevirtual 112, 3) := by decide +kernel
theorem d_De_step_27 : decode b_De_step 27 = .ok (.iload_n 1, 1) := by decide +kernel
theorem d_De_step_28 : decode b_De_step 28 = .ok (.aload_n 0, 1) := by decide +kernel
theorem d_De_step_29 : decode b_De_step 29 = .ok (.getfield 25, 3) := by decide +kernel
theorem d_De_step_32 : decode b_De_step 32 = .ok (.getfield 118, 3) := by decide +kernel
theorem d_De_step_35 : decode b_De_step 35 = .ok (.if_icmp .lt 13, 3) := by decide +kernel
theorem d_De_step_38 : decode b_De_step 38 = .ok (.new 71, 3) := by decide +kernel
theorem d_De_step_41 : decode b_De_step 41 = .ok (.dup, 1) := by decide +kernel
theorem d_De_step_42 : decode b_De_step 42 = .ok (.ldc 123, 2) := by decide +kernel
theorem d_De_step_44 : decode b_De_step 44 = .ok (.invokespecial 75, 3) := by decide +kernel
theorem d_De_step_47 : decode b_De_step 47 = .ok (.athrow, 1) := by decide +kernel
theorem d_De_step_48 : decode b_De_step 48 = .ok (.iload_n 2, 1) := by decide +kernel
theorem d_De_step_49 : decode b_De_step 49 = .ok (.ifCond .ne 13, 3) := by decide +kernel
theorem d_De_step_52 : decode b_De_step 52 = .ok (.aload_n 0, 1) := by decide +kernel
theorem d_De_step_53 : decode b_De_step 53 = .ok (.getfield 25, 3) := by decide +kernel
theorem d_De_step_56 : decode b_De_step 56 = .ok (.getfield 125, 3) := by decide +kernel
theorem d_De_step_59 : decode b_De_step 59 = .ok (.iload_n 1, 1) := by decide +kernel
theorem d_De_step_60 : decode b_De_step 60 = .ok (.iaload, 1) := by decide +kernel
theorem d_De_step_61 : decode b_De_step 61 = .ok (.ireturn, 1) := by decide +kernel
theorem d_De_step_62 : decode b_De_step 62 = .ok (.iload_n 2, 1) := by decide +kernel
theorem d_De_step_63 : decode b_De_step 63 = .ok (.iconst 1, 1) := by decide +kernel
theorem d_De_step_64 : decode b_De_step 64 = .ok (.if_icmp .ne 15, 3) := by decide +kernel
theorem d_De_step_67 : decode b_De_step 67 = .ok (.aload_n 0, 1) := by decide +kernel
theorem d_De_step_68 : decode b_De_step 68 = .ok (.getfield 25, 3) := by decide +kernel
theorem d_De_step_71 : decode b_De_step 71 = .ok (.getfield 128, 3) := by decide +kernel
theorem d_De_step_74 : decode b_De_step 74 = .ok (.iload_n 1, 1) := by decide +kernel
theorem d_De_step_75 : decode b_De_step 75 = .ok (.iaload, 1) := by decide +kernel
theorem d_De_step_76 : decode b_De_step 76 = .ok (.goto 12, 3) := by decide +kernel
theorem d_De_step_79 : decode b_De_step 79 = .ok (.aload_n 0, 1) := by decide +kernel
theorem d_De_step_80 : decode b_De_step 80 = .ok (.getfield 25, 3) := by decide +kernel
theorem d_De_step_83 : decode b_De_step 83 = .ok (.getfield 131, 3) := by decide +kernel
theorem d_De_step_86 : decode b_De_step 86 = .ok (.iload_n 1, 1) := by decide +kernel
theorem d_De_step_87 : decode b_De_step 87 = .ok (.iaload, 1) := by decide +kernel
theorem d_De_step_88 : decode b_De_step 88 = .ok (.ireturn, 1) := by decide +kernel
theorem d_De_settle_0 : decode b_De_settle 0 = .ok (.aload_n 0, 1) := by decide +kernel
theorem d_De_settle_1 : decode b_De_settle 1 = .ok (.invokevirtual 112, 3) := by decide +kernel
theorem d_De_settle_4 : decode b_De_settle 4 = .ok (.iconst 0, 1) := by decide +kernel
theorem d_De_settle_5 : decode b_De_settle 5 = .ok (.istore_n 1, 1) := by decide +kernel
theorem d_De_settle_6 : decode b_De_settle 6 = .ok (.iconst 0, 1) := by decide +kernel
theorem d_De_settle_7 : decode b_De_settle 7 = .ok (.istore_n 2, 1) := by decide +kernel
theorem d_De_settle_8 : decode b_De_settle 8 = .ok (.iload_n 2, 1) := by decide +kernel
theorem d_De_settle_9 : decode b_De_settle 9 = .ok (.aload_n 0, 1) := by decide +kernel
theorem d_De_settle_10 : decode b_De_settle 10 = .ok (.getfield 60, 3) := by decide +kernel
theorem d_De_settle_13 : decode b_De_settle 13 = .ok (.if_icmp .ge 38, 3) := by decide +kernel
theorem d_De_settle_16 : decode b_De_settle 16 = .ok (.aload_n 0, 1) := by decide +kernel
theorem d_De_settle_17 : decode b_De_settle 17 = .ok (.getfield 11, 3) := by decide +kernel
theorem d_De_settle_20 : decode b_De_settle 20 = .ok (.iload_n 2, 1) := by decide +kernel
theorem d_De_settle_21 : decode b_De_settle 21 = .ok (.aaload, 1) := by decide +kernel
theorem d_De_settle_22 : decode b_De_settle 22 = .ok (.astore_n 3, 1) := by decide +kernel
theorem d_De_settle_23 : decode b_De_settle 23 = .ok (.aload_n 3, 1) := by decide +kernel
theorem d_De_settle_24 : decode b_De_settle 24 = .ok (.getfield 88, 3) := by decide +kernel
theorem d_De_settle_27 : decode b_De_settle 27 = .ok (.aload_n 3, 1) := by decide +kernel
theorem d_De_settle_28 : decode b_De_settle 28 = .ok (.getfield 105, 3) := by decide +kernel
theorem d_De_settle_31 : decode b_De_settle 31 = .ok (.if_icmp .eq 6, 3) := by decide +kernel
theorem d_De_settle_34 : decode b_De_settle 34 = .ok (.iinc 1 1, 3) := by decide +kernel
theorem d_De_settle_37 : decode b_De_settle 37 = .ok (.aload_n 3, 1) := by decide +kernel
theorem d_De_settle_38 : decode b_De_settle 38 = .ok (.aload_n 3, 1) := by decide +kernel
theorem d_De_settle_39 : decode b_De_settle 39 = .ok (.getfield 105, 3) := by decide +kernel
theorem d_De_settle_42 : decode b_De_settle 42 = .ok (.putfield 88, 3) := by decide +kernel
theorem d_De_settle_45 : decode b_De_settle 45 = .ok (.iinc 2 1, 3) := by decide +kernel
theorem d_De_settle_48 : decode b_De_settle 48 = .ok (.goto (-40), 3) := by decide +kernel
theorem d_De_settle_51 : decode b_De_settle 51 = .ok (.aload_n 0, 1) := by decide +kernel
theorem d_De_settle_52 : decode b_De_settle 52 = .ok (.iconst 0, 1) := by decide +kernel
theorem d_De_settle_53 : decode b_De_settle 53 = .ok (.putfield 56, 3) := by decide +kernel
theorem d_De_settle_56 : decode b_De_settle 56 = .ok (.iload_n 1, 1) := by decide +kernel
theorem d_De_settle_57 : decode b_De_settle 57 = .ok (.ireturn, 1) := by decide +kernel
theorem d_De_worthOf_0 : decode b_De_worthOf 0 = .ok (.aload_n 0, 1) := by decide +kernel
theorem d_De_worthOf_1 : decode b_De_worthOf 1 = .ok (.iload_n 1, 1) := by decide +kernel
theorem d_De_worthOf_2 : decode b_De_worthOf 2 = .ok (.invokevirtual 65, 3) := by decide +kernel
theorem d_De_worthOf_5 : decode b_De_worthOf 5 = .ok (.aload_n 0, 1) := by decide +kernel
theorem d_De_worthOf_6 : decode b_De_worthOf 6 = .ok (.invokevirtual 112, 3) := by decide +kernel
theorem d_De_worthOf_9 : decode b_De_worthOf 9 = .ok (.aload_n 0, 1) := by decide +kernel
theorem d_De_worthOf_10 : decode b_De_worthOf 10 = .ok (.getfield 102, 3) := by decide +kernel
theorem d_De_worthOf_13 : decode b_De_worthOf 13 = .ok (.aload_n 0, 1) := by decide +kernel
theorem d_De_worthOf_14 : decode b_De_worthOf 14 = .ok (.getfield 18, 3) := by decide +kernel
theorem d_De_worthOf_17 : decode b_De_worthOf 17 = .ok (.aload_n 0, 1) := by decide +kernel
theorem d_De_worthOf_18 : decode b_De_worthOf 18 = .ok (.getfield 11, 3) := by decide +kernel
theorem d_De_worthOf_21 : decode b_De_worthOf 21 = .ok (.aload_n 0, 1) := by decide +kernel
theorem d_De_worthOf_22 : decode b_De_worthOf 22 = .ok (.getfield 60, 3) := by decide +kernel
theorem d_De_worthOf_25 : decode b_De_worthOf 25 = .ok (.iload_n 1, 1) := by decide +kernel
theorem d_De_worthOf_26 : decode b_De_worthOf 26 = .ok (.aload_n 0, 1) := by decide +kernel
theorem d_De_worthOf_27 : decode b_De_worthOf 27 = .ok (.getfield 45, 3) := by decide +kernel
theorem d_De_worthOf_30 : decode b_De_worthOf 30 = .ok (.invokevirtual 91, 3) := by decide +kernel
theorem d_De_worthOf_33 : decode b_De_worthOf 33 = .ok (.isub, 1) := by decide +kernel
theorem d_De_worthOf_34 : decode b_De_worthOf 34 = .ok (.ireturn, 1) := by decide +kernel
theorem d_De_room_0 : decode b_De_room 0 = .ok (.iload_n 1, 1) := by decide +kernel
theorem d_De_room_1 : decode b_De_room 1 = .ok (.iconst 1, 1) := by decide +kernel
theorem d_De_room_2 : decode b_De_room 2 = .ok (.if_icmp .lt 10, 3) := by decide +kernel
theorem d_De_room_5 : decode b_De_room 5 = .ok (.iload_n 1, 1) := by decide +kernel
theorem d_De_room_6 : decode b_De_room 6 = .ok (.sipush 200, 3) := by decide +kernel
theorem d_De_room_9 : decode b_De_room 9 = .ok (.if_icmp .le 13, 3) := by decide +kernel
theorem d_De_room_12 : decode b_De_room 12 = .ok (.new 71, 3) := by decide +kernel
theorem d_De_room_15 : decode b_De_room 15 = .ok (.dup, 1) := by decide +kernel
theorem d_De_room_16 : decode b_De_room 16 = .ok (.ldc 134, 2) := by decide +kernel
theorem d_De_room_18 : decode b_De_room 18 = .ok (.invokespecial 75, 3) := by decide +kernel
theorem d_De_room_21 : decode b_De_room 21 = .ok (.athrow, 1) := by decide +kernel
theorem d_De_room_22 : decode b_De_room 22 = .ok (.aload_n 0, 1) := by decide +kernel
theorem d_De_room_23 : decode b_De_room 23 = .ok (.getfield 136, 3) := by decide +kernel
theorem d_De_room_26 : decode b_De_room 26 = .ok (.bipush 8, 2) := by decide +kernel
theorem d_De_room_28 : decode b_De_room 28 = .ok (.if_icmp .lt 13, 3) := by decide +kernel
theorem d_De_room_31 : decode b_De_room 31 = .ok (.new 49, 3) := by decide +kernel
theorem d_De_room_34 : decode b_De_room 34 = .ok (.dup, 1) := by decide +kernel
theorem d_De_room_35 : decode b_De_room 35 = .ok (.ldc 139, 2) := by decide +kernel
theorem d_De_room_37 : decode b_De_room 37 = .ok (.invokespecial 53, 3) := by decide +kernel
theorem d_De_room_40 : decode b_De_room 40 = .ok (.athrow, 1) := by decide +kernel
theorem d_De_room_41 : decode b_De_room 41 = .ok (.aload_n 0, 1) := by decide +kernel
theorem d_De_room_42 : decode b_De_room 42 = .ok (.getfield 31, 3) := by decide +kernel
theorem d_De_room_45 : decode b_De_room 45 = .ok (.aload_n 0, 1) := by decide +kernel
theorem d_De_room_46 : decode b_De_room 46 = .ok (.getfield 136, 3) := by decide +kernel
theorem d_De_room_49 : decode b_De_room 49 = .ok (.aaload, 1) := by decide +kernel
theorem d_De_room_50 : decode b_De_room 50 = .ok (.iload_n 1, 1) := by decide +kernel
theorem d_De_room_51 : decode b_De_room 51 = .ok (.putfield 141, 3) := by decide +kernel
theorem d_De_room_54 : decode b_De_room 54 = .ok (.aload_n 0, 1) := by decide +kernel
theorem d_De_room_55 : decode b_De_room 55 = .ok (.dup, 1) := by decide +kernel
theorem d_De_room_56 : decode b_De_room 56 = .ok (.getfield 136, 3) := by decide +kernel
theorem d_De_room_59 : decode b_De_room 59 = .ok (.iconst 1, 1) := by decide +kernel
theorem d_De_room_60 : decode b_De_room 60 = .ok (.iadd, 1) := by decide +kernel
theorem d_De_room_61 : decode b_De_room 61 = .ok (.putfield 136, 3) := by decide +kernel
theorem d_De_room_64 : decode b_De_room 64 = .ok (.aload_n 0, 1) := by decide +kernel
theorem d_De_room_65 : decode b_De_room 65 = .ok (.getfield 136, 3) := by decide +kernel
theorem d_De_room_68 : decode b_De_room 68 = .ok (.iconst 1, 1) := by decide +kernel
theorem d_De_room_69 : decode b_De_room 69 = .ok (.isub, 1) := by decide +kernel
theorem d_De_room_70 : decode b_De_room 70 = .ok (.ireturn, 1) := by decide +kernel
theorem d_De_book_0 : decode b_De_book 0 = .ok (.iload_n 3, 1) := by decide +kernel
theorem d_De_book_1 : decode b_De_book 1 = .ok (.iconst 1, 1) := by decide +kernel
theorem d_De_book_2 : decode b_De_book 2 = .ok (.if_icmp .lt 10, 3) := by decide +kernel
theorem d_De_book_5 : decode b_De_book 5 = .ok (.iload_n 3, 1) := by decide +kernel
theorem d_De_book_6 : decode b_De_book 6 = .ok (.sipush 200, 3) := by decide +kernel
theorem d_De_book_9 : decode b_De_book 9 = .ok (.if_icmp .le 13, 3) := by decide +kernel
theorem d_De_book_12 : decode b_De_book 12 = .ok (.new 71, 3) := by decide +kernel
theorem d_De_book_15 : decode b_De_book 15 = .ok (.dup, 1) := by decide +kernel
theorem d_De_book_16 : decode b_De_book 16 = .ok (.ldc 144, 2) := by decide +kernel
theorem d_De_book_18 : decode b_De_book 18 = .ok (.invokespecial 75, 3) := by decide +kernel
theorem d_De_book_21 : decode b_De_book 21 = .ok (.athrow, 1) := by decide +kernel
theorem d_De_book_22 : decode b_De_book 22 = .ok (.iload_n 1, 1) := by decide +kernel
theorem d_De_book_23 : decode b_De_book 23 = .ok (.ifCond .lt 15, 3) := by decide +kernel
theorem d_De_book_26 : decode b_De_book 26 = .ok (.iload_n 2, 1) := by decide +kernel
theorem d_De_book_27 : decode b_De_book 27 = .ok (.sipush 10080, 3) := by decide +kernel
theorem d_De_book_30 : decode b_De_book 30 = .ok (.if_icmp .gt 8, 3) := by decide +kernel
theorem d_De_book_33 : decode b_De_book 33 = .ok (.iload_n 1, 1) := by decide +kernel
theorem d_De_book_34 : decode b_De_book 34 = .ok (.iload_n 2, 1) := by decide +kernel
theorem d_De_book_35 : decode b_De_book 35 = .ok (.if_icmp .lt 13, 3) := by decide +kernel
theorem d_De_book_38 : decode b_De_book 38 = .ok (.new 71, 3) := by decide +kernel
theorem d_De_book_41 : decode b_De_book 41 = .ok (.dup, 1) := by decide +kernel
theorem d_De_book_42 : decode b_De_book 42 = .ok (.ldc 146, 2) := by decide +kernel
theorem d_De_book_44 : decode b_De_book 44 = .ok (.invokespecial 75, 3) := by decide +kernel
theorem d_De_book_47 : decode b_De_book 47 = .ok (.athrow, 1) := by decide +kernel
theorem d_De_book_48 : decode b_De_book 48 = .ok (.aload_n 0, 1) := by decide +kernel
theorem d_De_book_49 : decode b_De_book 49 = .ok (.getfield 148, 3) := by decide +kernel
theorem d_De_book_52 : decode b_De_book 52 = .ok (.sipush 300, 3) := by decide +kernel
theorem d_De_book_55 : decode b_De_book 55 = .ok (.if_icmp .lt 13, 3) := by decide +kernel
theorem d_De_book_58 : decode b_De_book 58 = .ok (.new 49, 3) := by decide +kernel
theorem d_De_book_61 : decode b_De_book 61 = .ok (.dup, 1) := by decide +kernel
theorem d_De_book_62 : decode b_De_book 62 = .ok (.ldc 151, 2) := by decide +kernel
theorem d_De_book_64 : decode b_De_book 64 = .ok (.invokespecial 53, 3) := by decide +kernel
theorem d_De_book_67 : decode b_De_book 67 = .ok (.athrow, 1) := by decide +kernel
theorem d_De_book_68 : decode b_De_book 68 = .ok (.aload_n 0, 1) := by decide +kernel
theorem d_De_book_69 : decode b_De_book 69 = .ok (.iload_n 1, 1) := by decide +kernel
theorem d_De_book_70 : decode b_De_book 70 = .ok (.iload_n 2, 1) := by decide +kernel
theorem d_De_book_71 : decode b_De_book 71 = .ok (.iload_n 3, 1) := by decide +kernel
theorem d_De_book_72 : decode b_De_book 72 = .ok (.invokevirtual 153, 3) := by decide +kernel
theorem d_De_book_75 : decode b_De_book 75 = .ok (.astore 4, 2) := by decide +kernel
theorem d_De_book_77 : decode b_De_book 77 = .ok (.aload 4, 2) := by decide +kernel
theorem d_De_book_79 : decode b_De_book 79 = .ok (.ifnonnull 5, 3) := by decide +kernel
theorem d_De_book_82 : decode b_De_book 82 = .ok (.iconst (-1), 1) := by decide +kernel
theorem d_De_book_83 : decode b_De_book 83 = .ok (.ireturn, 1) := by decide +kernel
theorem d_De_book_84 : decode b_De_book 84 = .ok (.new 35, 3) := by decide +kernel
theorem d_De_book_87 : decode b_De_book 87 = .ok (.dup, 1) := by decide +kernel
theorem d_De_book_88 : decode b_De_book 88 = .ok (.aload_n 0, 1) := by decide +kernel
theorem d_De_book_89 : decode b_De_book 89 = .ok (.getfield 148, 3) := by decide +kernel
theorem d_De_book_92 : decode b_De_book 92 = .ok (.aload 4, 2) := by decide +kernel
theorem d_De_book_94 : decode b_De_book 94 = .ok (.iload_n 1, 1) := by decide +kernel
theorem d_De_book_95 : decode b_De_book 95 = .ok (.iload_n 2, 1) := by decide +kernel
theorem d_De_book_96 : decode b_De_book 96 = .ok (.iload_n 3, 1) := by decide +kernel
theorem d_De_book_97 : decode b_De_book 97 = .ok (.invokespecial 157, 3) := by decide +kernel
theorem d_De_book_100 : decode b_De_book 100 = .ok (.astore 5, 2) := by decide +kernel
theorem d_De_book_102 : decode b_De_book 102 = .ok (.aload 4, 2) := by decide +kernel
theorem d_De_book_104 : decode b_De_book 104 = .ok (.aload 5, 2) := by decide +kernel
theorem d_De_book_106 : decode b_De_book 106 = .ok (.invokevirtual 160, 3) := by decide +kernel
theorem d_De_book_109 : decode b_De_book 109 = .ok (.aload_n 0, 1) := by decide +kernel
theorem d_De_book_110 : decode b_De_book 110 = .ok (.getfield 37, 3) := by decide +kernel
theorem d_De_book_113 : decode b_De_book 113 = .ok (.aload_n 0, 1) := by decide +kernel
theorem d_De_book_114 : decode b_De_book 114 = .ok (.getfield 148, 3) := by decide +kernel
theorem d_De_book_117 : decode b_De_book 117 = .ok (.aload 5, 2) := by decide +kernel
theorem d_De_book_119 : decode b_De_book 119 = .ok (.aastore, 1) := by decide +kernel
theorem d_De_book_120 : decode b_De_book 120 = .ok (.aload_n 0, 1) := by decide +kernel
theorem d_De_book_121 : decode b_De_book 121 = .ok (.dup, 1) := by decide +kernel
theorem d_De_book_122 : decode b_De_book 122 = .ok (.getfield 148, 3) := by decide +kernel
theorem d_De_book_125 : decode b_De_book 125 = .ok (.iconst 1, 1) := by decide +kernel
theorem d_De_book_126 : decode b_De_book 126 = .ok (.iadd, 1) := by decide +kernel
theorem d_De_book_127 : decode b_De_book 127 = .ok (.putfield 148, 3) := by decide +kernel
theorem d_De_book_130 : decode b_De_book 130 = .ok (.aload 5, 2) := by decide +kernel
theorem d_De_book_132 : decode b_De_book 132 = .ok (.getfield 164, 3) := by decide +kernel
theorem d_De_book_135 : decode b_De_book 135 = .ok (.ireturn, 1) := by decide +kernel
theorem d_De_cancel_0 : decode b_De_cancel 0 = .ok (.aload_n 0, 1) := by decide +kernel
theorem d_De_cancel_1 : decode b_De_cancel 1 = .ok (.iload_n 1, 1) := by decide +kernel
theorem d_De_cancel_2 : decode b_De_cancel 2 = .ok (.invokevirtual 167, 3) := by decide +kernel
theorem d_De_cancel_5 : decode b_De_cancel 5 = .ok (.astore_n 2, 1) := by decide +kernel
theorem d_De_cancel_6 : decode b_De_cancel 6 = .ok (.aload_n 2, 1) := by decide +kernel
theorem d_De_cancel_7 : decode b_De_cancel 7 = .ok (.getfield 171, 3) := by decide +kernel
theorem d_De_cancel_10 : decode b_De_cancel 10 = .ok (.aload_n 2, 1) := by decide +kernel
theorem d_De_cancel_11 : decode b_De_cancel 11 = .ok (.invokevirtual 175, 3) := by decide +kernel
theorem d_De_cancel_14 : decode b_De_cancel 14 = .ok (.ireturn, 1) := by decide +kernel
theorem d_De_roomOf_0 : decode b_De_roomOf 0 = .ok (.aload_n 0, 1) := by decide +kernel
theorem d_De_roomOf_1 : decode b_De_roomOf 1 = .ok (.iload_n 1, 1) := by decide +kernel
theorem d_De_roomOf_2 : decode b_De_roomOf 2 = .ok (.invokevirtual 167, 3) := by decide +kernel
theorem d_De_roomOf_5 : decode b_De_roomOf 5 = .ok (.getfield 171, 3) := by decide +kernel
theorem d_De_roomOf_8 : decode b_De_roomOf 8 = .ok (.getfield 179, 3) := by decide +kernel
theorem d_De_roomOf_11 : decode b_De_roomOf 11 = .ok (.ireturn, 1) := by decide +kernel
theorem d_De_inside_0 : decode b_De_inside 0 = .ok (.aload_n 0, 1) := by decide +kernel
theorem d_De_inside_1 : decode b_De_inside 1 = .ok (.iload_n 1, 1) := by decide +kernel
theorem d_De_inside_2 : decode b_De_inside 2 = .ok (.invokevirtual 180, 3) := by decide +kernel
theorem d_De_inside_5 : decode b_De_inside 5 = .ok (.aload_n 0, 1) := by decide +kernel
theorem d_De_inside_6 : decode b_De_inside 6 = .ok (.iload_n 2, 1) := by decide +kernel
theorem d_De_inside_7 : decode b_De_inside 7 = .ok (.invokevirtual 183, 3) := by decide +kernel
theorem d_De_inside_10 : decode b_De_inside 10 = .ok (.aload_n 0, 1) := by decide +kernel
theorem d_De_inside_11 : decode b_De_inside 11 = .ok (.getfield 31, 3) := by decide +kernel
theorem d_De_inside_14 : decode b_De_inside 14 = .ok (.iload_n 1, 1) := by decide +kernel
theorem d_De_inside_15 : decode b_De_inside 15 = .ok (.aaload, 1) := by decide +kernel
theorem d_De_inside_16 : decode b_De_inside 16 = .ok (.iload_n 2, 1) := by decide +kernel
theorem d_De_inside_17 : decode b_De_inside 17 = .ok (.iload_n 2, 1) := by decide +kernel
theorem d_De_inside_18 : decode b_De_inside 18 = .ok (.iconst 1, 1) := by decide +kernel
theorem d_De_inside_19 : decode b_De_inside 19 = .ok (.iadd, 1) := by decide +kernel
theorem d_De_inside_20 : decode b_De_inside 20 = .ok (.invokevirtual 186, 3) := by decide +kernel
theorem d_De_inside_23 : decode b_De_inside 23 = .ok (.astore_n 3, 1) := by decide +kernel
theorem d_De_inside_24 : decode b_De_inside 24 = .ok (.aload_n 3, 1) := by decide +kernel
theorem d_De_inside_25 : decode b_De_inside 25 = .ok (.ifnonnull 7, 3) := by decide +kernel
theorem d_De_inside_28 : decode b_De_inside 28 = .ok (.iconst (-1), 1) := by decide +kernel
theorem d_De_inside_29 : decode b_De_inside 29 = .ok (.goto 7, 3) := by decide +kernel
theorem d_De_inside_32 : decode b_De_inside 32 = .ok (.aload_n 3, 1) := by decide +kernel
theorem d_De_inside_33 : decode b_De_inside 33 = .ok (.getfield 164, 3) := by decide +kernel
theorem d_De_inside_36 : decode b_De_inside 36 = .ok (.ireturn, 1) := by decide +kernel
theorem d_De_gap_0 : decode b_De_gap 0 = .ok (.aload_n 0, 1) := by decide +kernel
theorem d_De_gap_1 : decode b_De_gap 1 = .ok (.iload_n 1, 1) := by decide +kernel
theorem d_De_gap_2 : decode b_De_gap 2 = .ok (.invokevirtual 180, 3) := by decide +kernel
theorem d_De_gap_5 : decode b_De_gap 5 = .ok (.aload_n 0, 1) := by decide +kernel
theorem d_De_gap_6 : decode b_De_gap 6 = .ok (.iload_n 2, 1) := by decide +kernel
theorem d_De_gap_7 : decode b_De_gap 7 = .ok (.invokevirtual 183, 3) := by decide +kernel
theorem d_De_gap_10 : decode b_De_gap 10 = .ok (.iload_n 3, 1) := by decide +kernel
theorem d_De_gap_11 : decode b_De_gap 11 = .ok (.iconst 1, 1) := by decide +kernel
theorem d_De_gap_12 : decode b_De_gap 12 = .ok (.if_icmp .lt 10, 3) := by decide +kernel
theorem d_De_gap_15 : decode b_De_gap 15 = .ok (.iload_n 3, 1) := by decide +kernel
theorem d_De_gap_16 : decode b_De_gap 16 = .ok (.sipush 10080, 3) := by decide +kernel
theorem d_De_gap_19 : decode b_De_gap 19 = .ok (.if_icmp .le 13, 3) := by decide +kernel
theorem d_De_gap_22 : decode b_De_gap 22 = .ok (.new 71, 3) := by decide +kernel
theorem d_De_gap_25 : decode b_De_gap 25 = .ok (.dup, 1) := by decide +kernel
theorem d_De_gap_26 : decode b_De_gap 26 = .ok (.ldc 190, 2) := by decide +kernel
theorem d_De_gap_28 : decode b_De_gap 28 = .ok (.invokespecial 75, 3) := by decide +kernel
theorem d_De_gap_31 : decode b_De_gap 31 = .ok (.athrow, 1) := by decide +kernel
theorem d_De_gap_32 : decode b_De_gap 32 = .ok (.aload_n 0, 1) := by decide +kernel
theorem d_De_gap_33 : decode b_De_gap 33 = .ok (.getfield 31, 3) := by decide +kernel
theorem d_De_gap_36 : decode b_De_gap 36 = .ok (.iload_n 1, 1) := by decide +kernel
theorem d_De_gap_37 : decode b_De_gap 37 = .ok (.aaload, 1) := by decide +kernel
theorem d_De_gap_38 : decode b_De_gap 38 = .ok (.iload_n 2, 1) := by decide +kernel
theorem d_De_gap_39 : decode b_De_gap 39 = .ok (.iload_n 3, 1) := by decide +kernel
theorem d_De_gap_40 : decode b_De_gap 40 = .ok (.invokevirtual 192, 3) := by decide +kernel
theorem d_De_gap_43 : decode b_De_gap 43 = .ok (.istore 4, 2) := by decide +kernel
theorem d_De_gap_45 : decode b_De_gap 45 = .ok (.iload 4, 2) := by decide +kernel
theorem d_De_gap_47 : decode b_De_gap 47 = .ok (.iload_n 3, 1) := by decide +kernel
theorem d_De_gap_48 : decode b_De_gap 48 = .ok (.iadd, 1) := by decide +kernel
theorem d_De_gap_49 : decode b_De_gap 49 = .ok (.sipush 10080, 3) := by decide +kernel
theorem d_De_gap_52 : decode b_De_gap 52 = .ok (.if_icmp .gt 8, 3) := by decide +kernel
theorem d_De_gap_55 : decode b_De_gap 55 = .ok (.iload 4, 2) := by decide +kernel
theorem d_De_gap_57 : decode b_De_gap 57 = .ok (.goto 4, 3) := by decide +kernel
theorem d_De_gap_60 : decode b_De_gap 60 = .ok (.iconst (-1), 1) := by decide +kernel
theorem d_De_gap_61 : decode b_De_gap 61 = .ok (.ireturn, 1) := by decide +kernel
theorem d_De_waste_0 : decode b_De_waste 0 = .ok (.iconst 0, 1) := by decide +kernel
theorem d_De_waste_1 : decode b_De_waste 1 = .ok (.istore_n 1, 1) := by decide +kernel
theorem d_De_waste_2 : decode b_De_waste 2 = .ok (.iconst 0, 1) := by decide +kernel
theorem d_De_waste_3 : decode b_De_waste 3 = .ok (.istore_n 2, 1) := by decide +kernel
theorem d_De_waste_4 : decode b_De_waste 4 = .ok (.iload_n 2, 1) := by decide +kernel
theorem d_De_waste_5 : decode b_De_waste 5 = .ok (.aload_n 0, 1) := by decide +kernel
theorem d_De_waste_6 : decode b_De_waste 6 = .ok (.getfield 136, 3) := by decide +kernel
theorem d_De_waste_9 : decode b_De_waste 9 = .ok (.if_icmp .ge 21, 3) := by decide +kernel
theorem d_De_waste_12 : decode b_De_waste 12 = .ok (.iload_n 1, 1) := by decide +kernel
theorem d_De_waste_13 : decode b_De_waste 13 = .ok (.aload_n 0, 1) := by decide +kernel
theorem d_De_waste_14 : decode b_De_waste 14 = .ok (.getfield 31, 3) := by decide +kernel
theorem d_De_waste_17 : decode b_De_waste 17 = .ok (.iload_n 2, 1) := by decide +kernel
theorem d_De_waste_18 : decode b_De_waste 18 = .ok (.aaload, 1) := by decide +kernel
theorem d_De_waste_19 : decode b_De_waste 19 = .ok (.invokevirtual 196, 3) := by decide +kernel
theorem d_De_waste_22 : decode b_De_waste 22 = .ok (.iadd, 1) := by decide +kernel
theorem d_De_waste_23 : decode b_De_waste 23 = .ok (.istore_n 1, 1) := by decide +kernel
theorem d_De_waste_24 : decode b_De_waste 24 = .ok (.iinc 2 1, 3) := by decide +kernel
theorem d_De_waste_27 : decode b_De_waste 27 = .ok (.goto (-23), 3) := by decide +kernel
theorem d_De_waste_30 : decode b_De_waste 30 = .ok (.iload_n 1, 1) := by decide +kernel
theorem d_De_waste_31 : decode b_De_waste 31 = .ok (.ireturn, 1) := by decide +kernel
theorem d_De_checkPerson_0 : decode b_De_checkPerson 0 = .ok (.iload_n 1, 1) := by decide +kernel
theorem d_De_checkPerson_1 : decode b_De_checkPerson 1 = .ok (.ifCond .lt 11, 3) := by decide +kernel
theorem d_De_checkPerson_4 : decode b_De_checkPerson 4 = .ok (.iload_n 1, 1) := by decide +kernel
theorem d_De_checkPerson_5 : decode b_De_checkPerson 5 = .ok (.aload_n 0, 1) := by decide +kernel
theorem d_De_checkPerson_6 : decode b_De_checkPerson 6 = .ok (.getfield 60, 3) := by decide +kernel
theorem d_De_checkPerson_9 : decode b_De_checkPerson 9 = .ok (.if_icmp .lt 13, 3) := by decide +kernel
theorem d_De_checkPerson_12 : decode b_De_checkPerson 12 = .ok (.new 71, 3) := by decide +kernel
theorem d_De_checkPerson_15 : decode b_De_checkPerson 15 = .ok (.dup, 1) := by decide +kernel
theorem d_De_checkPerson_16 : decode b_De_checkPerson 16 = .ok (.ldc 200, 2) := by decide +kernel
theorem d_De_checkPerson_18 : decode b_De_checkPerson 18 = .ok (.invokespecial 75, 3) := by decide +kernel
theorem d_De_checkPerson_21 : decode b_De_checkPerson 21 = .ok (.athrow, 1) := by decide +kernel
theorem d_De_checkPerson_22 : decode b_De_checkPerson 22 = .ok (.return_, 1) := by decide +kernel
theorem d_De_checkDesk_0 : decode b_De_checkDesk 0 = .ok (.iload_n 1, 1) := by decide +kernel
theorem d_De_checkDesk_1 : decode b_De_checkDesk 1 = .ok (.ifCond .lt 11, 3) := by decide +kernel
theorem d_De_checkDesk_4 : decode b_De_checkDesk 4 = .ok (.iload_n 1, 1) := by decide +kernel
theorem d_De_checkDesk_5 : decode b_De_checkDesk 5 = .ok (.aload_n 0, 1) := by decide +kernel
theorem d_De_checkDesk_6 : decode b_De_checkDesk 6 = .ok (.getfield 45, 3) := by decide +kernel
theorem d_De_checkDesk_9 : decode b_De_checkDesk 9 = .ok (.if_icmp .lt 13, 3) := by decide +kernel
theorem d_De_checkDesk_12 : decode b_De_checkDesk 12 = .ok (.new 71, 3) := by decide +kernel
theorem d_De_checkDesk_15 : decode b_De_checkDesk 15 = .ok (.dup, 1) := by decide +kernel
theorem d_De_checkDesk_16 : decode b_De_checkDesk 16 = .ok (.ldc 202, 2) := by decide +kernel
theorem d_De_checkDesk_18 : decode b_De_checkDesk 18 = .ok (.invokespecial 75, 3) := by decide +kernel
theorem d_De_checkDesk_21 : decode b_De_checkDesk 21 = .ok (.athrow, 1) := by decide +kernel
theorem d_De_checkDesk_22 : decode b_De_checkDesk 22 = .ok (.return_, 1) := by decide +kernel
theorem d_De_checkRoom_0 : decode b_De_checkRoom 0 = .ok (.iload_n 1, 1) := by decide +kernel
theorem d_De_checkRoom_1 : decode b_De_checkRoom 1 = .ok (.ifCond .lt 11, 3) := by decide +kernel
theorem d_De_checkRoom_4 : decode b_De_checkRoom 4 = .ok (.iload_n 1, 1) := by decide +kernel
theorem d_De_checkRoom_5 : decode b_De_checkRoom 5 = .ok (.aload_n 0, 1) := by decide +kernel
theorem d_De_checkRoom_6 : decode b_De_checkRoom 6 = .ok (.getfield 136, 3) := by decide +kernel
theorem d_De_checkRoom_9 : decode b_De_checkRoom 9 = .ok (.if_icmp .lt 13, 3) := by decide +kernel
theorem d_De_checkRoom_12 : decode b_De_checkRoom 12 = .ok (.new 71, 3) := by decide +kernel
theorem d_De_checkRoom_15 : decode b_De_checkRoom 15 = .ok (.dup, 1) := by decide +kernel
theorem d_De_checkRoom_16 : decode b_De_checkRoom 16 = .ok (.ldc 204, 2) := by decide +kernel
theorem d_De_checkRoom_18 : decode b_De_checkRoom 18 = .ok (.invokespecial 75, 3) := by decide +kernel
theorem d_De_checkRoom_21 : decode b_De_checkRoom 21 = .ok (.athrow, 1) := by decide +kernel
theorem d_De_checkRoom_22 : decode b_De_checkRoom 22 = .ok (.return_, 1) := by decide +kernel
theorem d_De_checkMinute_0 : decode b_De_checkMinute 0 = .ok (.iload_n 1, 1) := by decide +kernel
theorem d_De_checkMinute_1 : decode b_De_checkMinute 1 = .ok (.ifCond .lt 10, 3) := by decide +kernel
theorem d_De_checkMinute_4 : decode b_De_checkMinute 4 = .ok (.iload_n 1, 1) := by decide +kernel
theorem d_De_checkMinute_5 : decode b_De_checkMinute 5 = .ok (.sipush 10080, 3) := by decide +kernel
theorem d_De_checkMinute_8 : decode b_De_checkMinute 8 = .ok (.if_icmp .lt 13, 3) := by decide +kernel
theorem d_De_checkMinute_11 : decode b_De_checkMinute 11 = .ok (.new 71, 3) := by decide +kernel
theorem d_De_checkMinute_14 : decode b_De_checkMinute 14 = .ok (.dup, 1) := by decide +kernel
theorem d_De_checkMinute_15 : decode b_De_checkMinute 15 = .ok (.ldc 206, 2) := by decide +kernel
theorem d_De_checkMinute_17 : decode b_De_checkMinute 17 = .ok (.invokespecial 75, 3) := by decide +kernel
theorem d_De_checkMinute_20 : decode b_De_checkMinute 20 = .ok (.athrow, 1) := by decide +kernel
theorem d_De_checkMinute_21 : decode b_De_checkMinute 21 = .ok (.return_, 1) := by decide +kernel
theorem d_De_checkSeatingMade_0 : decode b_De_checkSeatingMade 0 = .ok (.aload_n 0, 1) := by decide +kernel
theorem d_De_checkSeatingMade_1 : decode b_De_checkSeatingMade 1 = .ok (.getfield 56, 3) := by decide +kernel
theorem d_De_checkSeatingMade_4 : decode b_De_checkSeatingMade 4 = .ok (.ifCond .ne 13, 3) := by decide +kernel
theorem d_De_checkSeatingMade_7 : decode b_De_checkSeatingMade 7 = .ok (.new 49, 3) := by decide +kernel
theorem d_De_checkSeatingMade_10 : decode b_De_checkSeatingMade 10 = .ok (.dup, 1) := by decide +kernel
theorem d_De_checkSeatingMade_11 : decode b_De_checkSeatingMade 11 = .ok (.ldc 208, 2) := by decide +kernel
theorem d_De_checkSeatingMade_13 : decode b_De_checkSeatingMade 13 = .ok (.invokespecial 53, 3) := by decide +kernel
theorem d_De_checkSeatingMade_16 : decode b_De_checkSeatingMade 16 = .ok (.athrow, 1) := by decide +kernel
theorem d_De_checkSeatingMade_17 : decode b_De_checkSeatingMade 17 = .ok (.return_, 1) := by decide +kernel
theorem d_De_checkNobodyElseHas_0 : decode b_De_checkNobodyElseHas 0 = .ok (.iconst 0, 1) := by decide +kernel
theorem d_De_checkNobodyElseHas_1 : decode b_De_checkNobodyElseHas 1 = .ok (.istore_n 3, 1) := by decide +kernel
theorem d_De_checkNobodyElseHas_2 : decode b_De_checkNobodyElseHas 2 = .ok (.iload_n 3, 1) := by decide +kernel
theorem d_De_checkNobodyElseHas_3 : decode b_De_checkNobodyElseHas 3 = .ok (.aload_n 0, 1) := by decide +kernel
theorem d_De_checkNobodyElseHas_4 : decode b_De_checkNobodyElseHas 4 = .ok (.getfield 60, 3) := by decide +kernel
theorem d_De_checkNobodyElseHas_7 : decode b_De_checkNobodyElseHas 7 = .ok (.if_icmp .ge 37, 3) := by decide +kernel
theorem d_De_checkNobodyElseHas_10 : decode b_De_checkNobodyElseHas 10 = .ok (.iload_n 3, 1) := by decide +kernel
theorem d_De_checkNobodyElseHas_11 : decode b_De_checkNobodyElseHas 11 = .ok (.iload_n 1, 1) := by decide +kernel
theorem d_De_checkNobodyElseHas_12 : decode b_De_checkNobodyElseHas 12 = .ok (.if_icmp .eq 26, 3) := by decide +kernel
theorem d_De_checkNobodyElseHas_15 : decode b_De_checkNobodyElseHas 15 = .ok (.aload_n 0, 1) := by decide +kernel
theorem d_De_checkNobodyElseHas_16 : decode b_De_checkNobodyElseHas 16 = .ok (.getfield 11, 3) := by decide +kernel
theorem d_De_checkNobodyElseHas_19 : decode b_De_checkNobodyElseHas 19 = .ok (.iload_n 3, 1) := by decide +kernel
theorem d_De_checkNobodyElseHas_20 : decode b_De_checkNobodyElseHas 20 = .ok (.aaload, 1) := by decide +kernel
theorem d_De_checkNobodyElseHas_21 : decode b_De_checkNobodyElseHas 21 = .ok (.getfield 88, 3) := by decide +kernel
theorem d_De_checkNobodyElseHas_24 : decode b_De_checkNobodyElseHas 24 = .ok (.iload_n 2, 1) := by decide +kernel
theorem d_De_checkNobodyElseHas_25 : decode b_De_checkNobodyElseHas 25 = .ok (.if_icmp .ne 13, 3) := by decide +kernel
theorem d_De_checkNobodyElseHas_28 : decode b_De_checkNobodyElseHas 28 = .ok (.new 49, 3) := by decide +kernel
theorem d_De_checkNobodyElseHas_31 : decode b_De_checkNobodyElseHas 31 = .ok (.dup, 1) := by decide +kernel
theorem d_De_checkNobodyElseHas_32 : decode b_De_checkNobodyElseHas 32 = .ok (.ldc 210, 2) := by decide +kernel
theorem d_De_checkNobodyElseHas_34 : decode b_De_checkNobodyElseHas 34 = .ok (.invokespecial 53, 3) := by decide +kernel
theorem d_De_checkNobodyElseHas_37 : decode b_De_checkNobodyElseHas 37 = .ok (.athrow, 1) := by decide +kernel
theorem d_De_checkNobodyElseHas_38 : decode b_De_checkNobodyElseHas 38 = .ok (.iinc 3 1, 3) := by decide +kernel
theorem d_De_checkNobodyElseHas_41 : decode b_De_checkNobodyElseHas 41 = .ok (.goto (-39), 3) := by decide +kernel
theorem d_De_checkNobodyElseHas_44 : decode b_De_checkNobodyElseHas 44 = .ok (.return_, 1) := by decide +kernel
theorem d_De_bookingNumbered_0 : decode b_De_bookingNumbered 0 = .ok (.iload_n 1, 1) := by decide +kernel
theorem d_De_bookingNumbered_1 : decode b_De_bookingNumbered 1 = .ok (.ifCond .lt 10, 3) := by decide +kernel
theorem d_De_bookingNumbered_4 : decode b_De_bookingNumbered 4 = .ok (.iload_n 1, 1) := by decide +kernel
theorem d_De_bookingNumbered_5 : decode b_De_bookingNumbered 5 = .ok (.sipush 300, 3) := by decide +kernel
theorem d_De_bookingNumbered_8 : decode b_De_bookingNumbered 8 = .ok (.if_icmp .lt 7, 3) := by decide +kernel
theorem d_De_bookingNumbered_11 : decode b_De_bookingNumbered 11 = .ok (.aconst_null, 1) := by decide +kernel
theorem d_De_bookingNumbered_12 : decode b_De_bookingNumbered 12 = .ok (.goto 9, 3) := by decide +kernel
theorem d_De_bookingNumbered_15 : decode b_De_bookingNumbered 15 = .ok (.aload_n 0, 1) := by decide +kernel
theorem d_De_bookingNumbered_16 : decode b_De_bookingNumbered 16 = .ok (.getfield 37, 3) := by decide +kernel
theorem d_De_bookingNumbered_19 : decode b_De_bookingNumbered 19 = .ok (.iload_n 1, 1) := by decide +kernel
theorem d_De_bookingNumbered_20 : decode b_De_bookingNumbered 20 = .ok (.aaload, 1) := by decide +kernel
theorem d_De_bookingNumbered_21 : decode b_De_bookingNumbered 21 = .ok (.astore_n 2, 1) := by decide +kernel
theorem d_De_bookingNumbered_22 : decode b_De_bookingNumbered 22 = .ok (.aload_n 2, 1) := by decide +kernel
theorem d_De_bookingNumbered_23 : decode b_De_bookingNumbered 23 = .ok (.ifnonnull 13, 3) := by decide +kernel
theorem d_De_bookingNumbered_26 : decode b_De_bookingNumbered 26 = .ok (.new 71, 3) := by decide +kernel
theorem d_De_bookingNumbered_29 : decode b_De_bookingNumbered 29 = .ok (.dup, 1) := by decide +kernel
theorem d_De_bookingNumbered_30 : decode b_De_bookingNumbered 30 = .ok (.ldc 212, 2) := by decide +kernel
theorem d_De_bookingNumbered_32 : decode b_De_bookingNumbered 32 = .ok (.invokespecial 75, 3) := by decide +kernel
theorem d_De_bookingNumbered_35 : decode b_De_bookingNumbered 35 = .ok (.athrow, 1) := by decide +kernel
theorem d_De_bookingNumbered_36 : decode b_De_bookingNumbered 36 = .ok (.aload_n 2, 1) := by decide +kernel
theorem d_De_bookingNumbered_37 : decode b_De_bookingNumbered 37 = .ok (.areturn, 1) := by decide +kernel
theorem d_De_bestRoom_0 : decode b_De_bestRoom 0 = .ok (.aconst_null, 1) := by decide +kernel
theorem d_De_bestRoom_1 : decode b_De_bestRoom 1 = .ok (.astore 4, 2) := by decide +kernel
theorem d_De_bestRoom_3 : decode b_De_bestRoom 3 = .ok (.iconst 0, 1) := by decide +kernel
theorem d_De_bestRoom_4 : decode b_De_bestRoom 4 = .ok (.istore 5, 2) := by decide +kernel
theorem d_De_bestRoom_6 : decode b_De_bestRoom 6 = .ok (.iload 5, 2) := by decide +kernel
theorem d_De_bestRoom_8 : decode b_De_bestRoom 8 = .ok (.aload_n 0, 1) := by decide +kernel
theorem d_De_bestRoom_9 : decode b_De_bestRoom 9 = .ok (.getfield 136, 3) := by decide +kernel
theorem d_De_bestRoom_12 : decode b_De_bestRoom 12 = .ok (.if_icmp .ge 71, 3) := by decide +kernel
theorem d_De_bestRoom_15 : decode b_De_bestRoom 15 = .ok (.aload_n 0, 1) := by decide +kernel
theorem d_De_bestRoom_16 : decode b_De_bestRoom 16 = .ok (.getfield 31, 3) := by decide +kernel
theorem d_De_bestRoom_19 : decode b_De_bestRoom 19 = .ok (.iload 5, 2) := by decide +kernel
theorem d_De_bestRoom_21 : decode b_De_bestRoom 21 = .ok (.aaload, 1) := by decide +kernel
theorem d_De_bestRoom_22 : decode b_De_bestRoom 22 = .ok (.astore 6, 2) := by decide +kernel
theorem d_De_bestRoom_24 : decode b_De_bestRoom 24 = .ok (.aload 6, 2) := by decide +kernel
theorem d_De_bestRoom_26 : decode b_De_bestRoom 26 = .ok (.getfield 141, 3) := by decide +kernel
theorem d_De_bestRoom_29 : decode b_De_bestRoom 29 = .ok (.iload_n 3, 1) := by decide +kernel
theorem d_De_bestRoom_30 : decode b_De_bestRoom 30 = .ok (.if_icmp .lt 17, 3) := by decide +kernel
theorem d_De_bestRoom_33 : decode b_De_bestRoom 33 = .ok (.aload 6, 2) := by decide +kernel
theorem d_De_bestRoom_35 : decode b_De_bestRoom 35 = .ok (.iload_n 1, 1) := by decide +kernel
theorem d_De_bestRoom_36 : decode b_De_bestRoom 36 = .ok (.iload_n 2, 1) := by decide +kernel
theorem d_De_bestRoom_37 : decode b_De_bestRoom 37 = .ok (.invokevirtual 186, 3) := by decide +kernel
theorem d_De_bestRoom_40 : decode b_De_bestRoom 40 = .ok (.ifnonnull 7, 3) := by decide +kernel
theorem d_De_bestRoom_43 : decode b_De_bestRoom 43 = .ok (.iconst 1, 1) := by decide +kernel
theorem d_De_bestRoom_44 : decode b_De_bestRoom 44 = .ok (.goto 4, 3) := by decide +kernel
theorem d_De_bestRoom_47 : decode b_De_bestRoom 47 = .ok (.iconst 0, 1) := by decide +kernel
theorem d_De_bestRoom_48 : decode b_De_bestRoom 48 = .ok (.istore 7, 2) := by decide +kernel
theorem d_De_bestRoom_50 : decode b_De_bestRoom 50 = .ok (.iload 7, 2) := by decide +kernel
theorem d_De_bestRoom_52 : decode b_De_bestRoom 52 = .ok (.ifCond .eq 25, 3) := by decide +kernel
theorem d_De_bestRoom_55 : decode b_De_bestRoom 55 = .ok (.aload 4, 2) := by decide +kernel
theorem d_De_bestRoom_57 : decode b_De_bestRoom 57 = .ok (.ifnull 16, 3) := by decide +kernel
theorem d_De_bestRoom_60 : decode b_De_bestRoom 60 = .ok (.aload 6, 2) := by decide +kernel
theorem d_De_bestRoom_62 : decode b_De_bestRoom 62 = .ok (.getfield 141, 3) := by decide +kernel
theorem d_De_bestRoom_65 : decode b_De_bestRoom 65 = .ok (.aload 4, 2) := by decide +kernel
theorem d_De_bestRoom_67 : decode b_De_bestRoom 67 = .ok (.getfield 141, 3) := by decide +kernel
theorem d_De_bestRoom_70 : decode b_De_bestRoom 70 = .ok (.if_icmp .ge 7, 3) := by decide +kernel
theorem d_De_bestRoom_73 : decode b_De_bestRoom 73 = .ok (.aload 6, 2) := by decide +kernel
theorem d_De_bestRoom_75 : decode b_De_bestRoom 75 = .ok (.astore 4, 2) := by decide +kernel
theorem d_De_bestRoom_77 : decode b_De_bestRoom 77 = .ok (.iinc 5 1, 3) := by decide +kernel
theorem d_De_bestRoom_80 : decode b_De_bestRoom 80 = .ok (.goto (-74), 3) := by decide +kernel
theorem d_De_bestRoom_83 : decode b_De_bestRoom 83 = .ok (.aload 4, 2) := by decide +kernel
theorem d_De_bestRoom_85 : decode b_De_bestRoom 85 = .ok (.areturn, 1) := by decide +kernel
end
section
/-! THE JUDGEMENT: from every heap that holds P, with nothing outside A written since the method's entry, locals as lv says, the machine at pc comes to Q -/
def AW (p : Program) (l : Launch) (e : Env) (R : Room) (s : State) (m : MethodId) (args : Array Value) (below : List Frame) (meth : Method) (c : Code) (nL cells slots : Nat) (Q : State → Prop) (P : Heap → Prop) (A : Nat → Prop) (pc : Nat) (lv : List (Nat × Value)) (st : List Value) : Prop :=
  ∀ (H : Heap) (locs : List Loc) (ls : Array Slot), P H → va_S A s.heap H locs → lv_has ls nL lv → W p l e R s m args below meth c H locs cells slots Q (F0 m pc ls st)
theorem ct_ref (a : Nat) : (Value.ref a).category = 1 := rfl
theorem ct_int (a : Int32) : (Value.int a).category = 1 := rfl
theorem ct_long (a : Int64) : (Value.long a).category = 2 := rfl
theorem va_rf_cat (o : Option Nat) : (va_rf o).category = 1 := by cases o <;> rfl
section AWS
variable {p : Program} {l : Launch} {e : Env} {R : Room} {s : State} {m : MethodId} {args : Array Value} {below : List Frame} {meth : Method} {c : Code} {cc : ByteArray} {nL cells slots : Nat} {Q : State → Prop} {P : Heap → Prop} {A : Nat → Prop} {own : String} {pc : Nat} {lv lv' : List (Nat × Value)} {st : List Value}
theorem aw_iconst (C : CallFix p m c cc nL s args tb_G own) {n : Int} {v : Int32} (hd : decode cc pc = .ok (.iconst n, 1)) (hv : Int32.ofInt n = v) (k : AW p l e R s m args below meth c nL cells slots Q P A (pc + 1) lv (.int v :: st)) : AW p l e R s m args below meth c nL cells slots Q P A pc lv (st) := fun H locs ls hP hS hl => lv_iconst C.1 C.2.1 hd hv (k H locs ls hP hS hl)
theorem aw_bipush (C : CallFix p m c cc nL s args tb_G own) {n : Int} {v : Int32} (hd : decode cc pc = .ok (.bipush n, 2)) (hv : (Int8.ofInt n).toInt32 = v) (k : AW p l e R s m args below meth c nL cells slots Q P A (pc + 2) lv (.int v :: st)) : AW p l e R s m args below meth c nL cells slots Q P A pc lv (st) := fun H locs ls hP hS hl => lv_bipush C.1 C.2.1 hd hv (k H locs ls hP hS hl)
theorem aw_sipush (C : CallFix p m c cc nL s args tb_G own) {n : Int} {v : Int32} (hd : decode cc pc = .ok (.sipush n, 3)) (hv : (Int16.ofInt n).toInt32 = v) (k : AW p l e R s m args below meth c nL cells slots Q P A (pc + 3) lv (.int v :: st)) : AW p l e R s m args below meth c nL cells slots Q P A pc lv (st) := fun H locs ls hP hS hl => lv_sipush C.1 C.2.1 hd hv (k H locs ls hP hS hl)
theorem aw_lconst (C : CallFix p m c cc nL s args tb_G own) {n : Fin 2} {v : Int64} (hd : decode cc pc = .ok (.lconst n, 1)) (hv : Int64.ofNat (n : Nat) = v) (k : AW p l e R s m args below meth c nL cells slots Q P A (pc + 1) lv (.long v :: st)) : AW p l e R s m args below meth c nL cells slots Q P A pc lv (st) := fun H locs ls hP hS hl => lv_lconst C.1 C.2.1 hd hv (k H locs ls hP hS hl)
theorem aw_null (C : CallFix p m c cc nL s args tb_G own)  (hd : decode cc pc = .ok (.aconst_null, 1))  (k : AW p l e R s m args below meth c nL cells slots Q P A (pc + 1) lv (.null :: st)) : AW p l e R s m args below meth c nL cells slots Q P A pc lv (st) := fun H locs ls hP hS hl => lv_null C.1 C.2.1 hd  (k H locs ls hP hS hl)
theorem aw_iload_n (C : CallFix p m c cc nL s args tb_G own) {k : Fin 4} {i j : Nat} {x : Int32} (hd : decode cc pc = .ok (.iload_n k, 1)) (hi : (k : Nat) = i) (hj : lv[j]? = some (i, .int x)) (kk : AW p l e R s m args below meth c nL cells slots Q P A (pc + 1) lv (.int x :: st)) : AW p l e R s m args below meth c nL cells slots Q P A pc lv st := fun H locs ls hP hS hl => lv_iload_n C.1 C.2.1 hd hi (lv_at hl j hj) (kk H locs ls hP hS hl)
theorem aw_iload (C : CallFix p m c cc nL s args tb_G own) {i j : Nat} {x : Int32} (hd : decode cc pc = .ok (.iload i, 2)) (hj : lv[j]? = some (i, .int x)) (kk : AW p l e R s m args below meth c nL cells slots Q P A (pc + 2) lv (.int x :: st)) : AW p l e R s m args below meth c nL cells slots Q P A pc lv st := fun H locs ls hP hS hl => lv_iload C.1 C.2.1 hd (lv_at hl j hj) (kk H locs ls hP hS hl)
theorem aw_lload_n (C : CallFix p m c cc nL s args tb_G own) {k : Fin 4} {i j : Nat} {x : Int64} (hd : decode cc pc = .ok (.lload_n k, 1)) (hi : (k : Nat) = i) (hj : lv[j]? = some (i, .long x)) (kk : AW p l e R s m args below meth c nL cells slots Q P A (pc + 1) lv (.long x :: st)) : AW p l e R s m args below meth c nL cells slots Q P A pc lv st := fun H locs ls hP hS hl => lv_lload_n C.1 C.2.1 hd hi (lv_at hl j hj) (kk H locs ls hP hS hl)
theorem aw_lload (C : CallFix p m c cc nL s args tb_G own) {i j : Nat} {x : Int64} (hd : decode cc pc = .ok (.lload i, 2)) (hj : lv[j]? = some (i, .long x)) (kk : AW p l e R s m args below meth c nL cells slots Q P A (pc + 2) lv (.long x :: st)) : AW p l e R s m args below meth c nL cells slots Q P A pc lv st := fun H locs ls hP hS hl => lv_lload C.1 C.2.1 hd (lv_at hl j hj) (kk H locs ls hP hS hl)
theorem aw_aload_n (C : CallFix p m c cc nL s args tb_G own) {k : Fin 4} {i j : Nat} {x : Nat} (hd : decode cc pc = .ok (.aload_n k, 1)) (hi : (k : Nat) = i) (hj : lv[j]? = some (i, .ref x)) (kk : AW p l e R s m args below meth c nL cells slots Q P A (pc + 1) lv (.ref x :: st)) : AW p l e R s m args below meth c nL cells slots Q P A pc lv st := fun H locs ls hP hS hl => lv_aload_n C.1 C.2.1 hd hi (lv_at hl j hj) (kk H locs ls hP hS hl)
theorem aw_aload (C : CallFix p m c cc nL s args tb_G own) {i j : Nat} {x : Nat} (hd : decode cc pc = .ok (.aload i, 2)) (hj : lv[j]? = some (i, .ref x)) (kk : AW p l e R s m args below meth c nL cells slots Q P A (pc + 2) lv (.ref x :: st)) : AW p l e R s m args below meth c nL cells slots Q P A pc lv st := fun H locs ls hP hS hl => lv_aload C.1 C.2.1 hd (lv_at hl j hj) (kk H locs ls hP hS hl)
theorem aw_aloadq_n (C : CallFix p m c cc nL s args tb_G own) {k : Fin 4} {i j : Nat} {x : Option Nat} (hd : decode cc pc = .ok (.aload_n k, 1)) (hi : (k : Nat) = i) (hj : lv[j]? = some (i, va_rf x)) (kk : AW p l e R s m args below meth c nL cells slots Q P A (pc + 1) lv (va_rf x :: st)) : AW p l e R s m args below meth c nL cells slots Q P A pc lv st := fun H locs ls hP hS hl => by
  have h1 := lv_at hl j hj
  have h2 := kk H locs ls hP hS hl
  cases x with
  | none => exact lv_aload_nN C.1 C.2.1 hd hi h1 h2
  | some x => exact lv_aload_n C.1 C.2.1 hd hi h1 h2
theorem aw_aloadq (C : CallFix p m c cc nL s args tb_G own) {i j : Nat} {x : Option Nat} (hd : decode cc pc = .ok (.aload i, 2)) (hj : lv[j]? = some (i, va_rf x)) (kk : AW p l e R s m args below meth c nL cells slots Q P A (pc + 2) lv (va_rf x :: st)) : AW p l e R s m args below meth c nL cells slots Q P A pc lv st := fun H locs ls hP hS hl => by
  have h1 := lv_at hl j hj
  have h2 := kk H locs ls hP hS hl
  cases x with
  | none => exact lv_aloadN C.1 C.2.1 hd h1 h2
  | some x => exact lv_aload C.1 C.2.1 hd h1 h2
theorem aw_istore_n (C : CallFix p m c cc nL s args tb_G own) {k : Fin 4} {i : Nat} {x : Int32} (hd : decode cc pc = .ok (.istore_n k, 1)) (hi : (k : Nat) = i) (hn : i < nL) (hl0 : (i, Value.int x) :: lv.filter (fun q => !(q.1 == i) && !(q.1 + 1 == i && q.2.category == 2)) = lv') (kk : AW p l e R s m args below meth c nL cells slots Q P A (pc + 1) lv' st) : AW p l e R s m args below meth c nL cells slots Q P A pc lv (.int x :: st) := fun H locs ls hP hS hl => lv_istore_n C.1 C.2.1 hd hi hl hn hl0 (fun ls hl => kk H locs ls hP hS hl)
theorem aw_istore (C : CallFix p m c cc nL s args tb_G own) {i : Nat} {x : Int32} (hd : decode cc pc = .ok (.istore i, 2)) (hn : i < nL) (hl0 : (i, Value.int x) :: lv.filter (fun q => !(q.1 == i) && !(q.1 + 1 == i && q.2.category == 2)) = lv') (kk : AW p l e R s m args below meth c nL cells slots Q P A (pc + 2) lv' st) : AW p l e R s m args below meth c nL cells slots Q P A pc lv (.int x :: st) := fun H locs ls hP hS hl => lv_istore C.1 C.2.1 hd hl hn hl0 (fun ls hl => kk H locs ls hP hS hl)
theorem aw_astore_n (C : CallFix p m c cc nL s args tb_G own) {k : Fin 4} {i : Nat} {x : Nat} (hd : decode cc pc = .ok (.astore_n k, 1)) (hi : (k : Nat) = i) (hn : i < nL) (hl0 : (i, Value.ref x) :: lv.filter (fun q => !(q.1 == i) && !(q.1 + 1 == i && q.2.category == 2)) = lv') (kk : AW p l e R s m args below meth c nL cells slots Q P A (pc + 1) lv' st) : AW p l e R s m args below meth c nL cells slots Q P A pc lv (.ref x :: st) := fun H locs ls hP hS hl => lv_astore_n C.1 C.2.1 hd hi hl hn hl0 (fun ls hl => kk H locs ls hP hS hl)
theorem aw_astore (C : CallFix p m c cc nL s args tb_G own) {i : Nat} {x : Nat} (hd : decode cc pc = .ok (.astore i, 2)) (hn : i < nL) (hl0 : (i, Value.ref x) :: lv.filter (fun q => !(q.1 == i) && !(q.1 + 1 == i && q.2.category == 2)) = lv') (kk : AW p l e R s m args below meth c nL cells slots Q P A (pc + 2) lv' st) : AW p l e R s m args below meth c nL cells slots Q P A pc lv (.ref x :: st) := fun H locs ls hP hS hl => lv_astore C.1 C.2.1 hd hl hn hl0 (fun ls hl => kk H locs ls hP hS hl)
theorem aw_lstore_n (C : CallFix p m c cc nL s args tb_G own) {k : Fin 4} {i : Nat} {x : Int64} (hd : decode cc pc = .ok (.lstore_n k, 1)) (hi : (k : Nat) = i) (hn : i + 1 < nL) (hl0 : (i, Value.long x) :: lv.filter (fun q => !(q.1 == i) && (!(q.1 == i + 1) && !(q.1 + 1 == i && q.2.category == 2))) = lv') (kk : AW p l e R s m args below meth c nL cells slots Q P A (pc + 1) lv' st) : AW p l e R s m args below meth c nL cells slots Q P A pc lv (.long x :: st) := fun H locs ls hP hS hl => lv_lstore_n C.1 C.2.1 hd hi hl hn hl0 (fun ls hl => kk H locs ls hP hS hl)
theorem aw_lstore (C : CallFix p m c cc nL s args tb_G own) {i : Nat} {x : Int64} (hd : decode cc pc = .ok (.lstore i, 2)) (hn : i + 1 < nL) (hl0 : (i, Value.long x) :: lv.filter (fun q => !(q.1 == i) && (!(q.1 == i + 1) && !(q.1 + 1 == i && q.2.category == 2))) = lv') (kk : AW p l e R s m args below meth c nL cells slots Q P A (pc + 2) lv' st) : AW p l e R s m args below meth c nL cells slots Q P A pc lv (.long x :: st) := fun H locs ls hP hS hl => lv_lstore C.1 C.2.1 hd hl hn hl0 (fun ls hl => kk H locs ls hP hS hl)
theorem aw_astoreN_n (C : CallFix p m c cc nL s args tb_G own) {k : Fin 4} {i : Nat} (hd : decode cc pc = .ok (.astore_n k, 1)) (hi : (k : Nat) = i) (hn : i < nL) (hl0 : (i, Value.null) :: lv.filter (fun q => !(q.1 == i) && !(q.1 + 1 == i && q.2.category == 2)) = lv') (kk : AW p l e R s m args below meth c nL cells slots Q P A (pc + 1) lv' st) : AW p l e R s m args below meth c nL cells slots Q P A pc lv (.null :: st) := fun H locs ls hP hS hl => lv_astore_nN C.1 C.2.1 hd hi hl hn hl0 (fun ls hl => kk H locs ls hP hS hl)
theorem aw_astoreN (C : CallFix p m c cc nL s args tb_G own) {i : Nat} (hd : decode cc pc = .ok (.astore i, 2)) (hn : i < nL) (hl0 : (i, Value.null) :: lv.filter (fun q => !(q.1 == i) && !(q.1 + 1 == i && q.2.category == 2)) = lv') (kk : AW p l e R s m args below meth c nL cells slots Q P A (pc + 2) lv' st) : AW p l e R s m args below meth c nL cells slots Q P A pc lv (.null :: st) := fun H locs ls hP hS hl => lv_astoreN C.1 C.2.1 hd hl hn hl0 (fun ls hl => kk H locs ls hP hS hl)
theorem aw_astoreq_n (C : CallFix p m c cc nL s args tb_G own) {k : Fin 4} {i : Nat} {x : Option Nat} (hd : decode cc pc = .ok (.astore_n k, 1)) (hi : (k : Nat) = i) (hn : i < nL) (hl0 : (i, va_rf x) :: lv.filter (fun q => !(q.1 == i) && !(q.1 + 1 == i && q.2.category == 2)) = lv') (kk : AW p l e R s m args below meth c nL cells slots Q P A (pc + 1) lv' st) : AW p l e R s m args below meth c nL cells slots Q P A pc lv (va_rf x :: st) := fun H locs ls hP hS hl => by
  cases x with
  | none => exact lv_astore_nN C.1 C.2.1 hd hi hl hn hl0 (fun ls hl => kk H locs ls hP hS hl)
  | some x => exact lv_astore_n C.1 C.2.1 hd hi hl hn hl0 (fun ls hl => kk H locs ls hP hS hl)
theorem aw_astoreq (C : CallFix p m c cc nL s args tb_G own) {i : Nat} {x : Option Nat} (hd : decode cc pc = .ok (.astore i, 2)) (hn : i < nL) (hl0 : (i, va_rf x) :: lv.filter (fun q => !(q.1 == i) && !(q.1 + 1 == i && q.2.category == 2)) = lv') (kk : AW p l e R s m args below meth c nL cells slots Q P A (pc + 2) lv' st) : AW p l e R s m args below meth c nL cells slots Q P A pc lv (va_rf x :: st) := fun H locs ls hP hS hl => by
  cases x with
  | none => exact lv_astoreN C.1 C.2.1 hd hl hn hl0 (fun ls hl => kk H locs ls hP hS hl)
  | some x => exact lv_astore C.1 C.2.1 hd hl hn hl0 (fun ls hl => kk H locs ls hP hS hl)
theorem aw_iinc (C : CallFix p m c cc nL s args tb_G own) {i j : Nat} {n : Int} {x v : Int32} (hd : decode cc pc = .ok (.iinc i n, 3)) (hj : lv[j]? = some (i, .int x)) (hv : x + Int32.ofInt n = v) (hn : i < nL) (hl0 : (i, Value.int v) :: lv.filter (fun q => !(q.1 == i) && !(q.1 + 1 == i && q.2.category == 2)) = lv') (kk : AW p l e R s m args below meth c nL cells slots Q P A (pc + 3) lv' st) : AW p l e R s m args below meth c nL cells slots Q P A pc lv st := fun H locs ls hP hS hl => lv_iinc C.1 C.2.1 hd hl hj hv hn hl0 (fun ls hl => kk H locs ls hP hS hl)
theorem aw_iadd (C : CallFix p m c cc nL s args tb_G own) {x y : Int32} (hd : decode cc pc = .ok (.iadd, 1))  (k : AW p l e R s m args below meth c nL cells slots Q P A (pc + 1) lv (.int (x + y) :: st)) : AW p l e R s m args below meth c nL cells slots Q P A pc lv (.int y :: .int x :: st) := fun H locs ls hP hS hl => lv_iadd C.1 C.2.1 hd  (k H locs ls hP hS hl)
theorem aw_isub (C : CallFix p m c cc nL s args tb_G own) {x y : Int32} (hd : decode cc pc = .ok (.isub, 1))  (k : AW p l e R s m args below meth c nL cells slots Q P A (pc + 1) lv (.int (x - y) :: st)) : AW p l e R s m args below meth c nL cells slots Q P A pc lv (.int y :: .int x :: st) := fun H locs ls hP hS hl => lv_isub C.1 C.2.1 hd  (k H locs ls hP hS hl)
theorem aw_imul (C : CallFix p m c cc nL s args tb_G own) {x y : Int32} (hd : decode cc pc = .ok (.imul, 1))  (k : AW p l e R s m args below meth c nL cells slots Q P A (pc + 1) lv (.int (x * y) :: st)) : AW p l e R s m args below meth c nL cells slots Q P A pc lv (.int y :: .int x :: st) := fun H locs ls hP hS hl => lv_imul C.1 C.2.1 hd  (k H locs ls hP hS hl)
theorem aw_iand (C : CallFix p m c cc nL s args tb_G own) {x y : Int32} (hd : decode cc pc = .ok (.iand, 1))  (k : AW p l e R s m args below meth c nL cells slots Q P A (pc + 1) lv (.int (x &&& y) :: st)) : AW p l e R s m args below meth c nL cells slots Q P A pc lv (.int y :: .int x :: st) := fun H locs ls hP hS hl => lv_iand C.1 C.2.1 hd  (k H locs ls hP hS hl)
theorem aw_ior (C : CallFix p m c cc nL s args tb_G own) {x y : Int32} (hd : decode cc pc = .ok (.ior, 1))  (k : AW p l e R s m args below meth c nL cells slots Q P A (pc + 1) lv (.int (x ||| y) :: st)) : AW p l e R s m args below meth c nL cells slots Q P A pc lv (.int y :: .int x :: st) := fun H locs ls hP hS hl => lv_ior C.1 C.2.1 hd  (k H locs ls hP hS hl)
theorem aw_ixor (C : CallFix p m c cc nL s args tb_G own) {x y : Int32} (hd : decode cc pc = .ok (.ixor, 1))  (k : AW p l e R s m args below meth c nL cells slots Q P A (pc + 1) lv (.int (x ^^^ y) :: st)) : AW p l e R s m args below meth c nL cells slots Q P A pc lv (.int y :: .int x :: st) := fun H locs ls hP hS hl => lv_ixor C.1 C.2.1 hd  (k H locs ls hP hS hl)
theorem aw_ishl (C : CallFix p m c cc nL s args tb_G own) {x y : Int32} (hd : decode cc pc = .ok (.ishl, 1))  (k : AW p l e R s m args below meth c nL cells slots Q P A (pc + 1) lv (.int (x <<< (y &&& 31)) :: st)) : AW p l e R s m args below meth c nL cells slots Q P A pc lv (.int y :: .int x :: st) := fun H locs ls hP hS hl => lv_ishl C.1 C.2.1 hd  (k H locs ls hP hS hl)
theorem aw_ishr (C : CallFix p m c cc nL s args tb_G own) {x y : Int32} (hd : decode cc pc = .ok (.ishr, 1))  (k : AW p l e R s m args below meth c nL cells slots Q P A (pc + 1) lv (.int (x >>> (y &&& 31)) :: st)) : AW p l e R s m args below meth c nL cells slots Q P A pc lv (.int y :: .int x :: st) := fun H locs ls hP hS hl => lv_ishr C.1 C.2.1 hd  (k H locs ls hP hS hl)
theorem aw_idiv (C : CallFix p m c cc nL s args tb_G own) {x y : Int32} (hd : decode cc pc = .ok (.idiv, 1)) (hne : ¬ y = 0) (k : AW p l e R s m args below meth c nL cells slots Q P A (pc + 1) lv (.int (x / y) :: st)) : AW p l e R s m args below meth c nL cells slots Q P A pc lv (.int y :: .int x :: st) := fun H locs ls hP hS hl => lv_idiv C.1 C.2.1 hd hne (k H locs ls hP hS hl)
theorem aw_irem (C : CallFix p m c cc nL s args tb_G own) {x y : Int32} (hd : decode cc pc = .ok (.irem, 1)) (hne : ¬ y = 0) (k : AW p l e R s m args below meth c nL cells slots Q P A (pc + 1) lv (.int (x - x / y * y) :: st)) : AW p l e R s m args below meth c nL cells slots Q P A pc lv (.int y :: .int x :: st) := fun H locs ls hP hS hl => lv_irem C.1 C.2.1 hd hne (k H locs ls hP hS hl)
theorem aw_ladd (C : CallFix p m c cc nL s args tb_G own) {x y : Int64} (hd : decode cc pc = .ok (.ladd, 1))  (k : AW p l e R s m args below meth c nL cells slots Q P A (pc + 1) lv (.long (x + y) :: st)) : AW p l e R s m args below meth c nL cells slots Q P A pc lv (.long y :: .long x :: st) := fun H locs ls hP hS hl => lv_ladd C.1 C.2.1 hd  (k H locs ls hP hS hl)
theorem aw_lsub (C : CallFix p m c cc nL s args tb_G own) {x y : Int64} (hd : decode cc pc = .ok (.lsub, 1))  (k : AW p l e R s m args below meth c nL cells slots Q P A (pc + 1) lv (.long (x - y) :: st)) : AW p l e R s m args below meth c nL cells slots Q P A pc lv (.long y :: .long x :: st) := fun H locs ls hP hS hl => lv_lsub C.1 C.2.1 hd  (k H locs ls hP hS hl)
theorem aw_lmul (C : CallFix p m c cc nL s args tb_G own) {x y : Int64} (hd : decode cc pc = .ok (.lmul, 1))  (k : AW p l e R s m args below meth c nL cells slots Q P A (pc + 1) lv (.long (x * y) :: st)) : AW p l e R s m args below meth c nL cells slots Q P A pc lv (.long y :: .long x :: st) := fun H locs ls hP hS hl => lv_lmul C.1 C.2.1 hd  (k H locs ls hP hS hl)
theorem aw_lshl (C : CallFix p m c cc nL s args tb_G own) {x v : Int64} {y : Int32} (hd : decode cc pc = .ok (.lshl, 1)) (hv : x <<< (y.toInt64 &&& 63) = v) (k : AW p l e R s m args below meth c nL cells slots Q P A (pc + 1) lv (.long v :: st)) : AW p l e R s m args below meth c nL cells slots Q P A pc lv (.int y :: .long x :: st) := fun H locs ls hP hS hl => lv_lshl C.1 C.2.1 hd hv (k H locs ls hP hS hl)
theorem aw_i2l (C : CallFix p m c cc nL s args tb_G own) {x : Int32} {v : Int64} (hd : decode cc pc = .ok (.i2l, 1)) (hv : x.toInt64 = v) (k : AW p l e R s m args below meth c nL cells slots Q P A (pc + 1) lv (.long v :: st)) : AW p l e R s m args below meth c nL cells slots Q P A pc lv (.int x :: st) := fun H locs ls hP hS hl => lv_i2l C.1 C.2.1 hd hv (k H locs ls hP hS hl)
theorem aw_lcmp (C : CallFix p m c cc nL s args tb_G own) {x y : Int64} (hd : decode cc pc = .ok (.lcmp, 1))  (k : AW p l e R s m args below meth c nL cells slots Q P A (pc + 1) lv (.int (lg_cmp x y) :: st)) : AW p l e R s m args below meth c nL cells slots Q P A pc lv (.long y :: .long x :: st) := fun H locs ls hP hS hl => W.lcmp C.1 C.2.1 hd  (k H locs ls hP hS hl)
theorem aw_dup (C : CallFix p m c cc nL s args tb_G own) {va : Value} (hd : decode cc pc = .ok (.dup, 1)) (hva : va.category = 1) (k : AW p l e R s m args below meth c nL cells slots Q P A (pc + 1) lv (va :: va :: st)) : AW p l e R s m args below meth c nL cells slots Q P A pc lv (va :: st) := fun H locs ls hP hS hl => lv_dup C.1 C.2.1 hd hva (k H locs ls hP hS hl)
theorem aw_icmp_eq (C : CallFix p m c cc nL s args tb_G own) {x y : Int32} {off : Int} {tgt : Nat} (hd : decode cc pc = .ok (.if_icmp .eq off, 3)) (ht : (pc : Int) + off = (tgt : Int)) (kt : x = y → AW p l e R s m args below meth c nL cells slots Q P A tgt lv st) (kf : ¬ x = y → AW p l e R s m args below meth c nL cells slots Q P A (pc + 3) lv st) : AW p l e R s m args below meth c nL cells slots Q P A pc lv (.int y :: .int x :: st) := fun H locs ls hP hS hl => lv_icmp_eq C.1 C.2.1 hd ht (fun h => kt h H locs ls hP hS hl) (fun h => kf h H locs ls hP hS hl)
theorem aw_icmp_ne (C : CallFix p m c cc nL s args tb_G own) {x y : Int32} {off : Int} {tgt : Nat} (hd : decode cc pc = .ok (.if_icmp .ne off, 3)) (ht : (pc : Int) + off = (tgt : Int)) (kt : ¬ x = y → AW p l e R s m args below meth c nL cells slots Q P A tgt lv st) (kf : x = y → AW p l e R s m args below meth c nL cells slots Q P A (pc + 3) lv st) : AW p l e R s m args below meth c nL cells slots Q P A pc lv (.int y :: .int x :: st) := fun H locs ls hP hS hl => lv_icmp_ne C.1 C.2.1 hd ht (fun h => kt h H locs ls hP hS hl) (fun h => kf h H locs ls hP hS hl)
theorem aw_icmp_lt (C : CallFix p m c cc nL s args tb_G own) {x y : Int32} {off : Int} {tgt : Nat} (hd : decode cc pc = .ok (.if_icmp .lt off, 3)) (ht : (pc : Int) + off = (tgt : Int)) (kt : x < y → AW p l e R s m args below meth c nL cells slots Q P A tgt lv st) (kf : ¬ x < y → AW p l e R s m args below meth c nL cells slots Q P A (pc + 3) lv st) : AW p l e R s m args below meth c nL cells slots Q P A pc lv (.int y :: .int x :: st) := fun H locs ls hP hS hl => lv_icmp_lt C.1 C.2.1 hd ht (fun h => kt h H locs ls hP hS hl) (fun h => kf h H locs ls hP hS hl)
theorem aw_icmp_ge (C : CallFix p m c cc nL s args tb_G own) {x y : Int32} {off : Int} {tgt : Nat} (hd : decode cc pc = .ok (.if_icmp .ge off, 3)) (ht : (pc : Int) + off = (tgt : Int)) (kt : y ≤ x → AW p l e R s m args below meth c nL cells slots Q P A tgt lv st) (kf : ¬ y ≤ x → AW p l e R s m args below meth c nL cells slots Q P A (pc + 3) lv st) : AW p l e R s m args below meth c nL cells slots Q P A pc lv (.int y :: .int x :: st) := fun H locs ls hP hS hl => lv_icmp_ge C.1 C.2.1 hd ht (fun h => kt h H locs ls hP hS hl) (fun h => kf h H locs ls hP hS hl)
theorem aw_icmp_gt (C : CallFix p m c cc nL s args tb_G own) {x y : Int32} {off : Int} {tgt : Nat} (hd : decode cc pc = .ok (.if_icmp .gt off, 3)) (ht : (pc : Int) + off = (tgt : Int)) (kt : y < x → AW p l e R s m args below meth c nL cells slots Q P A tgt lv st) (kf : ¬ y < x → AW p l e R s m args below meth c nL cells slots Q P A (pc + 3) lv st) : AW p l e R s m args below meth c nL cells slots Q P A pc lv (.int y :: .int x :: st) := fun H locs ls hP hS hl => lv_icmp_gt C.1 C.2.1 hd ht (fun h => kt h H locs ls hP hS hl) (fun h => kf h H locs ls hP hS hl)
theorem aw_icmp_le (C : CallFix p m c cc nL s args tb_G own) {x y : Int32} {off : Int} {tgt : Nat} (hd : decode cc pc = .ok (.if_icmp .le off, 3)) (ht : (pc : Int) + off = (tgt : Int)) (kt : x ≤ y → AW p l e R s m args below meth c nL cells slots Q P A tgt lv st) (kf : ¬ x ≤ y → AW p l e R s m args below meth c nL cells slots Q P A (pc + 3) lv st) : AW p l e R s m args below meth c nL cells slots Q P A pc lv (.int y :: .int x :: st) := fun H locs ls hP hS hl => lv_icmp_le C.1 C.2.1 hd ht (fun h => kt h H locs ls hP hS hl) (fun h => kf h H locs ls hP hS hl)
theorem aw_if_eq (C : CallFix p m c cc nL s args tb_G own) {x : Int32} {off : Int} {tgt : Nat} (hd : decode cc pc = .ok (.ifCond .eq off, 3)) (ht : (pc : Int) + off = (tgt : Int)) (kt : x = 0 → AW p l e R s m args below meth c nL cells slots Q P A tgt lv st) (kf : ¬ x = 0 → AW p l e R s m args below meth c nL cells slots Q P A (pc + 3) lv st) : AW p l e R s m args below meth c nL cells slots Q P A pc lv (.int x :: st) := fun H locs ls hP hS hl => lv_if_eq C.1 C.2.1 hd ht (fun h => kt h H locs ls hP hS hl) (fun h => kf h H locs ls hP hS hl)
theorem aw_if_ne (C : CallFix p m c cc nL s args tb_G own) {x : Int32} {off : Int} {tgt : Nat} (hd : decode cc pc = .ok (.ifCond .ne off, 3)) (ht : (pc : Int) + off = (tgt : Int)) (kt : ¬ x = 0 → AW p l e R s m args below meth c nL cells slots Q P A tgt lv st) (kf : x = 0 → AW p l e R s m args below meth c nL cells slots Q P A (pc + 3) lv st) : AW p l e R s m args below meth c nL cells slots Q P A pc lv (.int x :: st) := fun H locs ls hP hS hl => lv_if_ne C.1 C.2.1 hd ht (fun h => kt h H locs ls hP hS hl) (fun h => kf h H locs ls hP hS hl)
theorem aw_if_lt (C : CallFix p m c cc nL s args tb_G own) {x : Int32} {off : Int} {tgt : Nat} (hd : decode cc pc = .ok (.ifCond .lt off, 3)) (ht : (pc : Int) + off = (tgt : Int)) (kt : x < 0 → AW p l e R s m args below meth c nL cells slots Q P A tgt lv st) (kf : ¬ x < 0 → AW p l e R s m args below meth c nL cells slots Q P A (pc + 3) lv st) : AW p l e R s m args below meth c nL cells slots Q P A pc lv (.int x :: st) := fun H locs ls hP hS hl => lv_if_lt C.1 C.2.1 hd ht (fun h => kt h H locs ls hP hS hl) (fun h => kf h H locs ls hP hS hl)
theorem aw_if_ge (C : CallFix p m c cc nL s args tb_G own) {x : Int32} {off : Int} {tgt : Nat} (hd : decode cc pc = .ok (.ifCond .ge off, 3)) (ht : (pc : Int) + off = (tgt : Int)) (kt : 0 ≤ x → AW p l e R s m args below meth c nL cells slots Q P A tgt lv st) (kf : ¬ 0 ≤ x → AW p l e R s m args below meth c nL cells slots Q P A (pc + 3) lv st) : AW p l e R s m args below meth c nL cells slots Q P A pc lv (.int x :: st) := fun H locs ls hP hS hl => lv_if_ge C.1 C.2.1 hd ht (fun h => kt h H locs ls hP hS hl) (fun h => kf h H locs ls hP hS hl)
theorem aw_if_gt (C : CallFix p m c cc nL s args tb_G own) {x : Int32} {off : Int} {tgt : Nat} (hd : decode cc pc = .ok (.ifCond .gt off, 3)) (ht : (pc : Int) + off = (tgt : Int)) (kt : 0 < x → AW p l e R s m args below meth c nL cells slots Q P A tgt lv st) (kf : ¬ 0 < x → AW p l e R s m args below meth c nL cells slots Q P A (pc + 3) lv st) : AW p l e R s m args below meth c nL cells slots Q P A pc lv (.int x :: st) := fun H locs ls hP hS hl => lv_if_gt C.1 C.2.1 hd ht (fun h => kt h H locs ls hP hS hl) (fun h => kf h H locs ls hP hS hl)
theorem aw_if_le (C : CallFix p m c cc nL s args tb_G own) {x : Int32} {off : Int} {tgt : Nat} (hd : decode cc pc = .ok (.ifCond .le off, 3)) (ht : (pc : Int) + off = (tgt : Int)) (kt : x ≤ 0 → AW p l e R s m args below meth c nL cells slots Q P A tgt lv st) (kf : ¬ x ≤ 0 → AW p l e R s m args below meth c nL cells slots Q P A (pc + 3) lv st) : AW p l e R s m args below meth c nL cells slots Q P A pc lv (.int x :: st) := fun H locs ls hP hS hl => lv_if_le C.1 C.2.1 hd ht (fun h => kt h H locs ls hP hS hl) (fun h => kf h H locs ls hP hS hl)
theorem aw_acmp_eq (C : CallFix p m c cc nL s args tb_G own) {rx ry : Option Nat} {off : Int} {tgt : Nat} (hd : decode cc pc = .ok (.if_acmp .eq off, 3)) (ht : (pc : Int) + off = (tgt : Int)) (kt : rx = ry → AW p l e R s m args below meth c nL cells slots Q P A tgt lv st) (kf : ¬ rx = ry → AW p l e R s m args below meth c nL cells slots Q P A (pc + 3) lv st) : AW p l e R s m args below meth c nL cells slots Q P A pc lv (va_rf ry :: va_rf rx :: st) := fun H locs ls hP hS hl => lv_acmp_eq C.1 C.2.1 hd ht (fun h => kt h H locs ls hP hS hl) (fun h => kf h H locs ls hP hS hl)
theorem aw_acmp_ne (C : CallFix p m c cc nL s args tb_G own) {rx ry : Option Nat} {off : Int} {tgt : Nat} (hd : decode cc pc = .ok (.if_acmp .ne off, 3)) (ht : (pc : Int) + off = (tgt : Int)) (kt : ¬ rx = ry → AW p l e R s m args below meth c nL cells slots Q P A tgt lv st) (kf : rx = ry → AW p l e R s m args below meth c nL cells slots Q P A (pc + 3) lv st) : AW p l e R s m args below meth c nL cells slots Q P A pc lv (va_rf ry :: va_rf rx :: st) := fun H locs ls hP hS hl => lv_acmp_ne C.1 C.2.1 hd ht (fun h => kt h H locs ls hP hS hl) (fun h => kf h H locs ls hP hS hl)
theorem aw_goto (C : CallFix p m c cc nL s args tb_G own) {off : Int} {tgt : Nat} (hd : decode cc pc = .ok (.goto off, 3)) (ht : (pc : Int) + off = (tgt : Int)) (k : AW p l e R s m args below meth c nL cells slots Q P A tgt lv st) : AW p l e R s m args below meth c nL cells slots Q P A pc lv st := fun H locs ls hP hS hl => lv_goto C.1 C.2.1 hd ht (k H locs ls hP hS hl)
theorem aw_ifnull (C : CallFix p m c cc nL s args tb_G own) {o : Option Nat} {off : Int} {tgt : Nat} (hd : decode cc pc = .ok (.ifnull off, 3)) (ht : (pc : Int) + off = (tgt : Int)) (kt : o = none → AW p l e R s m args below meth c nL cells slots Q P A tgt lv st) (kf : ∀ x, o = some x → AW p l e R s m args below meth c nL cells slots Q P A (pc + 3) lv st) : AW p l e R s m args below meth c nL cells slots Q P A pc lv (va_rf o :: st) := fun H locs ls hP hS hl => by
  cases o with
  | none => exact lv_ifnullN C.1 C.2.1 hd ht (kt rfl H locs ls hP hS hl)
  | some x => exact lv_ifnull C.1 C.2.1 hd (kf x rfl H locs ls hP hS hl)
theorem aw_ifnonnull (C : CallFix p m c cc nL s args tb_G own) {o : Option Nat} {off : Int} {tgt : Nat} (hd : decode cc pc = .ok (.ifnonnull off, 3)) (ht : (pc : Int) + off = (tgt : Int)) (kt : ∀ x, o = some x → AW p l e R s m args below meth c nL cells slots Q P A tgt lv st) (kf : o = none → AW p l e R s m args below meth c nL cells slots Q P A (pc + 3) lv st) : AW p l e R s m args below meth c nL cells slots Q P A pc lv (va_rf o :: st) := fun H locs ls hP hS hl => by
  cases o with
  | none => exact lv_ifnonnullN C.1 C.2.1 hd (kf rfl H locs ls hP hS hl)
  | some x => exact lv_ifnonnull C.1 C.2.1 hd ht (kt x rfl H locs ls hP hS hl)
theorem aw_ldc (C : CallFix p m c cc nL s args tb_G own) {index : Nat} {v : Int32} (hk : (.constant own index v : Cond) ∈ tb_G) (hd : decode cc pc = .ok (.ldc index, 2)) (k : AW p l e R s m args below meth c nL cells slots Q P A (pc + 2) lv (.int v :: st)) : AW p l e R s m args below meth c nL cells slots Q P A pc lv st := fun H locs ls hP hS hl => lv_ldc C.1 C.2.1 C.2.2.2.1 (C.2.2.2.2 _ hk) hd (k H locs ls hP hS hl)
theorem aw_ldc2 (C : CallFix p m c cc nL s args tb_G own) {index : Nat} {v : Int64} (hk : (.constantLong own index v : Cond) ∈ tb_G) (hd : decode cc pc = .ok (.ldc2_w index, 3)) (k : AW p l e R s m args below meth c nL cells slots Q P A (pc + 3) lv (.long v :: st)) : AW p l e R s m args below meth c nL cells slots Q P A pc lv st := fun H locs ls hP hS hl => lv_ldc2 C.1 C.2.1 C.2.2.2.1 (C.2.2.2.2 _ hk) hd (k H locs ls hP hS hl)
/-- the top of the stack under another name -/
theorem aw_topi {x : Int32} (k : ∀ y : Int32, y = x → AW p l e R s m args below meth c nL cells slots Q P A pc lv (.int y :: st)) : AW p l e R s m args below meth c nL cells slots Q P A pc lv (.int x :: st) := k x rfl
theorem aw_topl {x : Int64} (k : ∀ y : Int64, y = x → AW p l e R s m args below meth c nL cells slots Q P A pc lv (.long y :: st)) : AW p l e R s m args below meth c nL cells slots Q P A pc lv (.long x :: st) := k x rfl
theorem aw_lv (ks : List Nat) (hl0 : lv_pick lv ks = lv') (k : AW p l e R s m args below meth c nL cells slots Q P A pc lv' st) : AW p l e R s m args below meth c nL cells slots Q P A pc lv st := fun H locs ls hP hS hl => k H locs ls hP hS (lv_sub hl ks hl0)
theorem aw_P {P' : Heap → Prop} (h : ∀ H, P H → P' H) (k : AW p l e R s m args below meth c nL cells slots Q P' A pc lv st) : AW p l e R s m args below meth c nL cells slots Q P A pc lv st := fun H locs ls hP hS hl => k H locs ls (h H hP) hS hl
theorem aw_ex {α : Sort _} {P' : α → Heap → Prop} (h : ∀ H, P H → ∃ x, P' x H) (k : ∀ x, AW p l e R s m args below meth c nL cells slots Q (P' x) A pc lv st) : AW p l e R s m args below meth c nL cells slots Q P A pc lv st := fun H locs ls hP hS hl => by
  obtain ⟨x, hx⟩ := h H hP
  exact k x H locs ls hx hS hl
theorem aw_have {F : Prop} (h : ∀ H, P H → F) (k : F → AW p l e R s m args below meth c nL cells slots Q P A pc lv st) : AW p l e R s m args below meth c nL cells slots Q P A pc lv st := fun H locs ls hP hS hl => k (h H hP) H locs ls hP hS hl
theorem aw_widen {k n : Nat} (h1 : cells ≤ k) (h2 : slots ≤ n) (kk : AW p l e R s m args below meth c nL k n Q P A pc lv st) : AW p l e R s m args below meth c nL cells slots Q P A pc lv st := fun H locs ls hP hS hl => W.widen h1 h2 (kk H locs ls hP hS hl)
end AWS
end
section
theorem aw_one {D : va_G} {a : Nat} {x : va_E} {H : Heap} (h : va_at D cl_all (a, x) H) : va_P D cl_all [(a, x)] H := by
  intro k q hk
  match k, hk with
  | 0, hk => cases hk; exact h
  | k + 1, hk => simp at hk
theorem nr_rf (n : String) (o : Option Nat) : narrow (.object n) (va_rf o) = va_rf o ∧ fits (.object n) (va_rf o) = true := by cases o <;> exact ⟨rfl, rfl⟩
/-- what a write of one cell gives of the rest -/
def aw_Wr (D : va_G) (P P' : Heap → Prop) (a : Nat) (x : va_E) : Prop := ∀ H H1 : Heap, P H → va_at D cl_all (a, x) H1 → H1.size = H.size → (∀ q : Nat, q ≠ a → H1[q]? = H[q]?) → P' H1
section AWH
variable {p : Program} {l : Launch} {e : Env} {R : Room} {s : State} {m : MethodId} {args : Array Value} {below : List Frame} {meth : Method} {c : Code} {cc : ByteArray} {nL cells slots : Nat} {Q : State → Prop} {P P' : Heap → Prop} {A : Nat → Prop} {own : String} {pc : Nat} {lv lv' : List (Nat × Value)} {st : List Value} {D : va_G} {tys : List (ClassId × FieldType)} {a : Nat}
theorem aw_get (C : CallFix p m c cc nL s args tb_G own) (hK : va_K D cl_all tys s) {Cn : String} {T : u_T} {N ci k index : Nat} {fs : List Value} {v : Value} (hin : ∀ w ∈ u_ws Cn T N, w ∈ tb_G) (hc : cl_all[ci]? = some (Cn, T, N)) (hk : k < N) (hlink : (.fieldLink own index (T k).1 (T k).2.1 (T k).2.2.1 : Cond) ∈ tb_G) (hP : ∀ H, P H → va_at D cl_all (a, .inr (ci, fs)) H) (hv : fs[k]? = some v) (hd : decode cc pc = .ok (.getfield index, 3)) (kk : AW p l e R s m args below meth c nL cells slots Q P A (pc + 3) lv (v :: st)) : AW p l e R s m args below meth c nL cells slots Q P A pc lv (.ref a :: st) := fun H locs ls hPH hS hl =>
  va_get C.1 C.2.1 C.2.2.2.2 hin C.2.2.2.1 hK (aw_one (hP H hPH)) 0 rfl hc k hk (C.2.2.2.2 _ hlink) (fun _ h => h) hv hd (kk H locs ls hPH hS hl)
theorem aw_put (C : CallFix p m c cc nL s args tb_G own) (hK : va_K D cl_all tys s) {Cn : String} {T : u_T} {N ci k index : Nat} {fs : List Value} {v : Value} {ty : FieldType} (hin : ∀ w ∈ u_ws Cn T N, w ∈ tb_G) (ty0 : Nat → FieldType) (hty : ∀ k, k < N → parseFieldDescriptor (T k).2.2.1 = some (ty0 k)) (hnm : ∀ a, a < N → ∀ b, b < N → a ≠ b → (T a).2.1 ≠ (T b).2.1) (hc : cl_all[ci]? = some (Cn, T, N)) (hk : k < N) (hlink : (.fieldLink own index (T k).1 (T k).2.1 (T k).2.2.1 : Cond) ∈ tb_G) (hfin : (T k).2.2.2 = false) (hd0 : parseFieldDescriptor (T k).2.2.1 = some ty) (hn : narrow ty v = v) (hfit : fits ty v = true) (hA : A a) (hP : ∀ H, P H → va_at D cl_all (a, .inr (ci, fs)) H) (hl0 : k < fs.length) (hd : decode cc pc = .ok (.putfield index, 3)) (hP' : aw_Wr D P P' a (.inr (ci, fs.set k v))) (kk : AW p l e R s m args below meth c nL cells slots Q P' A (pc + 3) lv st) : AW p l e R s m args below meth c nL cells slots Q P A pc lv (v :: .ref a :: st) := fun H locs ls hPH hS hl => by
  have hts := C.2.2.2.2
  have hap := va_apart (own := own) hts hin ty0 hty hnm hK hc
  obtain ⟨r, h1, cell, q1, q2, q3, q4⟩ := hP H hPH
  cases h1.symm.trans hc
  obtain ⟨hSl, hfc, kC, hkC, hkind⟩ := hK.1 ci _ hc
  obtain ⟨cf, kf, fi, f, hi, hsl⟩ := hSl k hk
  have hlay := hts _ (hin _ (u_in_lay hk))
  unfold u_lay at hlay
  rw [if_neg (by rw [hfin]; decide)] at hlay
  have hst := (u_facts hfc hkC (u_lays hts hin hk) hi).1
  have h6 := u_store hfc hkC hkind hlay hi hd0 hn hfit
  refine W.putK C.1 C.2.1 (f := f) ⟨C.2.2.2.1, hts _ hlink, ⟨_, _, _, hi⟩, hst⟩ (by rw [q2]; exact h6) q1 q3 (by rw [hsl]; exact k2_hasslot (q4 k hk)) rfl rfl hd fun H' e1 e2 e3 => ?_
  rw [hsl] at e1 ⊢
  exact kk H' _ ls (hP' H H' hPH ⟨_, hc, t_OB.to (V := updV (vp_V fs) k v) ⟨_, e1, q2, q3, t_set q4 hap hk v⟩ (fun j _ => vp_updV_set hl0 v j)⟩ e2 e3) (hS.put e2 e3 hA) hl
theorem aw_putF (C : CallFix p m c cc nL s args tb_G own) (hK : va_K D cl_all tys s) {Cn : String} {T : u_T} {N ci k index : Nat} {fs : List Value} {v : Value} {ty : FieldType} (hin : ∀ w ∈ u_ws Cn T N, w ∈ tb_G) (ty0 : Nat → FieldType) (hty : ∀ k, k < N → parseFieldDescriptor (T k).2.2.1 = some (ty0 k)) (hnm : ∀ a, a < N → ∀ b, b < N → a ≠ b → (T a).2.1 ≠ (T b).2.1) (hc : cl_all[ci]? = some (Cn, T, N)) (hk : k < N) (hlink : (.fieldLink own index (T k).1 (T k).2.1 (T k).2.2.1 : Cond) ∈ tb_G) (hfin : (T k).2.2.2 = true) (hdecl : (T k).1 = own) (hini : meth.name = "<init>") (hd0 : parseFieldDescriptor (T k).2.2.1 = some ty) (hn : narrow ty v = v) (hfit : fits ty v = true) (hA : A a) (hP : ∀ H, P H → va_at D cl_all (a, .inr (ci, fs)) H) (hl0 : k < fs.length) (hd : decode cc pc = .ok (.putfield index, 3)) (hP' : aw_Wr D P P' a (.inr (ci, fs.set k v))) (kk : AW p l e R s m args below meth c nL cells slots Q P' A (pc + 3) lv st) : AW p l e R s m args below meth c nL cells slots Q P A pc lv (v :: .ref a :: st) := fun H locs ls hPH hS hl => by
  have hts := C.2.2.2.2
  have hown := C.2.2.2.1
  have hap := va_apart (own := own) hts hin ty0 hty hnm hK hc
  obtain ⟨r, h1, cell, q1, q2, q3, q4⟩ := hP H hPH
  cases h1.symm.trans hc
  obtain ⟨hSl, hfc, kC, hkC, hkind⟩ := hK.1 ci _ hc
  obtain ⟨cf, kf, fi, f, hi, hsl⟩ := hSl k hk
  have hlay := hts _ (hin _ (u_in_lay hk))
  unfold u_lay at hlay
  rw [if_pos hfin] at hlay
  have hst := (u_facts hfc hkC (u_lays hts hin hk) hi).1
  have hcf : m.cls = cf := by
    obtain ⟨_, _, c', _, _, _, -, -, hf', -, -, -, hown2, -⟩ := Cond.laysFinal_spec hlay
    have e1 : c' = cf := by have := hi.symm.trans hf'; simp at this; exact this.1.symm
    rw [hdecl] at hown2
    rw [← e1]; exact Option.some.inj (hown.symm.trans hown2)
  have h6 := u_fits hfc hkC hkind (Or.inr hlay) hi hd0 hn hfit
  refine W.putFinK C.1 C.2.1 hown (hts _ hlink) hi hst hcf hini (by rw [q2]; exact h6) q1 q3 (by rw [hsl]; exact k2_hasslot (q4 k hk)) rfl rfl hd fun H' e1 e2 e3 => ?_
  rw [hsl] at e1 ⊢
  exact kk H' _ ls (hP' H H' hPH ⟨_, hc, t_OB.to (V := updV (vp_V fs) k v) ⟨_, e1, q2, q3, t_set q4 hap hk v⟩ (fun j _ => vp_updV_set hl0 v j)⟩ e2 e3) (hS.put e2 e3 hA) hl
theorem aw_iald (C : CallFix p m c cc nL s args tb_G own) (hK : va_K D cl_all tys s) (t0 : Nat) {cA : ClassId} {n : Nat} {f : Nat → Int32} {i : Int32} (ht : tys[t0]? = some (cA, .int)) (hP : ∀ H, P H → va_at D cl_all (a, .inl (cA, n, .inl f)) H) (hi : vp_in i n) (hd : decode cc pc = .ok (.iaload, 1)) (kk : AW p l e R s m args below meth c nL cells slots Q P A (pc + 1) lv (.int (f i.toNatClampNeg) :: st)) : AW p l e R s m args below meth c nL cells slots Q P A pc lv (.int i :: .ref a :: st) := fun H locs ls hPH hS hl => va_iald C.1 C.2.1 hK (aw_one (hP H hPH)) 0 t0 rfl ht hi hd (kk H locs ls hPH hS hl)
theorem aw_zald (C : CallFix p m c cc nL s args tb_G own) (hK : va_K D cl_all tys s) (t0 : Nat) {cA : ClassId} {n : Nat} {f : Nat → Int32} {i : Int32} (ht : tys[t0]? = some (cA, .boolean)) (hP : ∀ H, P H → va_at D cl_all (a, .inl (cA, n, .inl f)) H) (hi : vp_in i n) (hd : decode cc pc = .ok (.baload, 1)) (kk : AW p l e R s m args below meth c nL cells slots Q P A (pc + 1) lv (.int (f i.toNatClampNeg) :: st)) : AW p l e R s m args below meth c nL cells slots Q P A pc lv (.int i :: .ref a :: st) := fun H locs ls hPH hS hl => va_zald C.1 C.2.1 hK (aw_one (hP H hPH)) 0 t0 rfl ht hi hd (kk H locs ls hPH hS hl)
theorem aw_lald (C : CallFix p m c cc nL s args tb_G own) (hK : va_K D cl_all tys s) (t0 : Nat) {cA : ClassId} {n : Nat} {f : Nat → Int64} {i : Int32} (ht : tys[t0]? = some (cA, .long)) (hP : ∀ H, P H → va_at D cl_all (a, .inl (cA, n, .inr (.inl f))) H) (hi : vp_in i n) (hd : decode cc pc = .ok (.laload, 1)) (kk : AW p l e R s m args below meth c nL cells slots Q P A (pc + 1) lv (.long (f i.toNatClampNeg) :: st)) : AW p l e R s m args below meth c nL cells slots Q P A pc lv (.int i :: .ref a :: st) := fun H locs ls hPH hS hl => va_lald C.1 C.2.1 hK (aw_one (hP H hPH)) 0 t0 rfl ht hi hd (kk H locs ls hPH hS hl)
theorem aw_aald (C : CallFix p m c cc nL s args tb_G own) (hK : va_K D cl_all tys s) (t0 : Nat) {cA : ClassId} {Cn : String} {n : Nat} {f : Nat → Option Nat} {i : Int32} (ht : tys[t0]? = some (cA, .object Cn)) (hP : ∀ H, P H → va_at D cl_all (a, .inl (cA, n, .inr (.inr (.inr (.inr f))))) H) (hi : vp_in i n) (hd : decode cc pc = .ok (.aaload, 1)) (kk : AW p l e R s m args below meth c nL cells slots Q P A (pc + 1) lv (va_rf (f i.toNatClampNeg) :: st)) : AW p l e R s m args below meth c nL cells slots Q P A pc lv (.int i :: .ref a :: st) := fun H locs ls hPH hS hl => va_aldq C.1 C.2.1 hK (aw_one (hP H hPH)) 0 t0 rfl ht hi hd (kk H locs ls hPH hS hl)
theorem aw_alen (C : CallFix p m c cc nL s args tb_G own) (hK : va_K D cl_all tys s) (t0 : Nat) {cA : ClassId} {x : vp_A} {ty : FieldType} {v : Int32} (ht : tys[t0]? = some (cA, ty)) (hP : ∀ H, P H → va_at D cl_all (a, .inl (cA, x)) H) (hv : Int32.ofNat x.1 = v) (hd : decode cc pc = .ok (.arraylength, 1)) (kk : AW p l e R s m args below meth c nL cells slots Q P A (pc + 1) lv (.int v :: st)) : AW p l e R s m args below meth c nL cells slots Q P A pc lv (.ref a :: st) := fun H locs ls hPH hS hl => va_alen C.1 C.2.1 hK (aw_one (hP H hPH)) 0 t0 rfl ht hv hd (kk H locs ls hPH hS hl)
theorem aw_iast (C : CallFix p m c cc nL s args tb_G own) (hK : va_K D cl_all tys s) (t0 : Nat) {cA : ClassId} {n : Nat} {f : Nat → Int32} {i : Int32} {x : Int32} (ht : tys[t0]? = some (cA, .int)) (hA : A a) (hP : ∀ H, P H → va_at D cl_all (a, .inl (cA, n, .inl f)) H) (hi : vp_in i n) (hd : decode cc pc = .ok (.iastore, 1)) (hP' : aw_Wr D P P' a (.inl (cA, n, .inl (upd f i.toNatClampNeg x)))) (kk : AW p l e R s m args below meth c nL cells slots Q P' A (pc + 1) lv st) : AW p l e R s m args below meth c nL cells slots Q P A pc lv (.int x :: .int i :: .ref a :: st) := fun H locs ls hPH hS hl => by
  refine W.iast C.1 C.2.1 (hP H hPH) ((hK.2 t0 _ ht).1 n (fun j => .int (f j))) (fun q => by cases q) (by show ¬ (i < 0 ∨ (arrV _ _ _).slots.size ≤ _); rw [arrV_size]; exact hi) rfl rfl hd fun H1 e1 z oq => ?_
  refine kk H1 _ ls (hP' H H1 hPH ?_ z oq) (hS.put z oq hA) hl
  show H1[a]? = some (vp_cell _ _)
  rw [e1, vp_cell_i, vp_cell_i, arrV_store]
  congr 2
  funext q
  by_cases hq : q = i.toNatClampNeg
  · subst hq
    simp [updV, upd]
    try rfl
  · simp [updV, upd, hq]
theorem aw_zast (C : CallFix p m c cc nL s args tb_G own) (hK : va_K D cl_all tys s) (t0 : Nat) {cA : ClassId} {n : Nat} {f : Nat → Int32} {i : Int32} {x : Int32} (ht : tys[t0]? = some (cA, .boolean)) (hA : A a) (hP : ∀ H, P H → va_at D cl_all (a, .inl (cA, n, .inl f)) H) (hi : vp_in i n) (hd : decode cc pc = .ok (.bastore, 1)) (hP' : aw_Wr D P P' a (.inl (cA, n, .inl (upd f i.toNatClampNeg (vp_nar .boolean x))))) (kk : AW p l e R s m args below meth c nL cells slots Q P' A (pc + 1) lv st) : AW p l e R s m args below meth c nL cells slots Q P A pc lv (.int x :: .int i :: .ref a :: st) := fun H locs ls hPH hS hl => by
  refine W.zast C.1 C.2.1 (hP H hPH) ((hK.2 t0 _ ht).1 n (fun j => .int (f j))) (fun q => by cases q) (by show ¬ (i < 0 ∨ (arrV _ _ _).slots.size ≤ _); rw [arrV_size]; exact hi) rfl rfl hd fun H1 e1 z oq => ?_
  refine kk H1 _ ls (hP' H H1 hPH ?_ z oq) (hS.put z oq hA) hl
  show H1[a]? = some (vp_cell _ _)
  rw [e1, vp_cell_i, vp_cell_i, arrV_store]
  congr 2
  funext q
  by_cases hq : q = i.toNatClampNeg
  · subst hq
    simp [updV, upd, vp_nar]
    try rfl
  · simp [updV, upd, vp_nar, hq]
theorem aw_last (C : CallFix p m c cc nL s args tb_G own) (hK : va_K D cl_all tys s) (t0 : Nat) {cA : ClassId} {n : Nat} {f : Nat → Int64} {i : Int32} {x : Int64} (ht : tys[t0]? = some (cA, .long)) (hA : A a) (hP : ∀ H, P H → va_at D cl_all (a, .inl (cA, n, .inr (.inl f))) H) (hi : vp_in i n) (hd : decode cc pc = .ok (.lastore, 1)) (hP' : aw_Wr D P P' a (.inl (cA, n, .inr (.inl (vp_updL f i.toNatClampNeg x))))) (kk : AW p l e R s m args below meth c nL cells slots Q P' A (pc + 1) lv st) : AW p l e R s m args below meth c nL cells slots Q P A pc lv (.long x :: .int i :: .ref a :: st) := fun H locs ls hPH hS hl => by
  refine W.last C.1 C.2.1 (hP H hPH) ((hK.2 t0 _ ht).1 n (fun j => .long (f j))) (fun q => by cases q) (by show ¬ (i < 0 ∨ (arrV _ _ _).slots.size ≤ _); rw [arrV_size]; exact hi) rfl rfl hd fun H1 e1 z oq => ?_
  refine kk H1 _ ls (hP' H H1 hPH ?_ z oq) (hS.put z oq hA) hl
  show H1[a]? = some (vp_cell _ _)
  rw [e1, vp_cell_l, vp_cell_l, arrV_store]
  congr 2
  funext q
  by_cases hq : q = i.toNatClampNeg
  · subst hq
    simp [updV, vp_updL]
    try rfl
  · simp [updV, vp_updL, hq]
theorem aw_aast (C : CallFix p m c cc nL s args tb_G own) (hK : va_K D cl_all tys s) (t0 ci : Nat) {cA : ClassId} {r : vw_C} {n v : Nat} {vs : List Value} {f : Nat → Option Nat} {i : Int32} (ht : tys[t0]? = some (cA, .object r.1)) (hc : cl_all[ci]? = some r) (hA : A a) (hP : ∀ H, P H → va_at D cl_all (a, .inl (cA, n, .inr (.inr (.inr (.inr f))))) H) (hV : ∀ H, P H → va_at D cl_all (v, .inr (ci, vs)) H) (hi : vp_in i n) (hd : decode cc pc = .ok (.aastore, 1)) (hP' : aw_Wr D P P' a (.inl (cA, n, .inr (.inr (.inr (.inr (va_up f i.toNatClampNeg (some v)))))))) (kk : AW p l e R s m args below meth c nL cells slots Q P' A (pc + 1) lv st) : AW p l e R s m args below meth c nL cells slots Q P A pc lv (.ref v :: .int i :: .ref a :: st) := fun H locs ls hPH hS hl => by
  have hlt : i.toNatClampNeg < n := Nat.not_le.mp fun q => hi (Or.inr q)
  have h0 : ¬ i < 0 := fun q => hi (Or.inl q)
  obtain ⟨r', hr', cellV, g1, g2, g3, -⟩ := hV H hPH
  have hcls := (hK.1 ci r hc).2
  obtain ⟨kA, comp, k1, k2, k3, -⟩ := (hK.2 t0 _ ht).2
  have hcomp : comp = D.1 ci := Option.some.inj (k3.symm.trans hcls.1)
  subst hcomp
  obtain ⟨kC, hkC, -⟩ := hcls.2
  refine W.aast C.1 C.2.1 (hP H hPH) (fun q h => by cases h) (fun h => by cases h) k1 k2 rfl hkC ⟨h0, by show _ < (arrV _ _ _).slots.size; rw [arrV_size]; exact hlt⟩ g1 (fun q h => by rw [g3] at h; cases h) (by rw [g2]; exact hkC) (by rw [g2]; exact va_assign hcls) rfl rfl hd fun H1 e1 z oq => ?_
  refine kk H1 _ ls (hP' H H1 hPH ?_ z oq) (hS.put z oq hA) hl
  show H1[a]? = some (vp_cell _ _)
  rw [e1, vp_cell_q, vp_cell_q, arrV_store]
  congr 2
  funext q
  by_cases hq : q = i.toNatClampNeg
  · subst hq
    simp [updV, va_up, va_rf]
  · simp [updV, va_up, hq]
end AWH
/-! CONTRACTS: from any heap that holds P the method returns, its answer and the new state u have 'post', the heap holds B u, nothing old outside A has changed -/
def ct_A (A : Nat → Prop) (sz : Nat) : Nat → Prop := fun q => A q ∨ sz ≤ q
def ct_Pc (D : va_G) (tys : List (ClassId × FieldType)) (As : List Value) (P : Heap → Prop) (sz : Nat) : Array Value → State → Prop := va_Pc As (fun U => U.heap.size = sz ∧ va_K D cl_all tys U ∧ P U.heap)
def ct_ws (y : MethodName) (b : ByteArray) (maxL : Nat) (ret : Option FieldType) : List Cond := .code y b maxL ret :: tb_G
def Ct_i (l : Launch) (y : MethodName) (b : ByteArray) (maxL : Nat) (ret : Option FieldType) (rm : Room) (mc ms : Nat) (D : va_G) (tys : List (ClassId × FieldType)) (A : Nat → Prop) (As : List Value) (P : Heap → Prop) {S : Type} (post : Int32 → S → Prop) (B : S → Heap → Prop) : Prop := ∀ sz : Nat, Met l y (ct_ws y b maxL ret) rm (ct_Pc D tys As P sz) (va_Qi post (fun u t => B u t.heap) (ct_A A sz)) mc ms (ct_A A sz)
def Ct_l (l : Launch) (y : MethodName) (b : ByteArray) (maxL : Nat) (ret : Option FieldType) (rm : Room) (mc ms : Nat) (D : va_G) (tys : List (ClassId × FieldType)) (A : Nat → Prop) (As : List Value) (P : Heap → Prop) {S : Type} (post : Int64 → S → Prop) (B : S → Heap → Prop) : Prop := ∀ sz : Nat, Met l y (ct_ws y b maxL ret) rm (ct_Pc D tys As P sz) (va_Ql post (fun u t => B u t.heap) (ct_A A sz)) mc ms (ct_A A sz)
def Ct_v (l : Launch) (y : MethodName) (b : ByteArray) (maxL : Nat) (ret : Option FieldType) (rm : Room) (mc ms : Nat) (D : va_G) (tys : List (ClassId × FieldType)) (A : Nat → Prop) (As : List Value) (P : Heap → Prop) {S : Type} (post : S → Prop) (B : S → Heap → Prop) : Prop := ∀ sz : Nat, Met l y (ct_ws y b maxL ret) rm (ct_Pc D tys As P sz) (va_Qv post (fun u t => B u t.heap) (ct_A A sz)) mc ms (ct_A A sz)
def Ct_q (l : Launch) (y : MethodName) (b : ByteArray) (maxL : Nat) (ret : Option FieldType) (rm : Room) (mc ms : Nat) (D : va_G) (tys : List (ClassId × FieldType)) (A : Nat → Prop) (As : List Value) (P : Heap → Prop) {S : Type} (post : Option Nat → S → Prop) (B : S → Heap → Prop) : Prop := ∀ sz : Nat, Met l y (ct_ws y b maxL ret) rm (ct_Pc D tys As P sz) (va_Qq post (fun u t => B u t.heap) (ct_A A sz)) mc ms (ct_A A sz)
section CT
variable {p : Program} {l : Launch} {e : Env} {R : Room} {s : State} {m : MethodId} {args : Array Value} {below : List Frame} {meth : Method} {c : Code} {cc : ByteArray} {nL cells slots : Nat} {Q : State → Prop} {P P' : Heap → Prop} {A : Nat → Prop} {own : String} {pc : Nat} {lv lv' : List (Nat × Value)} {st : List Value} {D : va_G} {tys : List (ClassId × FieldType)} {a : Nat}
theorem ct_blind {D : va_G} {tys : List (ClassId × FieldType)} {As : List Value} {P : Heap → Prop} {sz : Nat} : FrameBlind (ct_Pc D tys As P sz) := fun a U g mk q => by
  obtain ⟨q0, q1, qK, qP⟩ := q
  exact ⟨q0, q1, va_K.moved (u := U) (U := U.calling g mk a) (Vm.Alike.refl U.vm) qK, qP⟩
/-- a contract by a walk -/
theorem ct_of {y : MethodName} {b : ByteArray} {maxL : Nat} {ret : Option FieldType} {rm : Room} {mc ms : Nat} {As : List Value} {Qc : Array Value → State → Outcome → State → Prop} {sz : Nat} (hy : plainName y.cls = true) (hAs : (lg_sl As).length ≤ maxL)
    (body : ∀ (p : Program) (e : Env) (s : State) (m : MethodId) (args : Array Value) (below : List Frame) (meth : Method) (c : Code), s.heap.size = sz → CallFix p m c b maxL s args tb_G y.cls → meth.sig.returnType = ret → meth.locks = false → meth.name = y.name → va_K D cl_all tys s →
      AW p l e rm s m args below meth c maxL 0 0 (MQ below Qc args s mc ms (ct_A A sz)) P (ct_A A sz) 0 (lv_args 0 As) []) :
    Met l y (ct_ws y b maxL ret) rm (ct_Pc D tys As P sz) Qc mc ms (ct_A A sz) := by
  refine Met.ofW (cc := b) (maxL := maxL) (ret := ret) hy rfl ?_
  intro p e s m args below meth c s₁ B hml hv
  obtain ⟨rfl, hsz, hK, hP⟩ := hv
  have hts := atoms_spec (ws := ct_ws y b maxL ret) B.pre
  have hown : s.vm.findClass y.cls = some m.cls := findClass_of_methodNamed B.named
  have hnm : meth.name = y.name := (name_of_methodNamed B.named B.method).1
  rw [lg_entry_eq]
  exact body p e s m _ below meth c hsz ⟨B.exec, B.bytes, hml, hown, fun w hw => hts w (List.mem_cons_of_mem _ hw)⟩ B.returns B.notSynchronized hnm hK s.heap [] _ hP va_S.rf (lv_entry As hAs)
theorem aw_iret {S : Type} {post : Int32 → S → Prop} {B : S → Heap → Prop} {v : Int32} (C : CallFix p m c cc nL s args tb_G own) (hr : meth.sig.returnType = some .int) (hlk : meth.locks = false) (u : S) (hp : post v u) (hB : ∀ H, P H → B u H) (hd : decode cc pc = .ok (.ireturn, 1)) : AW p l e R s m args below meth c nL cells slots (MQ below (va_Qi post (fun u t => B u t.heap) A) args s cells slots A) P A pc lv [.int v] := fun H locs ls hP hS hl => W.iret C.1 C.2.1 hr (fun t ht hW => ⟨⟨v, u, rfl, hp, by show B u t.heap; rw [ht]; exact hB H hP⟩, hS.F ht⟩) hS.2.2 hd hlk
theorem aw_zret {S : Type} {post : Int32 → S → Prop} {B : S → Heap → Prop} {v : Int32} (C : CallFix p m c cc nL s args tb_G own) (hr : meth.sig.returnType = some .boolean) (hlk : meth.locks = false) (hn : narrow .boolean (.int v) = .int v) (u : S) (hp : post v u) (hB : ∀ H, P H → B u H) (hd : decode cc pc = .ok (.ireturn, 1)) : AW p l e R s m args below meth c nL cells slots (MQ below (va_Qi post (fun u t => B u t.heap) A) args s cells slots A) P A pc lv [.int v] := fun H locs ls hP hS hl => W.zret C.1 C.2.1 hr hn (fun t ht hW => ⟨⟨v, u, rfl, hp, by show B u t.heap; rw [ht]; exact hB H hP⟩, hS.F ht⟩) hS.2.2 hd hlk
theorem aw_lret {S : Type} {post : Int64 → S → Prop} {B : S → Heap → Prop} {v : Int64} (C : CallFix p m c cc nL s args tb_G own) (hr : meth.sig.returnType = some .long) (hlk : meth.locks = false) (u : S) (hp : post v u) (hB : ∀ H, P H → B u H) (hd : decode cc pc = .ok (.lreturn, 1)) : AW p l e R s m args below meth c nL cells slots (MQ below (va_Ql post (fun u t => B u t.heap) A) args s cells slots A) P A pc lv [.long v] := fun H locs ls hP hS hl => W.lret C.1 C.2.1 hr (fun t ht hW => ⟨⟨v, u, rfl, hp, by show B u t.heap; rw [ht]; exact hB H hP⟩, hS.F ht⟩) hS.2.2 hd hlk
theorem aw_vret {S : Type} {post : S → Prop} {B : S → Heap → Prop} (C : CallFix p m c cc nL s args tb_G own) (hr : meth.sig.returnType = none) (hlk : meth.locks = false) (u : S) (hp : post u) (hB : ∀ H, P H → B u H) (hd : decode cc pc = .ok (.return_, 1)) : AW p l e R s m args below meth c nL cells slots (MQ below (va_Qv post (fun u t => B u t.heap) A) args s cells slots A) P A pc lv [] := fun H locs ls hP hS hl => W.vret C.1 C.2.1 hr (fun t ht hW => ⟨⟨u, rfl, hp, by show B u t.heap; rw [ht]; exact hB H hP⟩, hS.F ht⟩) hS.2.2 hd hlk
theorem aw_qret {S : Type} {post : Option Nat → S → Prop} {B : S → Heap → Prop} {v : Option Nat} {n : String} (C : CallFix p m c cc nL s args tb_G own) (hr : meth.sig.returnType = some (.object n)) (hlk : meth.locks = false) (u : S) (hp : post v u) (hB : ∀ H, P H → B u H) (hd : decode cc pc = .ok (.areturn, 1)) : AW p l e R s m args below meth c nL cells slots (MQ below (va_Qq post (fun u t => B u t.heap) A) args s cells slots A) P A pc lv [va_rf v] := fun H locs ls hP hS hl => W.aret C.1 C.2.1 hr (Or.inl ⟨n, rfl⟩) (by cases v with | none => exact Or.inl rfl | some x => exact Or.inr ⟨x, rfl⟩) (fun t ht hW => ⟨⟨v, u, rfl, hp, by show B u t.heap; rw [ht]; exact hB H hP⟩, hS.F ht⟩) hS.2.2 hd hlk
theorem aw_recv {H : Heap} {Cn : String} {T : u_T} {N ci : Nat} {fs : List Value} (hK : va_K D cl_all tys s) (hc : cl_all[ci]? = some (Cn, T, N)) (h : va_at D cl_all (a, .inr (ci, fs)) H) : ∃ cell : Cell, H[a]? = some cell ∧ cell.vm.isStatics = false ∧ s.vm.findClass Cn = some cell.cls := va_recv hK (aw_one h) hc (q0 := 0) rfl
theorem aw_callVi {S : Type} {post : Int32 → S → Prop} {B : S → Heap → Prop} {P2 : Heap → Prop} {P9 : Int32 → S → Heap → Prop} {A2 : Nat → Prop} {y : MethodName} {b2 : ByteArray} {mL2 mc ms n index : Nat} {ret2 : Option FieldType} {rm2 : Room} {Cn : String} {stk : List Value} (As : List Value) (C : CallFix p m c cc nL s args tb_G own) (hK : va_K D cl_all tys s) (hc : Ct_i l y b2 mL2 ret2 rm2 mc ms D tys A2 (.ref a :: As) P2 post B) (cw : CallW R s args own Cn index y b2 mL2 ret2 (ct_ws y b2 mL2 ret2) rm2 mc ms n) (hn : As.length = n) (hrecv : ∀ H, P H → ∃ cell : Cell, H[a]? = some cell ∧ cell.vm.isStatics = false ∧ s.vm.findClass Cn = some cell.cls) (hpre : ∀ H, P H → P2 H) (hA : ∀ q, A2 q → A q) (hAs : ∀ q, s.heap.size ≤ q → A q) (hst : stk = As.reverse ++ .ref a :: st) (hroom : (st.map fun v => v.category).sum ≤ 8) (hd : decode cc pc = .ok (.invokevirtual index, 3)) (hcs : cells + mc ≤ R.cells ∧ slots + ms ≤ R.slots)
    (hP9 : ∀ (H H1 : Heap) (r : Int32) (u : S), P H → post r u → B u H1 → H.size ≤ H1.size → (∀ q : Nat, q < H.size → ¬ A2 q → H1[q]? = H[q]?) → P9 r u H1) (kk : ∀ (r : Int32) (u : S), post r u → AW p l e R s m args below meth c nL (cells + mc) (slots + ms) Q (P9 r u) A (pc + 3) lv (.int r :: st)) : AW p l e R s m args below meth c nL cells slots Q P A pc lv stk := fun H locs ls hPH hS hl => by
  have hz := hS.1
  refine va_calli (A1 := ct_A A2 H.size) (va_runV (g := F0 m pc ls stk) (As := As) (rest := st) C (hc H.size) cw ⟨ct_blind, hrecv H hPH, fun U hU hW => ⟨rfl, by rw [hU], va_K.moved hW.alike hK, by rw [hU]; exact hpre H hPH⟩⟩ rfl hn hl.1 hst (lv_room hroom) hd hcs) hS (fun q _ h => h.elim (hA q) (fun h => hAs q (Nat.le_trans hz h))) (fun q h => h.elim (hA q) (fun h => hAs q (Nat.le_trans hz h))) (fun r u t H1 locs1 ht hvm hw hB hz1 hk1 hS1 => ?_)
  rw [ht] at hB
  exact kk r u hw H1 locs1 ls (hP9 H H1 r u hPH hw hB hz1 (fun q h1 h2 => hk1 q h1 (fun h => h.elim h2 (fun h => absurd h1 (Nat.not_lt.mpr h))))) hS1 hl
theorem aw_callSi {S : Type} {post : Int32 → S → Prop} {B : S → Heap → Prop} {P2 : Heap → Prop} {P9 : Int32 → S → Heap → Prop} {A2 : Nat → Prop} {y : MethodName} {b2 : ByteArray} {mL2 mc ms n index : Nat} {ret2 : Option FieldType} {rm2 : Room} {Cn : String} {stk : List Value} (As : List Value) (C : CallFix p m c cc nL s args tb_G own) (hK : va_K D cl_all tys s) (hc : Ct_i l y b2 mL2 ret2 rm2 mc ms D tys A2 As P2 post B) (cw : CallB R s args own index y b2 mL2 ret2 (ct_ws y b2 mL2 ret2) rm2 mc ms n ∧ (Cond.static y).before args s = true) (hn : As.length = n)  (hpre : ∀ H, P H → P2 H) (hA : ∀ q, A2 q → A q) (hAs : ∀ q, s.heap.size ≤ q → A q) (hst : stk = As.reverse ++ st) (hroom : (st.map fun v => v.category).sum ≤ 8) (hd : decode cc pc = .ok (.invokestatic index, 3)) (hcs : cells + mc ≤ R.cells ∧ slots + ms ≤ R.slots)
    (hP9 : ∀ (H H1 : Heap) (r : Int32) (u : S), P H → post r u → B u H1 → H.size ≤ H1.size → (∀ q : Nat, q < H.size → ¬ A2 q → H1[q]? = H[q]?) → P9 r u H1) (kk : ∀ (r : Int32) (u : S), post r u → AW p l e R s m args below meth c nL (cells + mc) (slots + ms) Q (P9 r u) A (pc + 3) lv (.int r :: st)) : AW p l e R s m args below meth c nL cells slots Q P A pc lv stk := fun H locs ls hPH hS hl => by
  have hz := hS.1
  refine va_calli (A1 := ct_A A2 H.size) (va_runS (g := F0 m pc ls stk) (As := As) (rest := st) C (hc H.size) cw ⟨ct_blind, fun U hU hW => ⟨rfl, by rw [hU], va_K.moved hW.alike hK, by rw [hU]; exact hpre H hPH⟩⟩ rfl hn hl.1 hst (lv_room hroom) hd hcs) hS (fun q _ h => h.elim (hA q) (fun h => hAs q (Nat.le_trans hz h))) (fun q h => h.elim (hA q) (fun h => hAs q (Nat.le_trans hz h))) (fun r u t H1 locs1 ht hvm hw hB hz1 hk1 hS1 => ?_)
  rw [ht] at hB
  exact kk r u hw H1 locs1 ls (hP9 H H1 r u hPH hw hB hz1 (fun q h1 h2 => hk1 q h1 (fun h => h.elim h2 (fun h => absurd h1 (Nat.not_lt.mpr h))))) hS1 hl
theorem aw_callVl {S : Type} {post : Int64 → S → Prop} {B : S → Heap → Prop} {P2 : Heap → Prop} {P9 : Int64 → S → Heap → Prop} {A2 : Nat → Prop} {y : MethodName} {b2 : ByteArray} {mL2 mc ms n index : Nat} {ret2 : Option FieldType} {rm2 : Room} {Cn : String} {stk : List Value} (As : List Value) (C : CallFix p m c cc nL s args tb_G own) (hK : va_K D cl_all tys s) (hc : Ct_l l y b2 mL2 ret2 rm2 mc ms D tys A2 (.ref a :: As) P2 post B) (cw : CallW R s args own Cn index y b2 mL2 ret2 (ct_ws y b2 mL2 ret2) rm2 mc ms n) (hn : As.length = n) (hrecv : ∀ H, P H → ∃ cell : Cell, H[a]? = some cell ∧ cell.vm.isStatics = false ∧ s.vm.findClass Cn = some cell.cls) (hpre : ∀ H, P H → P2 H) (hA : ∀ q, A2 q → A q) (hAs : ∀ q, s.heap.size ≤ q → A q) (hst : stk = As.reverse ++ .ref a :: st) (hroom : (st.map fun v => v.category).sum ≤ 8) (hd : decode cc pc = .ok (.invokevirtual index, 3)) (hcs : cells + mc ≤ R.cells ∧ slots + ms ≤ R.slots)
    (hP9 : ∀ (H H1 : Heap) (r : Int64) (u : S), P H → post r u → B u H1 → H.size ≤ H1.size → (∀ q : Nat, q < H.size → ¬ A2 q → H1[q]? = H[q]?) → P9 r u H1) (kk : ∀ (r : Int64) (u : S), post r u → AW p l e R s m args below meth c nL (cells + mc) (slots + ms) Q (P9 r u) A (pc + 3) lv (.long r :: st)) : AW p l e R s m args below meth c nL cells slots Q P A pc lv stk := fun H locs ls hPH hS hl => by
  have hz := hS.1
  refine va_calll (A1 := ct_A A2 H.size) (va_runV (g := F0 m pc ls stk) (As := As) (rest := st) C (hc H.size) cw ⟨ct_blind, hrecv H hPH, fun U hU hW => ⟨rfl, by rw [hU], va_K.moved hW.alike hK, by rw [hU]; exact hpre H hPH⟩⟩ rfl hn hl.1 hst (lv_room hroom) hd hcs) hS (fun q _ h => h.elim (hA q) (fun h => hAs q (Nat.le_trans hz h))) (fun q h => h.elim (hA q) (fun h => hAs q (Nat.le_trans hz h))) (fun r u t H1 locs1 ht hvm hw hB hz1 hk1 hS1 => ?_)
  rw [ht] at hB
  exact kk r u hw H1 locs1 ls (hP9 H H1 r u hPH hw hB hz1 (fun q h1 h2 => hk1 q h1 (fun h => h.elim h2 (fun h => absurd h1 (Nat.not_lt.mpr h))))) hS1 hl
theorem aw_callSl {S : Type} {post : Int64 → S → Prop} {B : S → Heap → Prop} {P2 : Heap → Prop} {P9 : Int64 → S → Heap → Prop} {A2 : Nat → Prop} {y : MethodName} {b2 : ByteArray} {mL2 mc ms n index : Nat} {ret2 : Option FieldType} {rm2 : Room} {Cn : String} {stk : List Value} (As : List Value) (C : CallFix p m c cc nL s args tb_G own) (hK : va_K D cl_all tys s) (hc : Ct_l l y b2 mL2 ret2 rm2 mc ms D tys A2 As P2 post B) (cw : CallB R s args own index y b2 mL2 ret2 (ct_ws y b2 mL2 ret2) rm2 mc ms n ∧ (Cond.static y).before args s = true) (hn : As.length = n)  (hpre : ∀ H, P H → P2 H) (hA : ∀ q, A2 q → A q) (hAs : ∀ q, s.heap.size ≤ q → A q) (hst : stk = As.reverse ++ st) (hroom : (st.map fun v => v.category).sum ≤ 8) (hd : decode cc pc = .ok (.invokestatic index, 3)) (hcs : cells + mc ≤ R.cells ∧ slots + ms ≤ R.slots)
    (hP9 : ∀ (H H1 : Heap) (r : Int64) (u : S), P H → post r u → B u H1 → H.size ≤ H1.size → (∀ q : Nat, q < H.size → ¬ A2 q → H1[q]? = H[q]?) → P9 r u H1) (kk : ∀ (r : Int64) (u : S), post r u → AW p l e R s m args below meth c nL (cells + mc) (slots + ms) Q (P9 r u) A (pc + 3) lv (.long r :: st)) : AW p l e R s m args below meth c nL cells slots Q P A pc lv stk := fun H locs ls hPH hS hl => by
  have hz := hS.1
  refine va_calll (A1 := ct_A A2 H.size) (va_runS (g := F0 m pc ls stk) (As := As) (rest := st) C (hc H.size) cw ⟨ct_blind, fun U hU hW => ⟨rfl, by rw [hU], va_K.moved hW.alike hK, by rw [hU]; exact hpre H hPH⟩⟩ rfl hn hl.1 hst (lv_room hroom) hd hcs) hS (fun q _ h => h.elim (hA q) (fun h => hAs q (Nat.le_trans hz h))) (fun q h => h.elim (hA q) (fun h => hAs q (Nat.le_trans hz h))) (fun r u t H1 locs1 ht hvm hw hB hz1 hk1 hS1 => ?_)
  rw [ht] at hB
  exact kk r u hw H1 locs1 ls (hP9 H H1 r u hPH hw hB hz1 (fun q h1 h2 => hk1 q h1 (fun h => h.elim h2 (fun h => absurd h1 (Nat.not_lt.mpr h))))) hS1 hl
theorem aw_callVv {S : Type} {post : S → Prop} {B : S → Heap → Prop} {P2 : Heap → Prop} {P9 : S → Heap → Prop} {A2 : Nat → Prop} {y : MethodName} {b2 : ByteArray} {mL2 mc ms n index : Nat} {ret2 : Option FieldType} {rm2 : Room} {Cn : String} {stk : List Value} (As : List Value) (C : CallFix p m c cc nL s args tb_G own) (hK : va_K D cl_all tys s) (hc : Ct_v l y b2 mL2 ret2 rm2 mc ms D tys A2 (.ref a :: As) P2 post B) (cw : CallW R s args own Cn index y b2 mL2 ret2 (ct_ws y b2 mL2 ret2) rm2 mc ms n) (hn : As.length = n) (hrecv : ∀ H, P H → ∃ cell : Cell, H[a]? = some cell ∧ cell.vm.isStatics = false ∧ s.vm.findClass Cn = some cell.cls) (hpre : ∀ H, P H → P2 H) (hA : ∀ q, A2 q → A q) (hAs : ∀ q, s.heap.size ≤ q → A q) (hst : stk = As.reverse ++ .ref a :: st) (hroom : (st.map fun v => v.category).sum ≤ 8) (hd : decode cc pc = .ok (.invokevirtual index, 3)) (hcs : cells + mc ≤ R.cells ∧ slots + ms ≤ R.slots)
    (hP9 : ∀ (H H1 : Heap) (u : S), P H → post u → B u H1 → H.size ≤ H1.size → (∀ q : Nat, q < H.size → ¬ A2 q → H1[q]? = H[q]?) → P9 u H1) (kk : ∀ (u : S), post u → AW p l e R s m args below meth c nL (cells + mc) (slots + ms) Q (P9 u) A (pc + 3) lv (st)) : AW p l e R s m args below meth c nL cells slots Q P A pc lv stk := fun H locs ls hPH hS hl => by
  have hz := hS.1
  refine va_callv (A1 := ct_A A2 H.size) (va_runV (g := F0 m pc ls stk) (As := As) (rest := st) C (hc H.size) cw ⟨ct_blind, hrecv H hPH, fun U hU hW => ⟨rfl, by rw [hU], va_K.moved hW.alike hK, by rw [hU]; exact hpre H hPH⟩⟩ rfl hn hl.1 hst (lv_room hroom) hd hcs) hS (fun q _ h => h.elim (hA q) (fun h => hAs q (Nat.le_trans hz h))) (fun q h => h.elim (hA q) (fun h => hAs q (Nat.le_trans hz h))) (fun u t H1 locs1 ht hvm hw hB hz1 hk1 hS1 => ?_)
  rw [ht] at hB
  exact kk u hw H1 locs1 ls (hP9 H H1 u hPH hw hB hz1 (fun q h1 h2 => hk1 q h1 (fun h => h.elim h2 (fun h => absurd h1 (Nat.not_lt.mpr h))))) hS1 hl
theorem aw_callSv {S : Type} {post : S → Prop} {B : S → Heap → Prop} {P2 : Heap → Prop} {P9 : S → Heap → Prop} {A2 : Nat → Prop} {y : MethodName} {b2 : ByteArray} {mL2 mc ms n index : Nat} {ret2 : Option FieldType} {rm2 : Room} {Cn : String} {stk : List Value} (As : List Value) (C : CallFix p m c cc nL s args tb_G own) (hK : va_K D cl_all tys s) (hc : Ct_v l y b2 mL2 ret2 rm2 mc ms D tys A2 As P2 post B) (cw : CallB R s args own index y b2 mL2 ret2 (ct_ws y b2 mL2 ret2) rm2 mc ms n ∧ (Cond.static y).before args s = true) (hn : As.length = n)  (hpre : ∀ H, P H → P2 H) (hA : ∀ q, A2 q → A q) (hAs : ∀ q, s.heap.size ≤ q → A q) (hst : stk = As.reverse ++ st) (hroom : (st.map fun v => v.category).sum ≤ 8) (hd : decode cc pc = .ok (.invokestatic index, 3)) (hcs : cells + mc ≤ R.cells ∧ slots + ms ≤ R.slots)
    (hP9 : ∀ (H H1 : Heap) (u : S), P H → post u → B u H1 → H.size ≤ H1.size → (∀ q : Nat, q < H.size → ¬ A2 q → H1[q]? = H[q]?) → P9 u H1) (kk : ∀ (u : S), post u → AW p l e R s m args below meth c nL (cells + mc) (slots + ms) Q (P9 u) A (pc + 3) lv (st)) : AW p l e R s m args below meth c nL cells slots Q P A pc lv stk := fun H locs ls hPH hS hl => by
  have hz := hS.1
  refine va_callv (A1 := ct_A A2 H.size) (va_runS (g := F0 m pc ls stk) (As := As) (rest := st) C (hc H.size) cw ⟨ct_blind, fun U hU hW => ⟨rfl, by rw [hU], va_K.moved hW.alike hK, by rw [hU]; exact hpre H hPH⟩⟩ rfl hn hl.1 hst (lv_room hroom) hd hcs) hS (fun q _ h => h.elim (hA q) (fun h => hAs q (Nat.le_trans hz h))) (fun q h => h.elim (hA q) (fun h => hAs q (Nat.le_trans hz h))) (fun u t H1 locs1 ht hvm hw hB hz1 hk1 hS1 => ?_)
  rw [ht] at hB
  exact kk u hw H1 locs1 ls (hP9 H H1 u hPH hw hB hz1 (fun q h1 h2 => hk1 q h1 (fun h => h.elim h2 (fun h => absurd h1 (Nat.not_lt.mpr h))))) hS1 hl
theorem aw_callIv {S : Type} {post : S → Prop} {B : S → Heap → Prop} {P2 : Heap → Prop} {P9 : S → Heap → Prop} {A2 : Nat → Prop} {y : MethodName} {b2 : ByteArray} {mL2 mc ms n index : Nat} {ret2 : Option FieldType} {rm2 : Room} {Cn : String} {stk : List Value} (As : List Value) (C : CallFix p m c cc nL s args tb_G own) (hK : va_K D cl_all tys s) (hc : Ct_v l y b2 mL2 none rm2 mc ms D tys A2 (.ref a :: As) P2 post B) (cw : CallB R s args own index y b2 mL2 none (ct_ws y b2 mL2 none) rm2 mc ms n ∧ y.name = "<init>" ∧ (Cond.instanceMethod y).before args s = true) (hn : As.length = n)  (hpre : ∀ H, P H → P2 H) (hA : ∀ q, A2 q → A q) (hAs : ∀ q, s.heap.size ≤ q → A q) (hst : stk = As.reverse ++ .ref a :: st) (hroom : (st.map fun v => v.category).sum ≤ 8) (hd : decode cc pc = .ok (.invokespecial index, 3)) (hcs : cells + mc ≤ R.cells ∧ slots + ms ≤ R.slots)
    (hP9 : ∀ (H H1 : Heap) (u : S), P H → post u → B u H1 → H.size ≤ H1.size → (∀ q : Nat, q < H.size → ¬ A2 q → H1[q]? = H[q]?) → P9 u H1) (kk : ∀ (u : S), post u → AW p l e R s m args below meth c nL (cells + mc) (slots + ms) Q (P9 u) A (pc + 3) lv (st)) : AW p l e R s m args below meth c nL cells slots Q P A pc lv stk := fun H locs ls hPH hS hl => by
  have hz := hS.1
  refine va_callv (A1 := ct_A A2 H.size) (va_runI (g := F0 m pc ls stk) (As := As) (rest := st) C (hc H.size) cw ⟨ct_blind, fun U hU hW => ⟨rfl, by rw [hU], va_K.moved hW.alike hK, by rw [hU]; exact hpre H hPH⟩⟩ rfl hn hl.1 hst (lv_room hroom) hd hcs) hS (fun q _ h => h.elim (hA q) (fun h => hAs q (Nat.le_trans hz h))) (fun q h => h.elim (hA q) (fun h => hAs q (Nat.le_trans hz h))) (fun u t H1 locs1 ht hvm hw hB hz1 hk1 hS1 => ?_)
  rw [ht] at hB
  exact kk u hw H1 locs1 ls (hP9 H H1 u hPH hw hB hz1 (fun q h1 h2 => hk1 q h1 (fun h => h.elim h2 (fun h => absurd h1 (Nat.not_lt.mpr h))))) hS1 hl
theorem aw_callVq {S : Type} {post : Option Nat → S → Prop} {B : S → Heap → Prop} {P2 : Heap → Prop} {P9 : Option Nat → S → Heap → Prop} {A2 : Nat → Prop} {y : MethodName} {b2 : ByteArray} {mL2 mc ms n index : Nat} {ret2 : Option FieldType} {rm2 : Room} {Cn : String} {stk : List Value} (As : List Value) (C : CallFix p m c cc nL s args tb_G own) (hK : va_K D cl_all tys s) (hc : Ct_q l y b2 mL2 ret2 rm2 mc ms D tys A2 (.ref a :: As) P2 post B) (cw : CallW R s args own Cn index y b2 mL2 ret2 (ct_ws y b2 mL2 ret2) rm2 mc ms n) (hn : As.length = n) (hrecv : ∀ H, P H → ∃ cell : Cell, H[a]? = some cell ∧ cell.vm.isStatics = false ∧ s.vm.findClass Cn = some cell.cls) (hpre : ∀ H, P H → P2 H) (hA : ∀ q, A2 q → A q) (hAs : ∀ q, s.heap.size ≤ q → A q) (hst : stk = As.reverse ++ .ref a :: st) (hroom : (st.map fun v => v.category).sum ≤ 8) (hd : decode cc pc = .ok (.invokevirtual index, 3)) (hcs : cells + mc ≤ R.cells ∧ slots + ms ≤ R.slots)
    (hP9 : ∀ (H H1 : Heap) (r : Option Nat) (u : S), P H → post r u → B u H1 → H.size ≤ H1.size → (∀ q : Nat, q < H.size → ¬ A2 q → H1[q]? = H[q]?) → P9 r u H1) (kk : ∀ (r : Option Nat) (u : S), post r u → AW p l e R s m args below meth c nL (cells + mc) (slots + ms) Q (P9 r u) A (pc + 3) lv (va_rf r :: st)) : AW p l e R s m args below meth c nL cells slots Q P A pc lv stk := fun H locs ls hPH hS hl => by
  have hz := hS.1
  refine va_callq (A1 := ct_A A2 H.size) (va_runV (g := F0 m pc ls stk) (As := As) (rest := st) C (hc H.size) cw ⟨ct_blind, hrecv H hPH, fun U hU hW => ⟨rfl, by rw [hU], va_K.moved hW.alike hK, by rw [hU]; exact hpre H hPH⟩⟩ rfl hn hl.1 hst (lv_room hroom) hd hcs) hS (fun q _ h => h.elim (hA q) (fun h => hAs q (Nat.le_trans hz h))) (fun q h => h.elim (hA q) (fun h => hAs q (Nat.le_trans hz h))) (fun r u t H1 locs1 ht hvm hw hB hz1 hk1 hS1 => ?_)
  rw [ht] at hB
  exact kk r u hw H1 locs1 ls (hP9 H H1 r u hPH hw hB hz1 (fun q h1 h2 => hk1 q h1 (fun h => h.elim h2 (fun h => absurd h1 (Nat.not_lt.mpr h))))) hS1 hl
theorem aw_callSq {S : Type} {post : Option Nat → S → Prop} {B : S → Heap → Prop} {P2 : Heap → Prop} {P9 : Option Nat → S → Heap → Prop} {A2 : Nat → Prop} {y : MethodName} {b2 : ByteArray} {mL2 mc ms n index : Nat} {ret2 : Option FieldType} {rm2 : Room} {Cn : String} {stk : List Value} (As : List Value) (C : CallFix p m c cc nL s args tb_G own) (hK : va_K D cl_all tys s) (hc : Ct_q l y b2 mL2 ret2 rm2 mc ms D tys A2 As P2 post B) (cw : CallB R s args own index y b2 mL2 ret2 (ct_ws y b2 mL2 ret2) rm2 mc ms n ∧ (Cond.static y).before args s = true) (hn : As.length = n)  (hpre : ∀ H, P H → P2 H) (hA : ∀ q, A2 q → A q) (hAs : ∀ q, s.heap.size ≤ q → A q) (hst : stk = As.reverse ++ st) (hroom : (st.map fun v => v.category).sum ≤ 8) (hd : decode cc pc = .ok (.invokestatic index, 3)) (hcs : cells + mc ≤ R.cells ∧ slots + ms ≤ R.slots)
    (hP9 : ∀ (H H1 : Heap) (r : Option Nat) (u : S), P H → post r u → B u H1 → H.size ≤ H1.size → (∀ q : Nat, q < H.size → ¬ A2 q → H1[q]? = H[q]?) → P9 r u H1) (kk : ∀ (r : Option Nat) (u : S), post r u → AW p l e R s m args below meth c nL (cells + mc) (slots + ms) Q (P9 r u) A (pc + 3) lv (va_rf r :: st)) : AW p l e R s m args below meth c nL cells slots Q P A pc lv stk := fun H locs ls hPH hS hl => by
  have hz := hS.1
  refine va_callq (A1 := ct_A A2 H.size) (va_runS (g := F0 m pc ls stk) (As := As) (rest := st) C (hc H.size) cw ⟨ct_blind, fun U hU hW => ⟨rfl, by rw [hU], va_K.moved hW.alike hK, by rw [hU]; exact hpre H hPH⟩⟩ rfl hn hl.1 hst (lv_room hroom) hd hcs) hS (fun q _ h => h.elim (hA q) (fun h => hAs q (Nat.le_trans hz h))) (fun q h => h.elim (hA q) (fun h => hAs q (Nat.le_trans hz h))) (fun r u t H1 locs1 ht hvm hw hB hz1 hk1 hS1 => ?_)
  rw [ht] at hB
  exact kk r u hw H1 locs1 ls (hP9 H H1 r u hPH hw hB hz1 (fun q h1 h2 => hk1 q h1 (fun h => h.elim h2 (fun h => absurd h1 (Nat.not_lt.mpr h))))) hS1 hl
end CT
end
section
/-! THROWING (launches without stack traces): contracts of methods that throw; a call that throws changes nothing that was there -/
def th_up : List String := ["java/lang/RuntimeException", "java/lang/Exception"]
def th_w : Cond → Bool
  | .declares _ => true
  | .castable .. => true
  | _ => false
def th_ws : List Cond := lw_tbl.filter th_w
/-- a static of Throwable's that is laid, and holds a reference or null -/
def th_S (n d : String) (U : State) : Prop := (Cond.laysStatic Bundle.tN n d).before #[] U = true ∧ (Cond.isRef (.static Bundle.tN n d)).before #[] U = true
/-- what a state must have so that exceptions can be made -/
def th_Z (U : State) : Prop := (∀ w ∈ th_ws, va_Nw w U) ∧ (∀ (own : String) (k : Nat) (tx : String), (Cond.stringRef own k tx) ∈ lw_tbl → ∃ a, vk_R own k tx a U) ∧ th_S "UNASSIGNED_STACK" Bundle.steD U ∧ th_S "SUPPRESSED_SENTINEL" Bundle.listD U ∧ (Cond.initialized Bundle.tN).before #[] U = true
theorem th_isRef {C n d : String} {v : Value} {A : Nat → Prop} {s : State} (h : va_Z C n d v A s s.heap) (hv : v = .null ∨ ∃ t, v = .ref t) : (Cond.isRef (.static C n d)).before #[] s = true := by
  obtain ⟨cf, kf, fi, f, a, cell, h1, h2, -, h4, h5, h6, h7, -⟩ := h
  have he : (Term.static C n d).eval #[] s none [] s = some v := by simp [Term.eval, State.fieldNamed?, h1, h2, h4, h5, h6, h7]
  simp only [Cond.before, Cond.holds, Cond.value, he]
  rcases hv with rfl | ⟨t, rfl⟩ <;> simp
theorem th_S.up {n d : String} {s U : State} (hW : s.WarmedH U.vm) (hini : (Cond.initialized Bundle.tN).before #[] s = true) (hq : ∀ q : Nat, q < s.heap.size → U.heap[q]? = s.heap[q]?) (h : th_S n d s) : th_S n d U := by
  obtain ⟨h1, h2⟩ := h
  refine ⟨?_, ?_⟩
  · obtain ⟨c, k, i, f, a, cell, g1, g2, g3, g4, g5, g6, g7, g8, g9⟩ := Cond.laysStatic_spec h1
    obtain ⟨k', hi', he⟩ := State.fieldFound?_setVm hW.alike g2
    exact Cond.laysStatic_of (by rw [hW.alike.findClass]; exact g1) hi' g3 (by rw [he]; exact g4) (by rw [hq a (Array.getElem?_eq_some_iff.mp g5).1]; exact g5) g6 g7 g8 (by rw [he]; exact g9)
  · have hz := va_Zqof (A := fun _ => False) h1 hini h2 (fun _ _ h => h)
    have hz2 := (hz.kept (H1 := U.heap) (fun q h _ => hq q h)).moved hW.alike
    rcases hz2 with hz2 | ⟨t, hz2⟩
    · exact th_isRef hz2 (Or.inl rfl)
    · exact th_isRef hz2 (Or.inr ⟨t, rfl⟩)
theorem th_Z.up {s U : State} (hW : s.WarmedH U.vm) (hq : ∀ q : Nat, q < s.heap.size → U.heap[q]? = s.heap[q]?) (h : th_Z s) : th_Z U := by
  obtain ⟨h1, h2, h3, h4, hini⟩ := h
  refine ⟨fun w hw => ?_, fun own k tx hm => ?_, h3.up hW hini hq, h4.up hW hini hq, word_at hW (Or.inl rfl) hini⟩
  · have hz := h1 w hw
    have ht : th_w w = true := (List.mem_filter.mp hw).2
    cases w <;> first | exact va_Nw.warmD hW hz | exact va_Nw.warmC hW hz | (simp [th_w] at ht; done)
  · obtain ⟨a, ha⟩ := h2 own k tx hm
    exact ⟨a, ha.warm hW⟩
/-- the words that the making of an exception asks, out of the tables' and of th_Z -/
def th_ok (w : Cond) : Bool := decide (w ∈ tb_G) || decide (w ∈ th_ws) || decide (w = .laysStatic Bundle.tN "UNASSIGNED_STACK" Bundle.steD) || decide (w = .isRef (.static Bundle.tN "UNASSIGNED_STACK" Bundle.steD)) || decide (w = .laysStatic Bundle.tN "SUPPRESSED_SENTINEL" Bundle.listD) || decide (w = .isRef (.static Bundle.tN "SUPPRESSED_SENTINEL" Bundle.listD))
theorem th_use {s : State} {args : Array Value} {ws : List Cond} (hts : ∀ w ∈ tb_G, w.before args s = true) (hZ : th_Z s) (h : ws.all th_ok = true) : ∀ w ∈ ws, w.before args s = true := by
  intro w hw
  have h1 := List.all_eq_true.mp h w hw
  unfold th_ok at h1
  simp only [Bool.or_eq_true, decide_eq_true_eq] at h1
  rcases h1 with ((((h1 | h1) | h1) | h1) | h1) | h1
  · exact hts w h1
  · have hz := hZ.1 w h1
    have ht : th_w w = true := (List.mem_filter.mp h1).2
    refine va_Nw.use ?_ hz
    cases w <;> first | rfl | (simp [th_w] at ht; done)
  · subst h1; exact hZ.2.2.1.1
  · subst h1; exact hZ.2.2.1.2
  · subst h1; exact hZ.2.2.2.1.1
  · subst h1; exact hZ.2.2.2.1.2
theorem th_frame {s U : State} {locs : List Loc} {k n : Nat} (h : s.sameButNew ({ U with vm := s.vm } : State) locs k n) : s.heap.size ≤ U.heap.size ∧ ∀ q : Nat, q < s.heap.size → (∀ z ∈ locs, z.base ≠ q) → U.heap[q]? = s.heap[q]? := by
  obtain ⟨-, h2, -, -, -, h6⟩ := h
  refine ⟨h2, fun q hq hne => ?_⟩
  obtain ⟨c', g1, g2, g3, g4⟩ := h6 q s.heap[q] (Array.getElem?_eq_getElem hq)
  have e : c' = s.heap[q] := by
    rw [g2]
    have es : c'.slots = s.heap[q].slots := by
      apply Array.ext_getElem?
      intro i
      exact g4 i (fun hi => hne _ hi rfl)
    rw [es]
  have g1 : U.heap[q]? = some c' := g1
  rw [g1, e, Array.getElem?_eq_getElem hq]
/-- a method has thrown an E; nothing that was there has changed -/
def th_Q (E : String) (mc ms : Nat) : Array Value → State → Outcome → State → Prop := fun _ st o t =>
  ∃ (q : Addr) (ce : Cell) (L : List Loc), o = .threw q ∧ t.heap[q]? = some ce ∧ ce.vm = .none ∧ st.vm.findClass E = some ce.cls ∧ st.WarmedH t.vm ∧ st.sameButNew ({ t with vm := st.vm } : State) L mc ms ∧ ∀ z ∈ L, st.heap.size ≤ z.base
def th_MQ (below : List Frame) (E : String) (mc ms : Nat) (a : Array Value) (s : State) : State → Prop := fun t => ∃ o, t.status = .running ∧ Ended t below o ∧ th_Q E mc ms a s o t
def th_Pc (D : va_G) (tys : List (ClassId × FieldType)) (As : List Value) (P : Heap → Prop) (sz : Nat) : Array Value → State → Prop := va_Pc As (fun U => U.heap.size = sz ∧ va_K D cl_all tys U ∧ th_Z U ∧ P U.heap)
/-- the contract of a method that throws an E -/
def Ct_t (l : Launch) (y : MethodName) (b : ByteArray) (maxL : Nat) (ret : Option FieldType) (rm : Room) (mc ms : Nat) (D : va_G) (tys : List (ClassId × FieldType)) (As : List Value) (P : Heap → Prop) (E : String) : Prop :=
  ∀ sz : Nat, MetFree l y (headSpec (ct_ws y b maxL ret) rm) (th_Pc D tys As P sz) (fun _ _ _ _ _ => True) (th_Q E mc ms)
section TH
variable {p : Program} {l : Launch} {e : Env} {R : Room} {s : State} {m : MethodId} {args : Array Value} {below : List Frame} {meth : Method} {c : Code} {cc : ByteArray} {nL cells slots : Nat} {Q : State → Prop} {P P' : Heap → Prop} {own : String} {pc : Nat} {lv lv' : List (Nat × Value)} {st : List Value} {D : va_G} {tys : List (ClassId × FieldType)} {a : Nat}
theorem th_blind {As : List Value} {sz : Nat} : FrameBlind (th_Pc D tys As P sz) := fun a U g mk q => by
  obtain ⟨q0, q1, qK, qZ, qP⟩ := q
  refine ⟨q0, q1, va_K.moved (u := U) (U := U.calling g mk a) (Vm.Alike.refl U.vm) qK, ?_, qP⟩
  exact qZ.up (U := U.calling g mk a) (State.WarmedH.refl U) (fun _ _ => rfl)
theorem th_of {y : MethodName} {b : ByteArray} {maxL : Nat} {ret : Option FieldType} {rm : Room} {mc ms : Nat} {As : List Value} {E : String} {sz : Nat} (hy : plainName y.cls = true) (hAs : (lg_sl As).length ≤ maxL)
    (body : ∀ (p : Program) (e : Env) (s : State) (m : MethodId) (args : Array Value) (below : List Frame) (meth : Method) (c : Code), s.heap.size = sz → CallFix p m c b maxL s args tb_G y.cls → meth.locks = false → c.exceptionTable.isEmpty = true → va_K D cl_all tys s → th_Z s →
      AW p l e rm s m args below meth c maxL 0 0 (th_MQ below E mc ms args s) P (fun q => s.heap.size ≤ q) 0 (lv_args 0 As) []) :
    MetFree l y (headSpec (ct_ws y b maxL ret) rm) (th_Pc D tys As P sz) (fun _ _ _ _ _ => True) (th_Q E mc ms) := by
  refine MetFree.of_bodyS (code := b) (maxLocals := maxL) (ret := ret) hy ?_ ?_
  · intro args s m h hn
    obtain ⟨meth, c, h1, h2, h3, h4, h5, h6, -, -⟩ := Cond.code_spec hn (atoms_spec (ws := ct_ws y b maxL ret) h _ List.mem_cons_self)
    exact ⟨meth, c, h1, h2, h3, h4, h5, h6⟩
  · intro p e s m args below meth c s₁ B hml hv _
    obtain ⟨rfl, hsz, hK, hZ, hP⟩ := hv
    have hts := atoms_spec (ws := ct_ws y b maxL ret) B.pre
    have hown : s.vm.findClass y.cls = some m.cls := findClass_of_methodNamed B.named
    have hno := B.noHandlers (hts _ List.mem_cons_self)
    have hh0 : s₁.heap = s.heap := by rw [B.state]; rfl
    have w := body p e s m As.toArray below meth c hsz ⟨B.exec, B.bytes, hml, hown, fun w hw => hts w (List.mem_cons_of_mem _ hw)⟩ B.notSynchronized hno hK hZ s.heap [] _ hP va_S.rf (lv_entry As hAs)
    obtain ⟨t, a1, o, b1, b2, b3⟩ := w s₁ hh0 (Stand.of_body B)
    refine ⟨t, o, ?_, b1, b2, b3⟩
    rw [lg_entry_eq]
    exact a1
/-- throw new E("text") -/
theorem aw_throw {cls text : String} {ik is ic mc ms : Nat} (C : CallFix p m c cc nL s args tb_G own) (hl : l.stackTraces = false) (hZ : th_Z s) (hno : c.exceptionTable.isEmpty = true) (hlk : meth.locks = false) (hcls : Bundle.fit cls = true) (hk : (.classLink own ik cls : Cond) ∈ tb_G) (hini : (.initialized cls : Cond) ∈ tb_G) (hin : (.instantiable cls 6 : Cond) ∈ tb_G)
    (hat : (Bundle.ownAtoms own ic cls th_up).all th_ok = true) (hs : (Cond.stringRef own is text) ∈ lw_tbl)
    (d0 : decode cc pc = .ok (.new ik, 3)) (d3 : decode cc (pc + 3) = .ok (.dup, 1)) (d4 : decode cc (pc + 4) = .ok (.ldc is, 2)) (d6 : decode cc (pc + 6) = .ok (.invokespecial ic, 3)) (d9 : decode cc (pc + 9) = .ok (.athrow, 1))
    (hfr : 5 < R.frames) (hlo : (st.map fun v => v.category).sum + 82 ≤ R.locals) (hce : cells + 1 ≤ R.cells) (hsl : slots + 6 ≤ R.slots) (hmc : cells + 1 ≤ mc) (hms : slots + 6 ≤ ms) :
    AW p l e R s m args below meth c nL cells slots (th_MQ below cls mc ms args s) P (fun q => s.heap.size ≤ q) pc lv st := by
  intro H locs ls _ hS hlv T hT X
  obtain ⟨hx, hb, hml, hown, hts⟩ := C
  have htr : e.platform.stackTraces = false := by rw [X.admits.platform]; exact hl
  obtain ⟨sa, hsa⟩ := hZ.2.1 own is text hs
  have hall := th_use hts hZ hat
  obtain ⟨vm₁, cX, kX, hfX, hkX, -, -, X₁, st1⟩ := X.newCold hx hown (hts _ hk) (hts _ hin) (hts _ hini) (g := F0 m pc ls st) rfl (by rw [hb]; exact d0) hce hsl
  generalize hT1 : (T.setVm vm₁).pushCell { cls := cX, slots := kX.instanceTypes.map defaultValue, vm := .none } = T1 at X₁ st1
  have hcell : T1.heap[T.heap.size]? = some (freshCell cX kX) := by rw [← hT1]; exact State.heap_pushCell_size _ _
  have hnew : s.heap.size ≤ T.heap.size := by rw [hT]; exact hS.1
  have hsz : ls.size = c.maxLocals := hlv.1.trans hml.symm
  obtain ⟨U, k1, k2, k3, k4, k5, ce, k6, k7⟩ := X₁.ctorThrowS hx htr (own := own) (cls := cls) (names := th_up) (ic := ic) hown hcls (by decide) hall (fun x hx' cell h9 => absurd (Array.getElem?_eq_some_iff.mp h9).1 (Nat.not_lt.mpr (hS.2.2 x hx'))) hfX hkX hcell hnew (msg := .ref sa) rfl
    (g := F0 m (pc + 6) ls (.ref sa :: .ref T.heap.size :: .ref T.heap.size :: st)) rfl hsz rfl rfl (rest := st) rfl (by rw [hb]; exact d6) (by rw [hb]; exact d9) (fun x hx' => by rw [Array.isEmpty_iff.mp hno] at hx'; simp at hx') hfr (by show 2 * 0 + (1 + (st.map fun v => v.category).sum) + _ ≤ _; simp only [th_up, List.length_cons, List.length_nil]; omega) hlk
  refine ⟨U, ?_, .threw T.heap.size, k2, k3, T.heap.size, ce, locs, rfl, k6, k7.vm, k7.cls, k4, k5.mono hmc hms, hS.2.2⟩
  refine st1 _ ?_
  show Steps p.tables e below (T1.setTop (F0 m (pc + 3) ls (.ref T.heap.size :: st))) U
  have d3' : decode c.code (pc + 3) = .ok (.dup, 1) := by rw [hb]; exact d3
  jvm_step X₁.here [X₁.here.top, hx, d3', Value.category]
  exact X₁.ldcString hx hown (by exact hsa.1) (by exact hsa.2) (g := F0 m (pc + 4) ls (.ref T.heap.size :: .ref T.heap.size :: st)) rfl (by rw [hb]; exact d4) _ k1
end TH
end
section
/-! CALLS OF METHODS THAT THROW -/
section TC
variable {p : Program} {l : Launch} {e : Env} {R : Room} {s : State} {m : MethodId} {args : Array Value} {below : List Frame} {meth : Method} {c : Code} {cc : ByteArray} {nL cells slots : Nat} {Q : State → Prop} {P P' : Heap → Prop} {A : Nat → Prop} {own : String} {pc : Nat} {lv lv' : List (Nat × Value)} {st : List Value} {D : va_G} {tys : List (ClassId × FieldType)} {a : Nat} {T : State} {locs : List Loc}
/-- the callee's run: it comes back with the note that q is thrown -/
theorem th_back {y : MethodName} {b2 : ByteArray} {mL2 mc ms len : Nat} {ret2 : Option FieldType} {rm2 : Room} {Pc : Array Value → State → Prop} {E : String} {mk : MethodId} {av : Array Value} {ig : Instr} {g : JFrame}
    (hM : MetFree l y (headSpec (ct_ws y b2 mL2 ret2) rm2) Pc (fun _ _ _ _ _ => True) (th_Q E mc ms)) (X : Stand p l e R s m args below meth c T locs cells slots) (hws : ∀ w ∈ ct_ws y b2 mL2 ret2, ∀ (a' : Array Value) (U : State), s.WarmedH U.vm → w.before a' U = true) (hini : (Cond.initialized y.cls).before args s = true)
    (hg : g.method = m) (hsize : g.locals.size = c.maxLocals) (hdg : decode c.code g.pc = .ok (ig, len)) (hW8 : 2 * g.monitorRoom + (g.stack.map fun v => v.category).sum ≤ 8) (hn : T.methodNamed? y = some mk)
    (hfr : rm2.frames + 1 ≤ R.frames) (hlo : 8 + (mL2 + 11) + rm2.locals ≤ R.locals) (hce : cells + rm2.cells ≤ R.cells) (hsl : slots + rm2.slots ≤ R.slots) (hP : Pc av (T.calling g mk av)) :
    ∃ (q : Addr) (ce : Cell) (L : List Loc) (T' : State), Stand p l e R s m args below meth c T' (locs ++ L) (cells + mc) (slots + ms) ∧ T'.heap[q]? = some ce ∧ ce.vm = .none ∧ T.vm.findClass E = some ce.cls ∧ T.WarmedH T'.vm ∧ T.sameButNew (T'.setVm T.vm) L mc ms ∧ (∀ z ∈ L, T.heap.size ≤ z.base) ∧
      Steps p.tables e below (doInvoke e (T.setTop g) [] mk av).1 ((T'.setTop g).pushFrame (.throwing q)) := by
  have hw := X.warmed
  have h1 : (headSpec (ct_ws y b2 mL2 ret2) rm2).pre.before av T = true := atoms_intro fun w hw' => hws w hw' _ _ hw
  have h2 : (Cond.code y b2 mL2 ret2).before av T = true := hws _ List.mem_cons_self _ _ hw
  have h3 : (Cond.initialized y.cls).before av T = true := word_at hw (Or.inl (by first | rfl | simp [Cond.onTables, Cond.keeps, Cond.steady])) hini
  obtain ⟨methY, cY, hmY, hcY, -, hlY, -, -, -, -⟩ := Cond.code_spec hn h2
  obtain ⟨kY, hkY, -⟩ := className_of_methodNamed hn
  have hinitY : kY.init = .initialized := Cond.initialized_spec (findClass_of_methodNamed hn) hkY h3
  have h : At T g.method c below := by rw [hg]; exact X.here
  have happ : (headSpec (ct_ws y b2 mL2 ret2) rm2).appliesLoose y e.platform (T.calling g mk av) = true :=
    Spec.appliesLoose_calling (g := g) h hdg hn hkY hinitY
      (X.room_calling (g := g) (R' := (headSpec (ct_ws y b2 mL2 ret2) rm2).room) hsize hmY hcY hfr (by rw [hlY]; show _ + (mL2 + 11) + rm2.locals ≤ _; omega) hce hsl) h1
  obtain ⟨mid, hmid⟩ := h.above
  have hfrm : (T.setTop g).frames = (.java g :: mid) ++ below := by rw [State.frames_setTop' g h.top, hmid]; rfl
  obtain ⟨o, s₂, hsteps, -, hend, hq⟩ := Steps.callFree hM p X.admits X.cas X.clock (acts := []) hfrm happ hP trivial
  have htail : T.frames.tail = below := X.tail
  rw [State.frames_setTop' g h.top, htail] at hend
  obtain ⟨q, ce, L, rfl, k1, k2, k3, k4, k5, k6⟩ := hq
  obtain ⟨T', X', w1, w2, e1⟩ := X.outOfThrown hg hend k4 k5
  refine ⟨q, ce, L, T', X', ?_, k2, k3, w1, w2, k6, by rw [← e1]; exact hsteps⟩
  have : s₂.heap = T'.heap := by rw [e1]; exact Stand.throwing_heap T' g q
  rw [← this]; exact k1
/-- a call on an own object that throws: it goes on to the caller's caller -/
theorem aw_callVT {P2 : Heap → Prop} {y : MethodName} {b2 : ByteArray} {mL2 mc ms n index MC MS : Nat} {ret2 : Option FieldType} {rm2 : Room} {Cn E : String} {stk : List Value} (As : List Value) (C : CallFix p m c cc nL s args tb_G own) (hK : va_K D cl_all tys s) (hZ : th_Z s) (hno : c.exceptionTable.isEmpty = true) (hlk : meth.locks = false)
    (hc : Ct_t l y b2 mL2 ret2 rm2 mc ms D tys (.ref a :: As) P2 E) (cw : CallW R s args own Cn index y b2 mL2 ret2 (ct_ws y b2 mL2 ret2) rm2 mc ms n) (hn : As.length = n) (hrecv : ∀ H, P H → ∃ cell : Cell, H[a]? = some cell ∧ cell.vm.isStatics = false ∧ s.vm.findClass Cn = some cell.cls) (hpre : ∀ H, P H → P2 H)
    (hst : stk = As.reverse ++ .ref a :: st) (hroom : (st.map fun v => v.category).sum ≤ 8) (hd : decode cc pc = .ok (.invokevirtual index, 3)) (hcs : cells + mc ≤ R.cells ∧ slots + ms ≤ R.slots) (hmc : cells + mc ≤ MC) (hms : slots + ms ≤ MS) :
    AW p l e R s m args below meth c nL cells slots (th_MQ below E MC MS args s) P (fun q => s.heap.size ≤ q) pc lv stk := fun H locs ls hPH hS hl T hT X => by
  obtain ⟨⟨hrc, hrs, hfr, hlo, hws, -, hcode, hini, hy, hlen, hlink⟩, hin, hse⟩ := cw
  obtain ⟨hx, hb, hml, ho, hts⟩ := C
  obtain ⟨cellB, hcB, hoB, hclB⟩ := hrecv H hPH
  obtain ⟨mk, methM, hnamed, hmethM, hstM, habM⟩ := Cond.instanceMethod_spec hin
  obtain ⟨methM', cM, hmethM', -, -, -, -, -, -, hsigM⟩ := Cond.code_spec hnamed hcode
  cases hmethM.symm.trans hmethM'
  obtain ⟨c2, r2, m2, q1, q2, q3, q4, kP, hkP, hkPi⟩ := Cond.selects_spec hse
  cases hclB.symm.trans q1
  cases (State.methodFound?_of_named hnamed hy).symm.trans q2
  cases hnamed.symm.trans q3
  have hselP : selectMethod e.platform s.vm cellB.cls mk = .method mk := by rw [Launch.admits_selectMethod X.admits]; exact q4
  obtain ⟨vm₁, X₁, hstep₁⟩ := X.invokevirtual hx ho hlink hnamed hmethM hstM hkP hkPi hy (a := a) (cell := cellB) (by rw [hT]; exact hcB) (fun z h => by rw [h] at hoB; cases hoB) hselP hmethM habM hkP hkPi (g := F0 m pc ls stk) rfl (argsL := As) (rest := st) (hn.trans (hlen _ hsigM)) hst (by rw [hb]; exact hd)
  have hH : (T.setVm vm₁).heap = H := hT
  have hPc : th_Pc D tys (.ref a :: As) P2 H.size (Value.ref a :: As).toArray (T.setVm vm₁) := ⟨rfl, by rw [hH], va_K.moved X₁.warmed.alike hK, hZ.up X₁.warmed (fun q h => by rw [hH]; exact hS.2.1 q h (Nat.not_le.mpr h)), by rw [hH]; exact hpre H hPH⟩
  obtain ⟨q, ce, L, T', X', k1, k2, k3, k4, k5, k6, k7⟩ := th_back (hc H.size) X₁ hws hini (g := { F0 m pc ls stk with stack := st }) (mk := mk) (av := (Value.ref a :: As).toArray) rfl (hl.1.trans hml.symm) (by rw [hb]; exact hd) (lv_room (m := m) (pc := pc) (ls := ls) (rest := st) hroom) (X₁.named hnamed) hfr hlo (by rw [hrc]; exact hcs.1) (by rw [hrs]; exact hcs.2) (th_blind _ _ _ _ hPc)
  obtain ⟨w1, w2, w3, w4, w5⟩ := X'.leaveThrown q (g := { F0 m pc ls stk with stack := st }) rfl rfl rfl (fun x hx' => by rw [Array.isEmpty_iff.mp hno] at hx'; simp at hx') hlk
  refine ⟨_, hstep₁ _ fun acts => ?_, .threw q, w2, w3, q, ce, locs ++ L, rfl, k1, k2, ?_, w4, w5.mono hmc hms, fun z hz => ?_⟩
  · rw [doInvoke_state]; exact k7.trans w1
  · rw [← X₁.warmed.alike.findClass]; exact k3
  · rcases List.mem_append.mp hz with h | h
    · exact hS.2.2 z h
    · exact Nat.le_trans hS.1 (by have := k6 z h; rw [hH] at this; exact this)
end TC
end
section
/-! CATCHING: the rows of an exception table may name classes that are linked, resolved or not -/
/-- the table's rows lead the object of class cl to the handler h -/
def tc_R (s : State) (pl : Platform) (dc : ClassId) (pc : Nat) (cl : ClassId) (h : Nat) : List ExceptionTableEntry → Prop
  | [] => False
  | x :: t => (covers x pc = false ∧ tc_R s pl dc pc cl h t) ∨ (covers x pc = true ∧ x.catchType ≠ 0 ∧ ∃ c, s.vm.ClassLinks pl dc x.catchType c ∧ ((s.vm.assignable cl c = true ∧ x.handlerPc = h) ∨ (s.vm.assignable cl c = false ∧ tc_R s pl dc pc cl h t)))
theorem tc_one {Q : Handler → Pre} {E : CtlPost} {e : Env} {d : Bool} {acts : List Action} {S : State} {f : JFrame} {a : Addr} {x : ExceptionTableEntry} {t : List ExceptionTableEntry} {c : ClassId} {cell : Cell} (hx : covers x f.pc = true) (h0 : x.catchType ≠ 0)
    (hl : S.vm.ClassLinks e.platform f.method.cls x.catchType c) (hcell : S.heap[a]? = some cell) (hobj : ∀ k, cell.vm ≠ .statics k) (hk : ∃ k, S.vm.classes[cell.cls]? = some k) (hc : ∃ k, S.vm.classes[c]? = some k) :
    wp (findHandler.go f a (x :: t)) Q E e d acts S ↔ if S.vm.assignable cell.cls c = true then Q (.found x.handlerPc) d acts (S.setVm (S.vm.noted f.method.cls x.catchType (.cls c))) else wp (findHandler.go f a t) Q E e d acts (S.setVm (S.vm.noted f.method.cls x.catchType (.cls c))) := by
  obtain ⟨r1, r2⟩ := (resolveClass_links e.toSetting hl).op (op := VmOp.resolveClass f.method.cls x.catchType) rfl
  have hal : S.vm.Alike (S.vm.noted f.method.cls x.catchType (.cls c)) := (Vm.Alike.refl S.vm).noted _ _ _
  obtain ⟨k1, hk1⟩ := hk
  obtain ⟨k2, hk2⟩ := hc
  obtain ⟨k1', hk1', -⟩ := hal.2.2 _ _ hk1
  obtain ⟨k2', hk2', -⟩ := hal.2.2 _ _ hk2
  have hx' := hx
  simp only [covers] at hx'
  have hasg := hal.assignable cell.cls c
  by_cases hf : S.vm.assignable cell.cls c = true
  · rw [if_pos hf]
    rw [hf] at hasg
    simp [findHandler.go, hx', h0, r1, r2, hcell, hobj, hk1', hk2', hasg, VmOp.dirties, VmOp.acts]
  · rw [if_neg hf]
    have hf' : S.vm.assignable cell.cls c = false := by simpa using hf
    rw [hf'] at hasg
    simp [findHandler.go, hx', h0, r1, r2, hcell, hobj, hk1', hk2', hasg, VmOp.dirties, VmOp.acts]
theorem tc_go {e : Env} {s : State} {f : JFrame} {a : Addr} {cell : Cell} {h : Nat} (hobj : ∀ k, cell.vm ≠ .statics k) (hk : ∃ k, s.vm.classes[cell.cls]? = some k) :
    ∀ (ys : List ExceptionTableEntry) (S : State), tc_R s e.platform f.method.cls f.pc cell.cls h ys → s.WarmedH S.vm → S.heap[a]? = some cell →
      ∃ vm', s.WarmedH vm' ∧ ∀ (Q : Handler → Pre) (E : CtlPost) (d : Bool) (acts : List Action), wp (findHandler.go f a ys) Q E e d acts S ↔ Q (.found h) d acts (S.setVm vm') := by
  intro ys
  induction ys with
  | nil => intro S hR _ _; exact hR.elim
  | cons x t ih =>
    intro S hR hW hcell
    rcases hR with ⟨hno, hR⟩ | ⟨hx, h0, c, hl, hend⟩
    · obtain ⟨vm', w1, w2⟩ := ih S hR hW hcell
      exact ⟨vm', w1, fun Q E d acts => by rw [W.findHandler_go_skip hno]; exact w2 Q E d acts⟩
    · obtain ⟨k0, hk0⟩ := hk
      obtain ⟨k0', hk0', -⟩ := hW.alike.2.2 _ _ hk0
      obtain ⟨dk, _, _, kt, hd, _, _, _, _, hkt, _, hopen⟩ := hl.here
      obtain ⟨kt', hkt', -⟩ := hW.alike.2.2 _ _ hkt
      have hW2 := hW.noted hd hopen (State.rightAt_cls hl)
      have key := fun (Q : Handler → Pre) (E : CtlPost) (d : Bool) (acts : List Action) => tc_one (Q := Q) (E := E) (d := d) (acts := acts) (t := t) hx h0 (hW.classLinks hl) hcell hobj ⟨k0', hk0'⟩ ⟨kt', hkt'⟩
      have hasg := hW.alike.assignable cell.cls c
      rcases hend with ⟨ha, rfl⟩ | ⟨ha, hR⟩
      · exact ⟨_, hW2, fun Q E d acts => by rw [key Q E d acts, if_pos (by rw [hasg]; exact ha)]⟩
      · obtain ⟨vm', w1, w2⟩ := ih (S.setVm (S.vm.noted f.method.cls x.catchType (.cls c))) hR hW2 hcell
        exact ⟨vm', w1, fun Q E d acts => by rw [key Q E d acts, if_neg (by rw [hasg, ha]; decide)]; exact w2 Q E d acts⟩
section TD
variable {p : Program} {l : Launch} {e : Env} {R : Room} {s : State} {m : MethodId} {args : Array Value} {below : List Frame} {meth : Method} {c : Code} {cc : ByteArray} {nL cells slots : Nat} {Q : State → Prop} {P P' : Heap → Prop} {A : Nat → Prop} {own : String} {pc : Nat} {lv lv' : List (Nat × Value)} {st : List Value} {D : va_G} {tys : List (ClassId × FieldType)} {a : Nat} {T : State} {locs : List Loc}
/-- from the note of a thrown object on to the handler -/
theorem tc_caught (X : Stand p l e R s m args below meth c T locs cells slots) {g : JFrame} (hg : g.method = m) {q : Addr} {cell : Cell} {h : Nat} (hcell : T.heap[q]? = some cell) (hv : cell.vm = .none) (hk : ∃ k, s.vm.classes[cell.cls]? = some k) (hR : tc_R s e.platform m.cls g.pc cell.cls h c.exceptionTable.toList) :
    ∃ vm', Stand p l e R s m args below meth c (T.setVm vm') locs cells slots ∧ ∀ target, Steps p.tables e below ((T.setVm vm').setTop { g with pc := h, stack := [.ref q] }) target → Steps p.tables e below ((T.setTop g).pushFrame (.throwing q)) target := by
  subst hg
  have hS1 : ((T.setTop g).pushFrame (.throwing q)).vm = T.vm := Stand.throwing_vm T g q
  have hS2 : ((T.setTop g).pushFrame (.throwing q)).heap = T.heap := Stand.throwing_heap T g q
  obtain ⟨vm', hW', hw⟩ := tc_go (e := e) (f := g) (a := q) (fun k hq => by rw [hv] at hq; cases hq) hk c.exceptionTable.toList ((T.setTop g).pushFrame (.throwing q)) hR (by rw [hS1]; exact X.warmed) (by rw [hS2]; exact hcell)
  refine ⟨vm', X.noted hW', fun target hrest => ?_⟩
  have hm : ((T.setTop g).pushFrame (.throwing q)).vm.method? g.method = some meth := by rw [hS1]; exact X.method'
  have hfind : ∀ (Q : Handler → Pre) (E : CtlPost) (d : Bool) (acts : List Action), wp (findHandler g q) Q E e d acts ((T.setTop g).pushFrame (.throwing q)) ↔ Q (.found h) d acts (((T.setTop g).pushFrame (.throwing q)).setVm vm') := fun Q E d acts => by rw [W.findHandler_eq hm X.code]; exact hw Q E d acts
  obtain ⟨hgo, hws⟩ := X.here.throwing (g := g) q
  refine Steps.head hgo hws ?_
  have hstep : (stepThrowing e ((T.setTop g).pushFrame (.throwing q)) q (.java g :: T.frames.tail)).Is ((((T.setTop g).pushFrame (.throwing q)).setVm vm').setFrames (.java { g with pc := h, stack := [.ref q] } :: T.frames.tail)) [] := by
    simp only [stepThrowing, searchFrame, vmDo]
    generalize hr : Sem.go _ e false [] ((T.setTop g).pushFrame (.throwing q)) = res
    obtain ⟨as, rfl, ha⟩ := Sem.eq_ok_of hr (a := Handler.found h) (s' := ((T.setTop g).pushFrame (.throwing q)).setVm vm') (acts' := []) (by simp [hfind _ _ _ _])
    exact ⟨rfl, ha⟩
  rw [stepThread_throwing (frames_entered X.here.top _), hstep.1]
  obtain ⟨g₀, hg0⟩ := Option.isSome_iff_exists.mp X.here.top
  obtain ⟨r, hr⟩ := State.topJava?_eq_some.mp hg0
  have hr' : (T.setVm vm').frames = .java g₀ :: r := hr
  rw [State.setTop_of_frames _ hr'] at hrest
  have e1 : ∀ (u : State) (F G : List Frame), ((u.setFrames F).setVm vm').setFrames G = (u.setVm vm').setFrames G := fun u F G => by
    show ((u.setVm vm').setFrames F).setFrames G = _
    rw [State.setFrames_setFrames]
  rw [hr, List.tail_cons, State.pushFrame, e1, State.setTop_of_frames _ hr, e1]
  exact hrest
end TD
end
section
theorem nx_Is : (.instantiable R_Is 6 : Cond) ∈ tb_G := tb_in 328 (by decide +kernel) (by decide +kernel)
theorem oa_Is : (Bundle.ownAtoms R_De 53 R_Is th_up).all th_ok = true := by decide +kernel
theorem bf_Is : Bundle.fit R_Is = true := by decide +kernel
theorem nx_Ia : (.instantiable R_Ia 6 : Cond) ∈ tb_G := tb_in 415 (by decide +kernel) (by decide +kernel)
theorem oa_Ia : (Bundle.ownAtoms R_De 75 R_Ia th_up).all th_ok = true := by decide +kernel
theorem bf_Ia : Bundle.fit R_Ia = true := by decide +kernel
theorem sr_51 : (Cond.stringRef R_De 51 "there are 14 desks") ∈ lw_tbl := List.mem_of_getElem? (i := 367) (by decide +kernel)
theorem sr_63 : (Cond.stringRef R_De 63 "there are 10 persons") ∈ lw_tbl := List.mem_of_getElem? (i := 401) (by decide +kernel)
theorem sr_200 : (Cond.stringRef R_De 200 "there is no such person") ∈ lw_tbl := List.mem_of_getElem? (i := 423) (by decide +kernel)
theorem sr_202 : (Cond.stringRef R_De 202 "there is no such desk") ∈ lw_tbl := List.mem_of_getElem? (i := 434) (by decide +kernel)
theorem sr_73 : (Cond.stringRef R_De 73 "a wish is 0 .. 1000") ∈ lw_tbl := List.mem_of_getElem? (i := 435) (by decide +kernel)
theorem sr_210 : (Cond.stringRef R_De 210 "it is the old desk of another person") ∈ lw_tbl := List.mem_of_getElem? (i := 454) (by decide +kernel)
theorem sr_208 : (Cond.stringRef R_De 208 "no seating is made") ∈ lw_tbl := List.mem_of_getElem? (i := 473) (by decide +kernel)
theorem sr_121 : (Cond.stringRef R_De 121 "what is 0 .. 2, k is not below 0") ∈ lw_tbl := List.mem_of_getElem? (i := 481) (by decide +kernel)
theorem sr_123 : (Cond.stringRef R_De 123 "there is no such step") ∈ lw_tbl := List.mem_of_getElem? (i := 482) (by decide +kernel)
theorem sr_134 : (Cond.stringRef R_De 134 "places are 1 .. 200") ∈ lw_tbl := List.mem_of_getElem? (i := 504) (by decide +kernel)
theorem sr_139 : (Cond.stringRef R_De 139 "there are 8 rooms") ∈ lw_tbl := List.mem_of_getElem? (i := 505) (by decide +kernel)
theorem sr_144 : (Cond.stringRef R_De 144 "persons are 1 .. 200") ∈ lw_tbl := List.mem_of_getElem? (i := 513) (by decide +kernel)
theorem sr_146 : (Cond.stringRef R_De 146 "minutes are 0 .. 10080, from before to") ∈ lw_tbl := List.mem_of_getElem? (i := 514) (by decide +kernel)
theorem sr_151 : (Cond.stringRef R_De 151 "there were 300 bookings") ∈ lw_tbl := List.mem_of_getElem? (i := 515) (by decide +kernel)
theorem sr_212 : (Cond.stringRef R_De 212 "there never was such a booking") ∈ lw_tbl := List.mem_of_getElem? (i := 568) (by decide +kernel)
theorem sr_204 : (Cond.stringRef R_De 204 "there is no such room") ∈ lw_tbl := List.mem_of_getElem? (i := 591) (by decide +kernel)
theorem sr_206 : (Cond.stringRef R_De 206 "a minute is 0 .. 10079") ∈ lw_tbl := List.mem_of_getElem? (i := 596) (by decide +kernel)
theorem sr_190 : (Cond.stringRef R_De 190 "minutes are 1 .. 10080") ∈ lw_tbl := List.mem_of_getElem? (i := 604) (by decide +kernel)
end
section
/-! THE CLASS'S WORLD: ad kind index = address; S = (ints by tag, index, place; longs by tag, index; references by tag, index: an index or none) -/
abbrev ds_S : Type := (Nat → Nat → Nat → Int32) × (Nat → Nat → Int64) × (Nat → Nat → Option Nat)
def ds_u3 (f : Nat → Nat → Nat → Int32) (t i j : Nat) (x : Int32) : Nat → Nat → Nat → Int32 := fun t' i' j' => if t' = t ∧ i' = i ∧ j' = j then x else f t' i' j'
def ds_u2 {α : Type} (f : Nat → Nat → α) (t i : Nat) (x : α) : Nat → Nat → α := fun t' i' => if t' = t ∧ i' = i then x else f t' i'
def ds_wI (S : ds_S) (t i j : Nat) (x : Int32) : ds_S := (ds_u3 S.1 t i j x, S.2)
def ds_wJ (S : ds_S) (t i : Nat) (x : Int64) : ds_S := (S.1, ds_u2 S.2.1 t i x, S.2.2)
def ds_wR (S : ds_S) (t i : Nat) (x : Option Nat) : ds_S := (S.1, S.2.1, ds_u2 S.2.2 t i x)
theorem ds_u3_s (f : Nat → Nat → Nat → Int32) (t i j : Nat) (x : Int32) : ds_u3 f t i j x t i j = x := if_pos ⟨rfl, rfl, rfl⟩
theorem ds_u3_n {f : Nat → Nat → Nat → Int32} {t i j : Nat} {x : Int32} {t' i' j' : Nat} (h : ¬ (t' = t ∧ i' = i ∧ j' = j)) : ds_u3 f t i j x t' i' j' = f t' i' j' := if_neg h
theorem ds_u2_s {α : Type} (f : Nat → Nat → α) (t i : Nat) (x : α) : ds_u2 f t i x t i = x := if_pos ⟨rfl, rfl⟩
theorem ds_u2_n {α : Type} {f : Nat → Nat → α} {t i : Nat} {x : α} {t' i' : Nat} (h : ¬ (t' = t ∧ i' = i)) : ds_u2 f t i x t' i' = f t' i' := if_neg h
def ds_dm (nb k i : Nat) : Prop := match k with
  | 0 => i = 0
  | 1 => i = 0
  | 2 => i = 0
  | 3 => i = 0
  | 4 => i = 0
  | 5 => i = 0
  | 6 => i = 0
  | 7 => i = 0
  | 8 => i = 0
  | 9 => i = 0
  | 10 => i < 10
  | 11 => i < 10
  | 12 => i < 10
  | 13 => i < 14
  | 14 => i < 8
  | 15 => i < nb
  | _ => False
def ds_ce (ad : Nat → Nat → Nat) (cA : Nat → ClassId) (nb : Nat) (S : ds_S) (k i : Nat) : va_E := match k with
  | 0 => .inr (6, [.ref (ad 1 0), .ref (ad 2 0), .ref (ad 4 0), .ref (ad 8 0), .ref (ad 9 0), .int (S.1 0 i 0), .int (S.1 1 i 0), .int (S.1 2 i 0), .int (S.1 3 i 0), .int (S.1 4 i 0), .int (S.1 5 i 0)])
  | 1 => .inl (cA 2, 10, .inr (.inr (.inr (.inr (fun j => some (ad 10 j))))))
  | 2 => .inr (1, [.ref (ad 3 0), .int (S.1 6 i 0)])
  | 3 => .inl (cA 3, 14, .inr (.inr (.inr (.inr (fun j => some (ad 13 j))))))
  | 4 => .inr (5, [.ref (ad 5 0), .ref (ad 6 0), .ref (ad 7 0), .int (S.1 7 i 0), .int (S.1 8 i 0), .int (S.1 9 i 0)])
  | 5 => .inl (cA 0, 15, .inl (fun j => S.1 16 i j))
  | 6 => .inl (cA 0, 15, .inl (fun j => S.1 17 i j))
  | 7 => .inl (cA 0, 15, .inl (fun j => S.1 18 i j))
  | 8 => .inl (cA 4, 8, .inr (.inr (.inr (.inr (fun j => some (ad 14 j))))))
  | 9 => .inl (cA 5, 300, .inr (.inr (.inr (.inr (fun j => if j < nb then some (ad 15 j) else none)))))
  | 10 => .inr (2, [.int (nI i), .ref (ad 11 i), .ref (ad 12 i), .int (S.1 12 i 0), .int (S.1 13 i 0), .int (S.1 14 i 0), .long (S.2.1 0 i)])
  | 11 => .inl (cA 0, 14, .inl (fun j => S.1 10 i j))
  | 12 => .inl (cA 1, 14, .inl (fun j => S.1 11 i j))
  | 13 => .inr (4, [va_rf ((S.2.2 0 i).map (ad 10)), .long (S.2.1 1 i), .long (S.2.1 2 i), va_rf ((S.2.2 1 i).map (ad 13)), .int (S.1 15 i 0)])
  | 14 => .inr (3, [.int (nI i), .int (S.1 19 i 0), va_rf ((S.2.2 2 i).map (ad 15))])
  | 15 => .inr (0, [.int (nI i), va_rf ((S.2.2 4 i).map (ad 14)), .int (S.1 20 i 0), .int (S.1 21 i 0), .int (S.1 22 i 0), va_rf ((S.2.2 3 i).map (ad 15))])
  | _ => .inr (0, [])
def ds_ty (cA : Nat → ClassId) : List (ClassId × FieldType) := [(cA 0, .int), (cA 1, .boolean), (cA 2, .object "DeskMoves$Person"), (cA 3, .object "DeskMoves$Spot"), (cA 4, .object "DeskMoves$Room"), (cA 5, .object "DeskMoves$Booking"), (cA 6, .long)]
def ds_P (D : va_G) (ad : Nat → Nat → Nat) (cA : Nat → ClassId) (nb : Nat) (S : ds_S) (H : Heap) : Prop := ∀ k i, ds_dm nb k i → va_at D cl_all (ad k i, ds_ce ad cA nb S k i) H
def ds_I (ad : Nat → Nat → Nat) (nb : Nat) : Prop := ∀ k i k' i', ds_dm nb k i → ds_dm nb k' i' → ad k i = ad k' i' → k = k' ∧ i = i'
def ds_A (ad : Nat → Nat → Nat) (nb : Nat) : Nat → Prop := fun q => ∃ k i, ds_dm nb k i ∧ q = ad k i
theorem ds_in {ad : Nat → Nat → Nat} {nb k i sz : Nat} (h : ds_dm nb k i) : ct_A (ds_A ad nb) sz (ad k i) := Or.inl ⟨k, i, h, rfl⟩
theorem ds_wr {D : va_G} {ad : Nat → Nat → Nat} {cA : Nat → ClassId} {nb k i : Nat} {S S' : ds_S} {x : va_E} (hI : ds_I ad nb) (hd : ds_dm nb k i) (he : ds_ce ad cA nb S' k i = x) (hs : ∀ k' i', ¬ (k' = k ∧ i' = i) → ds_ce ad cA nb S' k' i' = ds_ce ad cA nb S k' i') : aw_Wr D (ds_P D ad cA nb S) (ds_P D ad cA nb S') (ad k i) x := by
  intro H H1 hP ha hz hq k' i' hd'
  by_cases h : k' = k ∧ i' = i
  · obtain ⟨rfl, rfl⟩ := h
    rw [he]
    exact ha
  · rw [hs k' i' h]
    exact (hP k' i' hd').kept (hq _ (fun e => h (hI _ _ _ _ hd' hd e)))
theorem nr_z {x : Int32} (h : x = 0 ∨ x = 1) : narrow .boolean (.int x) = .int x ∧ fits .boolean (.int x) = true := by rcases h with rfl | rfl <;> exact ⟨rfl, rfl⟩
theorem nr_vz {x : Int32} (h : x = 0 ∨ x = 1) : vp_nar .boolean x = x := by rcases h with rfl | rfl <;> rfl
theorem dw_De_deskCount {D : va_G} {ad : Nat → Nat → Nat} {cA : Nat → ClassId} {nb : Nat} {S : ds_S} {i : Nat} {x : Int32} (hI : ds_I ad nb) (hi : ds_dm nb 0 i) : aw_Wr D (ds_P D ad cA nb S) (ds_P D ad cA nb (ds_wI S 0 i 0 x)) (ad 0 i) (.inr (6, [.ref (ad 1 0), .ref (ad 2 0), .ref (ad 4 0), .ref (ad 8 0), .ref (ad 9 0), .int x, .int (S.1 1 i 0), .int (S.1 2 i 0), .int (S.1 3 i 0), .int (S.1 4 i 0), .int (S.1 5 i 0)])) := by
  refine ds_wr hI hi (by simp [ds_ce, ds_wI, ds_u3]) ?_
  intro k' i' h
  have h' : k' = 0 → ¬ i' = i := fun e1 e2 => h ⟨e1, e2⟩
  unfold ds_ce
  split <;> simp_all [ds_wI, ds_u3]
theorem dw_De_personCount {D : va_G} {ad : Nat → Nat → Nat} {cA : Nat → ClassId} {nb : Nat} {S : ds_S} {i : Nat} {x : Int32} (hI : ds_I ad nb) (hi : ds_dm nb 0 i) : aw_Wr D (ds_P D ad cA nb S) (ds_P D ad cA nb (ds_wI S 1 i 0 x)) (ad 0 i) (.inr (6, [.ref (ad 1 0), .ref (ad 2 0), .ref (ad 4 0), .ref (ad 8 0), .ref (ad 9 0), .int (S.1 0 i 0), .int x, .int (S.1 2 i 0), .int (S.1 3 i 0), .int (S.1 4 i 0), .int (S.1 5 i 0)])) := by
  refine ds_wr hI hi (by simp [ds_ce, ds_wI, ds_u3]) ?_
  intro k' i' h
  have h' : k' = 0 → ¬ i' = i := fun e1 e2 => h ⟨e1, e2⟩
  unfold ds_ce
  split <;> simp_all [ds_wI, ds_u3]
theorem dw_De_roomCount {D : va_G} {ad : Nat → Nat → Nat} {cA : Nat → ClassId} {nb : Nat} {S : ds_S} {i : Nat} {x : Int32} (hI : ds_I ad nb) (hi : ds_dm nb 0 i) : aw_Wr D (ds_P D ad cA nb S) (ds_P D ad cA nb (ds_wI S 2 i 0 x)) (ad 0 i) (.inr (6, [.ref (ad 1 0), .ref (ad 2 0), .ref (ad 4 0), .ref (ad 8 0), .ref (ad 9 0), .int (S.1 0 i 0), .int (S.1 1 i 0), .int x, .int (S.1 3 i 0), .int (S.1 4 i 0), .int (S.1 5 i 0)])) := by
  refine ds_wr hI hi (by simp [ds_ce, ds_wI, ds_u3]) ?_
  intro k' i' h
  have h' : k' = 0 → ¬ i' = i := fun e1 e2 => h ⟨e1, e2⟩
  unfold ds_ce
  split <;> simp_all [ds_wI, ds_u3]
theorem dw_De_bookingCount {D : va_G} {ad : Nat → Nat → Nat} {cA : Nat → ClassId} {nb : Nat} {S : ds_S} {i : Nat} {x : Int32} (hI : ds_I ad nb) (hi : ds_dm nb 0 i) : aw_Wr D (ds_P D ad cA nb S) (ds_P D ad cA nb (ds_wI S 3 i 0 x)) (ad 0 i) (.inr (6, [.ref (ad 1 0), .ref (ad 2 0), .ref (ad 4 0), .ref (ad 8 0), .ref (ad 9 0), .int (S.1 0 i 0), .int (S.1 1 i 0), .int (S.1 2 i 0), .int x, .int (S.1 4 i 0), .int (S.1 5 i 0)])) := by
  refine ds_wr hI hi (by simp [ds_ce, ds_wI, ds_u3]) ?_
  intro k' i' h
  have h' : k' = 0 → ¬ i' = i := fun e1 e2 => h ⟨e1, e2⟩
  unfold ds_ce
  split <;> simp_all [ds_wI, ds_u3]
theorem dw_De_seatingMade {D : va_G} {ad : Nat → Nat → Nat} {cA : Nat → ClassId} {nb : Nat} {S : ds_S} {i : Nat} {x : Int32} (hI : ds_I ad nb) (hi : ds_dm nb 0 i) : aw_Wr D (ds_P D ad cA nb S) (ds_P D ad cA nb (ds_wI S 4 i 0 x)) (ad 0 i) (.inr (6, [.ref (ad 1 0), .ref (ad 2 0), .ref (ad 4 0), .ref (ad 8 0), .ref (ad 9 0), .int (S.1 0 i 0), .int (S.1 1 i 0), .int (S.1 2 i 0), .int (S.1 3 i 0), .int x, .int (S.1 5 i 0)])) := by
  refine ds_wr hI hi (by simp [ds_ce, ds_wI, ds_u3]) ?_
  intro k' i' h
  have h' : k' = 0 → ¬ i' = i := fun e1 e2 => h ⟨e1, e2⟩
  unfold ds_ce
  split <;> simp_all [ds_wI, ds_u3]
theorem dw_De_seatingWorth {D : va_G} {ad : Nat → Nat → Nat} {cA : Nat → ClassId} {nb : Nat} {S : ds_S} {i : Nat} {x : Int32} (hI : ds_I ad nb) (hi : ds_dm nb 0 i) : aw_Wr D (ds_P D ad cA nb S) (ds_P D ad cA nb (ds_wI S 5 i 0 x)) (ad 0 i) (.inr (6, [.ref (ad 1 0), .ref (ad 2 0), .ref (ad 4 0), .ref (ad 8 0), .ref (ad 9 0), .int (S.1 0 i 0), .int (S.1 1 i 0), .int (S.1 2 i 0), .int (S.1 3 i 0), .int (S.1 4 i 0), .int x])) := by
  refine ds_wr hI hi (by simp [ds_ce, ds_wI, ds_u3]) ?_
  intro k' i' h
  have h' : k' = 0 → ¬ i' = i := fun e1 e2 => h ⟨e1, e2⟩
  unfold ds_ce
  split <;> simp_all [ds_wI, ds_u3]
theorem dw_Ma_spotCount {D : va_G} {ad : Nat → Nat → Nat} {cA : Nat → ClassId} {nb : Nat} {S : ds_S} {i : Nat} {x : Int32} (hI : ds_I ad nb) (hi : ds_dm nb 2 i) : aw_Wr D (ds_P D ad cA nb S) (ds_P D ad cA nb (ds_wI S 6 i 0 x)) (ad 2 i) (.inr (1, [.ref (ad 3 0), .int x])) := by
  refine ds_wr hI hi (by simp [ds_ce, ds_wI, ds_u3]) ?_
  intro k' i' h
  have h' : k' = 2 → ¬ i' = i := fun e1 e2 => h ⟨e1, e2⟩
  unfold ds_ce
  split <;> simp_all [ds_wI, ds_u3]
theorem dw_Wa_count {D : va_G} {ad : Nat → Nat → Nat} {cA : Nat → ClassId} {nb : Nat} {S : ds_S} {i : Nat} {x : Int32} (hI : ds_I ad nb) (hi : ds_dm nb 4 i) : aw_Wr D (ds_P D ad cA nb S) (ds_P D ad cA nb (ds_wI S 7 i 0 x)) (ad 4 i) (.inr (5, [.ref (ad 5 0), .ref (ad 6 0), .ref (ad 7 0), .int x, .int (S.1 8 i 0), .int (S.1 9 i 0)])) := by
  refine ds_wr hI hi (by simp [ds_ce, ds_wI, ds_u3]) ?_
  intro k' i' h
  have h' : k' = 4 → ¬ i' = i := fun e1 e2 => h ⟨e1, e2⟩
  unfold ds_ce
  split <;> simp_all [ds_wI, ds_u3]
theorem dw_Wa_stuck {D : va_G} {ad : Nat → Nat → Nat} {cA : Nat → ClassId} {nb : Nat} {S : ds_S} {i : Nat} {x : Int32} (hI : ds_I ad nb) (hi : ds_dm nb 4 i) : aw_Wr D (ds_P D ad cA nb S) (ds_P D ad cA nb (ds_wI S 8 i 0 x)) (ad 4 i) (.inr (5, [.ref (ad 5 0), .ref (ad 6 0), .ref (ad 7 0), .int (S.1 7 i 0), .int x, .int (S.1 9 i 0)])) := by
  refine ds_wr hI hi (by simp [ds_ce, ds_wI, ds_u3]) ?_
  intro k' i' h
  have h' : k' = 4 → ¬ i' = i := fun e1 e2 => h ⟨e1, e2⟩
  unfold ds_ce
  split <;> simp_all [ds_wI, ds_u3]
theorem dw_Wa_taken {D : va_G} {ad : Nat → Nat → Nat} {cA : Nat → ClassId} {nb : Nat} {S : ds_S} {i : Nat} {x : Int32} (hI : ds_I ad nb) (hi : ds_dm nb 4 i) : aw_Wr D (ds_P D ad cA nb S) (ds_P D ad cA nb (ds_wI S 9 i 0 x)) (ad 4 i) (.inr (5, [.ref (ad 5 0), .ref (ad 6 0), .ref (ad 7 0), .int (S.1 7 i 0), .int (S.1 8 i 0), .int x])) := by
  refine ds_wr hI hi (by simp [ds_ce, ds_wI, ds_u3]) ?_
  intro k' i' h
  have h' : k' = 4 → ¬ i' = i := fun e1 e2 => h ⟨e1, e2⟩
  unfold ds_ce
  split <;> simp_all [ds_wI, ds_u3]
theorem dw_Pe_oldDesk {D : va_G} {ad : Nat → Nat → Nat} {cA : Nat → ClassId} {nb : Nat} {S : ds_S} {i : Nat} {x : Int32} (hI : ds_I ad nb) (hi : ds_dm nb 10 i) : aw_Wr D (ds_P D ad cA nb S) (ds_P D ad cA nb (ds_wI S 12 i 0 x)) (ad 10 i) (.inr (2, [.int (nI i), .ref (ad 11 i), .ref (ad 12 i), .int x, .int (S.1 13 i 0), .int (S.1 14 i 0), .long (S.2.1 0 i)])) := by
  refine ds_wr hI hi (by simp [ds_ce, ds_wI, ds_u3]) ?_
  intro k' i' h
  have h' : k' = 10 → ¬ i' = i := fun e1 e2 => h ⟨e1, e2⟩
  unfold ds_ce
  split <;> simp_all [ds_wI, ds_u3]
theorem dw_Pe_newDesk {D : va_G} {ad : Nat → Nat → Nat} {cA : Nat → ClassId} {nb : Nat} {S : ds_S} {i : Nat} {x : Int32} (hI : ds_I ad nb) (hi : ds_dm nb 10 i) : aw_Wr D (ds_P D ad cA nb S) (ds_P D ad cA nb (ds_wI S 13 i 0 x)) (ad 10 i) (.inr (2, [.int (nI i), .ref (ad 11 i), .ref (ad 12 i), .int (S.1 12 i 0), .int x, .int (S.1 14 i 0), .long (S.2.1 0 i)])) := by
  refine ds_wr hI hi (by simp [ds_ce, ds_wI, ds_u3]) ?_
  intro k' i' h
  have h' : k' = 10 → ¬ i' = i := fun e1 e2 => h ⟨e1, e2⟩
  unfold ds_ce
  split <;> simp_all [ds_wI, ds_u3]
theorem dw_Pe_place {D : va_G} {ad : Nat → Nat → Nat} {cA : Nat → ClassId} {nb : Nat} {S : ds_S} {i : Nat} {x : Int32} (hI : ds_I ad nb) (hi : ds_dm nb 10 i) : aw_Wr D (ds_P D ad cA nb S) (ds_P D ad cA nb (ds_wI S 14 i 0 x)) (ad 10 i) (.inr (2, [.int (nI i), .ref (ad 11 i), .ref (ad 12 i), .int (S.1 12 i 0), .int (S.1 13 i 0), .int x, .long (S.2.1 0 i)])) := by
  refine ds_wr hI hi (by simp [ds_ce, ds_wI, ds_u3]) ?_
  intro k' i' h
  have h' : k' = 10 → ¬ i' = i := fun e1 e2 => h ⟨e1, e2⟩
  unfold ds_ce
  split <;> simp_all [ds_wI, ds_u3]
theorem dw_Pe_price {D : va_G} {ad : Nat → Nat → Nat} {cA : Nat → ClassId} {nb : Nat} {S : ds_S} {i : Nat} {x : Int64} (hI : ds_I ad nb) (hi : ds_dm nb 10 i) : aw_Wr D (ds_P D ad cA nb S) (ds_P D ad cA nb (ds_wJ S 0 i x)) (ad 10 i) (.inr (2, [.int (nI i), .ref (ad 11 i), .ref (ad 12 i), .int (S.1 12 i 0), .int (S.1 13 i 0), .int (S.1 14 i 0), .long x])) := by
  refine ds_wr hI hi (by simp [ds_ce, ds_wJ, ds_u2]) ?_
  intro k' i' h
  have h' : k' = 10 → ¬ i' = i := fun e1 e2 => h ⟨e1, e2⟩
  unfold ds_ce
  split <;> simp_all [ds_wJ, ds_u2]
theorem dw_Sp_sitter {D : va_G} {ad : Nat → Nat → Nat} {cA : Nat → ClassId} {nb : Nat} {S : ds_S} {i : Nat} {x : Option Nat} (hI : ds_I ad nb) (hi : ds_dm nb 13 i) : aw_Wr D (ds_P D ad cA nb S) (ds_P D ad cA nb (ds_wR S 0 i x)) (ad 13 i) (.inr (4, [va_rf (x.map (ad 10)), .long (S.2.1 1 i), .long (S.2.1 2 i), va_rf ((S.2.2 1 i).map (ad 13)), .int (S.1 15 i 0)])) := by
  refine ds_wr hI hi (by simp [ds_ce, ds_wR, ds_u2]) ?_
  intro k' i' h
  have h' : k' = 13 → ¬ i' = i := fun e1 e2 => h ⟨e1, e2⟩
  unfold ds_ce
  split <;> simp_all [ds_wR, ds_u2]
theorem dw_Sp_price {D : va_G} {ad : Nat → Nat → Nat} {cA : Nat → ClassId} {nb : Nat} {S : ds_S} {i : Nat} {x : Int64} (hI : ds_I ad nb) (hi : ds_dm nb 13 i) : aw_Wr D (ds_P D ad cA nb S) (ds_P D ad cA nb (ds_wJ S 1 i x)) (ad 13 i) (.inr (4, [va_rf ((S.2.2 0 i).map (ad 10)), .long x, .long (S.2.1 2 i), va_rf ((S.2.2 1 i).map (ad 13)), .int (S.1 15 i 0)])) := by
  refine ds_wr hI hi (by simp [ds_ce, ds_wJ, ds_u2]) ?_
  intro k' i' h
  have h' : k' = 13 → ¬ i' = i := fun e1 e2 => h ⟨e1, e2⟩
  unfold ds_ce
  split <;> simp_all [ds_wJ, ds_u2]
theorem dw_Sp_distance {D : va_G} {ad : Nat → Nat → Nat} {cA : Nat → ClassId} {nb : Nat} {S : ds_S} {i : Nat} {x : Int64} (hI : ds_I ad nb) (hi : ds_dm nb 13 i) : aw_Wr D (ds_P D ad cA nb S) (ds_P D ad cA nb (ds_wJ S 2 i x)) (ad 13 i) (.inr (4, [va_rf ((S.2.2 0 i).map (ad 10)), .long (S.2.1 1 i), .long x, va_rf ((S.2.2 1 i).map (ad 13)), .int (S.1 15 i 0)])) := by
  refine ds_wr hI hi (by simp [ds_ce, ds_wJ, ds_u2]) ?_
  intro k' i' h
  have h' : k' = 13 → ¬ i' = i := fun e1 e2 => h ⟨e1, e2⟩
  unfold ds_ce
  split <;> simp_all [ds_wJ, ds_u2]
theorem dw_Sp_before {D : va_G} {ad : Nat → Nat → Nat} {cA : Nat → ClassId} {nb : Nat} {S : ds_S} {i : Nat} {x : Option Nat} (hI : ds_I ad nb) (hi : ds_dm nb 13 i) : aw_Wr D (ds_P D ad cA nb S) (ds_P D ad cA nb (ds_wR S 1 i x)) (ad 13 i) (.inr (4, [va_rf ((S.2.2 0 i).map (ad 10)), .long (S.2.1 1 i), .long (S.2.1 2 i), va_rf (x.map (ad 13)), .int (S.1 15 i 0)])) := by
  refine ds_wr hI hi (by simp [ds_ce, ds_wR, ds_u2]) ?_
  intro k' i' h
  have h' : k' = 13 → ¬ i' = i := fun e1 e2 => h ⟨e1, e2⟩
  unfold ds_ce
  split <;> simp_all [ds_wR, ds_u2]
theorem dw_Sp_reached {D : va_G} {ad : Nat → Nat → Nat} {cA : Nat → ClassId} {nb : Nat} {S : ds_S} {i : Nat} {x : Int32} (hI : ds_I ad nb) (hi : ds_dm nb 13 i) : aw_Wr D (ds_P D ad cA nb S) (ds_P D ad cA nb (ds_wI S 15 i 0 x)) (ad 13 i) (.inr (4, [va_rf ((S.2.2 0 i).map (ad 10)), .long (S.2.1 1 i), .long (S.2.1 2 i), va_rf ((S.2.2 1 i).map (ad 13)), .int x])) := by
  refine ds_wr hI hi (by simp [ds_ce, ds_wI, ds_u3]) ?_
  intro k' i' h
  have h' : k' = 13 → ¬ i' = i := fun e1 e2 => h ⟨e1, e2⟩
  unfold ds_ce
  split <;> simp_all [ds_wI, ds_u3]
theorem dw_Ro_places {D : va_G} {ad : Nat → Nat → Nat} {cA : Nat → ClassId} {nb : Nat} {S : ds_S} {i : Nat} {x : Int32} (hI : ds_I ad nb) (hi : ds_dm nb 14 i) : aw_Wr D (ds_P D ad cA nb S) (ds_P D ad cA nb (ds_wI S 19 i 0 x)) (ad 14 i) (.inr (3, [.int (nI i), .int x, va_rf ((S.2.2 2 i).map (ad 15))])) := by
  refine ds_wr hI hi (by simp [ds_ce, ds_wI, ds_u3]) ?_
  intro k' i' h
  have h' : k' = 14 → ¬ i' = i := fun e1 e2 => h ⟨e1, e2⟩
  unfold ds_ce
  split <;> simp_all [ds_wI, ds_u3]
theorem dw_Ro_first {D : va_G} {ad : Nat → Nat → Nat} {cA : Nat → ClassId} {nb : Nat} {S : ds_S} {i : Nat} {x : Option Nat} (hI : ds_I ad nb) (hi : ds_dm nb 14 i) : aw_Wr D (ds_P D ad cA nb S) (ds_P D ad cA nb (ds_wR S 2 i x)) (ad 14 i) (.inr (3, [.int (nI i), .int (S.1 19 i 0), va_rf (x.map (ad 15))])) := by
  refine ds_wr hI hi (by simp [ds_ce, ds_wR, ds_u2]) ?_
  intro k' i' h
  have h' : k' = 14 → ¬ i' = i := fun e1 e2 => h ⟨e1, e2⟩
  unfold ds_ce
  split <;> simp_all [ds_wR, ds_u2]
theorem dw_Bk_bookedRoom {D : va_G} {ad : Nat → Nat → Nat} {cA : Nat → ClassId} {nb : Nat} {S : ds_S} {i : Nat} {x : Option Nat} (hI : ds_I ad nb) (hi : ds_dm nb 15 i) : aw_Wr D (ds_P D ad cA nb S) (ds_P D ad cA nb (ds_wR S 4 i x)) (ad 15 i) (.inr (0, [.int (nI i), va_rf (x.map (ad 14)), .int (S.1 20 i 0), .int (S.1 21 i 0), .int (S.1 22 i 0), va_rf ((S.2.2 3 i).map (ad 15))])) := by
  refine ds_wr hI hi (by simp [ds_ce, ds_wR, ds_u2]) ?_
  intro k' i' h
  have h' : k' = 15 → ¬ i' = i := fun e1 e2 => h ⟨e1, e2⟩
  unfold ds_ce
  split <;> simp_all [ds_wR, ds_u2]
theorem dw_Bk_from {D : va_G} {ad : Nat → Nat → Nat} {cA : Nat → ClassId} {nb : Nat} {S : ds_S} {i : Nat} {x : Int32} (hI : ds_I ad nb) (hi : ds_dm nb 15 i) : aw_Wr D (ds_P D ad cA nb S) (ds_P D ad cA nb (ds_wI S 20 i 0 x)) (ad 15 i) (.inr (0, [.int (nI i), va_rf ((S.2.2 4 i).map (ad 14)), .int x, .int (S.1 21 i 0), .int (S.1 22 i 0), va_rf ((S.2.2 3 i).map (ad 15))])) := by
  refine ds_wr hI hi (by simp [ds_ce, ds_wI, ds_u3]) ?_
  intro k' i' h
  have h' : k' = 15 → ¬ i' = i := fun e1 e2 => h ⟨e1, e2⟩
  unfold ds_ce
  split <;> simp_all [ds_wI, ds_u3]
theorem dw_Bk_to {D : va_G} {ad : Nat → Nat → Nat} {cA : Nat → ClassId} {nb : Nat} {S : ds_S} {i : Nat} {x : Int32} (hI : ds_I ad nb) (hi : ds_dm nb 15 i) : aw_Wr D (ds_P D ad cA nb S) (ds_P D ad cA nb (ds_wI S 21 i 0 x)) (ad 15 i) (.inr (0, [.int (nI i), va_rf ((S.2.2 4 i).map (ad 14)), .int (S.1 20 i 0), .int x, .int (S.1 22 i 0), va_rf ((S.2.2 3 i).map (ad 15))])) := by
  refine ds_wr hI hi (by simp [ds_ce, ds_wI, ds_u3]) ?_
  intro k' i' h
  have h' : k' = 15 → ¬ i' = i := fun e1 e2 => h ⟨e1, e2⟩
  unfold ds_ce
  split <;> simp_all [ds_wI, ds_u3]
theorem dw_Bk_heads {D : va_G} {ad : Nat → Nat → Nat} {cA : Nat → ClassId} {nb : Nat} {S : ds_S} {i : Nat} {x : Int32} (hI : ds_I ad nb) (hi : ds_dm nb 15 i) : aw_Wr D (ds_P D ad cA nb S) (ds_P D ad cA nb (ds_wI S 22 i 0 x)) (ad 15 i) (.inr (0, [.int (nI i), va_rf ((S.2.2 4 i).map (ad 14)), .int (S.1 20 i 0), .int (S.1 21 i 0), .int x, va_rf ((S.2.2 3 i).map (ad 15))])) := by
  refine ds_wr hI hi (by simp [ds_ce, ds_wI, ds_u3]) ?_
  intro k' i' h
  have h' : k' = 15 → ¬ i' = i := fun e1 e2 => h ⟨e1, e2⟩
  unfold ds_ce
  split <;> simp_all [ds_wI, ds_u3]
theorem dw_Bk_next {D : va_G} {ad : Nat → Nat → Nat} {cA : Nat → ClassId} {nb : Nat} {S : ds_S} {i : Nat} {x : Option Nat} (hI : ds_I ad nb) (hi : ds_dm nb 15 i) : aw_Wr D (ds_P D ad cA nb S) (ds_P D ad cA nb (ds_wR S 3 i x)) (ad 15 i) (.inr (0, [.int (nI i), va_rf ((S.2.2 4 i).map (ad 14)), .int (S.1 20 i 0), .int (S.1 21 i 0), .int (S.1 22 i 0), va_rf (x.map (ad 15))])) := by
  refine ds_wr hI hi (by simp [ds_ce, ds_wR, ds_u2]) ?_
  intro k' i' h
  have h' : k' = 15 → ¬ i' = i := fun e1 e2 => h ⟨e1, e2⟩
  unfold ds_ce
  split <;> simp_all [ds_wR, ds_u2]
theorem dw_arr5 {D : va_G} {ad : Nat → Nat → Nat} {cA : Nat → ClassId} {nb : Nat} {S : ds_S} {i j : Nat} {x : Int32} (hI : ds_I ad nb) (hi : ds_dm nb 5 i) : aw_Wr D (ds_P D ad cA nb S) (ds_P D ad cA nb (ds_wI S 16 i j x)) (ad 5 i) (.inl (cA 0, 15, .inl (upd (fun j => S.1 16 i j) j x))) := by
  refine ds_wr hI hi ?_ ?_
  · simp only [ds_ce, ds_wI, ds_u3, upd]
    congr 4
    funext q
    by_cases hq : q = j <;> simp [hq, upd]
  · intro k' i' h
    have h' : k' = 5 → ¬ i' = i := fun e1 e2 => h ⟨e1, e2⟩
    unfold ds_ce
    split <;> simp_all [ds_wI, ds_u3]
theorem dw_arr6 {D : va_G} {ad : Nat → Nat → Nat} {cA : Nat → ClassId} {nb : Nat} {S : ds_S} {i j : Nat} {x : Int32} (hI : ds_I ad nb) (hi : ds_dm nb 6 i) : aw_Wr D (ds_P D ad cA nb S) (ds_P D ad cA nb (ds_wI S 17 i j x)) (ad 6 i) (.inl (cA 0, 15, .inl (upd (fun j => S.1 17 i j) j x))) := by
  refine ds_wr hI hi ?_ ?_
  · simp only [ds_ce, ds_wI, ds_u3, upd]
    congr 4
    funext q
    by_cases hq : q = j <;> simp [hq, upd]
  · intro k' i' h
    have h' : k' = 6 → ¬ i' = i := fun e1 e2 => h ⟨e1, e2⟩
    unfold ds_ce
    split <;> simp_all [ds_wI, ds_u3]
theorem dw_arr7 {D : va_G} {ad : Nat → Nat → Nat} {cA : Nat → ClassId} {nb : Nat} {S : ds_S} {i j : Nat} {x : Int32} (hI : ds_I ad nb) (hi : ds_dm nb 7 i) : aw_Wr D (ds_P D ad cA nb S) (ds_P D ad cA nb (ds_wI S 18 i j x)) (ad 7 i) (.inl (cA 0, 15, .inl (upd (fun j => S.1 18 i j) j x))) := by
  refine ds_wr hI hi ?_ ?_
  · simp only [ds_ce, ds_wI, ds_u3, upd]
    congr 4
    funext q
    by_cases hq : q = j <;> simp [hq, upd]
  · intro k' i' h
    have h' : k' = 7 → ¬ i' = i := fun e1 e2 => h ⟨e1, e2⟩
    unfold ds_ce
    split <;> simp_all [ds_wI, ds_u3]
theorem dw_arr11 {D : va_G} {ad : Nat → Nat → Nat} {cA : Nat → ClassId} {nb : Nat} {S : ds_S} {i j : Nat} {x : Int32} (hI : ds_I ad nb) (hi : ds_dm nb 11 i) : aw_Wr D (ds_P D ad cA nb S) (ds_P D ad cA nb (ds_wI S 10 i j x)) (ad 11 i) (.inl (cA 0, 14, .inl (upd (fun j => S.1 10 i j) j x))) := by
  refine ds_wr hI hi ?_ ?_
  · simp only [ds_ce, ds_wI, ds_u3, upd]
    congr 4
    funext q
    by_cases hq : q = j <;> simp [hq, upd]
  · intro k' i' h
    have h' : k' = 11 → ¬ i' = i := fun e1 e2 => h ⟨e1, e2⟩
    unfold ds_ce
    split <;> simp_all [ds_wI, ds_u3]
theorem dw_arr12 {D : va_G} {ad : Nat → Nat → Nat} {cA : Nat → ClassId} {nb : Nat} {S : ds_S} {i j : Nat} {x : Int32} (hI : ds_I ad nb) (hi : ds_dm nb 12 i) : aw_Wr D (ds_P D ad cA nb S) (ds_P D ad cA nb (ds_wI S 11 i j x)) (ad 12 i) (.inl (cA 1, 14, .inl (upd (fun j => S.1 11 i j) j x))) := by
  refine ds_wr hI hi ?_ ?_
  · simp only [ds_ce, ds_wI, ds_u3, upd]
    congr 4
    funext q
    by_cases hq : q = j <;> simp [hq, upd]
  · intro k' i' h
    have h' : k' = 12 → ¬ i' = i := fun e1 e2 => h ⟨e1, e2⟩
    unfold ds_ce
    split <;> simp_all [ds_wI, ds_u3]
end
section
section RW
variable {p : Program} {l : Launch} {e : Env} {R : Room} {s : State} {m : MethodId} {args : Array Value} {below : List Frame} {meth : Method} {c : Code} {cc : ByteArray} {nL cells slots : Nat} {Q : State → Prop} {pc : Nat} {lv : List (Nat × Value)} {st : List Value} {D : va_G} {ad : Nat → Nat → Nat} {cA : Nat → ClassId} {nb sz : Nat} {S : ds_S} {A : Nat → Prop}
theorem ix_in {i : Int32} {k n : Nat} (h : i = nI k) (hk : k < n) (hn : n < 2 ^ 31) : vp_in i n ∧ i.toNatClampNeg = k := by
  subst h
  exact ⟨vp_in_nI hk hn, nI_clamp (by omega)⟩
theorem gt_Ma_Sp_sitter (C : CallFix p m c cc nL s args tb_G R_Ma) (hK : va_K D cl_all (ds_ty cA) s) {i : Nat} (hi : ds_dm nb 13 i) (hd : decode cc pc = .ok (.getfield 34, 3)) (kk : AW p l e R s m args below meth c nL cells slots Q (ds_P D ad cA nb S) A (pc + 3) lv (va_rf ((S.2.2 0 i).map (ad 10)) :: st)) : AW p l e R s m args below meth c nL cells slots Q (ds_P D ad cA nb S) A pc lv (.ref (ad 13 i) :: st) := aw_get (k := 0) C hK i_Sp rfl (by decide) fl_Ma_Sp_sitter (fun H h => h 13 i hi) rfl hd kk
theorem pt_Ma_Sp_sitter (C : CallFix p m c cc nL s args tb_G R_Ma) (hK : va_K D cl_all (ds_ty cA) s) (hI : ds_I ad nb) {i : Nat} (hi : ds_dm nb 13 i) {x : Option Nat}  (hd : decode cc pc = .ok (.putfield 34, 3)) (kk : AW p l e R s m args below meth c nL cells slots Q (ds_P D ad cA nb (ds_wR S 0 i x)) (ct_A (ds_A ad nb) sz) (pc + 3) lv st) : AW p l e R s m args below meth c nL cells slots Q (ds_P D ad cA nb S) (ct_A (ds_A ad nb) sz) pc lv (va_rf (x.map (ad 10)) :: .ref (ad 13 i) :: st) := aw_put (k := 0) C hK i_Sp t_Sp t_Sp_ok n_Sp rfl (by decide) fl_Ma_Sp_sitter rfl (t_Sp_ok 0 (by decide)) (nr_rf _ _).1 (nr_rf _ _).2 (ds_in (k := 13) hi) (fun H h => h 13 i hi) (Nat.le_of_ble_eq_true rfl) hd (dw_Sp_sitter hI hi) kk
theorem gt_Ma_Sp_price (C : CallFix p m c cc nL s args tb_G R_Ma) (hK : va_K D cl_all (ds_ty cA) s) {i : Nat} (hi : ds_dm nb 13 i) (hd : decode cc pc = .ok (.getfield 49, 3)) (kk : AW p l e R s m args below meth c nL cells slots Q (ds_P D ad cA nb S) A (pc + 3) lv (.long (S.2.1 1 i) :: st)) : AW p l e R s m args below meth c nL cells slots Q (ds_P D ad cA nb S) A pc lv (.ref (ad 13 i) :: st) := aw_get (k := 1) C hK i_Sp rfl (by decide) fl_Ma_Sp_price (fun H h => h 13 i hi) rfl hd kk
theorem pt_Ma_Sp_price (C : CallFix p m c cc nL s args tb_G R_Ma) (hK : va_K D cl_all (ds_ty cA) s) (hI : ds_I ad nb) {i : Nat} (hi : ds_dm nb 13 i) {x : Int64}  (hd : decode cc pc = .ok (.putfield 49, 3)) (kk : AW p l e R s m args below meth c nL cells slots Q (ds_P D ad cA nb (ds_wJ S 1 i x)) (ct_A (ds_A ad nb) sz) (pc + 3) lv st) : AW p l e R s m args below meth c nL cells slots Q (ds_P D ad cA nb S) (ct_A (ds_A ad nb) sz) pc lv (.long x :: .ref (ad 13 i) :: st) := aw_put (k := 1) C hK i_Sp t_Sp t_Sp_ok n_Sp rfl (by decide) fl_Ma_Sp_price rfl (t_Sp_ok 1 (by decide)) rfl rfl (ds_in (k := 13) hi) (fun H h => h 13 i hi) (Nat.le_of_ble_eq_true rfl) hd (dw_Sp_price hI hi) kk
theorem gt_Ma_Sp_distance (C : CallFix p m c cc nL s args tb_G R_Ma) (hK : va_K D cl_all (ds_ty cA) s) {i : Nat} (hi : ds_dm nb 13 i) (hd : decode cc pc = .ok (.getfield 69, 3)) (kk : AW p l e R s m args below meth c nL cells slots Q (ds_P D ad cA nb S) A (pc + 3) lv (.long (S.2.1 2 i) :: st)) : AW p l e R s m args below meth c nL cells slots Q (ds_P D ad cA nb S) A pc lv (.ref (ad 13 i) :: st) := aw_get (k := 2) C hK i_Sp rfl (by decide) fl_Ma_Sp_distance (fun H h => h 13 i hi) rfl hd kk
theorem pt_Ma_Sp_distance (C : CallFix p m c cc nL s args tb_G R_Ma) (hK : va_K D cl_all (ds_ty cA) s) (hI : ds_I ad nb) {i : Nat} (hi : ds_dm nb 13 i) {x : Int64}  (hd : decode cc pc = .ok (.putfield 69, 3)) (kk : AW p l e R s m args below meth c nL cells slots Q (ds_P D ad cA nb (ds_wJ S 2 i x)) (ct_A (ds_A ad nb) sz) (pc + 3) lv st) : AW p l e R s m args below meth c nL cells slots Q (ds_P D ad cA nb S) (ct_A (ds_A ad nb) sz) pc lv (.long x :: .ref (ad 13 i) :: st) := aw_put (k := 2) C hK i_Sp t_Sp t_Sp_ok n_Sp rfl (by decide) fl_Ma_Sp_distance rfl (t_Sp_ok 2 (by decide)) rfl rfl (ds_in (k := 13) hi) (fun H h => h 13 i hi) (Nat.le_of_ble_eq_true rfl) hd (dw_Sp_distance hI hi) kk
theorem gt_Ma_Sp_before (C : CallFix p m c cc nL s args tb_G R_Ma) (hK : va_K D cl_all (ds_ty cA) s) {i : Nat} (hi : ds_dm nb 13 i) (hd : decode cc pc = .ok (.getfield 86, 3)) (kk : AW p l e R s m args below meth c nL cells slots Q (ds_P D ad cA nb S) A (pc + 3) lv (va_rf ((S.2.2 1 i).map (ad 13)) :: st)) : AW p l e R s m args below meth c nL cells slots Q (ds_P D ad cA nb S) A pc lv (.ref (ad 13 i) :: st) := aw_get (k := 3) C hK i_Sp rfl (by decide) fl_Ma_Sp_before (fun H h => h 13 i hi) rfl hd kk
theorem pt_Ma_Sp_before (C : CallFix p m c cc nL s args tb_G R_Ma) (hK : va_K D cl_all (ds_ty cA) s) (hI : ds_I ad nb) {i : Nat} (hi : ds_dm nb 13 i) {x : Option Nat}  (hd : decode cc pc = .ok (.putfield 86, 3)) (kk : AW p l e R s m args below meth c nL cells slots Q (ds_P D ad cA nb (ds_wR S 1 i x)) (ct_A (ds_A ad nb) sz) (pc + 3) lv st) : AW p l e R s m args below meth c nL cells slots Q (ds_P D ad cA nb S) (ct_A (ds_A ad nb) sz) pc lv (va_rf (x.map (ad 13)) :: .ref (ad 13 i) :: st) := aw_put (k := 3) C hK i_Sp t_Sp t_Sp_ok n_Sp rfl (by decide) fl_Ma_Sp_before rfl (t_Sp_ok 3 (by decide)) (nr_rf _ _).1 (nr_rf _ _).2 (ds_in (k := 13) hi) (fun H h => h 13 i hi) (Nat.le_of_ble_eq_true rfl) hd (dw_Sp_before hI hi) kk
theorem gt_Ma_Sp_reached (C : CallFix p m c cc nL s args tb_G R_Ma) (hK : va_K D cl_all (ds_ty cA) s) {i : Nat} (hi : ds_dm nb 13 i) (hd : decode cc pc = .ok (.getfield 76, 3)) (kk : AW p l e R s m args below meth c nL cells slots Q (ds_P D ad cA nb S) A (pc + 3) lv (.int (S.1 15 i 0) :: st)) : AW p l e R s m args below meth c nL cells slots Q (ds_P D ad cA nb S) A pc lv (.ref (ad 13 i) :: st) := aw_get (k := 4) C hK i_Sp rfl (by decide) fl_Ma_Sp_reached (fun H h => h 13 i hi) rfl hd kk
theorem pt_Ma_Sp_reached (C : CallFix p m c cc nL s args tb_G R_Ma) (hK : va_K D cl_all (ds_ty cA) s) (hI : ds_I ad nb) {i : Nat} (hi : ds_dm nb 13 i) {x : Int32} (hz : x = 0 ∨ x = 1) (hd : decode cc pc = .ok (.putfield 76, 3)) (kk : AW p l e R s m args below meth c nL cells slots Q (ds_P D ad cA nb (ds_wI S 15 i 0 x)) (ct_A (ds_A ad nb) sz) (pc + 3) lv st) : AW p l e R s m args below meth c nL cells slots Q (ds_P D ad cA nb S) (ct_A (ds_A ad nb) sz) pc lv (.int x :: .ref (ad 13 i) :: st) := aw_put (k := 4) C hK i_Sp t_Sp t_Sp_ok n_Sp rfl (by decide) fl_Ma_Sp_reached rfl (t_Sp_ok 4 (by decide)) (nr_z hz).1 (nr_z hz).2 (ds_in (k := 13) hi) (fun H h => h 13 i hi) (Nat.le_of_ble_eq_true rfl) hd (dw_Sp_reached hI hi) kk
theorem gt_Ma_Ma_spots (C : CallFix p m c cc nL s args tb_G R_Ma) (hK : va_K D cl_all (ds_ty cA) s)  (hd : decode cc pc = .ok (.getfield 11, 3)) (kk : AW p l e R s m args below meth c nL cells slots Q (ds_P D ad cA nb S) A (pc + 3) lv (.ref (ad 3 0) :: st)) : AW p l e R s m args below meth c nL cells slots Q (ds_P D ad cA nb S) A pc lv (.ref (ad 2 0) :: st) := aw_get (k := 0) C hK i_Ma rfl (by decide) fl_Ma_Ma_spots (fun H h => h 2 0 rfl) rfl hd kk
theorem gt_Ma_Ma_spotCount (C : CallFix p m c cc nL s args tb_G R_Ma) (hK : va_K D cl_all (ds_ty cA) s)  (hd : decode cc pc = .ok (.getfield 30, 3)) (kk : AW p l e R s m args below meth c nL cells slots Q (ds_P D ad cA nb S) A (pc + 3) lv (.int (S.1 6 0 0) :: st)) : AW p l e R s m args below meth c nL cells slots Q (ds_P D ad cA nb S) A pc lv (.ref (ad 2 0) :: st) := aw_get (k := 1) C hK i_Ma rfl (by decide) fl_Ma_Ma_spotCount (fun H h => h 2 0 rfl) rfl hd kk
theorem pt_Ma_Ma_spotCount (C : CallFix p m c cc nL s args tb_G R_Ma) (hK : va_K D cl_all (ds_ty cA) s) (hI : ds_I ad nb)  {x : Int32}  (hd : decode cc pc = .ok (.putfield 30, 3)) (kk : AW p l e R s m args below meth c nL cells slots Q (ds_P D ad cA nb (ds_wI S 6 0 0 x)) (ct_A (ds_A ad nb) sz) (pc + 3) lv st) : AW p l e R s m args below meth c nL cells slots Q (ds_P D ad cA nb S) (ct_A (ds_A ad nb) sz) pc lv (.int x :: .ref (ad 2 0) :: st) := aw_put (k := 1) C hK i_Ma t_Ma t_Ma_ok n_Ma rfl (by decide) fl_Ma_Ma_spotCount rfl (t_Ma_ok 1 (by decide)) rfl rfl (ds_in (k := 2) (i := 0) rfl) (fun H h => h 2 0 rfl) (Nat.le_of_ble_eq_true rfl) hd (dw_Ma_spotCount hI (i := 0) rfl) kk
theorem gt_Wa_Wa_goers (C : CallFix p m c cc nL s args tb_G R_Wa) (hK : va_K D cl_all (ds_ty cA) s)  (hd : decode cc pc = .ok (.getfield 9, 3)) (kk : AW p l e R s m args below meth c nL cells slots Q (ds_P D ad cA nb S) A (pc + 3) lv (.ref (ad 5 0) :: st)) : AW p l e R s m args below meth c nL cells slots Q (ds_P D ad cA nb S) A pc lv (.ref (ad 4 0) :: st) := aw_get (k := 0) C hK i_Wa rfl (by decide) fl_Wa_Wa_goers (fun H h => h 4 0 rfl) rfl hd kk
theorem gt_De_Wa_goers (C : CallFix p m c cc nL s args tb_G R_De) (hK : va_K D cl_all (ds_ty cA) s)  (hd : decode cc pc = .ok (.getfield 125, 3)) (kk : AW p l e R s m args below meth c nL cells slots Q (ds_P D ad cA nb S) A (pc + 3) lv (.ref (ad 5 0) :: st)) : AW p l e R s m args below meth c nL cells slots Q (ds_P D ad cA nb S) A pc lv (.ref (ad 4 0) :: st) := aw_get (k := 0) C hK i_Wa rfl (by decide) fl_De_Wa_goers (fun H h => h 4 0 rfl) rfl hd kk
theorem gt_Wa_Wa_starts (C : CallFix p m c cc nL s args tb_G R_Wa) (hK : va_K D cl_all (ds_ty cA) s)  (hd : decode cc pc = .ok (.getfield 15, 3)) (kk : AW p l e R s m args below meth c nL cells slots Q (ds_P D ad cA nb S) A (pc + 3) lv (.ref (ad 6 0) :: st)) : AW p l e R s m args below meth c nL cells slots Q (ds_P D ad cA nb S) A pc lv (.ref (ad 4 0) :: st) := aw_get (k := 1) C hK i_Wa rfl (by decide) fl_Wa_Wa_starts (fun H h => h 4 0 rfl) rfl hd kk
theorem gt_De_Wa_starts (C : CallFix p m c cc nL s args tb_G R_De) (hK : va_K D cl_all (ds_ty cA) s)  (hd : decode cc pc = .ok (.getfield 128, 3)) (kk : AW p l e R s m args below meth c nL cells slots Q (ds_P D ad cA nb S) A (pc + 3) lv (.ref (ad 6 0) :: st)) : AW p l e R s m args below meth c nL cells slots Q (ds_P D ad cA nb S) A pc lv (.ref (ad 4 0) :: st) := aw_get (k := 1) C hK i_Wa rfl (by decide) fl_De_Wa_starts (fun H h => h 4 0 rfl) rfl hd kk
theorem gt_Wa_Wa_goals (C : CallFix p m c cc nL s args tb_G R_Wa) (hK : va_K D cl_all (ds_ty cA) s)  (hd : decode cc pc = .ok (.getfield 18, 3)) (kk : AW p l e R s m args below meth c nL cells slots Q (ds_P D ad cA nb S) A (pc + 3) lv (.ref (ad 7 0) :: st)) : AW p l e R s m args below meth c nL cells slots Q (ds_P D ad cA nb S) A pc lv (.ref (ad 4 0) :: st) := aw_get (k := 2) C hK i_Wa rfl (by decide) fl_Wa_Wa_goals (fun H h => h 4 0 rfl) rfl hd kk
theorem gt_De_Wa_goals (C : CallFix p m c cc nL s args tb_G R_De) (hK : va_K D cl_all (ds_ty cA) s)  (hd : decode cc pc = .ok (.getfield 131, 3)) (kk : AW p l e R s m args below meth c nL cells slots Q (ds_P D ad cA nb S) A (pc + 3) lv (.ref (ad 7 0) :: st)) : AW p l e R s m args below meth c nL cells slots Q (ds_P D ad cA nb S) A pc lv (.ref (ad 4 0) :: st) := aw_get (k := 2) C hK i_Wa rfl (by decide) fl_De_Wa_goals (fun H h => h 4 0 rfl) rfl hd kk
theorem gt_Wa_Wa_count (C : CallFix p m c cc nL s args tb_G R_Wa) (hK : va_K D cl_all (ds_ty cA) s)  (hd : decode cc pc = .ok (.getfield 50, 3)) (kk : AW p l e R s m args below meth c nL cells slots Q (ds_P D ad cA nb S) A (pc + 3) lv (.int (S.1 7 0 0) :: st)) : AW p l e R s m args below meth c nL cells slots Q (ds_P D ad cA nb S) A pc lv (.ref (ad 4 0) :: st) := aw_get (k := 3) C hK i_Wa rfl (by decide) fl_Wa_Wa_count (fun H h => h 4 0 rfl) rfl hd kk
theorem pt_Wa_Wa_count (C : CallFix p m c cc nL s args tb_G R_Wa) (hK : va_K D cl_all (ds_ty cA) s) (hI : ds_I ad nb)  {x : Int32}  (hd : decode cc pc = .ok (.putfield 50, 3)) (kk : AW p l e R s m args below meth c nL cells slots Q (ds_P D ad cA nb (ds_wI S 7 0 0 x)) (ct_A (ds_A ad nb) sz) (pc + 3) lv st) : AW p l e R s m args below meth c nL cells slots Q (ds_P D ad cA nb S) (ct_A (ds_A ad nb) sz) pc lv (.int x :: .ref (ad 4 0) :: st) := aw_put (k := 3) C hK i_Wa t_Wa t_Wa_ok n_Wa rfl (by decide) fl_Wa_Wa_count rfl (t_Wa_ok 3 (by decide)) rfl rfl (ds_in (k := 4) (i := 0) rfl) (fun H h => h 4 0 rfl) (Nat.le_of_ble_eq_true rfl) hd (dw_Wa_count hI (i := 0) rfl) kk
theorem gt_De_Wa_count (C : CallFix p m c cc nL s args tb_G R_De) (hK : va_K D cl_all (ds_ty cA) s)  (hd : decode cc pc = .ok (.getfield 118, 3)) (kk : AW p l e R s m args below meth c nL cells slots Q (ds_P D ad cA nb S) A (pc + 3) lv (.int (S.1 7 0 0) :: st)) : AW p l e R s m args below meth c nL cells slots Q (ds_P D ad cA nb S) A pc lv (.ref (ad 4 0) :: st) := aw_get (k := 3) C hK i_Wa rfl (by decide) fl_De_Wa_count (fun H h => h 4 0 rfl) rfl hd kk
theorem pt_De_Wa_count (C : CallFix p m c cc nL s args tb_G R_De) (hK : va_K D cl_all (ds_ty cA) s) (hI : ds_I ad nb)  {x : Int32}  (hd : decode cc pc = .ok (.putfield 118, 3)) (kk : AW p l e R s m args below meth c nL cells slots Q (ds_P D ad cA nb (ds_wI S 7 0 0 x)) (ct_A (ds_A ad nb) sz) (pc + 3) lv st) : AW p l e R s m args below meth c nL cells slots Q (ds_P D ad cA nb S) (ct_A (ds_A ad nb) sz) pc lv (.int x :: .ref (ad 4 0) :: st) := aw_put (k := 3) C hK i_Wa t_Wa t_Wa_ok n_Wa rfl (by decide) fl_De_Wa_count rfl (t_Wa_ok 3 (by decide)) rfl rfl (ds_in (k := 4) (i := 0) rfl) (fun H h => h 4 0 rfl) (Nat.le_of_ble_eq_true rfl) hd (dw_Wa_count hI (i := 0) rfl) kk
theorem gt_Wa_Wa_stuck (C : CallFix p m c cc nL s args tb_G R_Wa) (hK : va_K D cl_all (ds_ty cA) s)  (hd : decode cc pc = .ok (.getfield 46, 3)) (kk : AW p l e R s m args below meth c nL cells slots Q (ds_P D ad cA nb S) A (pc + 3) lv (.int (S.1 8 0 0) :: st)) : AW p l e R s m args below meth c nL cells slots Q (ds_P D ad cA nb S) A pc lv (.ref (ad 4 0) :: st) := aw_get (k := 4) C hK i_Wa rfl (by decide) fl_Wa_Wa_stuck (fun H h => h 4 0 rfl) rfl hd kk
theorem pt_Wa_Wa_stuck (C : CallFix p m c cc nL s args tb_G R_Wa) (hK : va_K D cl_all (ds_ty cA) s) (hI : ds_I ad nb)  {x : Int32} (hz : x = 0 ∨ x = 1) (hd : decode cc pc = .ok (.putfield 46, 3)) (kk : AW p l e R s m args below meth c nL cells slots Q (ds_P D ad cA nb (ds_wI S 8 0 0 x)) (ct_A (ds_A ad nb) sz) (pc + 3) lv st) : AW p l e R s m args below meth c nL cells slots Q (ds_P D ad cA nb S) (ct_A (ds_A ad nb) sz) pc lv (.int x :: .ref (ad 4 0) :: st) := aw_put (k := 4) C hK i_Wa t_Wa t_Wa_ok n_Wa rfl (by decide) fl_Wa_Wa_stuck rfl (t_Wa_ok 4 (by decide)) (nr_z hz).1 (nr_z hz).2 (ds_in (k := 4) (i := 0) rfl) (fun H h => h 4 0 rfl) (Nat.le_of_ble_eq_true rfl) hd (dw_Wa_stuck hI (i := 0) rfl) kk
theorem gt_De_Wa_stuck (C : CallFix p m c cc nL s args tb_G R_De) (hK : va_K D cl_all (ds_ty cA) s)  (hd : decode cc pc = .ok (.getfield 115, 3)) (kk : AW p l e R s m args below meth c nL cells slots Q (ds_P D ad cA nb S) A (pc + 3) lv (.int (S.1 8 0 0) :: st)) : AW p l e R s m args below meth c nL cells slots Q (ds_P D ad cA nb S) A pc lv (.ref (ad 4 0) :: st) := aw_get (k := 4) C hK i_Wa rfl (by decide) fl_De_Wa_stuck (fun H h => h 4 0 rfl) rfl hd kk
theorem pt_De_Wa_stuck (C : CallFix p m c cc nL s args tb_G R_De) (hK : va_K D cl_all (ds_ty cA) s) (hI : ds_I ad nb)  {x : Int32} (hz : x = 0 ∨ x = 1) (hd : decode cc pc = .ok (.putfield 115, 3)) (kk : AW p l e R s m args below meth c nL cells slots Q (ds_P D ad cA nb (ds_wI S 8 0 0 x)) (ct_A (ds_A ad nb) sz) (pc + 3) lv st) : AW p l e R s m args below meth c nL cells slots Q (ds_P D ad cA nb S) (ct_A (ds_A ad nb) sz) pc lv (.int x :: .ref (ad 4 0) :: st) := aw_put (k := 4) C hK i_Wa t_Wa t_Wa_ok n_Wa rfl (by decide) fl_De_Wa_stuck rfl (t_Wa_ok 4 (by decide)) (nr_z hz).1 (nr_z hz).2 (ds_in (k := 4) (i := 0) rfl) (fun H h => h 4 0 rfl) (Nat.le_of_ble_eq_true rfl) hd (dw_Wa_stuck hI (i := 0) rfl) kk
theorem gt_Wa_Wa_taken (C : CallFix p m c cc nL s args tb_G R_Wa) (hK : va_K D cl_all (ds_ty cA) s)  (hd : decode cc pc = .ok (.getfield 53, 3)) (kk : AW p l e R s m args below meth c nL cells slots Q (ds_P D ad cA nb S) A (pc + 3) lv (.int (S.1 9 0 0) :: st)) : AW p l e R s m args below meth c nL cells slots Q (ds_P D ad cA nb S) A pc lv (.ref (ad 4 0) :: st) := aw_get (k := 5) C hK i_Wa rfl (by decide) fl_Wa_Wa_taken (fun H h => h 4 0 rfl) rfl hd kk
theorem pt_Wa_Wa_taken (C : CallFix p m c cc nL s args tb_G R_Wa) (hK : va_K D cl_all (ds_ty cA) s) (hI : ds_I ad nb)  {x : Int32}  (hd : decode cc pc = .ok (.putfield 53, 3)) (kk : AW p l e R s m args below meth c nL cells slots Q (ds_P D ad cA nb (ds_wI S 9 0 0 x)) (ct_A (ds_A ad nb) sz) (pc + 3) lv st) : AW p l e R s m args below meth c nL cells slots Q (ds_P D ad cA nb S) (ct_A (ds_A ad nb) sz) pc lv (.int x :: .ref (ad 4 0) :: st) := aw_put (k := 5) C hK i_Wa t_Wa t_Wa_ok n_Wa rfl (by decide) fl_Wa_Wa_taken rfl (t_Wa_ok 5 (by decide)) rfl rfl (ds_in (k := 4) (i := 0) rfl) (fun H h => h 4 0 rfl) (Nat.le_of_ble_eq_true rfl) hd (dw_Wa_taken hI (i := 0) rfl) kk
theorem gt_Pe_Pe_number (C : CallFix p m c cc nL s args tb_G R_Pe) (hK : va_K D cl_all (ds_ty cA) s) {i : Nat} (hi : ds_dm nb 10 i) (hd : decode cc pc = .ok (.getfield 29, 3)) (kk : AW p l e R s m args below meth c nL cells slots Q (ds_P D ad cA nb S) A (pc + 3) lv (.int (nI i) :: st)) : AW p l e R s m args below meth c nL cells slots Q (ds_P D ad cA nb S) A pc lv (.ref (ad 10 i) :: st) := aw_get (k := 0) C hK i_Pe rfl (by decide) fl_Pe_Pe_number (fun H h => h 10 i hi) rfl hd kk
theorem gt_Wa_Pe_number (C : CallFix p m c cc nL s args tb_G R_Wa) (hK : va_K D cl_all (ds_ty cA) s) {i : Nat} (hi : ds_dm nb 10 i) (hd : decode cc pc = .ok (.getfield 66, 3)) (kk : AW p l e R s m args below meth c nL cells slots Q (ds_P D ad cA nb S) A (pc + 3) lv (.int (nI i) :: st)) : AW p l e R s m args below meth c nL cells slots Q (ds_P D ad cA nb S) A pc lv (.ref (ad 10 i) :: st) := aw_get (k := 0) C hK i_Pe rfl (by decide) fl_Wa_Pe_number (fun H h => h 10 i hi) rfl hd kk
theorem gt_Pe_Pe_wishes (C : CallFix p m c cc nL s args tb_G R_Pe) (hK : va_K D cl_all (ds_ty cA) s) {i : Nat} (hi : ds_dm nb 10 i) (hd : decode cc pc = .ok (.getfield 9, 3)) (kk : AW p l e R s m args below meth c nL cells slots Q (ds_P D ad cA nb S) A (pc + 3) lv (.ref (ad 11 i) :: st)) : AW p l e R s m args below meth c nL cells slots Q (ds_P D ad cA nb S) A pc lv (.ref (ad 10 i) :: st) := aw_get (k := 1) C hK i_Pe rfl (by decide) fl_Pe_Pe_wishes (fun H h => h 10 i hi) rfl hd kk
theorem gt_De_Pe_wishes (C : CallFix p m c cc nL s args tb_G R_De) (hK : va_K D cl_all (ds_ty cA) s) {i : Nat} (hi : ds_dm nb 10 i) (hd : decode cc pc = .ok (.getfield 76, 3)) (kk : AW p l e R s m args below meth c nL cells slots Q (ds_P D ad cA nb S) A (pc + 3) lv (.ref (ad 11 i) :: st)) : AW p l e R s m args below meth c nL cells slots Q (ds_P D ad cA nb S) A pc lv (.ref (ad 10 i) :: st) := aw_get (k := 1) C hK i_Pe rfl (by decide) fl_De_Pe_wishes (fun H h => h 10 i hi) rfl hd kk
theorem gt_Ma_Pe_wishes (C : CallFix p m c cc nL s args tb_G R_Ma) (hK : va_K D cl_all (ds_ty cA) s) {i : Nat} (hi : ds_dm nb 10 i) (hd : decode cc pc = .ok (.getfield 53, 3)) (kk : AW p l e R s m args below meth c nL cells slots Q (ds_P D ad cA nb S) A (pc + 3) lv (.ref (ad 11 i) :: st)) : AW p l e R s m args below meth c nL cells slots Q (ds_P D ad cA nb S) A pc lv (.ref (ad 10 i) :: st) := aw_get (k := 1) C hK i_Pe rfl (by decide) fl_Ma_Pe_wishes (fun H h => h 10 i hi) rfl hd kk
theorem gt_Pe_Pe_barred (C : CallFix p m c cc nL s args tb_G R_Pe) (hK : va_K D cl_all (ds_ty cA) s) {i : Nat} (hi : ds_dm nb 10 i) (hd : decode cc pc = .ok (.getfield 15, 3)) (kk : AW p l e R s m args below meth c nL cells slots Q (ds_P D ad cA nb S) A (pc + 3) lv (.ref (ad 12 i) :: st)) : AW p l e R s m args below meth c nL cells slots Q (ds_P D ad cA nb S) A pc lv (.ref (ad 10 i) :: st) := aw_get (k := 2) C hK i_Pe rfl (by decide) fl_Pe_Pe_barred (fun H h => h 10 i hi) rfl hd kk
theorem gt_De_Pe_barred (C : CallFix p m c cc nL s args tb_G R_De) (hK : va_K D cl_all (ds_ty cA) s) {i : Nat} (hi : ds_dm nb 10 i) (hd : decode cc pc = .ok (.getfield 80, 3)) (kk : AW p l e R s m args below meth c nL cells slots Q (ds_P D ad cA nb S) A (pc + 3) lv (.ref (ad 12 i) :: st)) : AW p l e R s m args below meth c nL cells slots Q (ds_P D ad cA nb S) A pc lv (.ref (ad 10 i) :: st) := aw_get (k := 2) C hK i_Pe rfl (by decide) fl_De_Pe_barred (fun H h => h 10 i hi) rfl hd kk
theorem gt_Ma_Pe_barred (C : CallFix p m c cc nL s args tb_G R_Ma) (hK : va_K D cl_all (ds_ty cA) s) {i : Nat} (hi : ds_dm nb 10 i) (hd : decode cc pc = .ok (.getfield 90, 3)) (kk : AW p l e R s m args below meth c nL cells slots Q (ds_P D ad cA nb S) A (pc + 3) lv (.ref (ad 12 i) :: st)) : AW p l e R s m args below meth c nL cells slots Q (ds_P D ad cA nb S) A pc lv (.ref (ad 10 i) :: st) := aw_get (k := 2) C hK i_Pe rfl (by decide) fl_Ma_Pe_barred (fun H h => h 10 i hi) rfl hd kk
theorem gt_Pe_Pe_oldDesk (C : CallFix p m c cc nL s args tb_G R_Pe) (hK : va_K D cl_all (ds_ty cA) s) {i : Nat} (hi : ds_dm nb 10 i) (hd : decode cc pc = .ok (.getfield 19, 3)) (kk : AW p l e R s m args below meth c nL cells slots Q (ds_P D ad cA nb S) A (pc + 3) lv (.int (S.1 12 i 0) :: st)) : AW p l e R s m args below meth c nL cells slots Q (ds_P D ad cA nb S) A pc lv (.ref (ad 10 i) :: st) := aw_get (k := 3) C hK i_Pe rfl (by decide) fl_Pe_Pe_oldDesk (fun H h => h 10 i hi) rfl hd kk
theorem pt_Pe_Pe_oldDesk (C : CallFix p m c cc nL s args tb_G R_Pe) (hK : va_K D cl_all (ds_ty cA) s) (hI : ds_I ad nb) {i : Nat} (hi : ds_dm nb 10 i) {x : Int32}  (hd : decode cc pc = .ok (.putfield 19, 3)) (kk : AW p l e R s m args below meth c nL cells slots Q (ds_P D ad cA nb (ds_wI S 12 i 0 x)) (ct_A (ds_A ad nb) sz) (pc + 3) lv st) : AW p l e R s m args below meth c nL cells slots Q (ds_P D ad cA nb S) (ct_A (ds_A ad nb) sz) pc lv (.int x :: .ref (ad 10 i) :: st) := aw_put (k := 3) C hK i_Pe t_Pe t_Pe_ok n_Pe rfl (by decide) fl_Pe_Pe_oldDesk rfl (t_Pe_ok 3 (by decide)) rfl rfl (ds_in (k := 10) hi) (fun H h => h 10 i hi) (Nat.le_of_ble_eq_true rfl) hd (dw_Pe_oldDesk hI hi) kk
theorem gt_Wa_Pe_oldDesk (C : CallFix p m c cc nL s args tb_G R_Wa) (hK : va_K D cl_all (ds_ty cA) s) {i : Nat} (hi : ds_dm nb 10 i) (hd : decode cc pc = .ok (.getfield 56, 3)) (kk : AW p l e R s m args below meth c nL cells slots Q (ds_P D ad cA nb S) A (pc + 3) lv (.int (S.1 12 i 0) :: st)) : AW p l e R s m args below meth c nL cells slots Q (ds_P D ad cA nb S) A pc lv (.ref (ad 10 i) :: st) := aw_get (k := 3) C hK i_Pe rfl (by decide) fl_Wa_Pe_oldDesk (fun H h => h 10 i hi) rfl hd kk
theorem pt_Wa_Pe_oldDesk (C : CallFix p m c cc nL s args tb_G R_Wa) (hK : va_K D cl_all (ds_ty cA) s) (hI : ds_I ad nb) {i : Nat} (hi : ds_dm nb 10 i) {x : Int32}  (hd : decode cc pc = .ok (.putfield 56, 3)) (kk : AW p l e R s m args below meth c nL cells slots Q (ds_P D ad cA nb (ds_wI S 12 i 0 x)) (ct_A (ds_A ad nb) sz) (pc + 3) lv st) : AW p l e R s m args below meth c nL cells slots Q (ds_P D ad cA nb S) (ct_A (ds_A ad nb) sz) pc lv (.int x :: .ref (ad 10 i) :: st) := aw_put (k := 3) C hK i_Pe t_Pe t_Pe_ok n_Pe rfl (by decide) fl_Wa_Pe_oldDesk rfl (t_Pe_ok 3 (by decide)) rfl rfl (ds_in (k := 10) hi) (fun H h => h 10 i hi) (Nat.le_of_ble_eq_true rfl) hd (dw_Pe_oldDesk hI hi) kk
theorem gt_De_Pe_oldDesk (C : CallFix p m c cc nL s args tb_G R_De) (hK : va_K D cl_all (ds_ty cA) s) {i : Nat} (hi : ds_dm nb 10 i) (hd : decode cc pc = .ok (.getfield 88, 3)) (kk : AW p l e R s m args below meth c nL cells slots Q (ds_P D ad cA nb S) A (pc + 3) lv (.int (S.1 12 i 0) :: st)) : AW p l e R s m args below meth c nL cells slots Q (ds_P D ad cA nb S) A pc lv (.ref (ad 10 i) :: st) := aw_get (k := 3) C hK i_Pe rfl (by decide) fl_De_Pe_oldDesk (fun H h => h 10 i hi) rfl hd kk
theorem pt_De_Pe_oldDesk (C : CallFix p m c cc nL s args tb_G R_De) (hK : va_K D cl_all (ds_ty cA) s) (hI : ds_I ad nb) {i : Nat} (hi : ds_dm nb 10 i) {x : Int32}  (hd : decode cc pc = .ok (.putfield 88, 3)) (kk : AW p l e R s m args below meth c nL cells slots Q (ds_P D ad cA nb (ds_wI S 12 i 0 x)) (ct_A (ds_A ad nb) sz) (pc + 3) lv st) : AW p l e R s m args below meth c nL cells slots Q (ds_P D ad cA nb S) (ct_A (ds_A ad nb) sz) pc lv (.int x :: .ref (ad 10 i) :: st) := aw_put (k := 3) C hK i_Pe t_Pe t_Pe_ok n_Pe rfl (by decide) fl_De_Pe_oldDesk rfl (t_Pe_ok 3 (by decide)) rfl rfl (ds_in (k := 10) hi) (fun H h => h 10 i hi) (Nat.le_of_ble_eq_true rfl) hd (dw_Pe_oldDesk hI hi) kk
theorem gt_Pe_Pe_newDesk (C : CallFix p m c cc nL s args tb_G R_Pe) (hK : va_K D cl_all (ds_ty cA) s) {i : Nat} (hi : ds_dm nb 10 i) (hd : decode cc pc = .ok (.getfield 23, 3)) (kk : AW p l e R s m args below meth c nL cells slots Q (ds_P D ad cA nb S) A (pc + 3) lv (.int (S.1 13 i 0) :: st)) : AW p l e R s m args below meth c nL cells slots Q (ds_P D ad cA nb S) A pc lv (.ref (ad 10 i) :: st) := aw_get (k := 4) C hK i_Pe rfl (by decide) fl_Pe_Pe_newDesk (fun H h => h 10 i hi) rfl hd kk
theorem pt_Pe_Pe_newDesk (C : CallFix p m c cc nL s args tb_G R_Pe) (hK : va_K D cl_all (ds_ty cA) s) (hI : ds_I ad nb) {i : Nat} (hi : ds_dm nb 10 i) {x : Int32}  (hd : decode cc pc = .ok (.putfield 23, 3)) (kk : AW p l e R s m args below meth c nL cells slots Q (ds_P D ad cA nb (ds_wI S 13 i 0 x)) (ct_A (ds_A ad nb) sz) (pc + 3) lv st) : AW p l e R s m args below meth c nL cells slots Q (ds_P D ad cA nb S) (ct_A (ds_A ad nb) sz) pc lv (.int x :: .ref (ad 10 i) :: st) := aw_put (k := 4) C hK i_Pe t_Pe t_Pe_ok n_Pe rfl (by decide) fl_Pe_Pe_newDesk rfl (t_Pe_ok 4 (by decide)) rfl rfl (ds_in (k := 10) hi) (fun H h => h 10 i hi) (Nat.le_of_ble_eq_true rfl) hd (dw_Pe_newDesk hI hi) kk
theorem gt_Wa_Pe_newDesk (C : CallFix p m c cc nL s args tb_G R_Wa) (hK : va_K D cl_all (ds_ty cA) s) {i : Nat} (hi : ds_dm nb 10 i) (hd : decode cc pc = .ok (.getfield 29, 3)) (kk : AW p l e R s m args below meth c nL cells slots Q (ds_P D ad cA nb S) A (pc + 3) lv (.int (S.1 13 i 0) :: st)) : AW p l e R s m args below meth c nL cells slots Q (ds_P D ad cA nb S) A pc lv (.ref (ad 10 i) :: st) := aw_get (k := 4) C hK i_Pe rfl (by decide) fl_Wa_Pe_newDesk (fun H h => h 10 i hi) rfl hd kk
theorem pt_Wa_Pe_newDesk (C : CallFix p m c cc nL s args tb_G R_Wa) (hK : va_K D cl_all (ds_ty cA) s) (hI : ds_I ad nb) {i : Nat} (hi : ds_dm nb 10 i) {x : Int32}  (hd : decode cc pc = .ok (.putfield 29, 3)) (kk : AW p l e R s m args below meth c nL cells slots Q (ds_P D ad cA nb (ds_wI S 13 i 0 x)) (ct_A (ds_A ad nb) sz) (pc + 3) lv st) : AW p l e R s m args below meth c nL cells slots Q (ds_P D ad cA nb S) (ct_A (ds_A ad nb) sz) pc lv (.int x :: .ref (ad 10 i) :: st) := aw_put (k := 4) C hK i_Pe t_Pe t_Pe_ok n_Pe rfl (by decide) fl_Wa_Pe_newDesk rfl (t_Pe_ok 4 (by decide)) rfl rfl (ds_in (k := 10) hi) (fun H h => h 10 i hi) (Nat.le_of_ble_eq_true rfl) hd (dw_Pe_newDesk hI hi) kk
theorem gt_Ma_Pe_newDesk (C : CallFix p m c cc nL s args tb_G R_Ma) (hK : va_K D cl_all (ds_ty cA) s) {i : Nat} (hi : ds_dm nb 10 i) (hd : decode cc pc = .ok (.getfield 38, 3)) (kk : AW p l e R s m args below meth c nL cells slots Q (ds_P D ad cA nb S) A (pc + 3) lv (.int (S.1 13 i 0) :: st)) : AW p l e R s m args below meth c nL cells slots Q (ds_P D ad cA nb S) A pc lv (.ref (ad 10 i) :: st) := aw_get (k := 4) C hK i_Pe rfl (by decide) fl_Ma_Pe_newDesk (fun H h => h 10 i hi) rfl hd kk
theorem pt_Ma_Pe_newDesk (C : CallFix p m c cc nL s args tb_G R_Ma) (hK : va_K D cl_all (ds_ty cA) s) (hI : ds_I ad nb) {i : Nat} (hi : ds_dm nb 10 i) {x : Int32}  (hd : decode cc pc = .ok (.putfield 38, 3)) (kk : AW p l e R s m args below meth c nL cells slots Q (ds_P D ad cA nb (ds_wI S 13 i 0 x)) (ct_A (ds_A ad nb) sz) (pc + 3) lv st) : AW p l e R s m args below meth c nL cells slots Q (ds_P D ad cA nb S) (ct_A (ds_A ad nb) sz) pc lv (.int x :: .ref (ad 10 i) :: st) := aw_put (k := 4) C hK i_Pe t_Pe t_Pe_ok n_Pe rfl (by decide) fl_Ma_Pe_newDesk rfl (t_Pe_ok 4 (by decide)) rfl rfl (ds_in (k := 10) hi) (fun H h => h 10 i hi) (Nat.le_of_ble_eq_true rfl) hd (dw_Pe_newDesk hI hi) kk
theorem gt_De_Pe_newDesk (C : CallFix p m c cc nL s args tb_G R_De) (hK : va_K D cl_all (ds_ty cA) s) {i : Nat} (hi : ds_dm nb 10 i) (hd : decode cc pc = .ok (.getfield 105, 3)) (kk : AW p l e R s m args below meth c nL cells slots Q (ds_P D ad cA nb S) A (pc + 3) lv (.int (S.1 13 i 0) :: st)) : AW p l e R s m args below meth c nL cells slots Q (ds_P D ad cA nb S) A pc lv (.ref (ad 10 i) :: st) := aw_get (k := 4) C hK i_Pe rfl (by decide) fl_De_Pe_newDesk (fun H h => h 10 i hi) rfl hd kk
theorem pt_De_Pe_newDesk (C : CallFix p m c cc nL s args tb_G R_De) (hK : va_K D cl_all (ds_ty cA) s) (hI : ds_I ad nb) {i : Nat} (hi : ds_dm nb 10 i) {x : Int32}  (hd : decode cc pc = .ok (.putfield 105, 3)) (kk : AW p l e R s m args below meth c nL cells slots Q (ds_P D ad cA nb (ds_wI S 13 i 0 x)) (ct_A (ds_A ad nb) sz) (pc + 3) lv st) : AW p l e R s m args below meth c nL cells slots Q (ds_P D ad cA nb S) (ct_A (ds_A ad nb) sz) pc lv (.int x :: .ref (ad 10 i) :: st) := aw_put (k := 4) C hK i_Pe t_Pe t_Pe_ok n_Pe rfl (by decide) fl_De_Pe_newDesk rfl (t_Pe_ok 4 (by decide)) rfl rfl (ds_in (k := 10) hi) (fun H h => h 10 i hi) (Nat.le_of_ble_eq_true rfl) hd (dw_Pe_newDesk hI hi) kk
theorem gt_Pe_Pe_place (C : CallFix p m c cc nL s args tb_G R_Pe) (hK : va_K D cl_all (ds_ty cA) s) {i : Nat} (hi : ds_dm nb 10 i) (hd : decode cc pc = .ok (.getfield 26, 3)) (kk : AW p l e R s m args below meth c nL cells slots Q (ds_P D ad cA nb S) A (pc + 3) lv (.int (S.1 14 i 0) :: st)) : AW p l e R s m args below meth c nL cells slots Q (ds_P D ad cA nb S) A pc lv (.ref (ad 10 i) :: st) := aw_get (k := 5) C hK i_Pe rfl (by decide) fl_Pe_Pe_place (fun H h => h 10 i hi) rfl hd kk
theorem pt_Pe_Pe_place (C : CallFix p m c cc nL s args tb_G R_Pe) (hK : va_K D cl_all (ds_ty cA) s) (hI : ds_I ad nb) {i : Nat} (hi : ds_dm nb 10 i) {x : Int32}  (hd : decode cc pc = .ok (.putfield 26, 3)) (kk : AW p l e R s m args below meth c nL cells slots Q (ds_P D ad cA nb (ds_wI S 14 i 0 x)) (ct_A (ds_A ad nb) sz) (pc + 3) lv st) : AW p l e R s m args below meth c nL cells slots Q (ds_P D ad cA nb S) (ct_A (ds_A ad nb) sz) pc lv (.int x :: .ref (ad 10 i) :: st) := aw_put (k := 5) C hK i_Pe t_Pe t_Pe_ok n_Pe rfl (by decide) fl_Pe_Pe_place rfl (t_Pe_ok 5 (by decide)) rfl rfl (ds_in (k := 10) hi) (fun H h => h 10 i hi) (Nat.le_of_ble_eq_true rfl) hd (dw_Pe_place hI hi) kk
theorem gt_Wa_Pe_place (C : CallFix p m c cc nL s args tb_G R_Wa) (hK : va_K D cl_all (ds_ty cA) s) {i : Nat} (hi : ds_dm nb 10 i) (hd : decode cc pc = .ok (.getfield 59, 3)) (kk : AW p l e R s m args below meth c nL cells slots Q (ds_P D ad cA nb S) A (pc + 3) lv (.int (S.1 14 i 0) :: st)) : AW p l e R s m args below meth c nL cells slots Q (ds_P D ad cA nb S) A pc lv (.ref (ad 10 i) :: st) := aw_get (k := 5) C hK i_Pe rfl (by decide) fl_Wa_Pe_place (fun H h => h 10 i hi) rfl hd kk
theorem pt_Wa_Pe_place (C : CallFix p m c cc nL s args tb_G R_Wa) (hK : va_K D cl_all (ds_ty cA) s) (hI : ds_I ad nb) {i : Nat} (hi : ds_dm nb 10 i) {x : Int32}  (hd : decode cc pc = .ok (.putfield 59, 3)) (kk : AW p l e R s m args below meth c nL cells slots Q (ds_P D ad cA nb (ds_wI S 14 i 0 x)) (ct_A (ds_A ad nb) sz) (pc + 3) lv st) : AW p l e R s m args below meth c nL cells slots Q (ds_P D ad cA nb S) (ct_A (ds_A ad nb) sz) pc lv (.int x :: .ref (ad 10 i) :: st) := aw_put (k := 5) C hK i_Pe t_Pe t_Pe_ok n_Pe rfl (by decide) fl_Wa_Pe_place rfl (t_Pe_ok 5 (by decide)) rfl rfl (ds_in (k := 10) hi) (fun H h => h 10 i hi) (Nat.le_of_ble_eq_true rfl) hd (dw_Pe_place hI hi) kk
theorem gt_Ma_Pe_price (C : CallFix p m c cc nL s args tb_G R_Ma) (hK : va_K D cl_all (ds_ty cA) s) {i : Nat} (hi : ds_dm nb 10 i) (hd : decode cc pc = .ok (.getfield 60, 3)) (kk : AW p l e R s m args below meth c nL cells slots Q (ds_P D ad cA nb S) A (pc + 3) lv (.long (S.2.1 0 i) :: st)) : AW p l e R s m args below meth c nL cells slots Q (ds_P D ad cA nb S) A pc lv (.ref (ad 10 i) :: st) := aw_get (k := 6) C hK i_Pe rfl (by decide) fl_Ma_Pe_price (fun H h => h 10 i hi) rfl hd kk
theorem pt_Ma_Pe_price (C : CallFix p m c cc nL s args tb_G R_Ma) (hK : va_K D cl_all (ds_ty cA) s) (hI : ds_I ad nb) {i : Nat} (hi : ds_dm nb 10 i) {x : Int64}  (hd : decode cc pc = .ok (.putfield 60, 3)) (kk : AW p l e R s m args below meth c nL cells slots Q (ds_P D ad cA nb (ds_wJ S 0 i x)) (ct_A (ds_A ad nb) sz) (pc + 3) lv st) : AW p l e R s m args below meth c nL cells slots Q (ds_P D ad cA nb S) (ct_A (ds_A ad nb) sz) pc lv (.long x :: .ref (ad 10 i) :: st) := aw_put (k := 6) C hK i_Pe t_Pe t_Pe_ok n_Pe rfl (by decide) fl_Ma_Pe_price rfl (t_Pe_ok 6 (by decide)) rfl rfl (ds_in (k := 10) hi) (fun H h => h 10 i hi) (Nat.le_of_ble_eq_true rfl) hd (dw_Pe_price hI hi) kk
theorem gt_Ro_Ro_number (C : CallFix p m c cc nL s args tb_G R_Ro) (hK : va_K D cl_all (ds_ty cA) s) {i : Nat} (hi : ds_dm nb 14 i) (hd : decode cc pc = .ok (.getfield 7, 3)) (kk : AW p l e R s m args below meth c nL cells slots Q (ds_P D ad cA nb S) A (pc + 3) lv (.int (nI i) :: st)) : AW p l e R s m args below meth c nL cells slots Q (ds_P D ad cA nb S) A pc lv (.ref (ad 14 i) :: st) := aw_get (k := 0) C hK i_Ro rfl (by decide) fl_Ro_Ro_number (fun H h => h 14 i hi) rfl hd kk
theorem gt_De_Ro_number (C : CallFix p m c cc nL s args tb_G R_De) (hK : va_K D cl_all (ds_ty cA) s) {i : Nat} (hi : ds_dm nb 14 i) (hd : decode cc pc = .ok (.getfield 179, 3)) (kk : AW p l e R s m args below meth c nL cells slots Q (ds_P D ad cA nb S) A (pc + 3) lv (.int (nI i) :: st)) : AW p l e R s m args below meth c nL cells slots Q (ds_P D ad cA nb S) A pc lv (.ref (ad 14 i) :: st) := aw_get (k := 0) C hK i_Ro rfl (by decide) fl_De_Ro_number (fun H h => h 14 i hi) rfl hd kk
theorem gt_Ro_Ro_places (C : CallFix p m c cc nL s args tb_G R_Ro) (hK : va_K D cl_all (ds_ty cA) s) {i : Nat} (hi : ds_dm nb 14 i) (hd : decode cc pc = .ok (.getfield 28, 3)) (kk : AW p l e R s m args below meth c nL cells slots Q (ds_P D ad cA nb S) A (pc + 3) lv (.int (S.1 19 i 0) :: st)) : AW p l e R s m args below meth c nL cells slots Q (ds_P D ad cA nb S) A pc lv (.ref (ad 14 i) :: st) := aw_get (k := 1) C hK i_Ro rfl (by decide) fl_Ro_Ro_places (fun H h => h 14 i hi) rfl hd kk
theorem pt_Ro_Ro_places (C : CallFix p m c cc nL s args tb_G R_Ro) (hK : va_K D cl_all (ds_ty cA) s) (hI : ds_I ad nb) {i : Nat} (hi : ds_dm nb 14 i) {x : Int32}  (hd : decode cc pc = .ok (.putfield 28, 3)) (kk : AW p l e R s m args below meth c nL cells slots Q (ds_P D ad cA nb (ds_wI S 19 i 0 x)) (ct_A (ds_A ad nb) sz) (pc + 3) lv st) : AW p l e R s m args below meth c nL cells slots Q (ds_P D ad cA nb S) (ct_A (ds_A ad nb) sz) pc lv (.int x :: .ref (ad 14 i) :: st) := aw_put (k := 1) C hK i_Ro t_Ro t_Ro_ok n_Ro rfl (by decide) fl_Ro_Ro_places rfl (t_Ro_ok 1 (by decide)) rfl rfl (ds_in (k := 14) hi) (fun H h => h 14 i hi) (Nat.le_of_ble_eq_true rfl) hd (dw_Ro_places hI hi) kk
theorem gt_De_Ro_places (C : CallFix p m c cc nL s args tb_G R_De) (hK : va_K D cl_all (ds_ty cA) s) {i : Nat} (hi : ds_dm nb 14 i) (hd : decode cc pc = .ok (.getfield 141, 3)) (kk : AW p l e R s m args below meth c nL cells slots Q (ds_P D ad cA nb S) A (pc + 3) lv (.int (S.1 19 i 0) :: st)) : AW p l e R s m args below meth c nL cells slots Q (ds_P D ad cA nb S) A pc lv (.ref (ad 14 i) :: st) := aw_get (k := 1) C hK i_Ro rfl (by decide) fl_De_Ro_places (fun H h => h 14 i hi) rfl hd kk
theorem pt_De_Ro_places (C : CallFix p m c cc nL s args tb_G R_De) (hK : va_K D cl_all (ds_ty cA) s) (hI : ds_I ad nb) {i : Nat} (hi : ds_dm nb 14 i) {x : Int32}  (hd : decode cc pc = .ok (.putfield 141, 3)) (kk : AW p l e R s m args below meth c nL cells slots Q (ds_P D ad cA nb (ds_wI S 19 i 0 x)) (ct_A (ds_A ad nb) sz) (pc + 3) lv st) : AW p l e R s m args below meth c nL cells slots Q (ds_P D ad cA nb S) (ct_A (ds_A ad nb) sz) pc lv (.int x :: .ref (ad 14 i) :: st) := aw_put (k := 1) C hK i_Ro t_Ro t_Ro_ok n_Ro rfl (by decide) fl_De_Ro_places rfl (t_Ro_ok 1 (by decide)) rfl rfl (ds_in (k := 14) hi) (fun H h => h 14 i hi) (Nat.le_of_ble_eq_true rfl) hd (dw_Ro_places hI hi) kk
theorem gt_Ro_Ro_first (C : CallFix p m c cc nL s args tb_G R_Ro) (hK : va_K D cl_all (ds_ty cA) s) {i : Nat} (hi : ds_dm nb 14 i) (hd : decode cc pc = .ok (.getfield 13, 3)) (kk : AW p l e R s m args below meth c nL cells slots Q (ds_P D ad cA nb S) A (pc + 3) lv (va_rf ((S.2.2 2 i).map (ad 15)) :: st)) : AW p l e R s m args below meth c nL cells slots Q (ds_P D ad cA nb S) A pc lv (.ref (ad 14 i) :: st) := aw_get (k := 2) C hK i_Ro rfl (by decide) fl_Ro_Ro_first (fun H h => h 14 i hi) rfl hd kk
theorem pt_Ro_Ro_first (C : CallFix p m c cc nL s args tb_G R_Ro) (hK : va_K D cl_all (ds_ty cA) s) (hI : ds_I ad nb) {i : Nat} (hi : ds_dm nb 14 i) {x : Option Nat}  (hd : decode cc pc = .ok (.putfield 13, 3)) (kk : AW p l e R s m args below meth c nL cells slots Q (ds_P D ad cA nb (ds_wR S 2 i x)) (ct_A (ds_A ad nb) sz) (pc + 3) lv st) : AW p l e R s m args below meth c nL cells slots Q (ds_P D ad cA nb S) (ct_A (ds_A ad nb) sz) pc lv (va_rf (x.map (ad 15)) :: .ref (ad 14 i) :: st) := aw_put (k := 2) C hK i_Ro t_Ro t_Ro_ok n_Ro rfl (by decide) fl_Ro_Ro_first rfl (t_Ro_ok 2 (by decide)) (nr_rf _ _).1 (nr_rf _ _).2 (ds_in (k := 14) hi) (fun H h => h 14 i hi) (Nat.le_of_ble_eq_true rfl) hd (dw_Ro_first hI hi) kk
theorem gt_De_De_persons (C : CallFix p m c cc nL s args tb_G R_De) (hK : va_K D cl_all (ds_ty cA) s)  (hd : decode cc pc = .ok (.getfield 11, 3)) (kk : AW p l e R s m args below meth c nL cells slots Q (ds_P D ad cA nb S) A (pc + 3) lv (.ref (ad 1 0) :: st)) : AW p l e R s m args below meth c nL cells slots Q (ds_P D ad cA nb S) A pc lv (.ref (ad 0 0) :: st) := aw_get (k := 0) C hK i_De rfl (by decide) fl_De_De_persons (fun H h => h 0 0 rfl) rfl hd kk
theorem gt_De_De_matcher (C : CallFix p m c cc nL s args tb_G R_De) (hK : va_K D cl_all (ds_ty cA) s)  (hd : decode cc pc = .ok (.getfield 18, 3)) (kk : AW p l e R s m args below meth c nL cells slots Q (ds_P D ad cA nb S) A (pc + 3) lv (.ref (ad 2 0) :: st)) : AW p l e R s m args below meth c nL cells slots Q (ds_P D ad cA nb S) A pc lv (.ref (ad 0 0) :: st) := aw_get (k := 1) C hK i_De rfl (by decide) fl_De_De_matcher (fun H h => h 0 0 rfl) rfl hd kk
theorem gt_De_De_walk (C : CallFix p m c cc nL s args tb_G R_De) (hK : va_K D cl_all (ds_ty cA) s)  (hd : decode cc pc = .ok (.getfield 25, 3)) (kk : AW p l e R s m args below meth c nL cells slots Q (ds_P D ad cA nb S) A (pc + 3) lv (.ref (ad 4 0) :: st)) : AW p l e R s m args below meth c nL cells slots Q (ds_P D ad cA nb S) A pc lv (.ref (ad 0 0) :: st) := aw_get (k := 2) C hK i_De rfl (by decide) fl_De_De_walk (fun H h => h 0 0 rfl) rfl hd kk
theorem gt_De_De_rooms (C : CallFix p m c cc nL s args tb_G R_De) (hK : va_K D cl_all (ds_ty cA) s)  (hd : decode cc pc = .ok (.getfield 31, 3)) (kk : AW p l e R s m args below meth c nL cells slots Q (ds_P D ad cA nb S) A (pc + 3) lv (.ref (ad 8 0) :: st)) : AW p l e R s m args below meth c nL cells slots Q (ds_P D ad cA nb S) A pc lv (.ref (ad 0 0) :: st) := aw_get (k := 3) C hK i_De rfl (by decide) fl_De_De_rooms (fun H h => h 0 0 rfl) rfl hd kk
theorem gt_De_De_bookings (C : CallFix p m c cc nL s args tb_G R_De) (hK : va_K D cl_all (ds_ty cA) s)  (hd : decode cc pc = .ok (.getfield 37, 3)) (kk : AW p l e R s m args below meth c nL cells slots Q (ds_P D ad cA nb S) A (pc + 3) lv (.ref (ad 9 0) :: st)) : AW p l e R s m args below meth c nL cells slots Q (ds_P D ad cA nb S) A pc lv (.ref (ad 0 0) :: st) := aw_get (k := 4) C hK i_De rfl (by decide) fl_De_De_bookings (fun H h => h 0 0 rfl) rfl hd kk
theorem gt_De_De_deskCount (C : CallFix p m c cc nL s args tb_G R_De) (hK : va_K D cl_all (ds_ty cA) s)  (hd : decode cc pc = .ok (.getfield 45, 3)) (kk : AW p l e R s m args below meth c nL cells slots Q (ds_P D ad cA nb S) A (pc + 3) lv (.int (S.1 0 0 0) :: st)) : AW p l e R s m args below meth c nL cells slots Q (ds_P D ad cA nb S) A pc lv (.ref (ad 0 0) :: st) := aw_get (k := 5) C hK i_De rfl (by decide) fl_De_De_deskCount (fun H h => h 0 0 rfl) rfl hd kk
theorem pt_De_De_deskCount (C : CallFix p m c cc nL s args tb_G R_De) (hK : va_K D cl_all (ds_ty cA) s) (hI : ds_I ad nb)  {x : Int32}  (hd : decode cc pc = .ok (.putfield 45, 3)) (kk : AW p l e R s m args below meth c nL cells slots Q (ds_P D ad cA nb (ds_wI S 0 0 0 x)) (ct_A (ds_A ad nb) sz) (pc + 3) lv st) : AW p l e R s m args below meth c nL cells slots Q (ds_P D ad cA nb S) (ct_A (ds_A ad nb) sz) pc lv (.int x :: .ref (ad 0 0) :: st) := aw_put (k := 5) C hK i_De t_De t_De_ok n_De rfl (by decide) fl_De_De_deskCount rfl (t_De_ok 5 (by decide)) rfl rfl (ds_in (k := 0) (i := 0) rfl) (fun H h => h 0 0 rfl) (Nat.le_of_ble_eq_true rfl) hd (dw_De_deskCount hI (i := 0) rfl) kk
theorem gt_De_De_personCount (C : CallFix p m c cc nL s args tb_G R_De) (hK : va_K D cl_all (ds_ty cA) s)  (hd : decode cc pc = .ok (.getfield 60, 3)) (kk : AW p l e R s m args below meth c nL cells slots Q (ds_P D ad cA nb S) A (pc + 3) lv (.int (S.1 1 0 0) :: st)) : AW p l e R s m args below meth c nL cells slots Q (ds_P D ad cA nb S) A pc lv (.ref (ad 0 0) :: st) := aw_get (k := 6) C hK i_De rfl (by decide) fl_De_De_personCount (fun H h => h 0 0 rfl) rfl hd kk
theorem pt_De_De_personCount (C : CallFix p m c cc nL s args tb_G R_De) (hK : va_K D cl_all (ds_ty cA) s) (hI : ds_I ad nb)  {x : Int32}  (hd : decode cc pc = .ok (.putfield 60, 3)) (kk : AW p l e R s m args below meth c nL cells slots Q (ds_P D ad cA nb (ds_wI S 1 0 0 x)) (ct_A (ds_A ad nb) sz) (pc + 3) lv st) : AW p l e R s m args below meth c nL cells slots Q (ds_P D ad cA nb S) (ct_A (ds_A ad nb) sz) pc lv (.int x :: .ref (ad 0 0) :: st) := aw_put (k := 6) C hK i_De t_De t_De_ok n_De rfl (by decide) fl_De_De_personCount rfl (t_De_ok 6 (by decide)) rfl rfl (ds_in (k := 0) (i := 0) rfl) (fun H h => h 0 0 rfl) (Nat.le_of_ble_eq_true rfl) hd (dw_De_personCount hI (i := 0) rfl) kk
theorem gt_De_De_roomCount (C : CallFix p m c cc nL s args tb_G R_De) (hK : va_K D cl_all (ds_ty cA) s)  (hd : decode cc pc = .ok (.getfield 136, 3)) (kk : AW p l e R s m args below meth c nL cells slots Q (ds_P D ad cA nb S) A (pc + 3) lv (.int (S.1 2 0 0) :: st)) : AW p l e R s m args below meth c nL cells slots Q (ds_P D ad cA nb S) A pc lv (.ref (ad 0 0) :: st) := aw_get (k := 7) C hK i_De rfl (by decide) fl_De_De_roomCount (fun H h => h 0 0 rfl) rfl hd kk
theorem pt_De_De_roomCount (C : CallFix p m c cc nL s args tb_G R_De) (hK : va_K D cl_all (ds_ty cA) s) (hI : ds_I ad nb)  {x : Int32}  (hd : decode cc pc = .ok (.putfield 136, 3)) (kk : AW p l e R s m args below meth c nL cells slots Q (ds_P D ad cA nb (ds_wI S 2 0 0 x)) (ct_A (ds_A ad nb) sz) (pc + 3) lv st) : AW p l e R s m args below meth c nL cells slots Q (ds_P D ad cA nb S) (ct_A (ds_A ad nb) sz) pc lv (.int x :: .ref (ad 0 0) :: st) := aw_put (k := 7) C hK i_De t_De t_De_ok n_De rfl (by decide) fl_De_De_roomCount rfl (t_De_ok 7 (by decide)) rfl rfl (ds_in (k := 0) (i := 0) rfl) (fun H h => h 0 0 rfl) (Nat.le_of_ble_eq_true rfl) hd (dw_De_roomCount hI (i := 0) rfl) kk
theorem gt_De_De_bookingCount (C : CallFix p m c cc nL s args tb_G R_De) (hK : va_K D cl_all (ds_ty cA) s)  (hd : decode cc pc = .ok (.getfield 148, 3)) (kk : AW p l e R s m args below meth c nL cells slots Q (ds_P D ad cA nb S) A (pc + 3) lv (.int (S.1 3 0 0) :: st)) : AW p l e R s m args below meth c nL cells slots Q (ds_P D ad cA nb S) A pc lv (.ref (ad 0 0) :: st) := aw_get (k := 8) C hK i_De rfl (by decide) fl_De_De_bookingCount (fun H h => h 0 0 rfl) rfl hd kk
theorem pt_De_De_bookingCount (C : CallFix p m c cc nL s args tb_G R_De) (hK : va_K D cl_all (ds_ty cA) s) (hI : ds_I ad nb)  {x : Int32}  (hd : decode cc pc = .ok (.putfield 148, 3)) (kk : AW p l e R s m args below meth c nL cells slots Q (ds_P D ad cA nb (ds_wI S 3 0 0 x)) (ct_A (ds_A ad nb) sz) (pc + 3) lv st) : AW p l e R s m args below meth c nL cells slots Q (ds_P D ad cA nb S) (ct_A (ds_A ad nb) sz) pc lv (.int x :: .ref (ad 0 0) :: st) := aw_put (k := 8) C hK i_De t_De t_De_ok n_De rfl (by decide) fl_De_De_bookingCount rfl (t_De_ok 8 (by decide)) rfl rfl (ds_in (k := 0) (i := 0) rfl) (fun H h => h 0 0 rfl) (Nat.le_of_ble_eq_true rfl) hd (dw_De_bookingCount hI (i := 0) rfl) kk
theorem gt_De_De_seatingMade (C : CallFix p m c cc nL s args tb_G R_De) (hK : va_K D cl_all (ds_ty cA) s)  (hd : decode cc pc = .ok (.getfield 56, 3)) (kk : AW p l e R s m args below meth c nL cells slots Q (ds_P D ad cA nb S) A (pc + 3) lv (.int (S.1 4 0 0) :: st)) : AW p l e R s m args below meth c nL cells slots Q (ds_P D ad cA nb S) A pc lv (.ref (ad 0 0) :: st) := aw_get (k := 9) C hK i_De rfl (by decide) fl_De_De_seatingMade (fun H h => h 0 0 rfl) rfl hd kk
theorem pt_De_De_seatingMade (C : CallFix p m c cc nL s args tb_G R_De) (hK : va_K D cl_all (ds_ty cA) s) (hI : ds_I ad nb)  {x : Int32} (hz : x = 0 ∨ x = 1) (hd : decode cc pc = .ok (.putfield 56, 3)) (kk : AW p l e R s m args below meth c nL cells slots Q (ds_P D ad cA nb (ds_wI S 4 0 0 x)) (ct_A (ds_A ad nb) sz) (pc + 3) lv st) : AW p l e R s m args below meth c nL cells slots Q (ds_P D ad cA nb S) (ct_A (ds_A ad nb) sz) pc lv (.int x :: .ref (ad 0 0) :: st) := aw_put (k := 9) C hK i_De t_De t_De_ok n_De rfl (by decide) fl_De_De_seatingMade rfl (t_De_ok 9 (by decide)) (nr_z hz).1 (nr_z hz).2 (ds_in (k := 0) (i := 0) rfl) (fun H h => h 0 0 rfl) (Nat.le_of_ble_eq_true rfl) hd (dw_De_seatingMade hI (i := 0) rfl) kk
theorem gt_De_De_seatingWorth (C : CallFix p m c cc nL s args tb_G R_De) (hK : va_K D cl_all (ds_ty cA) s)  (hd : decode cc pc = .ok (.getfield 102, 3)) (kk : AW p l e R s m args below meth c nL cells slots Q (ds_P D ad cA nb S) A (pc + 3) lv (.int (S.1 5 0 0) :: st)) : AW p l e R s m args below meth c nL cells slots Q (ds_P D ad cA nb S) A pc lv (.ref (ad 0 0) :: st) := aw_get (k := 10) C hK i_De rfl (by decide) fl_De_De_seatingWorth (fun H h => h 0 0 rfl) rfl hd kk
theorem pt_De_De_seatingWorth (C : CallFix p m c cc nL s args tb_G R_De) (hK : va_K D cl_all (ds_ty cA) s) (hI : ds_I ad nb)  {x : Int32}  (hd : decode cc pc = .ok (.putfield 102, 3)) (kk : AW p l e R s m args below meth c nL cells slots Q (ds_P D ad cA nb (ds_wI S 5 0 0 x)) (ct_A (ds_A ad nb) sz) (pc + 3) lv st) : AW p l e R s m args below meth c nL cells slots Q (ds_P D ad cA nb S) (ct_A (ds_A ad nb) sz) pc lv (.int x :: .ref (ad 0 0) :: st) := aw_put (k := 10) C hK i_De t_De t_De_ok n_De rfl (by decide) fl_De_De_seatingWorth rfl (t_De_ok 10 (by decide)) rfl rfl (ds_in (k := 0) (i := 0) rfl) (fun H h => h 0 0 rfl) (Nat.le_of_ble_eq_true rfl) hd (dw_De_seatingWorth hI (i := 0) rfl) kk
theorem gt_Bk_Bk_number (C : CallFix p m c cc nL s args tb_G R_Bk) (hK : va_K D cl_all (ds_ty cA) s) {i : Nat} (hi : ds_dm nb 15 i) (hd : decode cc pc = .ok (.getfield 7, 3)) (kk : AW p l e R s m args below meth c nL cells slots Q (ds_P D ad cA nb S) A (pc + 3) lv (.int (nI i) :: st)) : AW p l e R s m args below meth c nL cells slots Q (ds_P D ad cA nb S) A pc lv (.ref (ad 15 i) :: st) := aw_get (k := 0) C hK i_Bk rfl (by decide) fl_Bk_Bk_number (fun H h => h 15 i hi) rfl hd kk
theorem gt_De_Bk_number (C : CallFix p m c cc nL s args tb_G R_De) (hK : va_K D cl_all (ds_ty cA) s) {i : Nat} (hi : ds_dm nb 15 i) (hd : decode cc pc = .ok (.getfield 164, 3)) (kk : AW p l e R s m args below meth c nL cells slots Q (ds_P D ad cA nb S) A (pc + 3) lv (.int (nI i) :: st)) : AW p l e R s m args below meth c nL cells slots Q (ds_P D ad cA nb S) A pc lv (.ref (ad 15 i) :: st) := aw_get (k := 0) C hK i_Bk rfl (by decide) fl_De_Bk_number (fun H h => h 15 i hi) rfl hd kk
theorem gt_Bk_Bk_bookedRoom (C : CallFix p m c cc nL s args tb_G R_Bk) (hK : va_K D cl_all (ds_ty cA) s) {i : Nat} (hi : ds_dm nb 15 i) (hd : decode cc pc = .ok (.getfield 13, 3)) (kk : AW p l e R s m args below meth c nL cells slots Q (ds_P D ad cA nb S) A (pc + 3) lv (va_rf ((S.2.2 4 i).map (ad 14)) :: st)) : AW p l e R s m args below meth c nL cells slots Q (ds_P D ad cA nb S) A pc lv (.ref (ad 15 i) :: st) := aw_get (k := 1) C hK i_Bk rfl (by decide) fl_Bk_Bk_bookedRoom (fun H h => h 15 i hi) rfl hd kk
theorem gt_De_Bk_bookedRoom (C : CallFix p m c cc nL s args tb_G R_De) (hK : va_K D cl_all (ds_ty cA) s) {i : Nat} (hi : ds_dm nb 15 i) (hd : decode cc pc = .ok (.getfield 171, 3)) (kk : AW p l e R s m args below meth c nL cells slots Q (ds_P D ad cA nb S) A (pc + 3) lv (va_rf ((S.2.2 4 i).map (ad 14)) :: st)) : AW p l e R s m args below meth c nL cells slots Q (ds_P D ad cA nb S) A pc lv (.ref (ad 15 i) :: st) := aw_get (k := 1) C hK i_Bk rfl (by decide) fl_De_Bk_bookedRoom (fun H h => h 15 i hi) rfl hd kk
theorem gt_Bk_Bk_from (C : CallFix p m c cc nL s args tb_G R_Bk) (hK : va_K D cl_all (ds_ty cA) s) {i : Nat} (hi : ds_dm nb 15 i) (hd : decode cc pc = .ok (.getfield 17, 3)) (kk : AW p l e R s m args below meth c nL cells slots Q (ds_P D ad cA nb S) A (pc + 3) lv (.int (S.1 20 i 0) :: st)) : AW p l e R s m args below meth c nL cells slots Q (ds_P D ad cA nb S) A pc lv (.ref (ad 15 i) :: st) := aw_get (k := 2) C hK i_Bk rfl (by decide) fl_Bk_Bk_from (fun H h => h 15 i hi) rfl hd kk
theorem gt_Ro_Bk_from (C : CallFix p m c cc nL s args tb_G R_Ro) (hK : va_K D cl_all (ds_ty cA) s) {i : Nat} (hi : ds_dm nb 15 i) (hd : decode cc pc = .ok (.getfield 17, 3)) (kk : AW p l e R s m args below meth c nL cells slots Q (ds_P D ad cA nb S) A (pc + 3) lv (.int (S.1 20 i 0) :: st)) : AW p l e R s m args below meth c nL cells slots Q (ds_P D ad cA nb S) A pc lv (.ref (ad 15 i) :: st) := aw_get (k := 2) C hK i_Bk rfl (by decide) fl_Ro_Bk_from (fun H h => h 15 i hi) rfl hd kk
theorem gt_Bk_Bk_to (C : CallFix p m c cc nL s args tb_G R_Bk) (hK : va_K D cl_all (ds_ty cA) s) {i : Nat} (hi : ds_dm nb 15 i) (hd : decode cc pc = .ok (.getfield 20, 3)) (kk : AW p l e R s m args below meth c nL cells slots Q (ds_P D ad cA nb S) A (pc + 3) lv (.int (S.1 21 i 0) :: st)) : AW p l e R s m args below meth c nL cells slots Q (ds_P D ad cA nb S) A pc lv (.ref (ad 15 i) :: st) := aw_get (k := 3) C hK i_Bk rfl (by decide) fl_Bk_Bk_to (fun H h => h 15 i hi) rfl hd kk
theorem gt_Ro_Bk_to (C : CallFix p m c cc nL s args tb_G R_Ro) (hK : va_K D cl_all (ds_ty cA) s) {i : Nat} (hi : ds_dm nb 15 i) (hd : decode cc pc = .ok (.getfield 22, 3)) (kk : AW p l e R s m args below meth c nL cells slots Q (ds_P D ad cA nb S) A (pc + 3) lv (.int (S.1 21 i 0) :: st)) : AW p l e R s m args below meth c nL cells slots Q (ds_P D ad cA nb S) A pc lv (.ref (ad 15 i) :: st) := aw_get (k := 3) C hK i_Bk rfl (by decide) fl_Ro_Bk_to (fun H h => h 15 i hi) rfl hd kk
theorem gt_Bk_Bk_heads (C : CallFix p m c cc nL s args tb_G R_Bk) (hK : va_K D cl_all (ds_ty cA) s) {i : Nat} (hi : ds_dm nb 15 i) (hd : decode cc pc = .ok (.getfield 23, 3)) (kk : AW p l e R s m args below meth c nL cells slots Q (ds_P D ad cA nb S) A (pc + 3) lv (.int (S.1 22 i 0) :: st)) : AW p l e R s m args below meth c nL cells slots Q (ds_P D ad cA nb S) A pc lv (.ref (ad 15 i) :: st) := aw_get (k := 4) C hK i_Bk rfl (by decide) fl_Bk_Bk_heads (fun H h => h 15 i hi) rfl hd kk
theorem gt_Ro_Bk_heads (C : CallFix p m c cc nL s args tb_G R_Ro) (hK : va_K D cl_all (ds_ty cA) s) {i : Nat} (hi : ds_dm nb 15 i) (hd : decode cc pc = .ok (.getfield 31, 3)) (kk : AW p l e R s m args below meth c nL cells slots Q (ds_P D ad cA nb S) A (pc + 3) lv (.int (S.1 22 i 0) :: st)) : AW p l e R s m args below meth c nL cells slots Q (ds_P D ad cA nb S) A pc lv (.ref (ad 15 i) :: st) := aw_get (k := 4) C hK i_Bk rfl (by decide) fl_Ro_Bk_heads (fun H h => h 15 i hi) rfl hd kk
theorem gt_Ro_Bk_next (C : CallFix p m c cc nL s args tb_G R_Ro) (hK : va_K D cl_all (ds_ty cA) s) {i : Nat} (hi : ds_dm nb 15 i) (hd : decode cc pc = .ok (.getfield 25, 3)) (kk : AW p l e R s m args below meth c nL cells slots Q (ds_P D ad cA nb S) A (pc + 3) lv (va_rf ((S.2.2 3 i).map (ad 15)) :: st)) : AW p l e R s m args below meth c nL cells slots Q (ds_P D ad cA nb S) A pc lv (.ref (ad 15 i) :: st) := aw_get (k := 5) C hK i_Bk rfl (by decide) fl_Ro_Bk_next (fun H h => h 15 i hi) rfl hd kk
theorem pt_Ro_Bk_next (C : CallFix p m c cc nL s args tb_G R_Ro) (hK : va_K D cl_all (ds_ty cA) s) (hI : ds_I ad nb) {i : Nat} (hi : ds_dm nb 15 i) {x : Option Nat}  (hd : decode cc pc = .ok (.putfield 25, 3)) (kk : AW p l e R s m args below meth c nL cells slots Q (ds_P D ad cA nb (ds_wR S 3 i x)) (ct_A (ds_A ad nb) sz) (pc + 3) lv st) : AW p l e R s m args below meth c nL cells slots Q (ds_P D ad cA nb S) (ct_A (ds_A ad nb) sz) pc lv (va_rf (x.map (ad 15)) :: .ref (ad 15 i) :: st) := aw_put (k := 5) C hK i_Bk t_Bk t_Bk_ok n_Bk rfl (by decide) fl_Ro_Bk_next rfl (t_Bk_ok 5 (by decide)) (nr_rf _ _).1 (nr_rf _ _).2 (ds_in (k := 15) hi) (fun H h => h 15 i hi) (Nat.le_of_ble_eq_true rfl) hd (dw_Bk_next hI hi) kk
theorem ln_1 {own : String} (C : CallFix p m c cc nL s args tb_G own) (hK : va_K D cl_all (ds_ty cA) s)  (hd : decode cc pc = .ok (.arraylength, 1)) (kk : AW p l e R s m args below meth c nL cells slots Q (ds_P D ad cA nb S) A (pc + 1) lv (.int (nI 10) :: st)) : AW p l e R s m args below meth c nL cells slots Q (ds_P D ad cA nb S) A pc lv (.ref (ad 1 0) :: st) := aw_alen C hK 2 rfl (fun H h => h 1 0 rfl) rfl hd kk
theorem al_1 {own : String} (C : CallFix p m c cc nL s args tb_G own) (hK : va_K D cl_all (ds_ty cA) s)  {x : Int32} (k : Nat) (hx : x = nI k) (hk : k < 10) (hd : decode cc pc = .ok (.aaload, 1)) (kk : AW p l e R s m args below meth c nL cells slots Q (ds_P D ad cA nb S) A (pc + 1) lv (.ref (ad 10 k) :: st)) : AW p l e R s m args below meth c nL cells slots Q (ds_P D ad cA nb S) A pc lv (.int x :: .ref (ad 1 0) :: st) := by
  obtain ⟨h1, h2⟩ := ix_in hx hk (by decide)
  refine aw_aald C hK 2 (n := 10) rfl (fun H h => h 1 0 rfl) h1 hd ?_
  rw [h2]
  exact kk
theorem ln_3 {own : String} (C : CallFix p m c cc nL s args tb_G own) (hK : va_K D cl_all (ds_ty cA) s)  (hd : decode cc pc = .ok (.arraylength, 1)) (kk : AW p l e R s m args below meth c nL cells slots Q (ds_P D ad cA nb S) A (pc + 1) lv (.int (nI 14) :: st)) : AW p l e R s m args below meth c nL cells slots Q (ds_P D ad cA nb S) A pc lv (.ref (ad 3 0) :: st) := aw_alen C hK 3 rfl (fun H h => h 3 0 rfl) rfl hd kk
theorem al_3 {own : String} (C : CallFix p m c cc nL s args tb_G own) (hK : va_K D cl_all (ds_ty cA) s)  {x : Int32} (k : Nat) (hx : x = nI k) (hk : k < 14) (hd : decode cc pc = .ok (.aaload, 1)) (kk : AW p l e R s m args below meth c nL cells slots Q (ds_P D ad cA nb S) A (pc + 1) lv (.ref (ad 13 k) :: st)) : AW p l e R s m args below meth c nL cells slots Q (ds_P D ad cA nb S) A pc lv (.int x :: .ref (ad 3 0) :: st) := by
  obtain ⟨h1, h2⟩ := ix_in hx hk (by decide)
  refine aw_aald C hK 3 (n := 14) rfl (fun H h => h 3 0 rfl) h1 hd ?_
  rw [h2]
  exact kk
theorem ln_8 {own : String} (C : CallFix p m c cc nL s args tb_G own) (hK : va_K D cl_all (ds_ty cA) s)  (hd : decode cc pc = .ok (.arraylength, 1)) (kk : AW p l e R s m args below meth c nL cells slots Q (ds_P D ad cA nb S) A (pc + 1) lv (.int (nI 8) :: st)) : AW p l e R s m args below meth c nL cells slots Q (ds_P D ad cA nb S) A pc lv (.ref (ad 8 0) :: st) := aw_alen C hK 4 rfl (fun H h => h 8 0 rfl) rfl hd kk
theorem al_8 {own : String} (C : CallFix p m c cc nL s args tb_G own) (hK : va_K D cl_all (ds_ty cA) s)  {x : Int32} (k : Nat) (hx : x = nI k) (hk : k < 8) (hd : decode cc pc = .ok (.aaload, 1)) (kk : AW p l e R s m args below meth c nL cells slots Q (ds_P D ad cA nb S) A (pc + 1) lv (.ref (ad 14 k) :: st)) : AW p l e R s m args below meth c nL cells slots Q (ds_P D ad cA nb S) A pc lv (.int x :: .ref (ad 8 0) :: st) := by
  obtain ⟨h1, h2⟩ := ix_in hx hk (by decide)
  refine aw_aald C hK 4 (n := 8) rfl (fun H h => h 8 0 rfl) h1 hd ?_
  rw [h2]
  exact kk
theorem ln_9 {own : String} (C : CallFix p m c cc nL s args tb_G own) (hK : va_K D cl_all (ds_ty cA) s)  (hd : decode cc pc = .ok (.arraylength, 1)) (kk : AW p l e R s m args below meth c nL cells slots Q (ds_P D ad cA nb S) A (pc + 1) lv (.int (nI 300) :: st)) : AW p l e R s m args below meth c nL cells slots Q (ds_P D ad cA nb S) A pc lv (.ref (ad 9 0) :: st) := aw_alen C hK 5 rfl (fun H h => h 9 0 rfl) rfl hd kk
theorem al_9 {own : String} (C : CallFix p m c cc nL s args tb_G own) (hK : va_K D cl_all (ds_ty cA) s)  {x : Int32} (k : Nat) (hx : x = nI k) (hk : k < 300) (hd : decode cc pc = .ok (.aaload, 1)) (kk : AW p l e R s m args below meth c nL cells slots Q (ds_P D ad cA nb S) A (pc + 1) lv (va_rf (if k < nb then some (ad 15 k) else none) :: st)) : AW p l e R s m args below meth c nL cells slots Q (ds_P D ad cA nb S) A pc lv (.int x :: .ref (ad 9 0) :: st) := by
  obtain ⟨h1, h2⟩ := ix_in hx hk (by decide)
  refine aw_aald C hK 5 (n := 300) rfl (fun H h => h 9 0 rfl) h1 hd ?_
  rw [h2]
  exact kk
theorem ln_5 {own : String} (C : CallFix p m c cc nL s args tb_G own) (hK : va_K D cl_all (ds_ty cA) s)  (hd : decode cc pc = .ok (.arraylength, 1)) (kk : AW p l e R s m args below meth c nL cells slots Q (ds_P D ad cA nb S) A (pc + 1) lv (.int (nI 15) :: st)) : AW p l e R s m args below meth c nL cells slots Q (ds_P D ad cA nb S) A pc lv (.ref (ad 5 0) :: st) := aw_alen C hK 0 rfl (fun H h => h 5 0 rfl) rfl hd kk
theorem al_5 {own : String} (C : CallFix p m c cc nL s args tb_G own) (hK : va_K D cl_all (ds_ty cA) s)  {x : Int32} (k : Nat) (hx : x = nI k) (hk : k < 15) (hd : decode cc pc = .ok (.iaload, 1)) (kk : AW p l e R s m args below meth c nL cells slots Q (ds_P D ad cA nb S) A (pc + 1) lv (.int (S.1 16 0 k) :: st)) : AW p l e R s m args below meth c nL cells slots Q (ds_P D ad cA nb S) A pc lv (.int x :: .ref (ad 5 0) :: st) := by
  obtain ⟨h1, h2⟩ := ix_in hx hk (by decide)
  refine aw_iald C hK 0 (n := 15) rfl (fun H h => h 5 0 rfl) h1 hd ?_
  rw [h2]
  exact kk
theorem as_5 {own : String} (C : CallFix p m c cc nL s args tb_G own) (hK : va_K D cl_all (ds_ty cA) s) (hI : ds_I ad nb)  {x y : Int32}  (k : Nat) (hx : x = nI k) (hk : k < 15) (hd : decode cc pc = .ok (.iastore, 1)) (kk : AW p l e R s m args below meth c nL cells slots Q (ds_P D ad cA nb (ds_wI S 16 0 k y)) (ct_A (ds_A ad nb) sz) (pc + 1) lv st) : AW p l e R s m args below meth c nL cells slots Q (ds_P D ad cA nb S) (ct_A (ds_A ad nb) sz) pc lv (.int y :: .int x :: .ref (ad 5 0) :: st) := by
  obtain ⟨h1, h2⟩ := ix_in hx hk (by decide)
  refine aw_iast C hK 0 (n := 15) rfl (ds_in (k := 5) (i := 0) rfl) (fun H h => h 5 0 rfl) h1 hd ?_ kk
  rw [h2]
  exact dw_arr5 hI (i := 0) rfl
theorem ln_6 {own : String} (C : CallFix p m c cc nL s args tb_G own) (hK : va_K D cl_all (ds_ty cA) s)  (hd : decode cc pc = .ok (.arraylength, 1)) (kk : AW p l e R s m args below meth c nL cells slots Q (ds_P D ad cA nb S) A (pc + 1) lv (.int (nI 15) :: st)) : AW p l e R s m args below meth c nL cells slots Q (ds_P D ad cA nb S) A pc lv (.ref (ad 6 0) :: st) := aw_alen C hK 0 rfl (fun H h => h 6 0 rfl) rfl hd kk
theorem al_6 {own : String} (C : CallFix p m c cc nL s args tb_G own) (hK : va_K D cl_all (ds_ty cA) s)  {x : Int32} (k : Nat) (hx : x = nI k) (hk : k < 15) (hd : decode cc pc = .ok (.iaload, 1)) (kk : AW p l e R s m args below meth c nL cells slots Q (ds_P D ad cA nb S) A (pc + 1) lv (.int (S.1 17 0 k) :: st)) : AW p l e R s m args below meth c nL cells slots Q (ds_P D ad cA nb S) A pc lv (.int x :: .ref (ad 6 0) :: st) := by
  obtain ⟨h1, h2⟩ := ix_in hx hk (by decide)
  refine aw_iald C hK 0 (n := 15) rfl (fun H h => h 6 0 rfl) h1 hd ?_
  rw [h2]
  exact kk
theorem as_6 {own : String} (C : CallFix p m c cc nL s args tb_G own) (hK : va_K D cl_all (ds_ty cA) s) (hI : ds_I ad nb)  {x y : Int32}  (k : Nat) (hx : x = nI k) (hk : k < 15) (hd : decode cc pc = .ok (.iastore, 1)) (kk : AW p l e R s m args below meth c nL cells slots Q (ds_P D ad cA nb (ds_wI S 17 0 k y)) (ct_A (ds_A ad nb) sz) (pc + 1) lv st) : AW p l e R s m args below meth c nL cells slots Q (ds_P D ad cA nb S) (ct_A (ds_A ad nb) sz) pc lv (.int y :: .int x :: .ref (ad 6 0) :: st) := by
  obtain ⟨h1, h2⟩ := ix_in hx hk (by decide)
  refine aw_iast C hK 0 (n := 15) rfl (ds_in (k := 6) (i := 0) rfl) (fun H h => h 6 0 rfl) h1 hd ?_ kk
  rw [h2]
  exact dw_arr6 hI (i := 0) rfl
theorem ln_7 {own : String} (C : CallFix p m c cc nL s args tb_G own) (hK : va_K D cl_all (ds_ty cA) s)  (hd : decode cc pc = .ok (.arraylength, 1)) (kk : AW p l e R s m args below meth c nL cells slots Q (ds_P D ad cA nb S) A (pc + 1) lv (.int (nI 15) :: st)) : AW p l e R s m args below meth c nL cells slots Q (ds_P D ad cA nb S) A pc lv (.ref (ad 7 0) :: st) := aw_alen C hK 0 rfl (fun H h => h 7 0 rfl) rfl hd kk
theorem al_7 {own : String} (C : CallFix p m c cc nL s args tb_G own) (hK : va_K D cl_all (ds_ty cA) s)  {x : Int32} (k : Nat) (hx : x = nI k) (hk : k < 15) (hd : decode cc pc = .ok (.iaload, 1)) (kk : AW p l e R s m args below meth c nL cells slots Q (ds_P D ad cA nb S) A (pc + 1) lv (.int (S.1 18 0 k) :: st)) : AW p l e R s m args below meth c nL cells slots Q (ds_P D ad cA nb S) A pc lv (.int x :: .ref (ad 7 0) :: st) := by
  obtain ⟨h1, h2⟩ := ix_in hx hk (by decide)
  refine aw_iald C hK 0 (n := 15) rfl (fun H h => h 7 0 rfl) h1 hd ?_
  rw [h2]
  exact kk
theorem as_7 {own : String} (C : CallFix p m c cc nL s args tb_G own) (hK : va_K D cl_all (ds_ty cA) s) (hI : ds_I ad nb)  {x y : Int32}  (k : Nat) (hx : x = nI k) (hk : k < 15) (hd : decode cc pc = .ok (.iastore, 1)) (kk : AW p l e R s m args below meth c nL cells slots Q (ds_P D ad cA nb (ds_wI S 18 0 k y)) (ct_A (ds_A ad nb) sz) (pc + 1) lv st) : AW p l e R s m args below meth c nL cells slots Q (ds_P D ad cA nb S) (ct_A (ds_A ad nb) sz) pc lv (.int y :: .int x :: .ref (ad 7 0) :: st) := by
  obtain ⟨h1, h2⟩ := ix_in hx hk (by decide)
  refine aw_iast C hK 0 (n := 15) rfl (ds_in (k := 7) (i := 0) rfl) (fun H h => h 7 0 rfl) h1 hd ?_ kk
  rw [h2]
  exact dw_arr7 hI (i := 0) rfl
theorem ln_11 {own : String} (C : CallFix p m c cc nL s args tb_G own) (hK : va_K D cl_all (ds_ty cA) s) {i0 : Nat} (hi : ds_dm nb 11 i0) (hd : decode cc pc = .ok (.arraylength, 1)) (kk : AW p l e R s m args below meth c nL cells slots Q (ds_P D ad cA nb S) A (pc + 1) lv (.int (nI 14) :: st)) : AW p l e R s m args below meth c nL cells slots Q (ds_P D ad cA nb S) A pc lv (.ref (ad 11 i0) :: st) := aw_alen C hK 0 rfl (fun H h => h 11 i0 hi) rfl hd kk
theorem al_11 {own : String} (C : CallFix p m c cc nL s args tb_G own) (hK : va_K D cl_all (ds_ty cA) s) {i0 : Nat} (hi : ds_dm nb 11 i0) {x : Int32} (k : Nat) (hx : x = nI k) (hk : k < 14) (hd : decode cc pc = .ok (.iaload, 1)) (kk : AW p l e R s m args below meth c nL cells slots Q (ds_P D ad cA nb S) A (pc + 1) lv (.int (S.1 10 i0 k) :: st)) : AW p l e R s m args below meth c nL cells slots Q (ds_P D ad cA nb S) A pc lv (.int x :: .ref (ad 11 i0) :: st) := by
  obtain ⟨h1, h2⟩ := ix_in hx hk (by decide)
  refine aw_iald C hK 0 (n := 14) rfl (fun H h => h 11 i0 hi) h1 hd ?_
  rw [h2]
  exact kk
theorem as_11 {own : String} (C : CallFix p m c cc nL s args tb_G own) (hK : va_K D cl_all (ds_ty cA) s) (hI : ds_I ad nb) {i0 : Nat} (hi : ds_dm nb 11 i0) {x y : Int32}  (k : Nat) (hx : x = nI k) (hk : k < 14) (hd : decode cc pc = .ok (.iastore, 1)) (kk : AW p l e R s m args below meth c nL cells slots Q (ds_P D ad cA nb (ds_wI S 10 i0 k y)) (ct_A (ds_A ad nb) sz) (pc + 1) lv st) : AW p l e R s m args below meth c nL cells slots Q (ds_P D ad cA nb S) (ct_A (ds_A ad nb) sz) pc lv (.int y :: .int x :: .ref (ad 11 i0) :: st) := by
  obtain ⟨h1, h2⟩ := ix_in hx hk (by decide)
  refine aw_iast C hK 0 (n := 14) rfl (ds_in (k := 11) (i := i0) hi) (fun H h => h 11 i0 hi) h1 hd ?_ kk
  rw [h2]
  exact dw_arr11 hI (i := i0) hi
theorem ln_12 {own : String} (C : CallFix p m c cc nL s args tb_G own) (hK : va_K D cl_all (ds_ty cA) s) {i0 : Nat} (hi : ds_dm nb 12 i0) (hd : decode cc pc = .ok (.arraylength, 1)) (kk : AW p l e R s m args below meth c nL cells slots Q (ds_P D ad cA nb S) A (pc + 1) lv (.int (nI 14) :: st)) : AW p l e R s m args below meth c nL cells slots Q (ds_P D ad cA nb S) A pc lv (.ref (ad 12 i0) :: st) := aw_alen C hK 1 rfl (fun H h => h 12 i0 hi) rfl hd kk
theorem al_12 {own : String} (C : CallFix p m c cc nL s args tb_G own) (hK : va_K D cl_all (ds_ty cA) s) {i0 : Nat} (hi : ds_dm nb 12 i0) {x : Int32} (k : Nat) (hx : x = nI k) (hk : k < 14) (hd : decode cc pc = .ok (.baload, 1)) (kk : AW p l e R s m args below meth c nL cells slots Q (ds_P D ad cA nb S) A (pc + 1) lv (.int (S.1 11 i0 k) :: st)) : AW p l e R s m args below meth c nL cells slots Q (ds_P D ad cA nb S) A pc lv (.int x :: .ref (ad 12 i0) :: st) := by
  obtain ⟨h1, h2⟩ := ix_in hx hk (by decide)
  refine aw_zald C hK 1 (n := 14) rfl (fun H h => h 12 i0 hi) h1 hd ?_
  rw [h2]
  exact kk
theorem as_12 {own : String} (C : CallFix p m c cc nL s args tb_G own) (hK : va_K D cl_all (ds_ty cA) s) (hI : ds_I ad nb) {i0 : Nat} (hi : ds_dm nb 12 i0) {x y : Int32} (hz : y = 0 ∨ y = 1) (k : Nat) (hx : x = nI k) (hk : k < 14) (hd : decode cc pc = .ok (.bastore, 1)) (kk : AW p l e R s m args below meth c nL cells slots Q (ds_P D ad cA nb (ds_wI S 11 i0 k y)) (ct_A (ds_A ad nb) sz) (pc + 1) lv st) : AW p l e R s m args below meth c nL cells slots Q (ds_P D ad cA nb S) (ct_A (ds_A ad nb) sz) pc lv (.int y :: .int x :: .ref (ad 12 i0) :: st) := by
  obtain ⟨h1, h2⟩ := ix_in hx hk (by decide)
  refine aw_zast C hK 1 (n := 14) rfl (ds_in (k := 12) (i := i0) hi) (fun H h => h 12 i0 hi) h1 hd ?_ kk
  rw [h2, nr_vz hz]
  exact dw_arr12 hI (i := i0) hi
end RW
end
section
theorem tb_wsV {own Cn : String} {idx : Nat} {y : MethodName} {w : Cond} (h1 : (.methodLink own idx y : Cond) ∈ tb_G) (h2 : (.instanceMethod y : Cond) ∈ tb_G) (h3 : (.selects Cn y y : Cond) ∈ tb_G) (h4 : (.initialized Cn : Cond) ∈ tb_G) (h5 : w ∈ tb_G) : GoodIn tb_G (wsV own idx Cn y (w :: tb_G)) := by
  intro v hv
  have hm : v ∈ tb_G := by
    unfold wsV at hv
    simp only [List.cons_append, List.nil_append, List.mem_cons] at hv
    rcases hv with rfl | rfl | rfl | rfl | rfl | hv
    · exact h1
    · exact h2
    · exact h3
    · exact h4
    · exact h5
    · exact hv
  exact ⟨hm, good_of_word (tb_good hm)⟩
theorem tb_wsS {own : String} {idx : Nat} {y : MethodName} {w : Cond} (h1 : (.methodLink own idx y : Cond) ∈ tb_G) (h2 : (.static y : Cond) ∈ tb_G) (h4 : (.initialized own : Cond) ∈ tb_G) (h5 : w ∈ tb_G) : GoodIn tb_G (wsS own idx y (w :: tb_G)) := by
  intro v hv
  have hm : v ∈ tb_G := by
    unfold wsS at hv
    simp only [List.cons_append, List.nil_append, List.mem_cons] at hv
    rcases hv with rfl | rfl | rfl | rfl | hv
    · exact h1
    · exact h2
    · exact h4
    · exact h5
    · exact hv
  exact ⟨hm, good_of_word (tb_good hm)⟩
section CW
variable {R : Room} {s : State} {args : Array Value} {rm : Room} {mc ms : Nat}
theorem cw_Ma_Sp_init (ht : ∀ w ∈ tb_G, w.before args s = true) (hrc : rm.cells = mc) (hrs : rm.slots = ms) (hR : rm.frames + 1 ≤ R.frames ∧ 8 + (1 + 11) + rm.locals ≤ R.locals) : CallB R s args R_Ma 17 y_Sp_init b_Sp_init 1 none (ct_ws y_Sp_init b_Sp_init 1 none) rm mc ms 0 ∧ y_Sp_init.name = "<init>" ∧ (Cond.instanceMethod y_Sp_init).before args s = true := cwI 0 ht (tb_GoodIn cd_Sp_init) rfl hrc hrs (ht _ ii_Sp) (ht _ ml_Ma_Sp_init) (ht _ im_Sp_init) rfl (by decide +kernel) hR
theorem cw_Ma_Ma_clearSpots (ht : ∀ w ∈ tb_G, w.before args s = true) (hrc : rm.cells = mc) (hrs : rm.slots = ms) (hR : rm.frames + 1 ≤ R.frames ∧ 8 + (3 + 11) + rm.locals ≤ R.locals) : CallW R s args R_Ma R_Ma 18 y_Ma_clearSpots b_Ma_clearSpots 3 none (ct_ws y_Ma_clearSpots b_Ma_clearSpots 3 none) rm mc ms 1 := cwV 1 ht (tb_wsV ml_Ma_Ma_clearSpots im_Ma_clearSpots se_Ma_clearSpots ii_Ma cd_Ma_clearSpots) rfl hrc hrs (by decide +kernel) hR
theorem cw_Ma_Ma_addPerson (ht : ∀ w ∈ tb_G, w.before args s = true) (hrc : rm.cells = mc) (hrs : rm.slots = ms) (hR : rm.frames + 1 ≤ R.frames ∧ 8 + (6 + 11) + rm.locals ≤ R.locals) : CallW R s args R_Ma R_Ma 22 y_Ma_addPerson b_Ma_addPerson 6 (some .boolean) (ct_ws y_Ma_addPerson b_Ma_addPerson 6 (some .boolean)) rm mc ms 1 := cwV 1 ht (tb_wsV ml_Ma_Ma_addPerson im_Ma_addPerson se_Ma_addPerson ii_Ma cd_Ma_addPerson) rfl hrc hrs (by decide +kernel) hR
theorem cw_Ma_Ma_worthOfSpots (ht : ∀ w ∈ tb_G, w.before args s = true) (hrc : rm.cells = mc) (hrs : rm.slots = ms) (hR : rm.frames + 1 ≤ R.frames ∧ 8 + (4 + 11) + rm.locals ≤ R.locals) : CallW R s args R_Ma R_Ma 26 y_Ma_worthOfSpots b_Ma_worthOfSpots 4 (some .int) (ct_ws y_Ma_worthOfSpots b_Ma_worthOfSpots 4 (some .int)) rm mc ms 0 := cwV 0 ht (tb_wsV ml_Ma_Ma_worthOfSpots im_Ma_worthOfSpots se_Ma_worthOfSpots ii_Ma cd_Ma_worthOfSpots) rfl hrc hrs (by decide +kernel) hR
theorem cw_Ma_Ma_startSearch (ht : ∀ w ∈ tb_G, w.before args s = true) (hrc : rm.cells = mc) (hrs : rm.slots = ms) (hR : rm.frames + 1 ≤ R.frames ∧ 8 + (2 + 11) + rm.locals ≤ R.locals) : CallW R s args R_Ma R_Ma 57 y_Ma_startSearch b_Ma_startSearch 2 none (ct_ws y_Ma_startSearch b_Ma_startSearch 2 none) rm mc ms 0 := cwV 0 ht (tb_wsV ml_Ma_Ma_startSearch im_Ma_startSearch se_Ma_startSearch ii_Ma cd_Ma_startSearch) rfl hrc hrs (by decide +kernel) hR
theorem cw_Ma_Ma_lookFrom (ht : ∀ w ∈ tb_G, w.before args s = true) (hrc : rm.cells = mc) (hrs : rm.slots = ms) (hR : rm.frames + 1 ≤ R.frames ∧ 8 + (7 + 11) + rm.locals ≤ R.locals) : CallW R s args R_Ma R_Ma 61 y_Ma_lookFrom b_Ma_lookFrom 7 none (ct_ws y_Ma_lookFrom b_Ma_lookFrom 7 none) rm mc ms 2 := cwV 2 ht (tb_wsV ml_Ma_Ma_lookFrom im_Ma_lookFrom se_Ma_lookFrom ii_Ma cd_Ma_lookFrom) rfl hrc hrs (by decide +kernel) hR
theorem cw_Ma_Ma_nearestSpot (ht : ∀ w ∈ tb_G, w.before args s = true) (hrc : rm.cells = mc) (hrs : rm.slots = ms) (hR : rm.frames + 1 ≤ R.frames ∧ 8 + (5 + 11) + rm.locals ≤ R.locals) : CallW R s args R_Ma R_Ma 65 y_Ma_nearestSpot b_Ma_nearestSpot 5 (some (.object "DeskMoves$Spot")) (ct_ws y_Ma_nearestSpot b_Ma_nearestSpot 5 (some (.object "DeskMoves$Spot"))) rm mc ms 0 := cwV 0 ht (tb_wsV ml_Ma_Ma_nearestSpot im_Ma_nearestSpot se_Ma_nearestSpot ii_Ma cd_Ma_nearestSpot) rfl hrc hrs (by decide +kernel) hR
theorem cw_Ma_Ma_shiftPrices (ht : ∀ w ∈ tb_G, w.before args s = true) (hrc : rm.cells = mc) (hrs : rm.slots = ms) (hR : rm.frames + 1 ≤ R.frames ∧ 8 + (6 + 11) + rm.locals ≤ R.locals) : CallW R s args R_Ma R_Ma 72 y_Ma_shiftPrices b_Ma_shiftPrices 6 none (ct_ws y_Ma_shiftPrices b_Ma_shiftPrices 6 none) rm mc ms 2 := cwV 2 ht (tb_wsV ml_Ma_Ma_shiftPrices im_Ma_shiftPrices se_Ma_shiftPrices ii_Ma cd_Ma_shiftPrices) rfl hrc hrs (by decide +kernel) hR
theorem cw_Ma_Ma_handOn (ht : ∀ w ∈ tb_G, w.before args s = true) (hrc : rm.cells = mc) (hrs : rm.slots = ms) (hR : rm.frames + 1 ≤ R.frames ∧ 8 + (4 + 11) + rm.locals ≤ R.locals) : CallW R s args R_Ma R_Ma 80 y_Ma_handOn b_Ma_handOn 4 none (ct_ws y_Ma_handOn b_Ma_handOn 4 none) rm mc ms 2 := cwV 2 ht (tb_wsV ml_Ma_Ma_handOn im_Ma_handOn se_Ma_handOn ii_Ma cd_Ma_handOn) rfl hrc hrs (by decide +kernel) hR
theorem cw_Ma_Pe_costAt (ht : ∀ w ∈ tb_G, w.before args s = true) (hrc : rm.cells = mc) (hrs : rm.slots = ms) (hR : rm.frames + 1 ≤ R.frames ∧ 8 + (4 + 11) + rm.locals ≤ R.locals) : CallW R s args R_Ma R_Pe 94 y_Pe_costAt b_Pe_costAt 4 (some .long) (ct_ws y_Pe_costAt b_Pe_costAt 4 (some .long)) rm mc ms 1 := cwV 1 ht (tb_wsV ml_Ma_Pe_costAt im_Pe_costAt se_Pe_costAt ii_Pe cd_Pe_costAt) rfl hrc hrs (by decide +kernel) hR
theorem cw_Pe_Pe_wouldMoveTo (ht : ∀ w ∈ tb_G, w.before args s = true) (hrc : rm.cells = mc) (hrs : rm.slots = ms) (hR : rm.frames + 1 ≤ R.frames ∧ 8 + (2 + 11) + rm.locals ≤ R.locals) : CallW R s args R_Pe R_Pe 34 y_Pe_wouldMoveTo b_Pe_wouldMoveTo 2 (some .boolean) (ct_ws y_Pe_wouldMoveTo b_Pe_wouldMoveTo 2 (some .boolean)) rm mc ms 1 := cwV 1 ht (tb_wsV ml_Pe_Pe_wouldMoveTo im_Pe_wouldMoveTo se_Pe_wouldMoveTo ii_Pe cd_Pe_wouldMoveTo) rfl hrc hrs (by decide +kernel) hR
theorem cw_Wa_Wa_sitAtOldDesks (ht : ∀ w ∈ tb_G, w.before args s = true) (hrc : rm.cells = mc) (hrs : rm.slots = ms) (hR : rm.frames + 1 ≤ R.frames ∧ 8 + (4 + 11) + rm.locals ≤ R.locals) : CallW R s args R_Wa R_Wa 21 y_Wa_sitAtOldDesks b_Wa_sitAtOldDesks 4 none (ct_ws y_Wa_sitAtOldDesks b_Wa_sitAtOldDesks 4 none) rm mc ms 2 := cwV 2 ht (tb_wsV ml_Wa_Wa_sitAtOldDesks im_Wa_sitAtOldDesks se_Wa_sitAtOldDesks ii_Wa cd_Wa_sitAtOldDesks) rfl hrc hrs (by decide +kernel) hR
theorem cw_Wa_Wa_firstWhoCanGoHome (ht : ∀ w ∈ tb_G, w.before args s = true) (hrc : rm.cells = mc) (hrs : rm.slots = ms) (hR : rm.frames + 1 ≤ R.frames ∧ 8 + (5 + 11) + rm.locals ≤ R.locals) : CallW R s args R_Wa R_Wa 25 y_Wa_firstWhoCanGoHome b_Wa_firstWhoCanGoHome 5 (some (.object "DeskMoves$Person")) (ct_ws y_Wa_firstWhoCanGoHome b_Wa_firstWhoCanGoHome 5 (some (.object "DeskMoves$Person"))) rm mc ms 2 := cwV 2 ht (tb_wsV ml_Wa_Wa_firstWhoCanGoHome im_Wa_firstWhoCanGoHome se_Wa_firstWhoCanGoHome ii_Wa cd_Wa_firstWhoCanGoHome) rfl hrc hrs (by decide +kernel) hR
theorem cw_Wa_Wa_go (ht : ∀ w ∈ tb_G, w.before args s = true) (hrc : rm.cells = mc) (hrs : rm.slots = ms) (hR : rm.frames + 1 ≤ R.frames ∧ 8 + (3 + 11) + rm.locals ≤ R.locals) : CallW R s args R_Wa R_Wa 35 y_Wa_go b_Wa_go 3 none (ct_ws y_Wa_go b_Wa_go 3 none) rm mc ms 2 := cwV 2 ht (tb_wsV ml_Wa_Wa_go im_Wa_go se_Wa_go ii_Wa cd_Wa_go) rfl hrc hrs (by decide +kernel) hR
theorem cw_Wa_Wa_firstNotHome (ht : ∀ w ∈ tb_G, w.before args s = true) (hrc : rm.cells = mc) (hrs : rm.slots = ms) (hR : rm.frames + 1 ≤ R.frames ∧ 8 + (4 + 11) + rm.locals ≤ R.locals) : CallW R s args R_Wa R_Wa 39 y_Wa_firstNotHome b_Wa_firstNotHome 4 (some (.object "DeskMoves$Person")) (ct_ws y_Wa_firstNotHome b_Wa_firstNotHome 4 (some (.object "DeskMoves$Person"))) rm mc ms 2 := cwV 2 ht (tb_wsV ml_Wa_Wa_firstNotHome im_Wa_firstNotHome se_Wa_firstNotHome ii_Wa cd_Wa_firstNotHome) rfl hrc hrs (by decide +kernel) hR
theorem cw_Wa_Wa_firstFreeDesk (ht : ∀ w ∈ tb_G, w.before args s = true) (hrc : rm.cells = mc) (hrs : rm.slots = ms) (hR : rm.frames + 1 ≤ R.frames ∧ 8 + (3 + 11) + rm.locals ≤ R.locals) : CallW R s args R_Wa R_Wa 42 y_Wa_firstFreeDesk b_Wa_firstFreeDesk 3 (some .int) (ct_ws y_Wa_firstFreeDesk b_Wa_firstFreeDesk 3 (some .int)) rm mc ms 1 := cwV 1 ht (tb_wsV ml_Wa_Wa_firstFreeDesk im_Wa_firstFreeDesk se_Wa_firstFreeDesk ii_Wa cd_Wa_firstFreeDesk) rfl hrc hrs (by decide +kernel) hR
theorem cw_Wa_Wa_isFree (ht : ∀ w ∈ tb_G, w.before args s = true) (hrc : rm.cells = mc) (hrs : rm.slots = ms) (hR : rm.frames + 1 ≤ R.frames ∧ 8 + (2 + 11) + rm.locals ≤ R.locals) : CallW R s args R_Wa R_Wa 62 y_Wa_isFree b_Wa_isFree 2 (some .boolean) (ct_ws y_Wa_isFree b_Wa_isFree 2 (some .boolean)) rm mc ms 1 := cwV 1 ht (tb_wsV ml_Wa_Wa_isFree im_Wa_isFree se_Wa_isFree ii_Wa cd_Wa_isFree) rfl hrc hrs (by decide +kernel) hR
theorem cw_De_Ma_init (ht : ∀ w ∈ tb_G, w.before args s = true) (hrc : rm.cells = mc) (hrs : rm.slots = ms) (hR : rm.frames + 1 ≤ R.frames ∧ 8 + (2 + 11) + rm.locals ≤ R.locals) : CallB R s args R_De 17 y_Ma_init b_Ma_init 2 none (ct_ws y_Ma_init b_Ma_init 2 none) rm mc ms 0 ∧ y_Ma_init.name = "<init>" ∧ (Cond.instanceMethod y_Ma_init).before args s = true := cwI 0 ht (tb_GoodIn cd_Ma_init) rfl hrc hrs (ht _ ii_Ma) (ht _ ml_De_Ma_init) (ht _ im_Ma_init) rfl (by decide +kernel) hR
theorem cw_De_Wa_init (ht : ∀ w ∈ tb_G, w.before args s = true) (hrc : rm.cells = mc) (hrs : rm.slots = ms) (hR : rm.frames + 1 ≤ R.frames ∧ 8 + (1 + 11) + rm.locals ≤ R.locals) : CallB R s args R_De 24 y_Wa_init b_Wa_init 1 none (ct_ws y_Wa_init b_Wa_init 1 none) rm mc ms 0 ∧ y_Wa_init.name = "<init>" ∧ (Cond.instanceMethod y_Wa_init).before args s = true := cwI 0 ht (tb_GoodIn cd_Wa_init) rfl hrc hrs (ht _ ii_Wa) (ht _ ml_De_Wa_init) (ht _ im_Wa_init) rfl (by decide +kernel) hR
theorem cw_De_Pe_init (ht : ∀ w ∈ tb_G, w.before args s = true) (hrc : rm.cells = mc) (hrs : rm.slots = ms) (hR : rm.frames + 1 ≤ R.frames ∧ 8 + (2 + 11) + rm.locals ≤ R.locals) : CallB R s args R_De 41 y_Pe_init b_Pe_init 2 none (ct_ws y_Pe_init b_Pe_init 2 none) rm mc ms 1 ∧ y_Pe_init.name = "<init>" ∧ (Cond.instanceMethod y_Pe_init).before args s = true := cwI 1 ht (tb_GoodIn cd_Pe_init) rfl hrc hrs (ht _ ii_Pe) (ht _ ml_De_Pe_init) (ht _ im_Pe_init) rfl (by decide +kernel) hR
theorem cw_De_Ro_init (ht : ∀ w ∈ tb_G, w.before args s = true) (hrc : rm.cells = mc) (hrs : rm.slots = ms) (hR : rm.frames + 1 ≤ R.frames ∧ 8 + (2 + 11) + rm.locals ≤ R.locals) : CallB R s args R_De 44 y_Ro_init b_Ro_init 2 none (ct_ws y_Ro_init b_Ro_init 2 none) rm mc ms 1 ∧ y_Ro_init.name = "<init>" ∧ (Cond.instanceMethod y_Ro_init).before args s = true := cwI 1 ht (tb_GoodIn cd_Ro_init) rfl hrc hrs (ht _ ii_Ro) (ht _ ml_De_Ro_init) (ht _ im_Ro_init) rfl (by decide +kernel) hR
theorem cw_De_De_checkPerson (ht : ∀ w ∈ tb_G, w.before args s = true) (hrc : rm.cells = mc) (hrs : rm.slots = ms) (hR : rm.frames + 1 ≤ R.frames ∧ 8 + (2 + 11) + rm.locals ≤ R.locals) : CallW R s args R_De R_De 65 y_De_checkPerson b_De_checkPerson 2 none (ct_ws y_De_checkPerson b_De_checkPerson 2 none) rm mc ms 1 := cwV 1 ht (tb_wsV ml_De_De_checkPerson im_De_checkPerson se_De_checkPerson ii_De cd_De_checkPerson) rfl hrc hrs (by decide +kernel) hR
theorem cw_De_De_checkDesk (ht : ∀ w ∈ tb_G, w.before args s = true) (hrc : rm.cells = mc) (hrs : rm.slots = ms) (hR : rm.frames + 1 ≤ R.frames ∧ 8 + (2 + 11) + rm.locals ≤ R.locals) : CallW R s args R_De R_De 68 y_De_checkDesk b_De_checkDesk 2 none (ct_ws y_De_checkDesk b_De_checkDesk 2 none) rm mc ms 1 := cwV 1 ht (tb_wsV ml_De_De_checkDesk im_De_checkDesk se_De_checkDesk ii_De cd_De_checkDesk) rfl hrc hrs (by decide +kernel) hR
theorem cw_De_De_checkNobodyElseHas (ht : ∀ w ∈ tb_G, w.before args s = true) (hrc : rm.cells = mc) (hrs : rm.slots = ms) (hR : rm.frames + 1 ≤ R.frames ∧ 8 + (4 + 11) + rm.locals ≤ R.locals) : CallW R s args R_De R_De 84 y_De_checkNobodyElseHas b_De_checkNobodyElseHas 4 none (ct_ws y_De_checkNobodyElseHas b_De_checkNobodyElseHas 4 none) rm mc ms 2 := cwV 2 ht (tb_wsV ml_De_De_checkNobodyElseHas im_De_checkNobodyElseHas se_De_checkNobodyElseHas ii_De cd_De_checkNobodyElseHas) rfl hrc hrs (by decide +kernel) hR
theorem cw_De_Ma_match (ht : ∀ w ∈ tb_G, w.before args s = true) (hrc : rm.cells = mc) (hrs : rm.slots = ms) (hR : rm.frames + 1 ≤ R.frames ∧ 8 + (6 + 11) + rm.locals ≤ R.locals) : CallW R s args R_De R_Ma 91 y_Ma_match b_Ma_match 6 (some .int) (ct_ws y_Ma_match b_Ma_match 6 (some .int)) rm mc ms 4 := cwV 4 ht (tb_wsV ml_De_Ma_match im_Ma_match se_Ma_match ii_Ma cd_Ma_match) rfl hrc hrs (by decide +kernel) hR
theorem cw_De_Ma_tellPersons (ht : ∀ w ∈ tb_G, w.before args s = true) (hrc : rm.cells = mc) (hrs : rm.slots = ms) (hR : rm.frames + 1 ≤ R.frames ∧ 8 + (3 + 11) + rm.locals ≤ R.locals) : CallW R s args R_De R_Ma 95 y_Ma_tellPersons b_Ma_tellPersons 3 none (ct_ws y_Ma_tellPersons b_Ma_tellPersons 3 none) rm mc ms 0 := cwV 0 ht (tb_wsV ml_De_Ma_tellPersons im_Ma_tellPersons se_Ma_tellPersons ii_Ma cd_Ma_tellPersons) rfl hrc hrs (by decide +kernel) hR
theorem cw_De_Wa_plan (ht : ∀ w ∈ tb_G, w.before args s = true) (hrc : rm.cells = mc) (hrs : rm.slots = ms) (hR : rm.frames + 1 ≤ R.frames ∧ 8 + (7 + 11) + rm.locals ≤ R.locals) : CallW R s args R_De R_Wa 98 y_Wa_plan b_Wa_plan 7 none (ct_ws y_Wa_plan b_Wa_plan 7 none) rm mc ms 3 := cwV 3 ht (tb_wsV ml_De_Wa_plan im_Wa_plan se_Wa_plan ii_Wa cd_Wa_plan) rfl hrc hrs (by decide +kernel) hR
theorem cw_De_Pe_wouldMoveTo (ht : ∀ w ∈ tb_G, w.before args s = true) (hrc : rm.cells = mc) (hrs : rm.slots = ms) (hR : rm.frames + 1 ≤ R.frames ∧ 8 + (2 + 11) + rm.locals ≤ R.locals) : CallW R s args R_De R_Pe 108 y_Pe_wouldMoveTo b_Pe_wouldMoveTo 2 (some .boolean) (ct_ws y_Pe_wouldMoveTo b_Pe_wouldMoveTo 2 (some .boolean)) rm mc ms 1 := cwV 1 ht (tb_wsV ml_De_Pe_wouldMoveTo im_Pe_wouldMoveTo se_Pe_wouldMoveTo ii_Pe cd_Pe_wouldMoveTo) rfl hrc hrs (by decide +kernel) hR
theorem cw_De_De_checkSeatingMade (ht : ∀ w ∈ tb_G, w.before args s = true) (hrc : rm.cells = mc) (hrs : rm.slots = ms) (hR : rm.frames + 1 ≤ R.frames ∧ 8 + (1 + 11) + rm.locals ≤ R.locals) : CallW R s args R_De R_De 112 y_De_checkSeatingMade b_De_checkSeatingMade 1 none (ct_ws y_De_checkSeatingMade b_De_checkSeatingMade 1 none) rm mc ms 0 := cwV 0 ht (tb_wsV ml_De_De_checkSeatingMade im_De_checkSeatingMade se_De_checkSeatingMade ii_De cd_De_checkSeatingMade) rfl hrc hrs (by decide +kernel) hR
theorem cw_De_De_bestRoom (ht : ∀ w ∈ tb_G, w.before args s = true) (hrc : rm.cells = mc) (hrs : rm.slots = ms) (hR : rm.frames + 1 ≤ R.frames ∧ 8 + (8 + 11) + rm.locals ≤ R.locals) : CallW R s args R_De R_De 153 y_De_bestRoom b_De_bestRoom 8 (some (.object "DeskMoves$Room")) (ct_ws y_De_bestRoom b_De_bestRoom 8 (some (.object "DeskMoves$Room"))) rm mc ms 3 := cwV 3 ht (tb_wsV ml_De_De_bestRoom im_De_bestRoom se_De_bestRoom ii_De cd_De_bestRoom) rfl hrc hrs (by decide +kernel) hR
theorem cw_De_Bk_init (ht : ∀ w ∈ tb_G, w.before args s = true) (hrc : rm.cells = mc) (hrs : rm.slots = ms) (hR : rm.frames + 1 ≤ R.frames ∧ 8 + (6 + 11) + rm.locals ≤ R.locals) : CallB R s args R_De 157 y_Bk_init b_Bk_init 6 none (ct_ws y_Bk_init b_Bk_init 6 none) rm mc ms 5 ∧ y_Bk_init.name = "<init>" ∧ (Cond.instanceMethod y_Bk_init).before args s = true := cwI 5 ht (tb_GoodIn cd_Bk_init) rfl hrc hrs (ht _ ii_Bk) (ht _ ml_De_Bk_init) (ht _ im_Bk_init) rfl (by decide +kernel) hR
theorem cw_De_Ro_add (ht : ∀ w ∈ tb_G, w.before args s = true) (hrc : rm.cells = mc) (hrs : rm.slots = ms) (hR : rm.frames + 1 ≤ R.frames ∧ 8 + (4 + 11) + rm.locals ≤ R.locals) : CallW R s args R_De R_Ro 160 y_Ro_add b_Ro_add 4 none (ct_ws y_Ro_add b_Ro_add 4 none) rm mc ms 1 := cwV 1 ht (tb_wsV ml_De_Ro_add im_Ro_add se_Ro_add ii_Ro cd_Ro_add) rfl hrc hrs (by decide +kernel) hR
theorem cw_De_De_bookingNumbered (ht : ∀ w ∈ tb_G, w.before args s = true) (hrc : rm.cells = mc) (hrs : rm.slots = ms) (hR : rm.frames + 1 ≤ R.frames ∧ 8 + (3 + 11) + rm.locals ≤ R.locals) : CallW R s args R_De R_De 167 y_De_bookingNumbered b_De_bookingNumbered 3 (some (.object "DeskMoves$Booking")) (ct_ws y_De_bookingNumbered b_De_bookingNumbered 3 (some (.object "DeskMoves$Booking"))) rm mc ms 1 := cwV 1 ht (tb_wsV ml_De_De_bookingNumbered im_De_bookingNumbered se_De_bookingNumbered ii_De cd_De_bookingNumbered) rfl hrc hrs (by decide +kernel) hR
theorem cw_De_Ro_remove (ht : ∀ w ∈ tb_G, w.before args s = true) (hrc : rm.cells = mc) (hrs : rm.slots = ms) (hR : rm.frames + 1 ≤ R.frames ∧ 8 + (3 + 11) + rm.locals ≤ R.locals) : CallW R s args R_De R_Ro 175 y_Ro_remove b_Ro_remove 3 (some .boolean) (ct_ws y_Ro_remove b_Ro_remove 3 (some .boolean)) rm mc ms 1 := cwV 1 ht (tb_wsV ml_De_Ro_remove im_Ro_remove se_Ro_remove ii_Ro cd_Ro_remove) rfl hrc hrs (by decide +kernel) hR
theorem cw_De_De_checkRoom (ht : ∀ w ∈ tb_G, w.before args s = true) (hrc : rm.cells = mc) (hrs : rm.slots = ms) (hR : rm.frames + 1 ≤ R.frames ∧ 8 + (2 + 11) + rm.locals ≤ R.locals) : CallW R s args R_De R_De 180 y_De_checkRoom b_De_checkRoom 2 none (ct_ws y_De_checkRoom b_De_checkRoom 2 none) rm mc ms 1 := cwV 1 ht (tb_wsV ml_De_De_checkRoom im_De_checkRoom se_De_checkRoom ii_De cd_De_checkRoom) rfl hrc hrs (by decide +kernel) hR
theorem cw_De_De_checkMinute (ht : ∀ w ∈ tb_G, w.before args s = true) (hrc : rm.cells = mc) (hrs : rm.slots = ms) (hR : rm.frames + 1 ≤ R.frames ∧ 8 + (2 + 11) + rm.locals ≤ R.locals) : CallW R s args R_De R_De 183 y_De_checkMinute b_De_checkMinute 2 none (ct_ws y_De_checkMinute b_De_checkMinute 2 none) rm mc ms 1 := cwV 1 ht (tb_wsV ml_De_De_checkMinute im_De_checkMinute se_De_checkMinute ii_De cd_De_checkMinute) rfl hrc hrs (by decide +kernel) hR
theorem cw_De_Ro_bookingWithin (ht : ∀ w ∈ tb_G, w.before args s = true) (hrc : rm.cells = mc) (hrs : rm.slots = ms) (hR : rm.frames + 1 ≤ R.frames ∧ 8 + (4 + 11) + rm.locals ≤ R.locals) : CallW R s args R_De R_Ro 186 y_Ro_bookingWithin b_Ro_bookingWithin 4 (some (.object "DeskMoves$Booking")) (ct_ws y_Ro_bookingWithin b_Ro_bookingWithin 4 (some (.object "DeskMoves$Booking"))) rm mc ms 2 := cwV 2 ht (tb_wsV ml_De_Ro_bookingWithin im_Ro_bookingWithin se_Ro_bookingWithin ii_Ro cd_Ro_bookingWithin) rfl hrc hrs (by decide +kernel) hR
theorem cw_De_Ro_firstFree (ht : ∀ w ∈ tb_G, w.before args s = true) (hrc : rm.cells = mc) (hrs : rm.slots = ms) (hR : rm.frames + 1 ≤ R.frames ∧ 8 + (5 + 11) + rm.locals ≤ R.locals) : CallW R s args R_De R_Ro 192 y_Ro_firstFree b_Ro_firstFree 5 (some .int) (ct_ws y_Ro_firstFree b_Ro_firstFree 5 (some .int)) rm mc ms 2 := cwV 2 ht (tb_wsV ml_De_Ro_firstFree im_Ro_firstFree se_Ro_firstFree ii_Ro cd_Ro_firstFree) rfl hrc hrs (by decide +kernel) hR
theorem cw_De_Ro_placesLeftOver (ht : ∀ w ∈ tb_G, w.before args s = true) (hrc : rm.cells = mc) (hrs : rm.slots = ms) (hR : rm.frames + 1 ≤ R.frames ∧ 8 + (3 + 11) + rm.locals ≤ R.locals) : CallW R s args R_De R_Ro 196 y_Ro_placesLeftOver b_Ro_placesLeftOver 3 (some .int) (ct_ws y_Ro_placesLeftOver b_Ro_placesLeftOver 3 (some .int)) rm mc ms 0 := cwV 0 ht (tb_wsV ml_De_Ro_placesLeftOver im_Ro_placesLeftOver se_Ro_placesLeftOver ii_Ro cd_Ro_placesLeftOver) rfl hrc hrs (by decide +kernel) hR
theorem cw_Mo_Mo_in (ht : ∀ w ∈ tb_G, w.before args s = true) (hrc : rm.cells = mc) (hrs : rm.slots = ms) (hR : rm.frames + 1 ≤ R.frames ∧ 8 + (3 + 11) + rm.locals ≤ R.locals) : CallB R s args R_Mo 63 y_Mo_in b_Mo_in 3 (some .boolean) (ct_ws y_Mo_in b_Mo_in 3 (some .boolean)) rm mc ms 3 ∧ (Cond.static y_Mo_in).before args s = true := cwS 3 ht (tb_wsS ml_Mo_Mo_in sm_Mo_in ii_Mo cd_Mo_in) rfl hrc hrs (by decide +kernel) hR
theorem cw_Mo_Mo_isPerson (ht : ∀ w ∈ tb_G, w.before args s = true) (hrc : rm.cells = mc) (hrs : rm.slots = ms) (hR : rm.frames + 1 ≤ R.frames ∧ 8 + (2 + 11) + rm.locals ≤ R.locals) : CallW R s args R_Mo R_Mo 74 y_Mo_isPerson b_Mo_isPerson 2 (some .boolean) (ct_ws y_Mo_isPerson b_Mo_isPerson 2 (some .boolean)) rm mc ms 1 := cwV 1 ht (tb_wsV ml_Mo_Mo_isPerson im_Mo_isPerson se_Mo_isPerson ii_Mo cd_Mo_isPerson) rfl hrc hrs (by decide +kernel) hR
theorem cw_Mo_Mo_isDesk (ht : ∀ w ∈ tb_G, w.before args s = true) (hrc : rm.cells = mc) (hrs : rm.slots = ms) (hR : rm.frames + 1 ≤ R.frames ∧ 8 + (2 + 11) + rm.locals ≤ R.locals) : CallW R s args R_Mo R_Mo 78 y_Mo_isDesk b_Mo_isDesk 2 (some .boolean) (ct_ws y_Mo_isDesk b_Mo_isDesk 2 (some .boolean)) rm mc ms 1 := cwV 1 ht (tb_wsV ml_Mo_Mo_isDesk im_Mo_isDesk se_Mo_isDesk ii_Mo cd_Mo_isDesk) rfl hrc hrs (by decide +kernel) hR
theorem cw_Mo_Mo_isMove (ht : ∀ w ∈ tb_G, w.before args s = true) (hrc : rm.cells = mc) (hrs : rm.slots = ms) (hR : rm.frames + 1 ≤ R.frames ∧ 8 + (3 + 11) + rm.locals ≤ R.locals) : CallW R s args R_Mo R_Mo 81 y_Mo_isMove b_Mo_isMove 3 (some .boolean) (ct_ws y_Mo_isMove b_Mo_isMove 3 (some .boolean)) rm mc ms 2 := cwV 2 ht (tb_wsV ml_Mo_Mo_isMove im_Mo_isMove se_Mo_isMove ii_Mo cd_Mo_isMove) rfl hrc hrs (by decide +kernel) hR
theorem cw_Mo_Mo_bits (ht : ∀ w ∈ tb_G, w.before args s = true) (hrc : rm.cells = mc) (hrs : rm.slots = ms) (hR : rm.frames + 1 ≤ R.frames ∧ 8 + (3 + 11) + rm.locals ≤ R.locals) : CallB R s args R_Mo 88 y_Mo_bits b_Mo_bits 3 (some .int) (ct_ws y_Mo_bits b_Mo_bits 3 (some .int)) rm mc ms 1 ∧ (Cond.static y_Mo_bits).before args s = true := cwS 1 ht (tb_wsS ml_Mo_Mo_bits sm_Mo_bits ii_Mo cd_Mo_bits) rfl hrc hrs (by decide +kernel) hR
theorem cw_Mo_Mo_value (ht : ∀ w ∈ tb_G, w.before args s = true) (hrc : rm.cells = mc) (hrs : rm.slots = ms) (hR : rm.frames + 1 ≤ R.frames ∧ 8 + (3 + 11) + rm.locals ≤ R.locals) : CallW R s args R_Mo R_Mo 93 y_Mo_value b_Mo_value 3 (some .int) (ct_ws y_Mo_value b_Mo_value 3 (some .int)) rm mc ms 2 := cwV 2 ht (tb_wsV ml_Mo_Mo_value im_Mo_value se_Mo_value ii_Mo cd_Mo_value) rfl hrc hrs (by decide +kernel) hR
theorem cw_Mo_Mo_findBest (ht : ∀ w ∈ tb_G, w.before args s = true) (hrc : rm.cells = mc) (hrs : rm.slots = ms) (hR : rm.frames + 1 ≤ R.frames ∧ 8 + (8 + 11) + rm.locals ≤ R.locals) : CallW R s args R_Mo R_Mo 97 y_Mo_findBest b_Mo_findBest 8 (some .int) (ct_ws y_Mo_findBest b_Mo_findBest 8 (some .int)) rm mc ms 1 := cwV 1 ht (tb_wsV ml_Mo_Mo_findBest im_Mo_findBest se_Mo_findBest ii_Mo cd_Mo_findBest) rfl hrc hrs (by decide +kernel) hR
theorem cw_Mo_Mo_worthIn (ht : ∀ w ∈ tb_G, w.before args s = true) (hrc : rm.cells = mc) (hrs : rm.slots = ms) (hR : rm.frames + 1 ≤ R.frames ∧ 8 + (1 + 11) + rm.locals ≤ R.locals) : CallB R s args R_Mo 100 y_Mo_worthIn b_Mo_worthIn 1 (some .int) (ct_ws y_Mo_worthIn b_Mo_worthIn 1 (some .int)) rm mc ms 1 ∧ (Cond.static y_Mo_worthIn).before args s = true := cwS 1 ht (tb_wsS ml_Mo_Mo_worthIn sm_Mo_worthIn ii_Mo cd_Mo_worthIn) rfl hrc hrs (by decide +kernel) hR
theorem cw_Mo_Mo_walk (ht : ∀ w ∈ tb_G, w.before args s = true) (hrc : rm.cells = mc) (hrs : rm.slots = ms) (hR : rm.frames + 1 ≤ R.frames ∧ 8 + (2 + 11) + rm.locals ≤ R.locals) : CallW R s args R_Mo R_Mo 106 y_Mo_walk b_Mo_walk 2 none (ct_ws y_Mo_walk b_Mo_walk 2 none) rm mc ms 0 := cwV 0 ht (tb_wsV ml_Mo_Mo_walk im_Mo_walk se_Mo_walk ii_Mo cd_Mo_walk) rfl hrc hrs (by decide +kernel) hR
theorem cw_Mo_Mo_isFree (ht : ∀ w ∈ tb_G, w.before args s = true) (hrc : rm.cells = mc) (hrs : rm.slots = ms) (hR : rm.frames + 1 ≤ R.frames ∧ 8 + (4 + 11) + rm.locals ≤ R.locals) : CallW R s args R_Mo R_Mo 112 y_Mo_isFree b_Mo_isFree 4 (some .boolean) (ct_ws y_Mo_isFree b_Mo_isFree 4 (some .boolean)) rm mc ms 1 := cwV 1 ht (tb_wsV ml_Mo_Mo_isFree im_Mo_isFree se_Mo_isFree ii_Mo cd_Mo_isFree) rfl hrc hrs (by decide +kernel) hR
theorem cw_Mo_Mo_go (ht : ∀ w ∈ tb_G, w.before args s = true) (hrc : rm.cells = mc) (hrs : rm.slots = ms) (hR : rm.frames + 1 ≤ R.frames ∧ 8 + (3 + 11) + rm.locals ≤ R.locals) : CallW R s args R_Mo R_Mo 115 y_Mo_go b_Mo_go 3 none (ct_ws y_Mo_go b_Mo_go 3 none) rm mc ms 2 := cwV 2 ht (tb_wsV ml_Mo_Mo_go im_Mo_go se_Mo_go ii_Mo cd_Mo_go) rfl hrc hrs (by decide +kernel) hR
theorem cw_Mo_Mo_goes (ht : ∀ w ∈ tb_G, w.before args s = true) (hrc : rm.cells = mc) (hrs : rm.slots = ms) (hR : rm.frames + 1 ≤ R.frames ∧ 8 + (3 + 11) + rm.locals ≤ R.locals) : CallW R s args R_Mo R_Mo 122 y_Mo_goes b_Mo_goes 3 (some .boolean) (ct_ws y_Mo_goes b_Mo_goes 3 (some .boolean)) rm mc ms 0 := cwV 0 ht (tb_wsV ml_Mo_Mo_goes im_Mo_goes se_Mo_goes ii_Mo cd_Mo_goes) rfl hrc hrs (by decide +kernel) hR
theorem cw_Mo_Mo_meeting (ht : ∀ w ∈ tb_G, w.before args s = true) (hrc : rm.cells = mc) (hrs : rm.slots = ms) (hR : rm.frames + 1 ≤ R.frames ∧ 8 + (6 + 11) + rm.locals ≤ R.locals) : CallW R s args R_Mo R_Mo 129 y_Mo_meeting b_Mo_meeting 6 (some .int) (ct_ws y_Mo_meeting b_Mo_meeting 6 (some .int)) rm mc ms 3 := cwV 3 ht (tb_wsV ml_Mo_Mo_meeting im_Mo_meeting se_Mo_meeting ii_Mo cd_Mo_meeting) rfl hrc hrs (by decide +kernel) hR
theorem cw_Mo_Mo_isRoom (ht : ∀ w ∈ tb_G, w.before args s = true) (hrc : rm.cells = mc) (hrs : rm.slots = ms) (hR : rm.frames + 1 ≤ R.frames ∧ 8 + (2 + 11) + rm.locals ≤ R.locals) : CallW R s args R_Mo R_Mo 133 y_Mo_isRoom b_Mo_isRoom 2 (some .boolean) (ct_ws y_Mo_isRoom b_Mo_isRoom 2 (some .boolean)) rm mc ms 1 := cwV 1 ht (tb_wsV ml_Mo_Mo_isRoom im_Mo_isRoom se_Mo_isRoom ii_Mo cd_Mo_isRoom) rfl hrc hrs (by decide +kernel) hR
theorem cw_La_De_desk (ht : ∀ w ∈ tb_G, w.before args s = true) (hrc : rm.cells = mc) (hrs : rm.slots = ms) (hR : rm.frames + 1 ≤ R.frames ∧ 8 + (1 + 11) + rm.locals ≤ R.locals) : CallW R s args R_La R_De 7 y_De_desk b_De_desk 1 (some .int) (ct_ws y_De_desk b_De_desk 1 (some .int)) rm mc ms 0 := cwV 0 ht (tb_wsV ml_La_De_desk im_De_desk se_De_desk ii_De cd_De_desk) rfl hrc hrs (by decide +kernel) hR
theorem cw_La_De_person (ht : ∀ w ∈ tb_G, w.before args s = true) (hrc : rm.cells = mc) (hrs : rm.slots = ms) (hR : rm.frames + 1 ≤ R.frames ∧ 8 + (1 + 11) + rm.locals ≤ R.locals) : CallW R s args R_La R_De 15 y_De_person b_De_person 1 (some .int) (ct_ws y_De_person b_De_person 1 (some .int)) rm mc ms 0 := cwV 0 ht (tb_wsV ml_La_De_person im_De_person se_De_person ii_De cd_De_person) rfl hrc hrs (by decide +kernel) hR
theorem cw_La_De_wish (ht : ∀ w ∈ tb_G, w.before args s = true) (hrc : rm.cells = mc) (hrs : rm.slots = ms) (hR : rm.frames + 1 ≤ R.frames ∧ 8 + (5 + 11) + rm.locals ≤ R.locals) : CallW R s args R_La R_De 18 y_De_wish b_De_wish 5 (some .int) (ct_ws y_De_wish b_De_wish 5 (some .int)) rm mc ms 3 := cwV 3 ht (tb_wsV ml_La_De_wish im_De_wish se_De_wish ii_De cd_De_wish) rfl hrc hrs (by decide +kernel) hR
theorem cw_La_De_bar (ht : ∀ w ∈ tb_G, w.before args s = true) (hrc : rm.cells = mc) (hrs : rm.slots = ms) (hR : rm.frames + 1 ≤ R.frames ∧ 8 + (5 + 11) + rm.locals ≤ R.locals) : CallW R s args R_La R_De 24 y_De_bar b_De_bar 5 (some .boolean) (ct_ws y_De_bar b_De_bar 5 (some .boolean)) rm mc ms 3 := cwV 3 ht (tb_wsV ml_La_De_bar im_De_bar se_De_bar ii_De cd_De_bar) rfl hrc hrs (by decide +kernel) hR
theorem cw_La_De_sits (ht : ∀ w ∈ tb_G, w.before args s = true) (hrc : rm.cells = mc) (hrs : rm.slots = ms) (hR : rm.frames + 1 ≤ R.frames ∧ 8 + (4 + 11) + rm.locals ≤ R.locals) : CallW R s args R_La R_De 28 y_De_sits b_De_sits 4 (some .int) (ct_ws y_De_sits b_De_sits 4 (some .int)) rm mc ms 2 := cwV 2 ht (tb_wsV ml_La_De_sits im_De_sits se_De_sits ii_De cd_De_sits) rfl hrc hrs (by decide +kernel) hR
theorem cw_La_De_deskOf (ht : ∀ w ∈ tb_G, w.before args s = true) (hrc : rm.cells = mc) (hrs : rm.slots = ms) (hR : rm.frames + 1 ≤ R.frames ∧ 8 + (2 + 11) + rm.locals ≤ R.locals) : CallW R s args R_La R_De 32 y_De_deskOf b_De_deskOf 2 (some .int) (ct_ws y_De_deskOf b_De_deskOf 2 (some .int)) rm mc ms 1 := cwV 1 ht (tb_wsV ml_La_De_deskOf im_De_deskOf se_De_deskOf ii_De cd_De_deskOf) rfl hrc hrs (by decide +kernel) hR
theorem cw_La_De_steps (ht : ∀ w ∈ tb_G, w.before args s = true) (hrc : rm.cells = mc) (hrs : rm.slots = ms) (hR : rm.frames + 1 ≤ R.frames ∧ 8 + (1 + 11) + rm.locals ≤ R.locals) : CallW R s args R_La R_De 36 y_De_steps b_De_steps 1 (some .int) (ct_ws y_De_steps b_De_steps 1 (some .int)) rm mc ms 0 := cwV 0 ht (tb_wsV ml_La_De_steps im_De_steps se_De_steps ii_De cd_De_steps) rfl hrc hrs (by decide +kernel) hR
theorem cw_La_De_step (ht : ∀ w ∈ tb_G, w.before args s = true) (hrc : rm.cells = mc) (hrs : rm.slots = ms) (hR : rm.frames + 1 ≤ R.frames ∧ 8 + (3 + 11) + rm.locals ≤ R.locals) : CallW R s args R_La R_De 39 y_De_step b_De_step 3 (some .int) (ct_ws y_De_step b_De_step 3 (some .int)) rm mc ms 2 := cwV 2 ht (tb_wsV ml_La_De_step im_De_step se_De_step ii_De cd_De_step) rfl hrc hrs (by decide +kernel) hR
theorem cw_La_De_settle (ht : ∀ w ∈ tb_G, w.before args s = true) (hrc : rm.cells = mc) (hrs : rm.slots = ms) (hR : rm.frames + 1 ≤ R.frames ∧ 8 + (4 + 11) + rm.locals ≤ R.locals) : CallW R s args R_La R_De 42 y_De_settle b_De_settle 4 (some .int) (ct_ws y_De_settle b_De_settle 4 (some .int)) rm mc ms 0 := cwV 0 ht (tb_wsV ml_La_De_settle im_De_settle se_De_settle ii_De cd_De_settle) rfl hrc hrs (by decide +kernel) hR
theorem cw_La_De_worthOf (ht : ∀ w ∈ tb_G, w.before args s = true) (hrc : rm.cells = mc) (hrs : rm.slots = ms) (hR : rm.frames + 1 ≤ R.frames ∧ 8 + (2 + 11) + rm.locals ≤ R.locals) : CallW R s args R_La R_De 45 y_De_worthOf b_De_worthOf 2 (some .int) (ct_ws y_De_worthOf b_De_worthOf 2 (some .int)) rm mc ms 1 := cwV 1 ht (tb_wsV ml_La_De_worthOf im_De_worthOf se_De_worthOf ii_De cd_De_worthOf) rfl hrc hrs (by decide +kernel) hR
theorem cw_La_De_room (ht : ∀ w ∈ tb_G, w.before args s = true) (hrc : rm.cells = mc) (hrs : rm.slots = ms) (hR : rm.frames + 1 ≤ R.frames ∧ 8 + (2 + 11) + rm.locals ≤ R.locals) : CallW R s args R_La R_De 48 y_De_room b_De_room 2 (some .int) (ct_ws y_De_room b_De_room 2 (some .int)) rm mc ms 1 := cwV 1 ht (tb_wsV ml_La_De_room im_De_room se_De_room ii_De cd_De_room) rfl hrc hrs (by decide +kernel) hR
theorem cw_La_De_book (ht : ∀ w ∈ tb_G, w.before args s = true) (hrc : rm.cells = mc) (hrs : rm.slots = ms) (hR : rm.frames + 1 ≤ R.frames ∧ 8 + (6 + 11) + rm.locals ≤ R.locals) : CallW R s args R_La R_De 51 y_De_book b_De_book 6 (some .int) (ct_ws y_De_book b_De_book 6 (some .int)) rm mc ms 3 := cwV 3 ht (tb_wsV ml_La_De_book im_De_book se_De_book ii_De cd_De_book) rfl hrc hrs (by decide +kernel) hR
theorem cw_La_De_cancel (ht : ∀ w ∈ tb_G, w.before args s = true) (hrc : rm.cells = mc) (hrs : rm.slots = ms) (hR : rm.frames + 1 ≤ R.frames ∧ 8 + (3 + 11) + rm.locals ≤ R.locals) : CallW R s args R_La R_De 54 y_De_cancel b_De_cancel 3 (some .boolean) (ct_ws y_De_cancel b_De_cancel 3 (some .boolean)) rm mc ms 1 := cwV 1 ht (tb_wsV ml_La_De_cancel im_De_cancel se_De_cancel ii_De cd_De_cancel) rfl hrc hrs (by decide +kernel) hR
theorem cw_La_De_roomOf (ht : ∀ w ∈ tb_G, w.before args s = true) (hrc : rm.cells = mc) (hrs : rm.slots = ms) (hR : rm.frames + 1 ≤ R.frames ∧ 8 + (2 + 11) + rm.locals ≤ R.locals) : CallW R s args R_La R_De 58 y_De_roomOf b_De_roomOf 2 (some .int) (ct_ws y_De_roomOf b_De_roomOf 2 (some .int)) rm mc ms 1 := cwV 1 ht (tb_wsV ml_La_De_roomOf im_De_roomOf se_De_roomOf ii_De cd_De_roomOf) rfl hrc hrs (by decide +kernel) hR
theorem cw_La_De_inside (ht : ∀ w ∈ tb_G, w.before args s = true) (hrc : rm.cells = mc) (hrs : rm.slots = ms) (hR : rm.frames + 1 ≤ R.frames ∧ 8 + (4 + 11) + rm.locals ≤ R.locals) : CallW R s args R_La R_De 61 y_De_inside b_De_inside 4 (some .int) (ct_ws y_De_inside b_De_inside 4 (some .int)) rm mc ms 2 := cwV 2 ht (tb_wsV ml_La_De_inside im_De_inside se_De_inside ii_De cd_De_inside) rfl hrc hrs (by decide +kernel) hR
theorem cw_La_De_gap (ht : ∀ w ∈ tb_G, w.before args s = true) (hrc : rm.cells = mc) (hrs : rm.slots = ms) (hR : rm.frames + 1 ≤ R.frames ∧ 8 + (5 + 11) + rm.locals ≤ R.locals) : CallW R s args R_La R_De 64 y_De_gap b_De_gap 5 (some .int) (ct_ws y_De_gap b_De_gap 5 (some .int)) rm mc ms 3 := cwV 3 ht (tb_wsV ml_La_De_gap im_De_gap se_De_gap ii_De cd_De_gap) rfl hrc hrs (by decide +kernel) hR
theorem cw_La_De_init (ht : ∀ w ∈ tb_G, w.before args s = true) (hrc : rm.cells = mc) (hrs : rm.slots = ms) (hR : rm.frames + 1 ≤ R.frames ∧ 8 + (2 + 11) + rm.locals ≤ R.locals) : CallB R s args R_La 67 y_De_init b_De_init 2 none (ct_ws y_De_init b_De_init 2 none) rm mc ms 0 ∧ y_De_init.name = "<init>" ∧ (Cond.instanceMethod y_De_init).before args s = true := cwI 0 ht (tb_GoodIn cd_De_init) rfl hrc hrs (ht _ ii_De) (ht _ ml_La_De_init) (ht _ im_De_init) rfl (by decide +kernel) hR
theorem cw_La_Mo_init (ht : ∀ w ∈ tb_G, w.before args s = true) (hrc : rm.cells = mc) (hrs : rm.slots = ms) (hR : rm.frames + 1 ≤ R.frames ∧ 8 + (1 + 11) + rm.locals ≤ R.locals) : CallB R s args R_La 70 y_Mo_init b_Mo_init 1 none (ct_ws y_Mo_init b_Mo_init 1 none) rm mc ms 0 ∧ y_Mo_init.name = "<init>" ∧ (Cond.instanceMethod y_Mo_init).before args s = true := cwI 0 ht (tb_GoodIn cd_Mo_init) rfl hrc hrs (ht _ ii_Mo) (ht _ ml_La_Mo_init) (ht _ im_Mo_init) rfl (by decide +kernel) hR
theorem cw_La_Mo_desk (ht : ∀ w ∈ tb_G, w.before args s = true) (hrc : rm.cells = mc) (hrs : rm.slots = ms) (hR : rm.frames + 1 ≤ R.frames ∧ 8 + (1 + 11) + rm.locals ≤ R.locals) : CallW R s args R_La R_Mo 76 y_Mo_desk b_Mo_desk 1 (some .int) (ct_ws y_Mo_desk b_Mo_desk 1 (some .int)) rm mc ms 0 := cwV 0 ht (tb_wsV ml_La_Mo_desk im_Mo_desk se_Mo_desk ii_Mo cd_Mo_desk) rfl hrc hrs (by decide +kernel) hR
theorem cw_La_Mo_thrown (ht : ∀ w ∈ tb_G, w.before args s = true) (hrc : rm.cells = mc) (hrs : rm.slots = ms) (hR : rm.frames + 1 ≤ R.frames ∧ 8 + (1 + 11) + rm.locals ≤ R.locals) : CallW R s args R_La R_Mo 77 y_Mo_thrown b_Mo_thrown 1 (some .int) (ct_ws y_Mo_thrown b_Mo_thrown 1 (some .int)) rm mc ms 0 := cwV 0 ht (tb_wsV ml_La_Mo_thrown im_Mo_thrown se_Mo_thrown ii_Mo cd_Mo_thrown) rfl hrc hrs (by decide +kernel) hR
theorem cw_La_Mo_person (ht : ∀ w ∈ tb_G, w.before args s = true) (hrc : rm.cells = mc) (hrs : rm.slots = ms) (hR : rm.frames + 1 ≤ R.frames ∧ 8 + (1 + 11) + rm.locals ≤ R.locals) : CallW R s args R_La R_Mo 82 y_Mo_person b_Mo_person 1 (some .int) (ct_ws y_Mo_person b_Mo_person 1 (some .int)) rm mc ms 0 := cwV 0 ht (tb_wsV ml_La_Mo_person im_Mo_person se_Mo_person ii_Mo cd_Mo_person) rfl hrc hrs (by decide +kernel) hR
theorem cw_La_Mo_wish (ht : ∀ w ∈ tb_G, w.before args s = true) (hrc : rm.cells = mc) (hrs : rm.slots = ms) (hR : rm.frames + 1 ≤ R.frames ∧ 8 + (5 + 11) + rm.locals ≤ R.locals) : CallW R s args R_La R_Mo 86 y_Mo_wish b_Mo_wish 5 (some .int) (ct_ws y_Mo_wish b_Mo_wish 5 (some .int)) rm mc ms 3 := cwV 3 ht (tb_wsV ml_La_Mo_wish im_Mo_wish se_Mo_wish ii_Mo cd_Mo_wish) rfl hrc hrs (by decide +kernel) hR
theorem cw_La_Mo_bar (ht : ∀ w ∈ tb_G, w.before args s = true) (hrc : rm.cells = mc) (hrs : rm.slots = ms) (hR : rm.frames + 1 ≤ R.frames ∧ 8 + (5 + 11) + rm.locals ≤ R.locals) : CallW R s args R_La R_Mo 90 y_Mo_bar b_Mo_bar 5 (some .boolean) (ct_ws y_Mo_bar b_Mo_bar 5 (some .boolean)) rm mc ms 3 := cwV 3 ht (tb_wsV ml_La_Mo_bar im_Mo_bar se_Mo_bar ii_Mo cd_Mo_bar) rfl hrc hrs (by decide +kernel) hR
theorem cw_La_Mo_sits (ht : ∀ w ∈ tb_G, w.before args s = true) (hrc : rm.cells = mc) (hrs : rm.slots = ms) (hR : rm.frames + 1 ≤ R.frames ∧ 8 + (4 + 11) + rm.locals ≤ R.locals) : CallW R s args R_La R_Mo 94 y_Mo_sits b_Mo_sits 4 (some .int) (ct_ws y_Mo_sits b_Mo_sits 4 (some .int)) rm mc ms 2 := cwV 2 ht (tb_wsV ml_La_Mo_sits im_Mo_sits se_Mo_sits ii_Mo cd_Mo_sits) rfl hrc hrs (by decide +kernel) hR
theorem cw_La_De_seat (ht : ∀ w ∈ tb_G, w.before args s = true) (hrc : rm.cells = mc) (hrs : rm.slots = ms) (hR : rm.frames + 1 ≤ R.frames ∧ 8 + (2 + 11) + rm.locals ≤ R.locals) : CallW R s args R_La R_De 95 y_De_seat b_De_seat 2 (some .int) (ct_ws y_De_seat b_De_seat 2 (some .int)) rm mc ms 0 := cwV 0 ht (tb_wsV ml_La_De_seat im_De_seat se_De_seat ii_De cd_De_seat) rfl hrc hrs (by decide +kernel) hR
theorem cw_La_Mo_seat (ht : ∀ w ∈ tb_G, w.before args s = true) (hrc : rm.cells = mc) (hrs : rm.slots = ms) (hR : rm.frames + 1 ≤ R.frames ∧ 8 + (5 + 11) + rm.locals ≤ R.locals) : CallW R s args R_La R_Mo 98 y_Mo_seat b_Mo_seat 5 (some .int) (ct_ws y_Mo_seat b_Mo_seat 5 (some .int)) rm mc ms 0 := cwV 0 ht (tb_wsV ml_La_Mo_seat im_Mo_seat se_Mo_seat ii_Mo cd_Mo_seat) rfl hrc hrs (by decide +kernel) hR
theorem cw_La_Mo_deskOf (ht : ∀ w ∈ tb_G, w.before args s = true) (hrc : rm.cells = mc) (hrs : rm.slots = ms) (hR : rm.frames + 1 ≤ R.frames ∧ 8 + (2 + 11) + rm.locals ≤ R.locals) : CallW R s args R_La R_Mo 102 y_Mo_deskOf b_Mo_deskOf 2 (some .int) (ct_ws y_Mo_deskOf b_Mo_deskOf 2 (some .int)) rm mc ms 1 := cwV 1 ht (tb_wsV ml_La_Mo_deskOf im_Mo_deskOf se_Mo_deskOf ii_Mo cd_Mo_deskOf) rfl hrc hrs (by decide +kernel) hR
theorem cw_La_De_moved (ht : ∀ w ∈ tb_G, w.before args s = true) (hrc : rm.cells = mc) (hrs : rm.slots = ms) (hR : rm.frames + 1 ≤ R.frames ∧ 8 + (3 + 11) + rm.locals ≤ R.locals) : CallW R s args R_La R_De 103 y_De_moved b_De_moved 3 (some .int) (ct_ws y_De_moved b_De_moved 3 (some .int)) rm mc ms 0 := cwV 0 ht (tb_wsV ml_La_De_moved im_De_moved se_De_moved ii_De cd_De_moved) rfl hrc hrs (by decide +kernel) hR
theorem cw_La_Mo_moved (ht : ∀ w ∈ tb_G, w.before args s = true) (hrc : rm.cells = mc) (hrs : rm.slots = ms) (hR : rm.frames + 1 ≤ R.frames ∧ 8 + (3 + 11) + rm.locals ≤ R.locals) : CallW R s args R_La R_Mo 106 y_Mo_moved b_Mo_moved 3 (some .int) (ct_ws y_Mo_moved b_Mo_moved 3 (some .int)) rm mc ms 0 := cwV 0 ht (tb_wsV ml_La_Mo_moved im_Mo_moved se_Mo_moved ii_Mo cd_Mo_moved) rfl hrc hrs (by decide +kernel) hR
theorem cw_La_Mo_steps (ht : ∀ w ∈ tb_G, w.before args s = true) (hrc : rm.cells = mc) (hrs : rm.slots = ms) (hR : rm.frames + 1 ≤ R.frames ∧ 8 + (1 + 11) + rm.locals ≤ R.locals) : CallW R s args R_La R_Mo 109 y_Mo_steps b_Mo_steps 1 (some .int) (ct_ws y_Mo_steps b_Mo_steps 1 (some .int)) rm mc ms 0 := cwV 0 ht (tb_wsV ml_La_Mo_steps im_Mo_steps se_Mo_steps ii_Mo cd_Mo_steps) rfl hrc hrs (by decide +kernel) hR
theorem cw_La_Mo_step (ht : ∀ w ∈ tb_G, w.before args s = true) (hrc : rm.cells = mc) (hrs : rm.slots = ms) (hR : rm.frames + 1 ≤ R.frames ∧ 8 + (3 + 11) + rm.locals ≤ R.locals) : CallW R s args R_La R_Mo 112 y_Mo_step b_Mo_step 3 (some .int) (ct_ws y_Mo_step b_Mo_step 3 (some .int)) rm mc ms 2 := cwV 2 ht (tb_wsV ml_La_Mo_step im_Mo_step se_Mo_step ii_Mo cd_Mo_step) rfl hrc hrs (by decide +kernel) hR
theorem cw_La_Mo_settle (ht : ∀ w ∈ tb_G, w.before args s = true) (hrc : rm.cells = mc) (hrs : rm.slots = ms) (hR : rm.frames + 1 ≤ R.frames ∧ 8 + (3 + 11) + rm.locals ≤ R.locals) : CallW R s args R_La R_Mo 115 y_Mo_settle b_Mo_settle 3 (some .int) (ct_ws y_Mo_settle b_Mo_settle 3 (some .int)) rm mc ms 0 := cwV 0 ht (tb_wsV ml_La_Mo_settle im_Mo_settle se_Mo_settle ii_Mo cd_Mo_settle) rfl hrc hrs (by decide +kernel) hR
theorem cw_La_Mo_worthOf (ht : ∀ w ∈ tb_G, w.before args s = true) (hrc : rm.cells = mc) (hrs : rm.slots = ms) (hR : rm.frames + 1 ≤ R.frames ∧ 8 + (2 + 11) + rm.locals ≤ R.locals) : CallW R s args R_La R_Mo 118 y_Mo_worthOf b_Mo_worthOf 2 (some .int) (ct_ws y_Mo_worthOf b_Mo_worthOf 2 (some .int)) rm mc ms 1 := cwV 1 ht (tb_wsV ml_La_Mo_worthOf im_Mo_worthOf se_Mo_worthOf ii_Mo cd_Mo_worthOf) rfl hrc hrs (by decide +kernel) hR
theorem cw_La_Mo_room (ht : ∀ w ∈ tb_G, w.before args s = true) (hrc : rm.cells = mc) (hrs : rm.slots = ms) (hR : rm.frames + 1 ≤ R.frames ∧ 8 + (2 + 11) + rm.locals ≤ R.locals) : CallW R s args R_La R_Mo 121 y_Mo_room b_Mo_room 2 (some .int) (ct_ws y_Mo_room b_Mo_room 2 (some .int)) rm mc ms 1 := cwV 1 ht (tb_wsV ml_La_Mo_room im_Mo_room se_Mo_room ii_Mo cd_Mo_room) rfl hrc hrs (by decide +kernel) hR
theorem cw_La_Mo_book (ht : ∀ w ∈ tb_G, w.before args s = true) (hrc : rm.cells = mc) (hrs : rm.slots = ms) (hR : rm.frames + 1 ≤ R.frames ∧ 8 + (6 + 11) + rm.locals ≤ R.locals) : CallW R s args R_La R_Mo 124 y_Mo_book b_Mo_book 6 (some .int) (ct_ws y_Mo_book b_Mo_book 6 (some .int)) rm mc ms 3 := cwV 3 ht (tb_wsV ml_La_Mo_book im_Mo_book se_Mo_book ii_Mo cd_Mo_book) rfl hrc hrs (by decide +kernel) hR
theorem cw_La_Mo_cancel (ht : ∀ w ∈ tb_G, w.before args s = true) (hrc : rm.cells = mc) (hrs : rm.slots = ms) (hR : rm.frames + 1 ≤ R.frames ∧ 8 + (3 + 11) + rm.locals ≤ R.locals) : CallW R s args R_La R_Mo 127 y_Mo_cancel b_Mo_cancel 3 (some .boolean) (ct_ws y_Mo_cancel b_Mo_cancel 3 (some .boolean)) rm mc ms 1 := cwV 1 ht (tb_wsV ml_La_Mo_cancel im_Mo_cancel se_Mo_cancel ii_Mo cd_Mo_cancel) rfl hrc hrs (by decide +kernel) hR
theorem cw_La_Mo_roomOf (ht : ∀ w ∈ tb_G, w.before args s = true) (hrc : rm.cells = mc) (hrs : rm.slots = ms) (hR : rm.frames + 1 ≤ R.frames ∧ 8 + (2 + 11) + rm.locals ≤ R.locals) : CallW R s args R_La R_Mo 130 y_Mo_roomOf b_Mo_roomOf 2 (some .int) (ct_ws y_Mo_roomOf b_Mo_roomOf 2 (some .int)) rm mc ms 1 := cwV 1 ht (tb_wsV ml_La_Mo_roomOf im_Mo_roomOf se_Mo_roomOf ii_Mo cd_Mo_roomOf) rfl hrc hrs (by decide +kernel) hR
theorem cw_La_Mo_inside (ht : ∀ w ∈ tb_G, w.before args s = true) (hrc : rm.cells = mc) (hrs : rm.slots = ms) (hR : rm.frames + 1 ≤ R.frames ∧ 8 + (3 + 11) + rm.locals ≤ R.locals) : CallW R s args R_La R_Mo 133 y_Mo_inside b_Mo_inside 3 (some .int) (ct_ws y_Mo_inside b_Mo_inside 3 (some .int)) rm mc ms 2 := cwV 2 ht (tb_wsV ml_La_Mo_inside im_Mo_inside se_Mo_inside ii_Mo cd_Mo_inside) rfl hrc hrs (by decide +kernel) hR
theorem cw_La_Mo_gap (ht : ∀ w ∈ tb_G, w.before args s = true) (hrc : rm.cells = mc) (hrs : rm.slots = ms) (hR : rm.frames + 1 ≤ R.frames ∧ 8 + (6 + 11) + rm.locals ≤ R.locals) : CallW R s args R_La R_Mo 136 y_Mo_gap b_Mo_gap 6 (some .int) (ct_ws y_Mo_gap b_Mo_gap 6 (some .int)) rm mc ms 3 := cwV 3 ht (tb_wsV ml_La_Mo_gap im_Mo_gap se_Mo_gap ii_Mo cd_Mo_gap) rfl hrc hrs (by decide +kernel) hR
theorem cw_La_De_waste (ht : ∀ w ∈ tb_G, w.before args s = true) (hrc : rm.cells = mc) (hrs : rm.slots = ms) (hR : rm.frames + 1 ≤ R.frames ∧ 8 + (3 + 11) + rm.locals ≤ R.locals) : CallW R s args R_La R_De 137 y_De_waste b_De_waste 3 (some .int) (ct_ws y_De_waste b_De_waste 3 (some .int)) rm mc ms 0 := cwV 0 ht (tb_wsV ml_La_De_waste im_De_waste se_De_waste ii_De cd_De_waste) rfl hrc hrs (by decide +kernel) hR
theorem cw_La_Mo_waste (ht : ∀ w ∈ tb_G, w.before args s = true) (hrc : rm.cells = mc) (hrs : rm.slots = ms) (hR : rm.frames + 1 ≤ R.frames ∧ 8 + (3 + 11) + rm.locals ≤ R.locals) : CallW R s args R_La R_Mo 140 y_Mo_waste b_Mo_waste 3 (some .int) (ct_ws y_Mo_waste b_Mo_waste 3 (some .int)) rm mc ms 0 := cwV 0 ht (tb_wsV ml_La_Mo_waste im_Mo_waste se_Mo_waste ii_Mo cd_Mo_waste) rfl hrc hrs (by decide +kernel) hR
end CW
end
section
/-! THE MODEL'S WORLD: ad kind = address; M tag index = the ints (tags 1 .. 14 the arrays, 20 .. 29 the fields) -/
abbrev ms_S : Type := Nat → Nat → Int32
def ms_w (M : ms_S) (t i : Nat) (x : Int32) : ms_S := fun t' i' => if t' = t ∧ i' = i then x else M t' i'
theorem ms_w_s (M : ms_S) (t i : Nat) (x : Int32) : ms_w M t i x t i = x := if_pos ⟨rfl, rfl⟩
theorem ms_w_n {M : ms_S} {t i : Nat} {x : Int32} {t' i' : Nat} (h : ¬ (t' = t ∧ i' = i)) : ms_w M t i x t' i' = M t' i' := if_neg h
def ms_ce (ad : Nat → Nat) (cA : Nat → ClassId) (M : ms_S) (k : Nat) : va_E := match k with
  | 0 => .inr (7, [.int (M 20 0), .int (M 21 0), .int (M 22 0), .ref (ad 1), .ref (ad 2), .ref (ad 3), .int (M 23 0), .int (M 24 0), .ref (ad 4), .ref (ad 5), .ref (ad 6), .int (M 25 0), .int (M 26 0), .int (M 27 0), .ref (ad 7), .ref (ad 8), .int (M 28 0), .ref (ad 9), .int (M 29 0), .ref (ad 10), .ref (ad 11), .ref (ad 12), .ref (ad 13), .ref (ad 14)])
  | 1 => .inl (cA 0, 140, .inl (fun j => M 1 j))
  | 2 => .inl (cA 1, 140, .inl (fun j => M 2 j))
  | 3 => .inl (cA 0, 10, .inl (fun j => M 3 j))
  | 4 => .inl (cA 0, 10, .inl (fun j => M 4 j))
  | 5 => .inl (cA 0, 16384, .inl (fun j => M 5 j))
  | 6 => .inl (cA 0, 10, .inl (fun j => M 6 j))
  | 7 => .inl (cA 0, 600, .inl (fun j => M 7 j))
  | 8 => .inl (cA 0, 10, .inl (fun j => M 8 j))
  | 9 => .inl (cA 0, 8, .inl (fun j => M 9 j))
  | 10 => .inl (cA 0, 300, .inl (fun j => M 10 j))
  | 11 => .inl (cA 0, 300, .inl (fun j => M 11 j))
  | 12 => .inl (cA 0, 300, .inl (fun j => M 12 j))
  | 13 => .inl (cA 0, 300, .inl (fun j => M 13 j))
  | 14 => .inl (cA 1, 300, .inl (fun j => M 14 j))
  | _ => .inr (0, [])
def ms_P (D : va_G) (ad : Nat → Nat) (cA : Nat → ClassId) (M : ms_S) (H : Heap) : Prop := ∀ k, k < 15 → va_at D cl_all (ad k, ms_ce ad cA M k) H
def ms_I (ad : Nat → Nat) : Prop := ∀ k k', k < 15 → k' < 15 → ad k = ad k' → k = k'
def ms_A (ad : Nat → Nat) : Nat → Prop := fun q => ∃ k, k < 15 ∧ q = ad k
theorem ms_in {ad : Nat → Nat} {k sz : Nat} (h : k < 15) : ct_A (ms_A ad) sz (ad k) := Or.inl ⟨k, h, rfl⟩
theorem ms_wr {D : va_G} {ad : Nat → Nat} {cA : Nat → ClassId} {k : Nat} {M M' : ms_S} {x : va_E} (hI : ms_I ad) (hd : k < 15) (he : ms_ce ad cA M' k = x) (hs : ∀ k', ¬ k' = k → ms_ce ad cA M' k' = ms_ce ad cA M k') : aw_Wr D (ms_P D ad cA M) (ms_P D ad cA M') (ad k) x := by
  intro H H1 hP ha hz hq k' hd'
  by_cases h : k' = k
  · subst h
    rw [he]
    exact ha
  · rw [hs k' h]
    exact (hP k' hd').kept (hq _ (fun e => h (hI _ _ hd' hd e)))
theorem mw_thrown {D : va_G} {ad : Nat → Nat} {cA : Nat → ClassId} {M : ms_S} {x : Int32} (hI : ms_I ad) : aw_Wr D (ms_P D ad cA M) (ms_P D ad cA (ms_w M 20 0 x)) (ad 0) (.inr (7, [.int x, .int (M 21 0), .int (M 22 0), .ref (ad 1), .ref (ad 2), .ref (ad 3), .int (M 23 0), .int (M 24 0), .ref (ad 4), .ref (ad 5), .ref (ad 6), .int (M 25 0), .int (M 26 0), .int (M 27 0), .ref (ad 7), .ref (ad 8), .int (M 28 0), .ref (ad 9), .int (M 29 0), .ref (ad 10), .ref (ad 11), .ref (ad 12), .ref (ad 13), .ref (ad 14)])) := by
  refine ms_wr hI (by decide) (by simp [ms_ce, ms_w]) ?_
  intro k' h
  unfold ms_ce
  split <;> simp_all [ms_w]
theorem mw_desks {D : va_G} {ad : Nat → Nat} {cA : Nat → ClassId} {M : ms_S} {x : Int32} (hI : ms_I ad) : aw_Wr D (ms_P D ad cA M) (ms_P D ad cA (ms_w M 21 0 x)) (ad 0) (.inr (7, [.int (M 20 0), .int x, .int (M 22 0), .ref (ad 1), .ref (ad 2), .ref (ad 3), .int (M 23 0), .int (M 24 0), .ref (ad 4), .ref (ad 5), .ref (ad 6), .int (M 25 0), .int (M 26 0), .int (M 27 0), .ref (ad 7), .ref (ad 8), .int (M 28 0), .ref (ad 9), .int (M 29 0), .ref (ad 10), .ref (ad 11), .ref (ad 12), .ref (ad 13), .ref (ad 14)])) := by
  refine ms_wr hI (by decide) (by simp [ms_ce, ms_w]) ?_
  intro k' h
  unfold ms_ce
  split <;> simp_all [ms_w]
theorem mw_persons {D : va_G} {ad : Nat → Nat} {cA : Nat → ClassId} {M : ms_S} {x : Int32} (hI : ms_I ad) : aw_Wr D (ms_P D ad cA M) (ms_P D ad cA (ms_w M 22 0 x)) (ad 0) (.inr (7, [.int (M 20 0), .int (M 21 0), .int x, .ref (ad 1), .ref (ad 2), .ref (ad 3), .int (M 23 0), .int (M 24 0), .ref (ad 4), .ref (ad 5), .ref (ad 6), .int (M 25 0), .int (M 26 0), .int (M 27 0), .ref (ad 7), .ref (ad 8), .int (M 28 0), .ref (ad 9), .int (M 29 0), .ref (ad 10), .ref (ad 11), .ref (ad 12), .ref (ad 13), .ref (ad 14)])) := by
  refine ms_wr hI (by decide) (by simp [ms_ce, ms_w]) ?_
  intro k' h
  unfold ms_ce
  split <;> simp_all [ms_w]
theorem mw_made {D : va_G} {ad : Nat → Nat} {cA : Nat → ClassId} {M : ms_S} {x : Int32} (hI : ms_I ad) : aw_Wr D (ms_P D ad cA M) (ms_P D ad cA (ms_w M 23 0 x)) (ad 0) (.inr (7, [.int (M 20 0), .int (M 21 0), .int (M 22 0), .ref (ad 1), .ref (ad 2), .ref (ad 3), .int x, .int (M 24 0), .ref (ad 4), .ref (ad 5), .ref (ad 6), .int (M 25 0), .int (M 26 0), .int (M 27 0), .ref (ad 7), .ref (ad 8), .int (M 28 0), .ref (ad 9), .int (M 29 0), .ref (ad 10), .ref (ad 11), .ref (ad 12), .ref (ad 13), .ref (ad 14)])) := by
  refine ms_wr hI (by decide) (by simp [ms_ce, ms_w]) ?_
  intro k' h
  unfold ms_ce
  split <;> simp_all [ms_w]
theorem mw_worth {D : va_G} {ad : Nat → Nat} {cA : Nat → ClassId} {M : ms_S} {x : Int32} (hI : ms_I ad) : aw_Wr D (ms_P D ad cA M) (ms_P D ad cA (ms_w M 24 0 x)) (ad 0) (.inr (7, [.int (M 20 0), .int (M 21 0), .int (M 22 0), .ref (ad 1), .ref (ad 2), .ref (ad 3), .int (M 23 0), .int x, .ref (ad 4), .ref (ad 5), .ref (ad 6), .int (M 25 0), .int (M 26 0), .int (M 27 0), .ref (ad 7), .ref (ad 8), .int (M 28 0), .ref (ad 9), .int (M 29 0), .ref (ad 10), .ref (ad 11), .ref (ad 12), .ref (ad 13), .ref (ad 14)])) := by
  refine ms_wr hI (by decide) (by simp [ms_ce, ms_w]) ?_
  intro k' h
  unfold ms_ce
  split <;> simp_all [ms_w]
theorem mw_many {D : va_G} {ad : Nat → Nat} {cA : Nat → ClassId} {M : ms_S} {x : Int32} (hI : ms_I ad) : aw_Wr D (ms_P D ad cA M) (ms_P D ad cA (ms_w M 25 0 x)) (ad 0) (.inr (7, [.int (M 20 0), .int (M 21 0), .int (M 22 0), .ref (ad 1), .ref (ad 2), .ref (ad 3), .int (M 23 0), .int (M 24 0), .ref (ad 4), .ref (ad 5), .ref (ad 6), .int x, .int (M 26 0), .int (M 27 0), .ref (ad 7), .ref (ad 8), .int (M 28 0), .ref (ad 9), .int (M 29 0), .ref (ad 10), .ref (ad 11), .ref (ad 12), .ref (ad 13), .ref (ad 14)])) := by
  refine ms_wr hI (by decide) (by simp [ms_ce, ms_w]) ?_
  intro k' h
  unfold ms_ce
  split <;> simp_all [ms_w]
theorem mw_gone {D : va_G} {ad : Nat → Nat} {cA : Nat → ClassId} {M : ms_S} {x : Int32} (hI : ms_I ad) : aw_Wr D (ms_P D ad cA M) (ms_P D ad cA (ms_w M 26 0 x)) (ad 0) (.inr (7, [.int (M 20 0), .int (M 21 0), .int (M 22 0), .ref (ad 1), .ref (ad 2), .ref (ad 3), .int (M 23 0), .int (M 24 0), .ref (ad 4), .ref (ad 5), .ref (ad 6), .int (M 25 0), .int x, .int (M 27 0), .ref (ad 7), .ref (ad 8), .int (M 28 0), .ref (ad 9), .int (M 29 0), .ref (ad 10), .ref (ad 11), .ref (ad 12), .ref (ad 13), .ref (ad 14)])) := by
  refine ms_wr hI (by decide) (by simp [ms_ce, ms_w]) ?_
  intro k' h
  unfold ms_ce
  split <;> simp_all [ms_w]
theorem mw_stuck {D : va_G} {ad : Nat → Nat} {cA : Nat → ClassId} {M : ms_S} {x : Int32} (hI : ms_I ad) : aw_Wr D (ms_P D ad cA M) (ms_P D ad cA (ms_w M 27 0 x)) (ad 0) (.inr (7, [.int (M 20 0), .int (M 21 0), .int (M 22 0), .ref (ad 1), .ref (ad 2), .ref (ad 3), .int (M 23 0), .int (M 24 0), .ref (ad 4), .ref (ad 5), .ref (ad 6), .int (M 25 0), .int (M 26 0), .int x, .ref (ad 7), .ref (ad 8), .int (M 28 0), .ref (ad 9), .int (M 29 0), .ref (ad 10), .ref (ad 11), .ref (ad 12), .ref (ad 13), .ref (ad 14)])) := by
  refine ms_wr hI (by decide) (by simp [ms_ce, ms_w]) ?_
  intro k' h
  unfold ms_ce
  split <;> simp_all [ms_w]
theorem mw_rooms {D : va_G} {ad : Nat → Nat} {cA : Nat → ClassId} {M : ms_S} {x : Int32} (hI : ms_I ad) : aw_Wr D (ms_P D ad cA M) (ms_P D ad cA (ms_w M 28 0 x)) (ad 0) (.inr (7, [.int (M 20 0), .int (M 21 0), .int (M 22 0), .ref (ad 1), .ref (ad 2), .ref (ad 3), .int (M 23 0), .int (M 24 0), .ref (ad 4), .ref (ad 5), .ref (ad 6), .int (M 25 0), .int (M 26 0), .int (M 27 0), .ref (ad 7), .ref (ad 8), .int x, .ref (ad 9), .int (M 29 0), .ref (ad 10), .ref (ad 11), .ref (ad 12), .ref (ad 13), .ref (ad 14)])) := by
  refine ms_wr hI (by decide) (by simp [ms_ce, ms_w]) ?_
  intro k' h
  unfold ms_ce
  split <;> simp_all [ms_w]
theorem mw_bookings {D : va_G} {ad : Nat → Nat} {cA : Nat → ClassId} {M : ms_S} {x : Int32} (hI : ms_I ad) : aw_Wr D (ms_P D ad cA M) (ms_P D ad cA (ms_w M 29 0 x)) (ad 0) (.inr (7, [.int (M 20 0), .int (M 21 0), .int (M 22 0), .ref (ad 1), .ref (ad 2), .ref (ad 3), .int (M 23 0), .int (M 24 0), .ref (ad 4), .ref (ad 5), .ref (ad 6), .int (M 25 0), .int (M 26 0), .int (M 27 0), .ref (ad 7), .ref (ad 8), .int (M 28 0), .ref (ad 9), .int x, .ref (ad 10), .ref (ad 11), .ref (ad 12), .ref (ad 13), .ref (ad 14)])) := by
  refine ms_wr hI (by decide) (by simp [ms_ce, ms_w]) ?_
  intro k' h
  unfold ms_ce
  split <;> simp_all [ms_w]
theorem mw_arr1 {D : va_G} {ad : Nat → Nat} {cA : Nat → ClassId} {M : ms_S} {j : Nat} {x : Int32} (hI : ms_I ad) : aw_Wr D (ms_P D ad cA M) (ms_P D ad cA (ms_w M 1 j x)) (ad 1) (.inl (cA 0, 140, .inl (upd (fun j => M 1 j) j x))) := by
  refine ms_wr hI (by decide) ?_ ?_
  · simp only [ms_ce, ms_w, upd]
    congr 4
    funext q
    by_cases hq : q = j <;> simp [hq, upd]
  · intro k' h
    unfold ms_ce
    split <;> simp_all [ms_w]
theorem mw_arr2 {D : va_G} {ad : Nat → Nat} {cA : Nat → ClassId} {M : ms_S} {j : Nat} {x : Int32} (hI : ms_I ad) : aw_Wr D (ms_P D ad cA M) (ms_P D ad cA (ms_w M 2 j x)) (ad 2) (.inl (cA 1, 140, .inl (upd (fun j => M 2 j) j x))) := by
  refine ms_wr hI (by decide) ?_ ?_
  · simp only [ms_ce, ms_w, upd]
    congr 4
    funext q
    by_cases hq : q = j <;> simp [hq, upd]
  · intro k' h
    unfold ms_ce
    split <;> simp_all [ms_w]
theorem mw_arr3 {D : va_G} {ad : Nat → Nat} {cA : Nat → ClassId} {M : ms_S} {j : Nat} {x : Int32} (hI : ms_I ad) : aw_Wr D (ms_P D ad cA M) (ms_P D ad cA (ms_w M 3 j x)) (ad 3) (.inl (cA 0, 10, .inl (upd (fun j => M 3 j) j x))) := by
  refine ms_wr hI (by decide) ?_ ?_
  · simp only [ms_ce, ms_w, upd]
    congr 4
    funext q
    by_cases hq : q = j <;> simp [hq, upd]
  · intro k' h
    unfold ms_ce
    split <;> simp_all [ms_w]
theorem mw_arr4 {D : va_G} {ad : Nat → Nat} {cA : Nat → ClassId} {M : ms_S} {j : Nat} {x : Int32} (hI : ms_I ad) : aw_Wr D (ms_P D ad cA M) (ms_P D ad cA (ms_w M 4 j x)) (ad 4) (.inl (cA 0, 10, .inl (upd (fun j => M 4 j) j x))) := by
  refine ms_wr hI (by decide) ?_ ?_
  · simp only [ms_ce, ms_w, upd]
    congr 4
    funext q
    by_cases hq : q = j <;> simp [hq, upd]
  · intro k' h
    unfold ms_ce
    split <;> simp_all [ms_w]
theorem mw_arr5 {D : va_G} {ad : Nat → Nat} {cA : Nat → ClassId} {M : ms_S} {j : Nat} {x : Int32} (hI : ms_I ad) : aw_Wr D (ms_P D ad cA M) (ms_P D ad cA (ms_w M 5 j x)) (ad 5) (.inl (cA 0, 16384, .inl (upd (fun j => M 5 j) j x))) := by
  refine ms_wr hI (by decide) ?_ ?_
  · simp only [ms_ce, ms_w, upd]
    congr 4
    funext q
    by_cases hq : q = j <;> simp [hq, upd]
  · intro k' h
    unfold ms_ce
    split <;> simp_all [ms_w]
theorem mw_arr6 {D : va_G} {ad : Nat → Nat} {cA : Nat → ClassId} {M : ms_S} {j : Nat} {x : Int32} (hI : ms_I ad) : aw_Wr D (ms_P D ad cA M) (ms_P D ad cA (ms_w M 6 j x)) (ad 6) (.inl (cA 0, 10, .inl (upd (fun j => M 6 j) j x))) := by
  refine ms_wr hI (by decide) ?_ ?_
  · simp only [ms_ce, ms_w, upd]
    congr 4
    funext q
    by_cases hq : q = j <;> simp [hq, upd]
  · intro k' h
    unfold ms_ce
    split <;> simp_all [ms_w]
theorem mw_arr7 {D : va_G} {ad : Nat → Nat} {cA : Nat → ClassId} {M : ms_S} {j : Nat} {x : Int32} (hI : ms_I ad) : aw_Wr D (ms_P D ad cA M) (ms_P D ad cA (ms_w M 7 j x)) (ad 7) (.inl (cA 0, 600, .inl (upd (fun j => M 7 j) j x))) := by
  refine ms_wr hI (by decide) ?_ ?_
  · simp only [ms_ce, ms_w, upd]
    congr 4
    funext q
    by_cases hq : q = j <;> simp [hq, upd]
  · intro k' h
    unfold ms_ce
    split <;> simp_all [ms_w]
theorem mw_arr8 {D : va_G} {ad : Nat → Nat} {cA : Nat → ClassId} {M : ms_S} {j : Nat} {x : Int32} (hI : ms_I ad) : aw_Wr D (ms_P D ad cA M) (ms_P D ad cA (ms_w M 8 j x)) (ad 8) (.inl (cA 0, 10, .inl (upd (fun j => M 8 j) j x))) := by
  refine ms_wr hI (by decide) ?_ ?_
  · simp only [ms_ce, ms_w, upd]
    congr 4
    funext q
    by_cases hq : q = j <;> simp [hq, upd]
  · intro k' h
    unfold ms_ce
    split <;> simp_all [ms_w]
theorem mw_arr9 {D : va_G} {ad : Nat → Nat} {cA : Nat → ClassId} {M : ms_S} {j : Nat} {x : Int32} (hI : ms_I ad) : aw_Wr D (ms_P D ad cA M) (ms_P D ad cA (ms_w M 9 j x)) (ad 9) (.inl (cA 0, 8, .inl (upd (fun j => M 9 j) j x))) := by
  refine ms_wr hI (by decide) ?_ ?_
  · simp only [ms_ce, ms_w, upd]
    congr 4
    funext q
    by_cases hq : q = j <;> simp [hq, upd]
  · intro k' h
    unfold ms_ce
    split <;> simp_all [ms_w]
theorem mw_arr10 {D : va_G} {ad : Nat → Nat} {cA : Nat → ClassId} {M : ms_S} {j : Nat} {x : Int32} (hI : ms_I ad) : aw_Wr D (ms_P D ad cA M) (ms_P D ad cA (ms_w M 10 j x)) (ad 10) (.inl (cA 0, 300, .inl (upd (fun j => M 10 j) j x))) := by
  refine ms_wr hI (by decide) ?_ ?_
  · simp only [ms_ce, ms_w, upd]
    congr 4
    funext q
    by_cases hq : q = j <;> simp [hq, upd]
  · intro k' h
    unfold ms_ce
    split <;> simp_all [ms_w]
theorem mw_arr11 {D : va_G} {ad : Nat → Nat} {cA : Nat → ClassId} {M : ms_S} {j : Nat} {x : Int32} (hI : ms_I ad) : aw_Wr D (ms_P D ad cA M) (ms_P D ad cA (ms_w M 11 j x)) (ad 11) (.inl (cA 0, 300, .inl (upd (fun j => M 11 j) j x))) := by
  refine ms_wr hI (by decide) ?_ ?_
  · simp only [ms_ce, ms_w, upd]
    congr 4
    funext q
    by_cases hq : q = j <;> simp [hq, upd]
  · intro k' h
    unfold ms_ce
    split <;> simp_all [ms_w]
theorem mw_arr12 {D : va_G} {ad : Nat → Nat} {cA : Nat → ClassId} {M : ms_S} {j : Nat} {x : Int32} (hI : ms_I ad) : aw_Wr D (ms_P D ad cA M) (ms_P D ad cA (ms_w M 12 j x)) (ad 12) (.inl (cA 0, 300, .inl (upd (fun j => M 12 j) j x))) := by
  refine ms_wr hI (by decide) ?_ ?_
  · simp only [ms_ce, ms_w, upd]
    congr 4
    funext q
    by_cases hq : q = j <;> simp [hq, upd]
  · intro k' h
    unfold ms_ce
    split <;> simp_all [ms_w]
theorem mw_arr13 {D : va_G} {ad : Nat → Nat} {cA : Nat → ClassId} {M : ms_S} {j : Nat} {x : Int32} (hI : ms_I ad) : aw_Wr D (ms_P D ad cA M) (ms_P D ad cA (ms_w M 13 j x)) (ad 13) (.inl (cA 0, 300, .inl (upd (fun j => M 13 j) j x))) := by
  refine ms_wr hI (by decide) ?_ ?_
  · simp only [ms_ce, ms_w, upd]
    congr 4
    funext q
    by_cases hq : q = j <;> simp [hq, upd]
  · intro k' h
    unfold ms_ce
    split <;> simp_all [ms_w]
theorem mw_arr14 {D : va_G} {ad : Nat → Nat} {cA : Nat → ClassId} {M : ms_S} {j : Nat} {x : Int32} (hI : ms_I ad) : aw_Wr D (ms_P D ad cA M) (ms_P D ad cA (ms_w M 14 j x)) (ad 14) (.inl (cA 1, 300, .inl (upd (fun j => M 14 j) j x))) := by
  refine ms_wr hI (by decide) ?_ ?_
  · simp only [ms_ce, ms_w, upd]
    congr 4
    funext q
    by_cases hq : q = j <;> simp [hq, upd]
  · intro k' h
    unfold ms_ce
    split <;> simp_all [ms_w]
section RM
variable {p : Program} {l : Launch} {e : Env} {R : Room} {s : State} {m : MethodId} {args : Array Value} {below : List Frame} {meth : Method} {c : Code} {cc : ByteArray} {nL cells slots : Nat} {Q : State → Prop} {pc : Nat} {lv : List (Nat × Value)} {st : List Value} {D : va_G} {ad : Nat → Nat} {cA : Nat → ClassId} {sz : Nat} {M : ms_S}
theorem gm_thrown (C : CallFix p m c cc nL s args tb_G R_Mo) (hK : va_K D cl_all (ds_ty cA) s) {v : Int32} (hv : M 20 0 = v) (hd : decode cc pc = .ok (.getfield 57, 3)) (kk : AW p l e R s m args below meth c nL cells slots Q (ms_P D ad cA M) (ct_A (ms_A ad) sz) (pc + 3) lv (.int v :: st)) : AW p l e R s m args below meth c nL cells slots Q (ms_P D ad cA M) (ct_A (ms_A ad) sz) pc lv (.ref (ad 0) :: st) := by
  subst hv
  exact aw_get (k := 0) C hK i_Mo rfl (by decide) fl_Mo_Mo_thrown (fun H h => h 0 (by decide)) rfl hd kk
theorem pm_thrown (C : CallFix p m c cc nL s args tb_G R_Mo) (hK : va_K D cl_all (ds_ty cA) s) (hI : ms_I ad) {x : Int32}  (hd : decode cc pc = .ok (.putfield 57, 3)) (kk : AW p l e R s m args below meth c nL cells slots Q (ms_P D ad cA (ms_w M 20 0 x)) (ct_A (ms_A ad) sz) (pc + 3) lv st) : AW p l e R s m args below meth c nL cells slots Q (ms_P D ad cA M) (ct_A (ms_A ad) sz) pc lv (.int x :: .ref (ad 0) :: st) := aw_put (k := 0) C hK i_Mo t_Mo t_Mo_ok n_Mo rfl (by decide) fl_Mo_Mo_thrown rfl (t_Mo_ok 0 (by decide)) rfl rfl (ms_in (k := 0) (by decide)) (fun H h => h 0 (by decide)) (Nat.le_of_ble_eq_true rfl) hd (mw_thrown hI) kk
theorem gm_desks (C : CallFix p m c cc nL s args tb_G R_Mo) (hK : va_K D cl_all (ds_ty cA) s) {v : Int32} (hv : M 21 0 = v) (hd : decode cc pc = .ok (.getfield 53, 3)) (kk : AW p l e R s m args below meth c nL cells slots Q (ms_P D ad cA M) (ct_A (ms_A ad) sz) (pc + 3) lv (.int v :: st)) : AW p l e R s m args below meth c nL cells slots Q (ms_P D ad cA M) (ct_A (ms_A ad) sz) pc lv (.ref (ad 0) :: st) := by
  subst hv
  exact aw_get (k := 1) C hK i_Mo rfl (by decide) fl_Mo_Mo_desks (fun H h => h 0 (by decide)) rfl hd kk
theorem pm_desks (C : CallFix p m c cc nL s args tb_G R_Mo) (hK : va_K D cl_all (ds_ty cA) s) (hI : ms_I ad) {x : Int32}  (hd : decode cc pc = .ok (.putfield 53, 3)) (kk : AW p l e R s m args below meth c nL cells slots Q (ms_P D ad cA (ms_w M 21 0 x)) (ct_A (ms_A ad) sz) (pc + 3) lv st) : AW p l e R s m args below meth c nL cells slots Q (ms_P D ad cA M) (ct_A (ms_A ad) sz) pc lv (.int x :: .ref (ad 0) :: st) := aw_put (k := 1) C hK i_Mo t_Mo t_Mo_ok n_Mo rfl (by decide) fl_Mo_Mo_desks rfl (t_Mo_ok 1 (by decide)) rfl rfl (ms_in (k := 0) (by decide)) (fun H h => h 0 (by decide)) (Nat.le_of_ble_eq_true rfl) hd (mw_desks hI) kk
theorem gm_persons (C : CallFix p m c cc nL s args tb_G R_Mo) (hK : va_K D cl_all (ds_ty cA) s) {v : Int32} (hv : M 22 0 = v) (hd : decode cc pc = .ok (.getfield 60, 3)) (kk : AW p l e R s m args below meth c nL cells slots Q (ms_P D ad cA M) (ct_A (ms_A ad) sz) (pc + 3) lv (.int v :: st)) : AW p l e R s m args below meth c nL cells slots Q (ms_P D ad cA M) (ct_A (ms_A ad) sz) pc lv (.ref (ad 0) :: st) := by
  subst hv
  exact aw_get (k := 2) C hK i_Mo rfl (by decide) fl_Mo_Mo_persons (fun H h => h 0 (by decide)) rfl hd kk
theorem pm_persons (C : CallFix p m c cc nL s args tb_G R_Mo) (hK : va_K D cl_all (ds_ty cA) s) (hI : ms_I ad) {x : Int32}  (hd : decode cc pc = .ok (.putfield 60, 3)) (kk : AW p l e R s m args below meth c nL cells slots Q (ms_P D ad cA (ms_w M 22 0 x)) (ct_A (ms_A ad) sz) (pc + 3) lv st) : AW p l e R s m args below meth c nL cells slots Q (ms_P D ad cA M) (ct_A (ms_A ad) sz) pc lv (.int x :: .ref (ad 0) :: st) := aw_put (k := 2) C hK i_Mo t_Mo t_Mo_ok n_Mo rfl (by decide) fl_Mo_Mo_persons rfl (t_Mo_ok 2 (by decide)) rfl rfl (ms_in (k := 0) (by decide)) (fun H h => h 0 (by decide)) (Nat.le_of_ble_eq_true rfl) hd (mw_persons hI) kk
theorem gm_wishes (C : CallFix p m c cc nL s args tb_G R_Mo) (hK : va_K D cl_all (ds_ty cA) s) (hd : decode cc pc = .ok (.getfield 7, 3)) (kk : AW p l e R s m args below meth c nL cells slots Q (ms_P D ad cA M) (ct_A (ms_A ad) sz) (pc + 3) lv (.ref (ad 1) :: st)) : AW p l e R s m args below meth c nL cells slots Q (ms_P D ad cA M) (ct_A (ms_A ad) sz) pc lv (.ref (ad 0) :: st) := aw_get (k := 3) C hK i_Mo rfl (by decide) fl_Mo_Mo_wishes (fun H h => h 0 (by decide)) rfl hd kk
theorem gm_barred (C : CallFix p m c cc nL s args tb_G R_Mo) (hK : va_K D cl_all (ds_ty cA) s) (hd : decode cc pc = .ok (.getfield 13, 3)) (kk : AW p l e R s m args below meth c nL cells slots Q (ms_P D ad cA M) (ct_A (ms_A ad) sz) (pc + 3) lv (.ref (ad 2) :: st)) : AW p l e R s m args below meth c nL cells slots Q (ms_P D ad cA M) (ct_A (ms_A ad) sz) pc lv (.ref (ad 0) :: st) := aw_get (k := 4) C hK i_Mo rfl (by decide) fl_Mo_Mo_barred (fun H h => h 0 (by decide)) rfl hd kk
theorem gm_olds (C : CallFix p m c cc nL s args tb_G R_Mo) (hK : va_K D cl_all (ds_ty cA) s) (hd : decode cc pc = .ok (.getfield 17, 3)) (kk : AW p l e R s m args below meth c nL cells slots Q (ms_P D ad cA M) (ct_A (ms_A ad) sz) (pc + 3) lv (.ref (ad 3) :: st)) : AW p l e R s m args below meth c nL cells slots Q (ms_P D ad cA M) (ct_A (ms_A ad) sz) pc lv (.ref (ad 0) :: st) := aw_get (k := 5) C hK i_Mo rfl (by decide) fl_Mo_Mo_olds (fun H h => h 0 (by decide)) rfl hd kk
theorem gm_made (C : CallFix p m c cc nL s args tb_G R_Mo) (hK : va_K D cl_all (ds_ty cA) s) {v : Int32} (hv : M 23 0 = v) (hd : decode cc pc = .ok (.getfield 70, 3)) (kk : AW p l e R s m args below meth c nL cells slots Q (ms_P D ad cA M) (ct_A (ms_A ad) sz) (pc + 3) lv (.int v :: st)) : AW p l e R s m args below meth c nL cells slots Q (ms_P D ad cA M) (ct_A (ms_A ad) sz) pc lv (.ref (ad 0) :: st) := by
  subst hv
  exact aw_get (k := 6) C hK i_Mo rfl (by decide) fl_Mo_Mo_made (fun H h => h 0 (by decide)) rfl hd kk
theorem pm_made (C : CallFix p m c cc nL s args tb_G R_Mo) (hK : va_K D cl_all (ds_ty cA) s) (hI : ms_I ad) {x : Int32} (hz : x = 0 ∨ x = 1) (hd : decode cc pc = .ok (.putfield 70, 3)) (kk : AW p l e R s m args below meth c nL cells slots Q (ms_P D ad cA (ms_w M 23 0 x)) (ct_A (ms_A ad) sz) (pc + 3) lv st) : AW p l e R s m args below meth c nL cells slots Q (ms_P D ad cA M) (ct_A (ms_A ad) sz) pc lv (.int x :: .ref (ad 0) :: st) := aw_put (k := 6) C hK i_Mo t_Mo t_Mo_ok n_Mo rfl (by decide) fl_Mo_Mo_made rfl (t_Mo_ok 6 (by decide)) (nr_z hz).1 (nr_z hz).2 (ms_in (k := 0) (by decide)) (fun H h => h 0 (by decide)) (Nat.le_of_ble_eq_true rfl) hd (mw_made hI) kk
theorem gm_worth (C : CallFix p m c cc nL s args tb_G R_Mo) (hK : va_K D cl_all (ds_ty cA) s) {v : Int32} (hv : M 24 0 = v) (hd : decode cc pc = .ok (.getfield 103, 3)) (kk : AW p l e R s m args below meth c nL cells slots Q (ms_P D ad cA M) (ct_A (ms_A ad) sz) (pc + 3) lv (.int v :: st)) : AW p l e R s m args below meth c nL cells slots Q (ms_P D ad cA M) (ct_A (ms_A ad) sz) pc lv (.ref (ad 0) :: st) := by
  subst hv
  exact aw_get (k := 7) C hK i_Mo rfl (by decide) fl_Mo_Mo_worth (fun H h => h 0 (by decide)) rfl hd kk
theorem pm_worth (C : CallFix p m c cc nL s args tb_G R_Mo) (hK : va_K D cl_all (ds_ty cA) s) (hI : ms_I ad) {x : Int32}  (hd : decode cc pc = .ok (.putfield 103, 3)) (kk : AW p l e R s m args below meth c nL cells slots Q (ms_P D ad cA (ms_w M 24 0 x)) (ct_A (ms_A ad) sz) (pc + 3) lv st) : AW p l e R s m args below meth c nL cells slots Q (ms_P D ad cA M) (ct_A (ms_A ad) sz) pc lv (.int x :: .ref (ad 0) :: st) := aw_put (k := 7) C hK i_Mo t_Mo t_Mo_ok n_Mo rfl (by decide) fl_Mo_Mo_worth rfl (t_Mo_ok 7 (by decide)) rfl rfl (ms_in (k := 0) (by decide)) (fun H h => h 0 (by decide)) (Nat.le_of_ble_eq_true rfl) hd (mw_worth hI) kk
theorem gm_seats (C : CallFix p m c cc nL s args tb_G R_Mo) (hK : va_K D cl_all (ds_ty cA) s) (hd : decode cc pc = .ok (.getfield 20, 3)) (kk : AW p l e R s m args below meth c nL cells slots Q (ms_P D ad cA M) (ct_A (ms_A ad) sz) (pc + 3) lv (.ref (ad 4) :: st)) : AW p l e R s m args below meth c nL cells slots Q (ms_P D ad cA M) (ct_A (ms_A ad) sz) pc lv (.ref (ad 0) :: st) := aw_get (k := 8) C hK i_Mo rfl (by decide) fl_Mo_Mo_seats (fun H h => h 0 (by decide)) rfl hd kk
theorem gm_best (C : CallFix p m c cc nL s args tb_G R_Mo) (hK : va_K D cl_all (ds_ty cA) s) (hd : decode cc pc = .ok (.getfield 23, 3)) (kk : AW p l e R s m args below meth c nL cells slots Q (ms_P D ad cA M) (ct_A (ms_A ad) sz) (pc + 3) lv (.ref (ad 5) :: st)) : AW p l e R s m args below meth c nL cells slots Q (ms_P D ad cA M) (ct_A (ms_A ad) sz) pc lv (.ref (ad 0) :: st) := aw_get (k := 9) C hK i_Mo rfl (by decide) fl_Mo_Mo_best (fun H h => h 0 (by decide)) rfl hd kk
theorem gm_order (C : CallFix p m c cc nL s args tb_G R_Mo) (hK : va_K D cl_all (ds_ty cA) s) (hd : decode cc pc = .ok (.getfield 26, 3)) (kk : AW p l e R s m args below meth c nL cells slots Q (ms_P D ad cA M) (ct_A (ms_A ad) sz) (pc + 3) lv (.ref (ad 6) :: st)) : AW p l e R s m args below meth c nL cells slots Q (ms_P D ad cA M) (ct_A (ms_A ad) sz) pc lv (.ref (ad 0) :: st) := aw_get (k := 10) C hK i_Mo rfl (by decide) fl_Mo_Mo_order (fun H h => h 0 (by decide)) rfl hd kk
theorem gm_many (C : CallFix p m c cc nL s args tb_G R_Mo) (hK : va_K D cl_all (ds_ty cA) s) {v : Int32} (hv : M 25 0 = v) (hd : decode cc pc = .ok (.getfield 85, 3)) (kk : AW p l e R s m args below meth c nL cells slots Q (ms_P D ad cA M) (ct_A (ms_A ad) sz) (pc + 3) lv (.int v :: st)) : AW p l e R s m args below meth c nL cells slots Q (ms_P D ad cA M) (ct_A (ms_A ad) sz) pc lv (.ref (ad 0) :: st) := by
  subst hv
  exact aw_get (k := 11) C hK i_Mo rfl (by decide) fl_Mo_Mo_many (fun H h => h 0 (by decide)) rfl hd kk
theorem pm_many (C : CallFix p m c cc nL s args tb_G R_Mo) (hK : va_K D cl_all (ds_ty cA) s) (hI : ms_I ad) {x : Int32}  (hd : decode cc pc = .ok (.putfield 85, 3)) (kk : AW p l e R s m args below meth c nL cells slots Q (ms_P D ad cA (ms_w M 25 0 x)) (ct_A (ms_A ad) sz) (pc + 3) lv st) : AW p l e R s m args below meth c nL cells slots Q (ms_P D ad cA M) (ct_A (ms_A ad) sz) pc lv (.int x :: .ref (ad 0) :: st) := aw_put (k := 11) C hK i_Mo t_Mo t_Mo_ok n_Mo rfl (by decide) fl_Mo_Mo_many rfl (t_Mo_ok 11 (by decide)) rfl rfl (ms_in (k := 0) (by decide)) (fun H h => h 0 (by decide)) (Nat.le_of_ble_eq_true rfl) hd (mw_many hI) kk
theorem gm_gone (C : CallFix p m c cc nL s args tb_G R_Mo) (hK : va_K D cl_all (ds_ty cA) s) {v : Int32} (hv : M 26 0 = v) (hd : decode cc pc = .ok (.getfield 109, 3)) (kk : AW p l e R s m args below meth c nL cells slots Q (ms_P D ad cA M) (ct_A (ms_A ad) sz) (pc + 3) lv (.int v :: st)) : AW p l e R s m args below meth c nL cells slots Q (ms_P D ad cA M) (ct_A (ms_A ad) sz) pc lv (.ref (ad 0) :: st) := by
  subst hv
  exact aw_get (k := 12) C hK i_Mo rfl (by decide) fl_Mo_Mo_gone (fun H h => h 0 (by decide)) rfl hd kk
theorem pm_gone (C : CallFix p m c cc nL s args tb_G R_Mo) (hK : va_K D cl_all (ds_ty cA) s) (hI : ms_I ad) {x : Int32}  (hd : decode cc pc = .ok (.putfield 109, 3)) (kk : AW p l e R s m args below meth c nL cells slots Q (ms_P D ad cA (ms_w M 26 0 x)) (ct_A (ms_A ad) sz) (pc + 3) lv st) : AW p l e R s m args below meth c nL cells slots Q (ms_P D ad cA M) (ct_A (ms_A ad) sz) pc lv (.int x :: .ref (ad 0) :: st) := aw_put (k := 12) C hK i_Mo t_Mo t_Mo_ok n_Mo rfl (by decide) fl_Mo_Mo_gone rfl (t_Mo_ok 12 (by decide)) rfl rfl (ms_in (k := 0) (by decide)) (fun H h => h 0 (by decide)) (Nat.le_of_ble_eq_true rfl) hd (mw_gone hI) kk
theorem gm_stuck (C : CallFix p m c cc nL s args tb_G R_Mo) (hK : va_K D cl_all (ds_ty cA) s) {v : Int32} (hv : M 27 0 = v) (hd : decode cc pc = .ok (.getfield 119, 3)) (kk : AW p l e R s m args below meth c nL cells slots Q (ms_P D ad cA M) (ct_A (ms_A ad) sz) (pc + 3) lv (.int v :: st)) : AW p l e R s m args below meth c nL cells slots Q (ms_P D ad cA M) (ct_A (ms_A ad) sz) pc lv (.ref (ad 0) :: st) := by
  subst hv
  exact aw_get (k := 13) C hK i_Mo rfl (by decide) fl_Mo_Mo_stuck (fun H h => h 0 (by decide)) rfl hd kk
theorem pm_stuck (C : CallFix p m c cc nL s args tb_G R_Mo) (hK : va_K D cl_all (ds_ty cA) s) (hI : ms_I ad) {x : Int32} (hz : x = 0 ∨ x = 1) (hd : decode cc pc = .ok (.putfield 119, 3)) (kk : AW p l e R s m args below meth c nL cells slots Q (ms_P D ad cA (ms_w M 27 0 x)) (ct_A (ms_A ad) sz) (pc + 3) lv st) : AW p l e R s m args below meth c nL cells slots Q (ms_P D ad cA M) (ct_A (ms_A ad) sz) pc lv (.int x :: .ref (ad 0) :: st) := aw_put (k := 13) C hK i_Mo t_Mo t_Mo_ok n_Mo rfl (by decide) fl_Mo_Mo_stuck rfl (t_Mo_ok 13 (by decide)) (nr_z hz).1 (nr_z hz).2 (ms_in (k := 0) (by decide)) (fun H h => h 0 (by decide)) (Nat.le_of_ble_eq_true rfl) hd (mw_stuck hI) kk
theorem gm_path (C : CallFix p m c cc nL s args tb_G R_Mo) (hK : va_K D cl_all (ds_ty cA) s) (hd : decode cc pc = .ok (.getfield 29, 3)) (kk : AW p l e R s m args below meth c nL cells slots Q (ms_P D ad cA M) (ct_A (ms_A ad) sz) (pc + 3) lv (.ref (ad 7) :: st)) : AW p l e R s m args below meth c nL cells slots Q (ms_P D ad cA M) (ct_A (ms_A ad) sz) pc lv (.ref (ad 0) :: st) := aw_get (k := 14) C hK i_Mo rfl (by decide) fl_Mo_Mo_path (fun H h => h 0 (by decide)) rfl hd kk
theorem gm_place (C : CallFix p m c cc nL s args tb_G R_Mo) (hK : va_K D cl_all (ds_ty cA) s) (hd : decode cc pc = .ok (.getfield 32, 3)) (kk : AW p l e R s m args below meth c nL cells slots Q (ms_P D ad cA M) (ct_A (ms_A ad) sz) (pc + 3) lv (.ref (ad 8) :: st)) : AW p l e R s m args below meth c nL cells slots Q (ms_P D ad cA M) (ct_A (ms_A ad) sz) pc lv (.ref (ad 0) :: st) := aw_get (k := 15) C hK i_Mo rfl (by decide) fl_Mo_Mo_place (fun H h => h 0 (by decide)) rfl hd kk
theorem gm_rooms (C : CallFix p m c cc nL s args tb_G R_Mo) (hK : va_K D cl_all (ds_ty cA) s) {v : Int32} (hv : M 28 0 = v) (hd : decode cc pc = .ok (.getfield 67, 3)) (kk : AW p l e R s m args below meth c nL cells slots Q (ms_P D ad cA M) (ct_A (ms_A ad) sz) (pc + 3) lv (.int v :: st)) : AW p l e R s m args below meth c nL cells slots Q (ms_P D ad cA M) (ct_A (ms_A ad) sz) pc lv (.ref (ad 0) :: st) := by
  subst hv
  exact aw_get (k := 16) C hK i_Mo rfl (by decide) fl_Mo_Mo_rooms (fun H h => h 0 (by decide)) rfl hd kk
theorem pm_rooms (C : CallFix p m c cc nL s args tb_G R_Mo) (hK : va_K D cl_all (ds_ty cA) s) (hI : ms_I ad) {x : Int32}  (hd : decode cc pc = .ok (.putfield 67, 3)) (kk : AW p l e R s m args below meth c nL cells slots Q (ms_P D ad cA (ms_w M 28 0 x)) (ct_A (ms_A ad) sz) (pc + 3) lv st) : AW p l e R s m args below meth c nL cells slots Q (ms_P D ad cA M) (ct_A (ms_A ad) sz) pc lv (.int x :: .ref (ad 0) :: st) := aw_put (k := 16) C hK i_Mo t_Mo t_Mo_ok n_Mo rfl (by decide) fl_Mo_Mo_rooms rfl (t_Mo_ok 16 (by decide)) rfl rfl (ms_in (k := 0) (by decide)) (fun H h => h 0 (by decide)) (Nat.le_of_ble_eq_true rfl) hd (mw_rooms hI) kk
theorem gm_places (C : CallFix p m c cc nL s args tb_G R_Mo) (hK : va_K D cl_all (ds_ty cA) s) (hd : decode cc pc = .ok (.getfield 35, 3)) (kk : AW p l e R s m args below meth c nL cells slots Q (ms_P D ad cA M) (ct_A (ms_A ad) sz) (pc + 3) lv (.ref (ad 9) :: st)) : AW p l e R s m args below meth c nL cells slots Q (ms_P D ad cA M) (ct_A (ms_A ad) sz) pc lv (.ref (ad 0) :: st) := aw_get (k := 17) C hK i_Mo rfl (by decide) fl_Mo_Mo_places (fun H h => h 0 (by decide)) rfl hd kk
theorem gm_bookings (C : CallFix p m c cc nL s args tb_G R_Mo) (hK : va_K D cl_all (ds_ty cA) s) {v : Int32} (hv : M 29 0 = v) (hd : decode cc pc = .ok (.getfield 126, 3)) (kk : AW p l e R s m args below meth c nL cells slots Q (ms_P D ad cA M) (ct_A (ms_A ad) sz) (pc + 3) lv (.int v :: st)) : AW p l e R s m args below meth c nL cells slots Q (ms_P D ad cA M) (ct_A (ms_A ad) sz) pc lv (.ref (ad 0) :: st) := by
  subst hv
  exact aw_get (k := 18) C hK i_Mo rfl (by decide) fl_Mo_Mo_bookings (fun H h => h 0 (by decide)) rfl hd kk
theorem pm_bookings (C : CallFix p m c cc nL s args tb_G R_Mo) (hK : va_K D cl_all (ds_ty cA) s) (hI : ms_I ad) {x : Int32}  (hd : decode cc pc = .ok (.putfield 126, 3)) (kk : AW p l e R s m args below meth c nL cells slots Q (ms_P D ad cA (ms_w M 29 0 x)) (ct_A (ms_A ad) sz) (pc + 3) lv st) : AW p l e R s m args below meth c nL cells slots Q (ms_P D ad cA M) (ct_A (ms_A ad) sz) pc lv (.int x :: .ref (ad 0) :: st) := aw_put (k := 18) C hK i_Mo t_Mo t_Mo_ok n_Mo rfl (by decide) fl_Mo_Mo_bookings rfl (t_Mo_ok 18 (by decide)) rfl rfl (ms_in (k := 0) (by decide)) (fun H h => h 0 (by decide)) (Nat.le_of_ble_eq_true rfl) hd (mw_bookings hI) kk
theorem gm_room (C : CallFix p m c cc nL s args tb_G R_Mo) (hK : va_K D cl_all (ds_ty cA) s) (hd : decode cc pc = .ok (.getfield 38, 3)) (kk : AW p l e R s m args below meth c nL cells slots Q (ms_P D ad cA M) (ct_A (ms_A ad) sz) (pc + 3) lv (.ref (ad 10) :: st)) : AW p l e R s m args below meth c nL cells slots Q (ms_P D ad cA M) (ct_A (ms_A ad) sz) pc lv (.ref (ad 0) :: st) := aw_get (k := 19) C hK i_Mo rfl (by decide) fl_Mo_Mo_room (fun H h => h 0 (by decide)) rfl hd kk
theorem gm_from (C : CallFix p m c cc nL s args tb_G R_Mo) (hK : va_K D cl_all (ds_ty cA) s) (hd : decode cc pc = .ok (.getfield 41, 3)) (kk : AW p l e R s m args below meth c nL cells slots Q (ms_P D ad cA M) (ct_A (ms_A ad) sz) (pc + 3) lv (.ref (ad 11) :: st)) : AW p l e R s m args below meth c nL cells slots Q (ms_P D ad cA M) (ct_A (ms_A ad) sz) pc lv (.ref (ad 0) :: st) := aw_get (k := 20) C hK i_Mo rfl (by decide) fl_Mo_Mo_from (fun H h => h 0 (by decide)) rfl hd kk
theorem gm_to (C : CallFix p m c cc nL s args tb_G R_Mo) (hK : va_K D cl_all (ds_ty cA) s) (hd : decode cc pc = .ok (.getfield 44, 3)) (kk : AW p l e R s m args below meth c nL cells slots Q (ms_P D ad cA M) (ct_A (ms_A ad) sz) (pc + 3) lv (.ref (ad 12) :: st)) : AW p l e R s m args below meth c nL cells slots Q (ms_P D ad cA M) (ct_A (ms_A ad) sz) pc lv (.ref (ad 0) :: st) := aw_get (k := 21) C hK i_Mo rfl (by decide) fl_Mo_Mo_to (fun H h => h 0 (by decide)) rfl hd kk
theorem gm_left (C : CallFix p m c cc nL s args tb_G R_Mo) (hK : va_K D cl_all (ds_ty cA) s) (hd : decode cc pc = .ok (.getfield 47, 3)) (kk : AW p l e R s m args below meth c nL cells slots Q (ms_P D ad cA M) (ct_A (ms_A ad) sz) (pc + 3) lv (.ref (ad 13) :: st)) : AW p l e R s m args below meth c nL cells slots Q (ms_P D ad cA M) (ct_A (ms_A ad) sz) pc lv (.ref (ad 0) :: st) := aw_get (k := 22) C hK i_Mo rfl (by decide) fl_Mo_Mo_left (fun H h => h 0 (by decide)) rfl hd kk
theorem gm_there (C : CallFix p m c cc nL s args tb_G R_Mo) (hK : va_K D cl_all (ds_ty cA) s) (hd : decode cc pc = .ok (.getfield 50, 3)) (kk : AW p l e R s m args below meth c nL cells slots Q (ms_P D ad cA M) (ct_A (ms_A ad) sz) (pc + 3) lv (.ref (ad 14) :: st)) : AW p l e R s m args below meth c nL cells slots Q (ms_P D ad cA M) (ct_A (ms_A ad) sz) pc lv (.ref (ad 0) :: st) := aw_get (k := 23) C hK i_Mo rfl (by decide) fl_Mo_Mo_there (fun H h => h 0 (by decide)) rfl hd kk
theorem lm_1 (C : CallFix p m c cc nL s args tb_G R_Mo) (hK : va_K D cl_all (ds_ty cA) s) {x : Int32} (j : Nat) (hx : x = nI j) (hj : j < 140) {v : Int32} (hv : M 1 j = v) (hd : decode cc pc = .ok (.iaload, 1)) (kk : AW p l e R s m args below meth c nL cells slots Q (ms_P D ad cA M) (ct_A (ms_A ad) sz) (pc + 1) lv (.int v :: st)) : AW p l e R s m args below meth c nL cells slots Q (ms_P D ad cA M) (ct_A (ms_A ad) sz) pc lv (.int x :: .ref (ad 1) :: st) := by
  subst hv
  obtain ⟨h1, h2⟩ := ix_in hx hj (by decide)
  refine aw_iald C hK 0 (n := 140) rfl (fun H h => h 1 (by decide)) h1 hd ?_
  rw [h2]
  exact kk
theorem sm_1 (C : CallFix p m c cc nL s args tb_G R_Mo) (hK : va_K D cl_all (ds_ty cA) s) (hI : ms_I ad) {x y : Int32}  (j : Nat) (hx : x = nI j) (hj : j < 140) (hd : decode cc pc = .ok (.iastore, 1)) (kk : AW p l e R s m args below meth c nL cells slots Q (ms_P D ad cA (ms_w M 1 j y)) (ct_A (ms_A ad) sz) (pc + 1) lv st) : AW p l e R s m args below meth c nL cells slots Q (ms_P D ad cA M) (ct_A (ms_A ad) sz) pc lv (.int y :: .int x :: .ref (ad 1) :: st) := by
  obtain ⟨h1, h2⟩ := ix_in hx hj (by decide)
  refine aw_iast C hK 0 (n := 140) rfl (ms_in (k := 1) (by decide)) (fun H h => h 1 (by decide)) h1 hd ?_ kk
  rw [h2]
  exact mw_arr1 hI
theorem lm_2 (C : CallFix p m c cc nL s args tb_G R_Mo) (hK : va_K D cl_all (ds_ty cA) s) {x : Int32} (j : Nat) (hx : x = nI j) (hj : j < 140) {v : Int32} (hv : M 2 j = v) (hd : decode cc pc = .ok (.baload, 1)) (kk : AW p l e R s m args below meth c nL cells slots Q (ms_P D ad cA M) (ct_A (ms_A ad) sz) (pc + 1) lv (.int v :: st)) : AW p l e R s m args below meth c nL cells slots Q (ms_P D ad cA M) (ct_A (ms_A ad) sz) pc lv (.int x :: .ref (ad 2) :: st) := by
  subst hv
  obtain ⟨h1, h2⟩ := ix_in hx hj (by decide)
  refine aw_zald C hK 1 (n := 140) rfl (fun H h => h 2 (by decide)) h1 hd ?_
  rw [h2]
  exact kk
theorem sm_2 (C : CallFix p m c cc nL s args tb_G R_Mo) (hK : va_K D cl_all (ds_ty cA) s) (hI : ms_I ad) {x y : Int32} (hz : y = 0 ∨ y = 1) (j : Nat) (hx : x = nI j) (hj : j < 140) (hd : decode cc pc = .ok (.bastore, 1)) (kk : AW p l e R s m args below meth c nL cells slots Q (ms_P D ad cA (ms_w M 2 j y)) (ct_A (ms_A ad) sz) (pc + 1) lv st) : AW p l e R s m args below meth c nL cells slots Q (ms_P D ad cA M) (ct_A (ms_A ad) sz) pc lv (.int y :: .int x :: .ref (ad 2) :: st) := by
  obtain ⟨h1, h2⟩ := ix_in hx hj (by decide)
  refine aw_zast C hK 1 (n := 140) rfl (ms_in (k := 2) (by decide)) (fun H h => h 2 (by decide)) h1 hd ?_ kk
  rw [h2, nr_vz hz]
  exact mw_arr2 hI
theorem lm_3 (C : CallFix p m c cc nL s args tb_G R_Mo) (hK : va_K D cl_all (ds_ty cA) s) {x : Int32} (j : Nat) (hx : x = nI j) (hj : j < 10) {v : Int32} (hv : M 3 j = v) (hd : decode cc pc = .ok (.iaload, 1)) (kk : AW p l e R s m args below meth c nL cells slots Q (ms_P D ad cA M) (ct_A (ms_A ad) sz) (pc + 1) lv (.int v :: st)) : AW p l e R s m args below meth c nL cells slots Q (ms_P D ad cA M) (ct_A (ms_A ad) sz) pc lv (.int x :: .ref (ad 3) :: st) := by
  subst hv
  obtain ⟨h1, h2⟩ := ix_in hx hj (by decide)
  refine aw_iald C hK 0 (n := 10) rfl (fun H h => h 3 (by decide)) h1 hd ?_
  rw [h2]
  exact kk
theorem sm_3 (C : CallFix p m c cc nL s args tb_G R_Mo) (hK : va_K D cl_all (ds_ty cA) s) (hI : ms_I ad) {x y : Int32}  (j : Nat) (hx : x = nI j) (hj : j < 10) (hd : decode cc pc = .ok (.iastore, 1)) (kk : AW p l e R s m args below meth c nL cells slots Q (ms_P D ad cA (ms_w M 3 j y)) (ct_A (ms_A ad) sz) (pc + 1) lv st) : AW p l e R s m args below meth c nL cells slots Q (ms_P D ad cA M) (ct_A (ms_A ad) sz) pc lv (.int y :: .int x :: .ref (ad 3) :: st) := by
  obtain ⟨h1, h2⟩ := ix_in hx hj (by decide)
  refine aw_iast C hK 0 (n := 10) rfl (ms_in (k := 3) (by decide)) (fun H h => h 3 (by decide)) h1 hd ?_ kk
  rw [h2]
  exact mw_arr3 hI
theorem lm_4 (C : CallFix p m c cc nL s args tb_G R_Mo) (hK : va_K D cl_all (ds_ty cA) s) {x : Int32} (j : Nat) (hx : x = nI j) (hj : j < 10) {v : Int32} (hv : M 4 j = v) (hd : decode cc pc = .ok (.iaload, 1)) (kk : AW p l e R s m args below meth c nL cells slots Q (ms_P D ad cA M) (ct_A (ms_A ad) sz) (pc + 1) lv (.int v :: st)) : AW p l e R s m args below meth c nL cells slots Q (ms_P D ad cA M) (ct_A (ms_A ad) sz) pc lv (.int x :: .ref (ad 4) :: st) := by
  subst hv
  obtain ⟨h1, h2⟩ := ix_in hx hj (by decide)
  refine aw_iald C hK 0 (n := 10) rfl (fun H h => h 4 (by decide)) h1 hd ?_
  rw [h2]
  exact kk
theorem sm_4 (C : CallFix p m c cc nL s args tb_G R_Mo) (hK : va_K D cl_all (ds_ty cA) s) (hI : ms_I ad) {x y : Int32}  (j : Nat) (hx : x = nI j) (hj : j < 10) (hd : decode cc pc = .ok (.iastore, 1)) (kk : AW p l e R s m args below meth c nL cells slots Q (ms_P D ad cA (ms_w M 4 j y)) (ct_A (ms_A ad) sz) (pc + 1) lv st) : AW p l e R s m args below meth c nL cells slots Q (ms_P D ad cA M) (ct_A (ms_A ad) sz) pc lv (.int y :: .int x :: .ref (ad 4) :: st) := by
  obtain ⟨h1, h2⟩ := ix_in hx hj (by decide)
  refine aw_iast C hK 0 (n := 10) rfl (ms_in (k := 4) (by decide)) (fun H h => h 4 (by decide)) h1 hd ?_ kk
  rw [h2]
  exact mw_arr4 hI
theorem lm_5 (C : CallFix p m c cc nL s args tb_G R_Mo) (hK : va_K D cl_all (ds_ty cA) s) {x : Int32} (j : Nat) (hx : x = nI j) (hj : j < 16384) {v : Int32} (hv : M 5 j = v) (hd : decode cc pc = .ok (.iaload, 1)) (kk : AW p l e R s m args below meth c nL cells slots Q (ms_P D ad cA M) (ct_A (ms_A ad) sz) (pc + 1) lv (.int v :: st)) : AW p l e R s m args below meth c nL cells slots Q (ms_P D ad cA M) (ct_A (ms_A ad) sz) pc lv (.int x :: .ref (ad 5) :: st) := by
  subst hv
  obtain ⟨h1, h2⟩ := ix_in hx hj (by decide)
  refine aw_iald C hK 0 (n := 16384) rfl (fun H h => h 5 (by decide)) h1 hd ?_
  rw [h2]
  exact kk
theorem sm_5 (C : CallFix p m c cc nL s args tb_G R_Mo) (hK : va_K D cl_all (ds_ty cA) s) (hI : ms_I ad) {x y : Int32}  (j : Nat) (hx : x = nI j) (hj : j < 16384) (hd : decode cc pc = .ok (.iastore, 1)) (kk : AW p l e R s m args below meth c nL cells slots Q (ms_P D ad cA (ms_w M 5 j y)) (ct_A (ms_A ad) sz) (pc + 1) lv st) : AW p l e R s m args below meth c nL cells slots Q (ms_P D ad cA M) (ct_A (ms_A ad) sz) pc lv (.int y :: .int x :: .ref (ad 5) :: st) := by
  obtain ⟨h1, h2⟩ := ix_in hx hj (by decide)
  refine aw_iast C hK 0 (n := 16384) rfl (ms_in (k := 5) (by decide)) (fun H h => h 5 (by decide)) h1 hd ?_ kk
  rw [h2]
  exact mw_arr5 hI
theorem lm_6 (C : CallFix p m c cc nL s args tb_G R_Mo) (hK : va_K D cl_all (ds_ty cA) s) {x : Int32} (j : Nat) (hx : x = nI j) (hj : j < 10) {v : Int32} (hv : M 6 j = v) (hd : decode cc pc = .ok (.iaload, 1)) (kk : AW p l e R s m args below meth c nL cells slots Q (ms_P D ad cA M) (ct_A (ms_A ad) sz) (pc + 1) lv (.int v :: st)) : AW p l e R s m args below meth c nL cells slots Q (ms_P D ad cA M) (ct_A (ms_A ad) sz) pc lv (.int x :: .ref (ad 6) :: st) := by
  subst hv
  obtain ⟨h1, h2⟩ := ix_in hx hj (by decide)
  refine aw_iald C hK 0 (n := 10) rfl (fun H h => h 6 (by decide)) h1 hd ?_
  rw [h2]
  exact kk
theorem sm_6 (C : CallFix p m c cc nL s args tb_G R_Mo) (hK : va_K D cl_all (ds_ty cA) s) (hI : ms_I ad) {x y : Int32}  (j : Nat) (hx : x = nI j) (hj : j < 10) (hd : decode cc pc = .ok (.iastore, 1)) (kk : AW p l e R s m args below meth c nL cells slots Q (ms_P D ad cA (ms_w M 6 j y)) (ct_A (ms_A ad) sz) (pc + 1) lv st) : AW p l e R s m args below meth c nL cells slots Q (ms_P D ad cA M) (ct_A (ms_A ad) sz) pc lv (.int y :: .int x :: .ref (ad 6) :: st) := by
  obtain ⟨h1, h2⟩ := ix_in hx hj (by decide)
  refine aw_iast C hK 0 (n := 10) rfl (ms_in (k := 6) (by decide)) (fun H h => h 6 (by decide)) h1 hd ?_ kk
  rw [h2]
  exact mw_arr6 hI
theorem lm_7 (C : CallFix p m c cc nL s args tb_G R_Mo) (hK : va_K D cl_all (ds_ty cA) s) {x : Int32} (j : Nat) (hx : x = nI j) (hj : j < 600) {v : Int32} (hv : M 7 j = v) (hd : decode cc pc = .ok (.iaload, 1)) (kk : AW p l e R s m args below meth c nL cells slots Q (ms_P D ad cA M) (ct_A (ms_A ad) sz) (pc + 1) lv (.int v :: st)) : AW p l e R s m args below meth c nL cells slots Q (ms_P D ad cA M) (ct_A (ms_A ad) sz) pc lv (.int x :: .ref (ad 7) :: st) := by
  subst hv
  obtain ⟨h1, h2⟩ := ix_in hx hj (by decide)
  refine aw_iald C hK 0 (n := 600) rfl (fun H h => h 7 (by decide)) h1 hd ?_
  rw [h2]
  exact kk
theorem sm_7 (C : CallFix p m c cc nL s args tb_G R_Mo) (hK : va_K D cl_all (ds_ty cA) s) (hI : ms_I ad) {x y : Int32}  (j : Nat) (hx : x = nI j) (hj : j < 600) (hd : decode cc pc = .ok (.iastore, 1)) (kk : AW p l e R s m args below meth c nL cells slots Q (ms_P D ad cA (ms_w M 7 j y)) (ct_A (ms_A ad) sz) (pc + 1) lv st) : AW p l e R s m args below meth c nL cells slots Q (ms_P D ad cA M) (ct_A (ms_A ad) sz) pc lv (.int y :: .int x :: .ref (ad 7) :: st) := by
  obtain ⟨h1, h2⟩ := ix_in hx hj (by decide)
  refine aw_iast C hK 0 (n := 600) rfl (ms_in (k := 7) (by decide)) (fun H h => h 7 (by decide)) h1 hd ?_ kk
  rw [h2]
  exact mw_arr7 hI
theorem lm_8 (C : CallFix p m c cc nL s args tb_G R_Mo) (hK : va_K D cl_all (ds_ty cA) s) {x : Int32} (j : Nat) (hx : x = nI j) (hj : j < 10) {v : Int32} (hv : M 8 j = v) (hd : decode cc pc = .ok (.iaload, 1)) (kk : AW p l e R s m args below meth c nL cells slots Q (ms_P D ad cA M) (ct_A (ms_A ad) sz) (pc + 1) lv (.int v :: st)) : AW p l e R s m args below meth c nL cells slots Q (ms_P D ad cA M) (ct_A (ms_A ad) sz) pc lv (.int x :: .ref (ad 8) :: st) := by
  subst hv
  obtain ⟨h1, h2⟩ := ix_in hx hj (by decide)
  refine aw_iald C hK 0 (n := 10) rfl (fun H h => h 8 (by decide)) h1 hd ?_
  rw [h2]
  exact kk
theorem sm_8 (C : CallFix p m c cc nL s args tb_G R_Mo) (hK : va_K D cl_all (ds_ty cA) s) (hI : ms_I ad) {x y : Int32}  (j : Nat) (hx : x = nI j) (hj : j < 10) (hd : decode cc pc = .ok (.iastore, 1)) (kk : AW p l e R s m args below meth c nL cells slots Q (ms_P D ad cA (ms_w M 8 j y)) (ct_A (ms_A ad) sz) (pc + 1) lv st) : AW p l e R s m args below meth c nL cells slots Q (ms_P D ad cA M) (ct_A (ms_A ad) sz) pc lv (.int y :: .int x :: .ref (ad 8) :: st) := by
  obtain ⟨h1, h2⟩ := ix_in hx hj (by decide)
  refine aw_iast C hK 0 (n := 10) rfl (ms_in (k := 8) (by decide)) (fun H h => h 8 (by decide)) h1 hd ?_ kk
  rw [h2]
  exact mw_arr8 hI
theorem lm_9 (C : CallFix p m c cc nL s args tb_G R_Mo) (hK : va_K D cl_all (ds_ty cA) s) {x : Int32} (j : Nat) (hx : x = nI j) (hj : j < 8) {v : Int32} (hv : M 9 j = v) (hd : decode cc pc = .ok (.iaload, 1)) (kk : AW p l e R s m args below meth c nL cells slots Q (ms_P D ad cA M) (ct_A (ms_A ad) sz) (pc + 1) lv (.int v :: st)) : AW p l e R s m args below meth c nL cells slots Q (ms_P D ad cA M) (ct_A (ms_A ad) sz) pc lv (.int x :: .ref (ad 9) :: st) := by
  subst hv
  obtain ⟨h1, h2⟩ := ix_in hx hj (by decide)
  refine aw_iald C hK 0 (n := 8) rfl (fun H h => h 9 (by decide)) h1 hd ?_
  rw [h2]
  exact kk
theorem sm_9 (C : CallFix p m c cc nL s args tb_G R_Mo) (hK : va_K D cl_all (ds_ty cA) s) (hI : ms_I ad) {x y : Int32}  (j : Nat) (hx : x = nI j) (hj : j < 8) (hd : decode cc pc = .ok (.iastore, 1)) (kk : AW p l e R s m args below meth c nL cells slots Q (ms_P D ad cA (ms_w M 9 j y)) (ct_A (ms_A ad) sz) (pc + 1) lv st) : AW p l e R s m args below meth c nL cells slots Q (ms_P D ad cA M) (ct_A (ms_A ad) sz) pc lv (.int y :: .int x :: .ref (ad 9) :: st) := by
  obtain ⟨h1, h2⟩ := ix_in hx hj (by decide)
  refine aw_iast C hK 0 (n := 8) rfl (ms_in (k := 9) (by decide)) (fun H h => h 9 (by decide)) h1 hd ?_ kk
  rw [h2]
  exact mw_arr9 hI
theorem lm_10 (C : CallFix p m c cc nL s args tb_G R_Mo) (hK : va_K D cl_all (ds_ty cA) s) {x : Int32} (j : Nat) (hx : x = nI j) (hj : j < 300) {v : Int32} (hv : M 10 j = v) (hd : decode cc pc = .ok (.iaload, 1)) (kk : AW p l e R s m args below meth c nL cells slots Q (ms_P D ad cA M) (ct_A (ms_A ad) sz) (pc + 1) lv (.int v :: st)) : AW p l e R s m args below meth c nL cells slots Q (ms_P D ad cA M) (ct_A (ms_A ad) sz) pc lv (.int x :: .ref (ad 10) :: st) := by
  subst hv
  obtain ⟨h1, h2⟩ := ix_in hx hj (by decide)
  refine aw_iald C hK 0 (n := 300) rfl (fun H h => h 10 (by decide)) h1 hd ?_
  rw [h2]
  exact kk
theorem sm_10 (C : CallFix p m c cc nL s args tb_G R_Mo) (hK : va_K D cl_all (ds_ty cA) s) (hI : ms_I ad) {x y : Int32}  (j : Nat) (hx : x = nI j) (hj : j < 300) (hd : decode cc pc = .ok (.iastore, 1)) (kk : AW p l e R s m args below meth c nL cells slots Q (ms_P D ad cA (ms_w M 10 j y)) (ct_A (ms_A ad) sz) (pc + 1) lv st) : AW p l e R s m args below meth c nL cells slots Q (ms_P D ad cA M) (ct_A (ms_A ad) sz) pc lv (.int y :: .int x :: .ref (ad 10) :: st) := by
  obtain ⟨h1, h2⟩ := ix_in hx hj (by decide)
  refine aw_iast C hK 0 (n := 300) rfl (ms_in (k := 10) (by decide)) (fun H h => h 10 (by decide)) h1 hd ?_ kk
  rw [h2]
  exact mw_arr10 hI
theorem lm_11 (C : CallFix p m c cc nL s args tb_G R_Mo) (hK : va_K D cl_all (ds_ty cA) s) {x : Int32} (j : Nat) (hx : x = nI j) (hj : j < 300) {v : Int32} (hv : M 11 j = v) (hd : decode cc pc = .ok (.iaload, 1)) (kk : AW p l e R s m args below meth c nL cells slots Q (ms_P D ad cA M) (ct_A (ms_A ad) sz) (pc + 1) lv (.int v :: st)) : AW p l e R s m args below meth c nL cells slots Q (ms_P D ad cA M) (ct_A (ms_A ad) sz) pc lv (.int x :: .ref (ad 11) :: st) := by
  subst hv
  obtain ⟨h1, h2⟩ := ix_in hx hj (by decide)
  refine aw_iald C hK 0 (n := 300) rfl (fun H h => h 11 (by decide)) h1 hd ?_
  rw [h2]
  exact kk
theorem sm_11 (C : CallFix p m c cc nL s args tb_G R_Mo) (hK : va_K D cl_all (ds_ty cA) s) (hI : ms_I ad) {x y : Int32}  (j : Nat) (hx : x = nI j) (hj : j < 300) (hd : decode cc pc = .ok (.iastore, 1)) (kk : AW p l e R s m args below meth c nL cells slots Q (ms_P D ad cA (ms_w M 11 j y)) (ct_A (ms_A ad) sz) (pc + 1) lv st) : AW p l e R s m args below meth c nL cells slots Q (ms_P D ad cA M) (ct_A (ms_A ad) sz) pc lv (.int y :: .int x :: .ref (ad 11) :: st) := by
  obtain ⟨h1, h2⟩ := ix_in hx hj (by decide)
  refine aw_iast C hK 0 (n := 300) rfl (ms_in (k := 11) (by decide)) (fun H h => h 11 (by decide)) h1 hd ?_ kk
  rw [h2]
  exact mw_arr11 hI
theorem lm_12 (C : CallFix p m c cc nL s args tb_G R_Mo) (hK : va_K D cl_all (ds_ty cA) s) {x : Int32} (j : Nat) (hx : x = nI j) (hj : j < 300) {v : Int32} (hv : M 12 j = v) (hd : decode cc pc = .ok (.iaload, 1)) (kk : AW p l e R s m args below meth c nL cells slots Q (ms_P D ad cA M) (ct_A (ms_A ad) sz) (pc + 1) lv (.int v :: st)) : AW p l e R s m args below meth c nL cells slots Q (ms_P D ad cA M) (ct_A (ms_A ad) sz) pc lv (.int x :: .ref (ad 12) :: st) := by
  subst hv
  obtain ⟨h1, h2⟩ := ix_in hx hj (by decide)
  refine aw_iald C hK 0 (n := 300) rfl (fun H h => h 12 (by decide)) h1 hd ?_
  rw [h2]
  exact kk
theorem sm_12 (C : CallFix p m c cc nL s args tb_G R_Mo) (hK : va_K D cl_all (ds_ty cA) s) (hI : ms_I ad) {x y : Int32}  (j : Nat) (hx : x = nI j) (hj : j < 300) (hd : decode cc pc = .ok (.iastore, 1)) (kk : AW p l e R s m args below meth c nL cells slots Q (ms_P D ad cA (ms_w M 12 j y)) (ct_A (ms_A ad) sz) (pc + 1) lv st) : AW p l e R s m args below meth c nL cells slots Q (ms_P D ad cA M) (ct_A (ms_A ad) sz) pc lv (.int y :: .int x :: .ref (ad 12) :: st) := by
  obtain ⟨h1, h2⟩ := ix_in hx hj (by decide)
  refine aw_iast C hK 0 (n := 300) rfl (ms_in (k := 12) (by decide)) (fun H h => h 12 (by decide)) h1 hd ?_ kk
  rw [h2]
  exact mw_arr12 hI
theorem lm_13 (C : CallFix p m c cc nL s args tb_G R_Mo) (hK : va_K D cl_all (ds_ty cA) s) {x : Int32} (j : Nat) (hx : x = nI j) (hj : j < 300) {v : Int32} (hv : M 13 j = v) (hd : decode cc pc = .ok (.iaload, 1)) (kk : AW p l e R s m args below meth c nL cells slots Q (ms_P D ad cA M) (ct_A (ms_A ad) sz) (pc + 1) lv (.int v :: st)) : AW p l e R s m args below meth c nL cells slots Q (ms_P D ad cA M) (ct_A (ms_A ad) sz) pc lv (.int x :: .ref (ad 13) :: st) := by
  subst hv
  obtain ⟨h1, h2⟩ := ix_in hx hj (by decide)
  refine aw_iald C hK 0 (n := 300) rfl (fun H h => h 13 (by decide)) h1 hd ?_
  rw [h2]
  exact kk
theorem sm_13 (C : CallFix p m c cc nL s args tb_G R_Mo) (hK : va_K D cl_all (ds_ty cA) s) (hI : ms_I ad) {x y : Int32}  (j : Nat) (hx : x = nI j) (hj : j < 300) (hd : decode cc pc = .ok (.iastore, 1)) (kk : AW p l e R s m args below meth c nL cells slots Q (ms_P D ad cA (ms_w M 13 j y)) (ct_A (ms_A ad) sz) (pc + 1) lv st) : AW p l e R s m args below meth c nL cells slots Q (ms_P D ad cA M) (ct_A (ms_A ad) sz) pc lv (.int y :: .int x :: .ref (ad 13) :: st) := by
  obtain ⟨h1, h2⟩ := ix_in hx hj (by decide)
  refine aw_iast C hK 0 (n := 300) rfl (ms_in (k := 13) (by decide)) (fun H h => h 13 (by decide)) h1 hd ?_ kk
  rw [h2]
  exact mw_arr13 hI
theorem lm_14 (C : CallFix p m c cc nL s args tb_G R_Mo) (hK : va_K D cl_all (ds_ty cA) s) {x : Int32} (j : Nat) (hx : x = nI j) (hj : j < 300) {v : Int32} (hv : M 14 j = v) (hd : decode cc pc = .ok (.baload, 1)) (kk : AW p l e R s m args below meth c nL cells slots Q (ms_P D ad cA M) (ct_A (ms_A ad) sz) (pc + 1) lv (.int v :: st)) : AW p l e R s m args below meth c nL cells slots Q (ms_P D ad cA M) (ct_A (ms_A ad) sz) pc lv (.int x :: .ref (ad 14) :: st) := by
  subst hv
  obtain ⟨h1, h2⟩ := ix_in hx hj (by decide)
  refine aw_zald C hK 1 (n := 300) rfl (fun H h => h 14 (by decide)) h1 hd ?_
  rw [h2]
  exact kk
theorem sm_14 (C : CallFix p m c cc nL s args tb_G R_Mo) (hK : va_K D cl_all (ds_ty cA) s) (hI : ms_I ad) {x y : Int32} (hz : y = 0 ∨ y = 1) (j : Nat) (hx : x = nI j) (hj : j < 300) (hd : decode cc pc = .ok (.bastore, 1)) (kk : AW p l e R s m args below meth c nL cells slots Q (ms_P D ad cA (ms_w M 14 j y)) (ct_A (ms_A ad) sz) (pc + 1) lv st) : AW p l e R s m args below meth c nL cells slots Q (ms_P D ad cA M) (ct_A (ms_A ad) sz) pc lv (.int y :: .int x :: .ref (ad 14) :: st) := by
  obtain ⟨h1, h2⟩ := ix_in hx hj (by decide)
  refine aw_zast C hK 1 (n := 300) rfl (ms_in (k := 14) (by decide)) (fun H h => h 14 (by decide)) h1 hd ?_ kk
  rw [h2, nr_vz hz]
  exact mw_arr14 hI
end RM
end
section
theorem d_Mo_init_0 : decode b_Mo_init 0 = .ok (.aload_n 0, 1) := by decide +kernel
theorem d_Mo_init_1 : decode b_Mo_init 1 = .ok (.invokespecial 1, 3) := by decide +kernel
theorem d_Mo_init_4 : decode b_Mo_init 4 = .ok (.aload_n 0, 1) := by decide +kernel
theorem d_Mo_init_5 : decode b_Mo_init 5 = .ok (.sipush 140, 3) := by decide +kernel
theorem d_Mo_init_8 : decode b_Mo_init 8 = .ok (.newarray .int, 2) := by decide +kernel
theorem d_Mo_init_10 : decode b_Mo_init 10 = .ok (.putfield 7, 3) := by decide +kernel
theorem d_Mo_init_13 : decode b_Mo_init 13 = .ok (.aload_n 0, 1) := by decide +kernel
theorem d_Mo_init_14 : decode b_Mo_init 14 = .ok (.sipush 140, 3) := by decide +kernel
theorem d_Mo_init_17 : decode b_Mo_init 17 = .ok (.newarray .boolean, 2) := by decide +kernel
theorem d_Mo_init_19 : decode b_Mo_init 19 = .ok (.putfield 13, 3) := by decide +kernel
theorem d_Mo_init_22 : decode b_Mo_init 22 = .ok (.aload_n 0, 1) := by decide +kernel
theorem d_Mo_init_23 : decode b_Mo_init 23 = .ok (.bipush 10, 2) := by decide +kernel
theorem d_Mo_init_25 : decode b_Mo_init 25 = .ok (.newarray .int, 2) := by decide +kernel
theorem d_Mo_init_27 : decode b_Mo_init 27 = .ok (.putfield 17, 3) := by decide +kernel
theorem d_Mo_init_30 : decode b_Mo_init 30 = .ok (.aload_n 0, 1) := by decide +kernel
theorem d_Mo_init_31 : decode b_Mo_init 31 = .ok (.bipush 10, 2) := by decide +kernel
theorem d_Mo_init_33 : decode b_Mo_init 33 = .ok (.newarray .int, 2) := by decide +kernel
theorem d_Mo_init_35 : decode b_Mo_init 35 = .ok (.putfield 20, 3) := by decide +kernel
theorem d_Mo_init_38 : decode b_Mo_init 38 = .ok (.aload_n 0, 1) := by decide +kernel
theorem d_Mo_init_39 : decode b_Mo_init 39 = .ok (.sipush 16384, 3) := by decide +kernel
theorem d_Mo_init_42 : decode b_Mo_init 42 = .ok (.newarray .int, 2) := by decide +kernel
theorem d_Mo_init_44 : decode b_Mo_init 44 = .ok (.putfield 23, 3) := by decide +kernel
theorem d_Mo_init_47 : decode b_Mo_init 47 = .ok (.aload_n 0, 1) := by decide +kernel
theorem d_Mo_init_48 : decode b_Mo_init 48 = .ok (.bipush 10, 2) := by decide +kernel
theorem d_Mo_init_50 : decode b_Mo_init 50 = .ok (.newarray .int, 2) := by decide +kernel
theorem d_Mo_init_52 : decode b_Mo_init 52 = .ok (.putfield 26, 3) := by decide +kernel
theorem d_Mo_init_55 : decode b_Mo_init 55 = .ok (.aload_n 0, 1) := by decide +kernel
theorem d_Mo_init_56 : decode b_Mo_init 56 = .ok (.sipush 600, 3) := by decide +kernel
theorem d_Mo_init_59 : decode b_Mo_init 59 = .ok (.newarray .int, 2) := by decide +kernel
theorem d_Mo_init_61 : decode b_Mo_init 61 = .ok (.putfield 29, 3) := by decide +kernel
theorem d_Mo_init_64 : decode b_Mo_init 64 = .ok (.aload_n 0, 1) := by decide +kernel
theorem d_Mo_init_65 : decode b_Mo_init 65 = .ok (.bipush 10, 2) := by decide +kernel
theorem d_Mo_init_67 : decode b_Mo_init 67 = .ok (.newarray .int, 2) := by decide +kernel
theorem d_Mo_init_69 : decode b_Mo_init 69 = .ok (.putfield 32, 3) := by decide +kernel
theorem d_Mo_init_72 : decode b_Mo_init 72 = .ok (.aload_n 0, 1) := by decide +kernel
theorem d_Mo_init_73 : decode b_Mo_init 73 = .ok (.bipush 8, 2) := by decide +kernel
theorem d_Mo_init_75 : decode b_Mo_init 75 = .ok (.newarray .int, 2) := by decide +kernel
theorem d_Mo_init_77 : decode b_Mo_init 77 = .ok (.putfield 35, 3) := by decide +kernel
theorem d_Mo_init_80 : decode b_Mo_init 80 = .ok (.aload_n 0, 1) := by decide +kernel
theorem d_Mo_init_81 : decode b_Mo_init 81 = .ok (.sipush 300, 3) := by decide +kernel
theorem d_Mo_init_84 : decode b_Mo_init 84 = .ok (.newarray .int, 2) := by decide +kernel
theorem d_Mo_init_86 : decode b_Mo_init 86 = .ok (.putfield 38, 3) := by decide +kernel
theorem d_Mo_init_89 : decode b_Mo_init 89 = .ok (.aload_n 0, 1) := by decide +kernel
theorem d_Mo_init_90 : decode b_Mo_init 90 = .ok (.sipush 300, 3) := by decide +kernel
theorem d_Mo_init_93 : decode b_Mo_init 93 = .ok (.newarray .int, 2) := by decide +kernel
theorem d_Mo_init_95 : decode b_Mo_init 95 = .ok (.putfield 41, 3) := by decide +kernel
theorem d_Mo_init_98 : decode b_Mo_init 98 = .ok (.aload_n 0, 1) := by decide +kernel
theorem d_Mo_init_99 : decode b_Mo_init 99 = .ok (.sipush 300, 3) := by decide +kernel
theorem d_Mo_init_102 : decode b_Mo_init 102 = .ok (.newarray .int, 2) := by decide +kernel
theorem d_Mo_init_104 : decode b_Mo_init 104 = .ok (.putfield 44, 3) := by decide +kernel
theorem d_Mo_init_107 : decode b_Mo_init 107 = .ok (.aload_n 0, 1) := by decide +kernel
theorem d_Mo_init_108 : decode b_Mo_init 108 = .ok (.sipush 300, 3) := by decide +kernel
theorem d_Mo_init_111 : decode b_Mo_init 111 = .ok (.newarray .int, 2) := by decide +kernel
theorem d_Mo_init_113 : decode b_Mo_init 113 = .ok (.putfield 47, 3) := by decide +kernel
theorem d_Mo_init_116 : decode b_Mo_init 116 = .ok (.aload_n 0, 1) := by decide +kernel
theorem d_Mo_init_117 : decode b_Mo_init 117 = .ok (.sipush 300, 3) := by decide +kernel
theorem d_Mo_init_120 : decode b_Mo_init 120 = .ok (.newarray .boolean, 2) := by decide +kernel
theorem d_Mo_init_122 : decode b_Mo_init 122 = .ok (.putfield 50, 3) := by decide +kernel
theorem d_Mo_init_125 : decode b_Mo_init 125 = .ok (.aload_n 0, 1) := by decide +kernel
theorem d_Mo_init_126 : decode b_Mo_init 126 = .ok (.iconst 0, 1) := by decide +kernel
theorem d_Mo_init_127 : decode b_Mo_init 127 = .ok (.putfield 53, 3) := by decide +kernel
theorem d_Mo_init_130 : decode b_Mo_init 130 = .ok (.return_, 1) := by decide +kernel
theorem d_Mo_thrown_0 : decode b_Mo_thrown 0 = .ok (.aload_n 0, 1) := by decide +kernel
theorem d_Mo_thrown_1 : decode b_Mo_thrown 1 = .ok (.getfield 57, 3) := by decide +kernel
theorem d_Mo_thrown_4 : decode b_Mo_thrown 4 = .ok (.ireturn, 1) := by decide +kernel
theorem d_Mo_in_0 : decode b_Mo_in 0 = .ok (.iload_n 0, 1) := by decide +kernel
theorem d_Mo_in_1 : decode b_Mo_in 1 = .ok (.iload_n 1, 1) := by decide +kernel
theorem d_Mo_in_2 : decode b_Mo_in 2 = .ok (.if_icmp .lt 12, 3) := by decide +kernel
theorem d_Mo_in_5 : decode b_Mo_in 5 = .ok (.iload_n 0, 1) := by decide +kernel
theorem d_Mo_in_6 : decode b_Mo_in 6 = .ok (.iload_n 2, 1) := by decide +kernel
theorem d_Mo_in_7 : decode b_Mo_in 7 = .ok (.if_icmp .gt 7, 3) := by decide +kernel
theorem d_Mo_in_10 : decode b_Mo_in 10 = .ok (.iconst 1, 1) := by decide +kernel
theorem d_Mo_in_11 : decode b_Mo_in 11 = .ok (.goto 4, 3) := by decide +kernel
theorem d_Mo_in_14 : decode b_Mo_in 14 = .ok (.iconst 0, 1) := by decide +kernel
theorem d_Mo_in_15 : decode b_Mo_in 15 = .ok (.ireturn, 1) := by decide +kernel
theorem d_Mo_isPerson_0 : decode b_Mo_isPerson 0 = .ok (.iload_n 1, 1) := by decide +kernel
theorem d_Mo_isPerson_1 : decode b_Mo_isPerson 1 = .ok (.iconst 0, 1) := by decide +kernel
theorem d_Mo_isPerson_2 : decode b_Mo_isPerson 2 = .ok (.aload_n 0, 1) := by decide +kernel
theorem d_Mo_isPerson_3 : decode b_Mo_isPerson 3 = .ok (.getfield 60, 3) := by decide +kernel
theorem d_Mo_isPerson_6 : decode b_Mo_isPerson 6 = .ok (.iconst 1, 1) := by decide +kernel
theorem d_Mo_isPerson_7 : decode b_Mo_isPerson 7 = .ok (.isub, 1) := by decide +kernel
theorem d_Mo_isPerson_8 : decode b_Mo_isPerson 8 = .ok (.invokestatic 63, 3) := by decide +kernel
theorem d_Mo_isPerson_11 : decode b_Mo_isPerson 11 = .ok (.ireturn, 1) := by decide +kernel
theorem d_Mo_isDesk_0 : decode b_Mo_isDesk 0 = .ok (.iload_n 1, 1) := by decide +kernel
theorem d_Mo_isDesk_1 : decode b_Mo_isDesk 1 = .ok (.iconst 0, 1) := by decide +kernel
theorem d_Mo_isDesk_2 : decode b_Mo_isDesk 2 = .ok (.aload_n 0, 1) := by decide +kernel
theorem d_Mo_isDesk_3 : decode b_Mo_isDesk 3 = .ok (.getfield 53, 3) := by decide +kernel
theorem d_Mo_isDesk_6 : decode b_Mo_isDesk 6 = .ok (.iconst 1, 1) := by decide +kernel
theorem d_Mo_isDesk_7 : decode b_Mo_isDesk 7 = .ok (.isub, 1) := by decide +kernel
theorem d_Mo_isDesk_8 : decode b_Mo_isDesk 8 = .ok (.invokestatic 63, 3) := by decide +kernel
theorem d_Mo_isDesk_11 : decode b_Mo_isDesk 11 = .ok (.ireturn, 1) := by decide +kernel
theorem d_Mo_isRoom_0 : decode b_Mo_isRoom 0 = .ok (.iload_n 1, 1) := by decide +kernel
theorem d_Mo_isRoom_1 : decode b_Mo_isRoom 1 = .ok (.iconst 0, 1) := by decide +kernel
theorem d_Mo_isRoom_2 : decode b_Mo_isRoom 2 = .ok (.aload_n 0, 1) := by decide +kernel
theorem d_Mo_isRoom_3 : decode b_Mo_isRoom 3 = .ok (.getfield 67, 3) := by decide +kernel
theorem d_Mo_isRoom_6 : decode b_Mo_isRoom 6 = .ok (.iconst 1, 1) := by decide +kernel
theorem d_Mo_isRoom_7 : decode b_Mo_isRoom 7 = .ok (.isub, 1) := by decide +kernel
theorem d_Mo_isRoom_8 : decode b_Mo_isRoom 8 = .ok (.invokestatic 63, 3) := by decide +kernel
theorem d_Mo_isRoom_11 : decode b_Mo_isRoom 11 = .ok (.ireturn, 1) := by decide +kernel
theorem d_Mo_desk_0 : decode b_Mo_desk 0 = .ok (.aload_n 0, 1) := by decide +kernel
theorem d_Mo_desk_1 : decode b_Mo_desk 1 = .ok (.aload_n 0, 1) := by decide +kernel
theorem d_Mo_desk_2 : decode b_Mo_desk 2 = .ok (.getfield 53, 3) := by decide +kernel
theorem d_Mo_desk_5 : decode b_Mo_desk 5 = .ok (.bipush 14, 2) := by decide +kernel
theorem d_Mo_desk_7 : decode b_Mo_desk 7 = .ok (.if_icmp .ne 7, 3) := by decide +kernel
theorem d_Mo_desk_10 : decode b_Mo_desk 10 = .ok (.iconst 1, 1) := by decide +kernel
theorem d_Mo_desk_11 : decode b_Mo_desk 11 = .ok (.goto 4, 3) := by decide +kernel
theorem d_Mo_desk_14 : decode b_Mo_desk 14 = .ok (.iconst 0, 1) := by decide +kernel
theorem d_Mo_desk_15 : decode b_Mo_desk 15 = .ok (.putfield 57, 3) := by decide +kernel
theorem d_Mo_desk_18 : decode b_Mo_desk 18 = .ok (.aload_n 0, 1) := by decide +kernel
theorem d_Mo_desk_19 : decode b_Mo_desk 19 = .ok (.getfield 57, 3) := by decide +kernel
theorem d_Mo_desk_22 : decode b_Mo_desk 22 = .ok (.ifCond .le 5, 3) := by decide +kernel
theorem d_Mo_desk_25 : decode b_Mo_desk 25 = .ok (.iconst 0, 1) := by decide +kernel
theorem d_Mo_desk_26 : decode b_Mo_desk 26 = .ok (.ireturn, 1) := by decide +kernel
theorem d_Mo_desk_27 : decode b_Mo_desk 27 = .ok (.aload_n 0, 1) := by decide +kernel
theorem d_Mo_desk_28 : decode b_Mo_desk 28 = .ok (.iconst 0, 1) := by decide +kernel
theorem d_Mo_desk_29 : decode b_Mo_desk 29 = .ok (.putfield 70, 3) := by decide +kernel
theorem d_Mo_desk_32 : decode b_Mo_desk 32 = .ok (.aload_n 0, 1) := by decide +kernel
theorem d_Mo_desk_33 : decode b_Mo_desk 33 = .ok (.dup, 1) := by decide +kernel
theorem d_Mo_desk_34 : decode b_Mo_desk 34 = .ok (.getfield 53, 3) := by decide +kernel
theorem d_Mo_desk_37 : decode b_Mo_desk 37 = .ok (.iconst 1, 1) := by decide +kernel
theorem d_Mo_desk_38 : decode b_Mo_desk 38 = .ok (.iadd, 1) := by decide +kernel
theorem d_Mo_desk_39 : decode b_Mo_desk 39 = .ok (.putfield 53, 3) := by decide +kernel
theorem d_Mo_desk_42 : decode b_Mo_desk 42 = .ok (.aload_n 0, 1) := by decide +kernel
theorem d_Mo_desk_43 : decode b_Mo_desk 43 = .ok (.getfield 53, 3) := by decide +kernel
theorem d_Mo_desk_46 : decode b_Mo_desk 46 = .ok (.iconst 1, 1) := by decide +kernel
theorem d_Mo_desk_47 : decode b_Mo_desk 47 = .ok (.isub, 1) := by decide +kernel
theorem d_Mo_desk_48 : decode b_Mo_desk 48 = .ok (.ireturn, 1) := by decide +kernel
theorem d_Mo_person_0 : decode b_Mo_person 0 = .ok (.aload_n 0, 1) := by decide +kernel
theorem d_Mo_person_1 : decode b_Mo_person 1 = .ok (.aload_n 0, 1) := by decide +kernel
theorem d_Mo_person_2 : decode b_Mo_person 2 = .ok (.getfield 60, 3) := by decide +kernel
theorem d_Mo_person_5 : decode b_Mo_person 5 = .ok (.bipush 10, 2) := by decide +kernel
theorem d_Mo_person_7 : decode b_Mo_person 7 = .ok (.if_icmp .ne 7, 3) := by decide +kernel
theorem d_Mo_person_10 : decode b_Mo_person 10 = .ok (.iconst 1, 1) := by decide +kernel
theorem d_Mo_person_11 : decode b_Mo_person 11 = .ok (.goto 4, 3) := by decide +kernel
theorem d_Mo_person_14 : decode b_Mo_person 14 = .ok (.iconst 0, 1) := by decide +kernel
theorem d_Mo_person_15 : decode b_Mo_person 15 = .ok (.putfield 57, 3) := by decide +kernel
theorem d_Mo_person_18 : decode b_Mo_person 18 = .ok (.aload_n 0, 1) := by decide +kernel
theorem d_Mo_person_19 : decode b_Mo_person 19 = .ok (.getfield 57, 3) := by decide +kernel
theorem d_Mo_person_22 : decode b_Mo_person 22 = .ok (.ifCond .le 5, 3) := by decide +kernel
theorem d_Mo_person_25 : decode b_Mo_person 25 = .ok (.iconst 0, 1) := by decide +kernel
theorem d_Mo_person_26 : decode b_Mo_person 26 = .ok (.ireturn, 1) := by decide +kernel
theorem d_Mo_person_27 : decode b_Mo_person 27 = .ok (.aload_n 0, 1) := by decide +kernel
theorem d_Mo_person_28 : decode b_Mo_person 28 = .ok (.iconst 0, 1) := by decide +kernel
theorem d_Mo_person_29 : decode b_Mo_person 29 = .ok (.putfield 70, 3) := by decide +kernel
theorem d_Mo_person_32 : decode b_Mo_person 32 = .ok (.aload_n 0, 1) := by decide +kernel
theorem d_Mo_person_33 : decode b_Mo_person 33 = .ok (.getfield 17, 3) := by decide +kernel
theorem d_Mo_person_36 : decode b_Mo_person 36 = .ok (.aload_n 0, 1) := by decide +kernel
theorem d_Mo_person_37 : decode b_Mo_person 37 = .ok (.getfield 60, 3) := by decide +kernel
theorem d_Mo_person_40 : decode b_Mo_person 40 = .ok (.iconst (-1), 1) := by decide +kernel
theorem d_Mo_person_41 : decode b_Mo_person 41 = .ok (.iastore, 1) := by decide +kernel
theorem d_Mo_person_42 : decode b_Mo_person 42 = .ok (.aload_n 0, 1) := by decide +kernel
theorem d_Mo_person_43 : decode b_Mo_person 43 = .ok (.dup, 1) := by decide +kernel
theorem d_Mo_person_44 : decode b_Mo_person 44 = .ok (.getfield 60, 3) := by decide +kernel
theorem d_Mo_person_47 : decode b_Mo_person 47 = .ok (.iconst 1, 1) := by decide +kernel
theorem d_Mo_person_48 : decode b_Mo_person 48 = .ok (.iadd, 1) := by decide +kernel
theorem d_Mo_person_49 : decode b_Mo_person 49 = .ok (.putfield 60, 3) := by decide +kernel
theorem d_Mo_person_52 : decode b_Mo_person 52 = .ok (.aload_n 0, 1) := by decide +kernel
theorem d_Mo_person_53 : decode b_Mo_person 53 = .ok (.getfield 60, 3) := by decide +kernel
theorem d_Mo_person_56 : decode b_Mo_person 56 = .ok (.iconst 1, 1) := by decide +kernel
theorem d_Mo_person_57 : decode b_Mo_person 57 = .ok (.isub, 1) := by decide +kernel
theorem d_Mo_person_58 : decode b_Mo_person 58 = .ok (.ireturn, 1) := by decide +kernel
theorem d_Mo_wish_0 : decode b_Mo_wish 0 = .ok (.aload_n 0, 1) := by decide +kernel
theorem d_Mo_wish_1 : decode b_Mo_wish 1 = .ok (.aload_n 0, 1) := by decide +kernel
theorem d_Mo_wish_2 : decode b_Mo_wish 2 = .ok (.iload_n 1, 1) := by decide +kernel
theorem d_Mo_wish_3 : decode b_Mo_wish 3 = .ok (.invokevirtual 74, 3) := by decide +kernel
theorem d_Mo_wish_6 : decode b_Mo_wish 6 = .ok (.ifCond .eq 26, 3) := by decide +kernel
theorem d_Mo_wish_9 : decode b_Mo_wish 9 = .ok (.aload_n 0, 1) := by decide +kernel
theorem d_Mo_wish_10 : decode b_Mo_wish 10 = .ok (.iload_n 2, 1) := by decide +kernel
theorem d_Mo_wish_11 : decode b_Mo_wish 11 = .ok (.invokevirtual 78, 3) := by decide +kernel
theorem d_Mo_wish_14 : decode b_Mo_wish 14 = .ok (.ifCond .eq 18, 3) := by decide +kernel
theorem d_Mo_wish_17 : decode b_Mo_wish 17 = .ok (.iload_n 3, 1) := by decide +kernel
theorem d_Mo_wish_18 : decode b_Mo_wish 18 = .ok (.iconst 0, 1) := by decide +kernel
theorem d_Mo_wish_19 : decode b_Mo_wish 19 = .ok (.sipush 1000, 3) := by decide +kernel
theorem d_Mo_wish_22 : decode b_Mo_wish 22 = .ok (.invokestatic 63, 3) := by decide +kernel
theorem d_Mo_wish_25 : decode b_Mo_wish 25 = .ok (.ifCond .eq 7, 3) := by decide +kernel
theorem d_Mo_wish_28 : decode b_Mo_wish 28 = .ok (.iconst 0, 1) := by decide +kernel
theorem d_Mo_wish_29 : decode b_Mo_wish 29 = .ok (.goto 4, 3) := by decide +kernel
theorem d_Mo_wish_32 : decode b_Mo_wish 32 = .ok (.iconst 1, 1) := by decide +kernel
theorem d_Mo_wish_33 : decode b_Mo_wish 33 = .ok (.putfield 57, 3) := by decide +kernel
theorem d_Mo_wish_36 : decode b_Mo_wish 36 = .ok (.aload_n 0, 1) := by decide +kernel
theorem d_Mo_wish_37 : decode b_Mo_wish 37 = .ok (.getfield 57, 3) := by decide +kernel
theorem d_Mo_wish_40 : decode b_Mo_wish 40 = .ok (.ifCond .le 5, 3) := by decide +kernel
theorem d_Mo_wish_43 : decode b_Mo_wish 43 = .ok (.iconst 0, 1) := by decide +kernel
theorem d_Mo_wish_44 : decode b_Mo_wish 44 = .ok (.ireturn, 1) := by decide +kernel
theorem d_Mo_wish_45 : decode b_Mo_wish 45 = .ok (.aload_n 0, 1) := by decide +kernel
theorem d_Mo_wish_46 : decode b_Mo_wish 46 = .ok (.iconst 0, 1) := by decide +kernel
theorem d_Mo_wish_47 : decode b_Mo_wish 47 = .ok (.putfield 70, 3) := by decide +kernel
theorem d_Mo_wish_50 : decode b_Mo_wish 50 = .ok (.aload_n 0, 1) := by decide +kernel
theorem d_Mo_wish_51 : decode b_Mo_wish 51 = .ok (.getfield 7, 3) := by decide +kernel
theorem d_Mo_wish_54 : decode b_Mo_wish 54 = .ok (.bipush 14, 2) := by decide +kernel
theorem d_Mo_wish_56 : decode b_Mo_wish 56 = .ok (.iload_n 1, 1) := by decide +kernel
theorem d_Mo_wish_57 : decode b_Mo_wish 57 = .ok (.imul, 1) := by decide +kernel
theorem d_Mo_wish_58 : decode b_Mo_wish 58 = .ok (.iload_n 2, 1) := by decide +kernel
theorem d_Mo_wish_59 : decode b_Mo_wish 59 = .ok (.iadd, 1) := by decide +kernel
theorem d_Mo_wish_60 : decode b_Mo_wish 60 = .ok (.iaload, 1) := by decide +kernel
theorem d_Mo_wish_61 : decode b_Mo_wish 61 = .ok (.istore 4, 2) := by decide +kernel
theorem d_Mo_wish_63 : decode b_Mo_wish 63 = .ok (.aload_n 0, 1) := by decide +kernel
theorem d_Mo_wish_64 : decode b_Mo_wish 64 = .ok (.getfield 7, 3) := by decide +kernel
theorem d_Mo_wish_67 : decode b_Mo_wish 67 = .ok (.bipush 14, 2) := by decide +kernel
theorem d_Mo_wish_69 : decode b_Mo_wish 69 = .ok (.iload_n 1, 1) := by decide +kernel
theorem d_Mo_wish_70 : decode b_Mo_wish 70 = .ok (.imul, 1) := by decide +kernel
theorem d_Mo_wish_71 : decode b_Mo_wish 71 = .ok (.iload_n 2, 1) := by decide +kernel
theorem d_Mo_wish_72 : decode b_Mo_wish 72 = .ok (.iadd, 1) := by decide +kernel
theorem d_Mo_wish_73 : decode b_Mo_wish 73 = .ok (.iload_n 3, 1) := by decide +kernel
theorem d_Mo_wish_74 : decode b_Mo_wish 74 = .ok (.iastore, 1) := by decide +kernel
theorem d_Mo_wish_75 : decode b_Mo_wish 75 = .ok (.iload 4, 2) := by decide +kernel
theorem d_Mo_wish_77 : decode b_Mo_wish 77 = .ok (.ireturn, 1) := by decide +kernel
theorem d_Mo_bar_0 : decode b_Mo_bar 0 = .ok (.aload_n 0, 1) := by decide +kernel
theorem d_Mo_bar_1 : decode b_Mo_bar 1 = .ok (.aload_n 0, 1) := by decide +kernel
theorem d_Mo_bar_2 : decode b_Mo_bar 2 = .ok (.iload_n 1, 1) := by decide +kernel
theorem d_Mo_bar_3 : decode b_Mo_bar 3 = .ok (.invokevirtual 74, 3) := by decide +kernel
theorem d_Mo_bar_6 : decode b_Mo_bar 6 = .ok (.ifCond .eq 15, 3) := by decide +kernel
theorem d_Mo_bar_9 : decode b_Mo_bar 9 = .ok (.aload_n 0, 1) := by decide +kernel
theorem d_Mo_bar_10 : decode b_Mo_bar 10 = .ok (.iload_n 2, 1) := by decide +kernel
theorem d_Mo_bar_11 : decode b_Mo_bar 11 = .ok (.invokevirtual 78, 3) := by decide +kernel
theorem d_Mo_bar_14 : decode b_Mo_bar 14 = .ok (.ifCond .eq 7, 3) := by decide +kernel
theorem d_Mo_bar_17 : decode b_Mo_bar 17 = .ok (.iconst 0, 1) := by decide +kernel
theorem d_Mo_bar_18 : decode b_Mo_bar 18 = .ok (.goto 4, 3) := by decide +kernel
theorem d_Mo_bar_21 : decode b_Mo_bar 21 = .ok (.iconst 1, 1) := by decide +kernel
theorem d_Mo_bar_22 : decode b_Mo_bar 22 = .ok (.putfield 57, 3) := by decide +kernel
theorem d_Mo_bar_25 : decode b_Mo_bar 25 = .ok (.aload_n 0, 1) := by decide +kernel
theorem d_Mo_bar_26 : decode b_Mo_bar 26 = .ok (.getfield 57, 3) := by decide +kernel
theorem d_Mo_bar_29 : decode b_Mo_bar 29 = .ok (.ifCond .le 5, 3) := by decide +kernel
theorem d_Mo_bar_32 : decode b_Mo_bar 32 = .ok (.iconst 0, 1) := by decide +kernel
theorem d_Mo_bar_33 : decode b_Mo_bar 33 = .ok (.ireturn, 1) := by decide +kernel
theorem d_Mo_bar_34 : decode b_Mo_bar 34 = .ok (.aload_n 0, 1) := by decide +kernel
theorem d_Mo_bar_35 : decode b_Mo_bar 35 = .ok (.iconst 0, 1) := by decide +kernel
theorem d_Mo_bar_36 : decode b_Mo_bar 36 = .ok (.putfield 70, 3) := by decide +kernel
theorem d_Mo_bar_39 : decode b_Mo_bar 39 = .ok (.aload_n 0, 1) := by decide +kernel
theorem d_Mo_bar_40 : decode b_Mo_bar 40 = .ok (.getfield 13, 3) := by decide +kernel
theorem d_Mo_bar_43 : decode b_Mo_bar 43 = .ok (.bipush 14, 2) := by decide +kernel
theorem d_Mo_bar_45 : decode b_Mo_bar 45 = .ok (.iload_n 1, 1) := by decide +kernel
theorem d_Mo_bar_46 : decode b_Mo_bar 46 = .ok (.imul, 1) := by decide +kernel
theorem d_Mo_bar_47 : decode b_Mo_bar 47 = .ok (.iload_n 2, 1) := by decide +kernel
theorem d_Mo_bar_48 : decode b_Mo_bar 48 = .ok (.iadd, 1) := by decide +kernel
theorem d_Mo_bar_49 : decode b_Mo_bar 49 = .ok (.baload, 1) := by decide +kernel
theorem d_Mo_bar_50 : decode b_Mo_bar 50 = .ok (.istore 4, 2) := by decide +kernel
theorem d_Mo_bar_52 : decode b_Mo_bar 52 = .ok (.aload_n 0, 1) := by decide +kernel
theorem d_Mo_bar_53 : decode b_Mo_bar 53 = .ok (.getfield 13, 3) := by decide +kernel
theorem d_Mo_bar_56 : decode b_Mo_bar 56 = .ok (.bipush 14, 2) := by decide +kernel
theorem d_Mo_bar_58 : decode b_Mo_bar 58 = .ok (.iload_n 1, 1) := by decide +kernel
theorem d_Mo_bar_59 : decode b_Mo_bar 59 = .ok (.imul, 1) := by decide +kernel
theorem d_Mo_bar_60 : decode b_Mo_bar 60 = .ok (.iload_n 2, 1) := by decide +kernel
theorem d_Mo_bar_61 : decode b_Mo_bar 61 = .ok (.iadd, 1) := by decide +kernel
theorem d_Mo_bar_62 : decode b_Mo_bar 62 = .ok (.iload_n 3, 1) := by decide +kernel
theorem d_Mo_bar_63 : decode b_Mo_bar 63 = .ok (.bastore, 1) := by decide +kernel
theorem d_Mo_bar_64 : decode b_Mo_bar 64 = .ok (.iload 4, 2) := by decide +kernel
theorem d_Mo_bar_66 : decode b_Mo_bar 66 = .ok (.ireturn, 1) := by decide +kernel
theorem d_Mo_sits_0 : decode b_Mo_sits 0 = .ok (.aload_n 0, 1) := by decide +kernel
theorem d_Mo_sits_1 : decode b_Mo_sits 1 = .ok (.aload_n 0, 1) := by decide +kernel
theorem d_Mo_sits_2 : decode b_Mo_sits 2 = .ok (.iload_n 1, 1) := by decide +kernel
theorem d_Mo_sits_3 : decode b_Mo_sits 3 = .ok (.invokevirtual 74, 3) := by decide +kernel
theorem d_Mo_sits_6 : decode b_Mo_sits 6 = .ok (.ifCond .eq 20, 3) := by decide +kernel
theorem d_Mo_sits_9 : decode b_Mo_sits 9 = .ok (.iload_n 2, 1) := by decide +kernel
theorem d_Mo_sits_10 : decode b_Mo_sits 10 = .ok (.iconst (-1), 1) := by decide +kernel
theorem d_Mo_sits_11 : decode b_Mo_sits 11 = .ok (.if_icmp .eq 11, 3) := by decide +kernel
theorem d_Mo_sits_14 : decode b_Mo_sits 14 = .ok (.aload_n 0, 1) := by decide +kernel
theorem d_Mo_sits_15 : decode b_Mo_sits 15 = .ok (.iload_n 2, 1) := by decide +kernel
theorem d_Mo_sits_16 : decode b_Mo_sits 16 = .ok (.invokevirtual 78, 3) := by decide +kernel
theorem d_Mo_sits_19 : decode b_Mo_sits 19 = .ok (.ifCond .eq 7, 3) := by decide +kernel
theorem d_Mo_sits_22 : decode b_Mo_sits 22 = .ok (.iconst 0, 1) := by decide +kernel
theorem d_Mo_sits_23 : decode b_Mo_sits 23 = .ok (.goto 4, 3) := by decide +kernel
theorem d_Mo_sits_26 : decode b_Mo_sits 26 = .ok (.iconst 1, 1) := by decide +kernel
theorem d_Mo_sits_27 : decode b_Mo_sits 27 = .ok (.putfield 57, 3) := by decide +kernel
theorem d_Mo_sits_30 : decode b_Mo_sits 30 = .ok (.iconst 0, 1) := by decide +kernel
theorem d_Mo_sits_31 : decode b_Mo_sits 31 = .ok (.istore_n 3, 1) := by decide +kernel
theorem d_Mo_sits_32 : decode b_Mo_sits 32 = .ok (.iload_n 3, 1) := by decide +kernel
theorem d_Mo_sits_33 : decode b_Mo_sits 33 = .ok (.aload_n 0, 1) := by decide +kernel
theorem d_Mo_sits_34 : decode b_Mo_sits 34 = .ok (.getfield 60, 3) := by decide +kernel
theorem d_Mo_sits_37 : decode b_Mo_sits 37 = .ok (.if_icmp .ge 45, 3) := by decide +kernel
theorem d_Mo_sits_40 : decode b_Mo_sits 40 = .ok (.aload_n 0, 1) := by decide +kernel
theorem d_Mo_sits_41 : decode b_Mo_sits 41 = .ok (.getfield 57, 3) := by decide +kernel
theorem d_Mo_sits_44 : decode b_Mo_sits 44 = .ok (.ifCond .ne 38, 3) := by decide +kernel
theorem d_Mo_sits_47 : decode b_Mo_sits 47 = .ok (.aload_n 0, 1) := by decide +kernel
theorem d_Mo_sits_48 : decode b_Mo_sits 48 = .ok (.iload_n 3, 1) := by decide +kernel
theorem d_Mo_sits_49 : decode b_Mo_sits 49 = .ok (.iload_n 1, 1) := by decide +kernel
theorem d_Mo_sits_50 : decode b_Mo_sits 50 = .ok (.if_icmp .eq 22, 3) := by decide +kernel
theorem d_Mo_sits_53 : decode b_Mo_sits 53 = .ok (.iload_n 2, 1) := by decide +kernel
theorem d_Mo_sits_54 : decode b_Mo_sits 54 = .ok (.iconst (-1), 1) := by decide +kernel
theorem d_Mo_sits_55 : decode b_Mo_sits 55 = .ok (.if_icmp .eq 17, 3) := by decide +kernel
theorem d_Mo_sits_58 : decode b_Mo_sits 58 = .ok (.aload_n 0, 1) := by decide +kernel
theorem d_Mo_sits_59 : decode b_Mo_sits 59 = .ok (.getfield 17, 3) := by decide +kernel
theorem d_Mo_sits_62 : decode b_Mo_sits 62 = .ok (.iload_n 3, 1) := by decide +kernel
theorem d_Mo_sits_63 : decode b_Mo_sits 63 = .ok (.iaload, 1) := by decide +kernel
theorem d_Mo_sits_64 : decode b_Mo_sits 64 = .ok (.iload_n 2, 1) := by decide +kernel
theorem d_Mo_sits_65 : decode b_Mo_sits 65 = .ok (.if_icmp .ne 7, 3) := by decide +kernel
theorem d_Mo_sits_68 : decode b_Mo_sits 68 = .ok (.iconst 2, 1) := by decide +kernel
theorem d_Mo_sits_69 : decode b_Mo_sits 69 = .ok (.goto 4, 3) := by decide +kernel
theorem d_Mo_sits_72 : decode b_Mo_sits 72 = .ok (.iconst 0, 1) := by decide +kernel
theorem d_Mo_sits_73 : decode b_Mo_sits 73 = .ok (.putfield 57, 3) := by decide +kernel
theorem d_Mo_sits_76 : decode b_Mo_sits 76 = .ok (.iinc 3 1, 3) := by decide +kernel
theorem d_Mo_sits_79 : decode b_Mo_sits 79 = .ok (.goto (-47), 3) := by decide +kernel
theorem d_Mo_sits_82 : decode b_Mo_sits 82 = .ok (.aload_n 0, 1) := by decide +kernel
theorem d_Mo_sits_83 : decode b_Mo_sits 83 = .ok (.getfield 57, 3) := by decide +kernel
theorem d_Mo_sits_86 : decode b_Mo_sits 86 = .ok (.ifCond .le 5, 3) := by decide +kernel
theorem d_Mo_sits_89 : decode b_Mo_sits 89 = .ok (.iconst 0, 1) := by decide +kernel
theorem d_Mo_sits_90 : decode b_Mo_sits 90 = .ok (.ireturn, 1) := by decide +kernel
theorem d_Mo_sits_91 : decode b_Mo_sits 91 = .ok (.aload_n 0, 1) := by decide +kernel
theorem d_Mo_sits_92 : decode b_Mo_sits 92 = .ok (.iconst 0, 1) := by decide +kernel
theorem d_Mo_sits_93 : decode b_Mo_sits 93 = .ok (.putfield 70, 3) := by decide +kernel
theorem d_Mo_sits_96 : decode b_Mo_sits 96 = .ok (.aload_n 0, 1) := by decide +kernel
theorem d_Mo_sits_97 : decode b_Mo_sits 97 = .ok (.getfield 17, 3) := by decide +kernel
theorem d_Mo_sits_100 : decode b_Mo_sits 100 = .ok (.iload_n 1, 1) := by decide +kernel
theorem d_Mo_sits_101 : decode b_Mo_sits 101 = .ok (.iaload, 1) := by decide +kernel
theorem d_Mo_sits_102 : decode b_Mo_sits 102 = .ok (.istore_n 3, 1) := by decide +kernel
theorem d_Mo_sits_103 : decode b_Mo_sits 103 = .ok (.aload_n 0, 1) := by decide +kernel
theorem d_Mo_sits_104 : decode b_Mo_sits 104 = .ok (.getfield 17, 3) := by decide +kernel
theorem d_Mo_sits_107 : decode b_Mo_sits 107 = .ok (.iload_n 1, 1) := by decide +kernel
theorem d_Mo_sits_108 : decode b_Mo_sits 108 = .ok (.iload_n 2, 1) := by decide +kernel
theorem d_Mo_sits_109 : decode b_Mo_sits 109 = .ok (.iastore, 1) := by decide +kernel
theorem d_Mo_sits_110 : decode b_Mo_sits 110 = .ok (.iload_n 3, 1) := by decide +kernel
theorem d_Mo_sits_111 : decode b_Mo_sits 111 = .ok (.ireturn, 1) := by decide +kernel
theorem d_Mo_bits_0 : decode b_Mo_bits 0 = .ok (.iconst 0, 1) := by decide +kernel
theorem d_Mo_bits_1 : decode b_Mo_bits 1 = .ok (.istore_n 1, 1) := by decide +kernel
theorem d_Mo_bits_2 : decode b_Mo_bits 2 = .ok (.iload_n 0, 1) := by decide +kernel
theorem d_Mo_bits_3 : decode b_Mo_bits 3 = .ok (.istore_n 2, 1) := by decide +kernel
theorem d_Mo_bits_4 : decode b_Mo_bits 4 = .ok (.iload_n 2, 1) := by decide +kernel
theorem d_Mo_bits_5 : decode b_Mo_bits 5 = .ok (.ifCond .le 16, 3) := by decide +kernel
theorem d_Mo_bits_8 : decode b_Mo_bits 8 = .ok (.iload_n 1, 1) := by decide +kernel
theorem d_Mo_bits_9 : decode b_Mo_bits 9 = .ok (.iload_n 2, 1) := by decide +kernel
theorem d_Mo_bits_10 : decode b_Mo_bits 10 = .ok (.iconst 2, 1) := by decide +kernel
theorem d_Mo_bits_11 : decode b_Mo_bits 11 = .ok (.irem, 1) := by decide +kernel
theorem d_Mo_bits_12 : decode b_Mo_bits 12 = .ok (.iadd, 1) := by decide +kernel
theorem d_Mo_bits_13 : decode b_Mo_bits 13 = .ok (.istore_n 1, 1) := by decide +kernel
theorem d_Mo_bits_14 : decode b_Mo_bits 14 = .ok (.iload_n 2, 1) := by decide +kernel
theorem d_Mo_bits_15 : decode b_Mo_bits 15 = .ok (.iconst 2, 1) := by decide +kernel
theorem d_Mo_bits_16 : decode b_Mo_bits 16 = .ok (.idiv, 1) := by decide +kernel
theorem d_Mo_bits_17 : decode b_Mo_bits 17 = .ok (.istore_n 2, 1) := by decide +kernel
theorem d_Mo_bits_18 : decode b_Mo_bits 18 = .ok (.goto (-14), 3) := by decide +kernel
theorem d_Mo_bits_21 : decode b_Mo_bits 21 = .ok (.iload_n 1, 1) := by decide +kernel
theorem d_Mo_bits_22 : decode b_Mo_bits 22 = .ok (.ireturn, 1) := by decide +kernel
theorem d_Mo_isMove_0 : decode b_Mo_isMove 0 = .ok (.aload_n 0, 1) := by decide +kernel
theorem d_Mo_isMove_1 : decode b_Mo_isMove 1 = .ok (.getfield 17, 3) := by decide +kernel
theorem d_Mo_isMove_4 : decode b_Mo_isMove 4 = .ok (.iload_n 1, 1) := by decide +kernel
theorem d_Mo_isMove_5 : decode b_Mo_isMove 5 = .ok (.iaload, 1) := by decide +kernel
theorem d_Mo_isMove_6 : decode b_Mo_isMove 6 = .ok (.iconst (-1), 1) := by decide +kernel
theorem d_Mo_isMove_7 : decode b_Mo_isMove 7 = .ok (.if_icmp .eq 17, 3) := by decide +kernel
theorem d_Mo_isMove_10 : decode b_Mo_isMove 10 = .ok (.aload_n 0, 1) := by decide +kernel
theorem d_Mo_isMove_11 : decode b_Mo_isMove 11 = .ok (.getfield 17, 3) := by decide +kernel
theorem d_Mo_isMove_14 : decode b_Mo_isMove 14 = .ok (.iload_n 1, 1) := by decide +kernel
theorem d_Mo_isMove_15 : decode b_Mo_isMove 15 = .ok (.iaload, 1) := by decide +kernel
theorem d_Mo_isMove_16 : decode b_Mo_isMove 16 = .ok (.iload_n 2, 1) := by decide +kernel
theorem d_Mo_isMove_17 : decode b_Mo_isMove 17 = .ok (.if_icmp .eq 7, 3) := by decide +kernel
theorem d_Mo_isMove_20 : decode b_Mo_isMove 20 = .ok (.iconst 1, 1) := by decide +kernel
theorem d_Mo_isMove_21 : decode b_Mo_isMove 21 = .ok (.goto 4, 3) := by decide +kernel
theorem d_Mo_isMove_24 : decode b_Mo_isMove 24 = .ok (.iconst 0, 1) := by decide +kernel
theorem d_Mo_isMove_25 : decode b_Mo_isMove 25 = .ok (.ireturn, 1) := by decide +kernel
theorem d_Mo_value_0 : decode b_Mo_value 0 = .ok (.bipush 16, 2) := by decide +kernel
theorem d_Mo_value_2 : decode b_Mo_value 2 = .ok (.aload_n 0, 1) := by decide +kernel
theorem d_Mo_value_3 : decode b_Mo_value 3 = .ok (.getfield 7, 3) := by decide +kernel
theorem d_Mo_value_6 : decode b_Mo_value 6 = .ok (.bipush 14, 2) := by decide +kernel
theorem d_Mo_value_8 : decode b_Mo_value 8 = .ok (.iload_n 1, 1) := by decide +kernel
theorem d_Mo_value_9 : decode b_Mo_value 9 = .ok (.imul, 1) := by decide +kernel
theorem d_Mo_value_10 : decode b_Mo_value 10 = .ok (.iload_n 2, 1) := by decide +kernel
theorem d_Mo_value_11 : decode b_Mo_value 11 = .ok (.iadd, 1) := by decide +kernel
theorem d_Mo_value_12 : decode b_Mo_value 12 = .ok (.iaload, 1) := by decide +kernel
theorem d_Mo_value_13 : decode b_Mo_value 13 = .ok (.imul, 1) := by decide +kernel
theorem d_Mo_value_14 : decode b_Mo_value 14 = .ok (.aload_n 0, 1) := by decide +kernel
theorem d_Mo_value_15 : decode b_Mo_value 15 = .ok (.iload_n 1, 1) := by decide +kernel
theorem d_Mo_value_16 : decode b_Mo_value 16 = .ok (.iload_n 2, 1) := by decide +kernel
theorem d_Mo_value_17 : decode b_Mo_value 17 = .ok (.invokevirtual 81, 3) := by decide +kernel
theorem d_Mo_value_20 : decode b_Mo_value 20 = .ok (.ifCond .eq 7, 3) := by decide +kernel
theorem d_Mo_value_23 : decode b_Mo_value 23 = .ok (.iconst 1, 1) := by decide +kernel
theorem d_Mo_value_24 : decode b_Mo_value 24 = .ok (.goto 4, 3) := by decide +kernel
theorem d_Mo_value_27 : decode b_Mo_value 27 = .ok (.iconst 0, 1) := by decide +kernel
theorem d_Mo_value_28 : decode b_Mo_value 28 = .ok (.isub, 1) := by decide +kernel
theorem d_Mo_value_29 : decode b_Mo_value 29 = .ok (.ireturn, 1) := by decide +kernel
theorem d_Mo_findBest_0 : decode b_Mo_findBest 0 = .ok (.aload_n 0, 1) := by decide +kernel
theorem d_Mo_findBest_1 : decode b_Mo_findBest 1 = .ok (.iconst 0, 1) := by decide +kernel
theorem d_Mo_findBest_2 : decode b_Mo_findBest 2 = .ok (.putfield 85, 3) := by decide +kernel
theorem d_Mo_findBest_5 : decode b_Mo_findBest 5 = .ok (.iconst 0, 1) := by decide +kernel
theorem d_Mo_findBest_6 : decode b_Mo_findBest 6 = .ok (.istore_n 2, 1) := by decide +kernel
theorem d_Mo_findBest_7 : decode b_Mo_findBest 7 = .ok (.iload_n 2, 1) := by decide +kernel
theorem d_Mo_findBest_8 : decode b_Mo_findBest 8 = .ok (.aload_n 0, 1) := by decide +kernel
theorem d_Mo_findBest_9 : decode b_Mo_findBest 9 = .ok (.getfield 60, 3) := by decide +kernel
theorem d_Mo_findBest_12 : decode b_Mo_findBest 12 = .ok (.if_icmp .ge 34, 3) := by decide +kernel
theorem d_Mo_findBest_15 : decode b_Mo_findBest 15 = .ok (.iload_n 2, 1) := by decide +kernel
theorem d_Mo_findBest_16 : decode b_Mo_findBest 16 = .ok (.iload_n 1, 1) := by decide +kernel
theorem d_Mo_findBest_17 : decode b_Mo_findBest 17 = .ok (.if_icmp .eq 23, 3) := by decide +kernel
theorem d_Mo_findBest_20 : decode b_Mo_findBest 20 = .ok (.aload_n 0, 1) := by decide +kernel
theorem d_Mo_findBest_21 : decode b_Mo_findBest 21 = .ok (.getfield 26, 3) := by decide +kernel
theorem d_Mo_findBest_24 : decode b_Mo_findBest 24 = .ok (.aload_n 0, 1) := by decide +kernel
theorem d_Mo_findBest_25 : decode b_Mo_findBest 25 = .ok (.getfield 85, 3) := by decide +kernel
theorem d_Mo_findBest_28 : decode b_Mo_findBest 28 = .ok (.iload_n 2, 1) := by decide +kernel
theorem d_Mo_findBest_29 : decode b_Mo_findBest 29 = .ok (.iastore, 1) := by decide +kernel
theorem d_Mo_findBest_30 : decode b_Mo_findBest 30 = .ok (.aload_n 0, 1) := by decide +kernel
theorem d_Mo_findBest_31 : decode b_Mo_findBest 31 = .ok (.dup, 1) := by decide +kernel
theorem d_Mo_findBest_32 : decode b_Mo_findBest 32 = .ok (.getfield 85, 3) := by decide +kernel
theorem d_Mo_findBest_35 : decode b_Mo_findBest 35 = .ok (.iconst 1, 1) := by decide +kernel
theorem d_Mo_findBest_36 : decode b_Mo_findBest 36 = .ok (.iadd, 1) := by decide +kernel
theorem d_Mo_findBest_37 : decode b_Mo_findBest 37 = .ok (.putfield 85, 3) := by decide +kernel
theorem d_Mo_findBest_40 : decode b_Mo_findBest 40 = .ok (.iinc 2 1, 3) := by decide +kernel
theorem d_Mo_findBest_43 : decode b_Mo_findBest 43 = .ok (.goto (-36), 3) := by decide +kernel
theorem d_Mo_findBest_46 : decode b_Mo_findBest 46 = .ok (.iconst 1, 1) := by decide +kernel
theorem d_Mo_findBest_47 : decode b_Mo_findBest 47 = .ok (.aload_n 0, 1) := by decide +kernel
theorem d_Mo_findBest_48 : decode b_Mo_findBest 48 = .ok (.getfield 53, 3) := by decide +kernel
theorem d_Mo_findBest_51 : decode b_Mo_findBest 51 = .ok (.ishl, 1) := by decide +kernel
theorem d_Mo_findBest_52 : decode b_Mo_findBest 52 = .ok (.iconst 1, 1) := by decide +kernel
theorem d_Mo_findBest_53 : decode b_Mo_findBest 53 = .ok (.isub, 1) := by decide +kernel
theorem d_Mo_findBest_54 : decode b_Mo_findBest 54 = .ok (.istore_n 2, 1) := by decide +kernel
theorem d_Mo_findBest_55 : decode b_Mo_findBest 55 = .ok (.iload_n 2, 1) := by decide +kernel
theorem d_Mo_findBest_56 : decode b_Mo_findBest 56 = .ok (.ifCond .lt 159, 3) := by decide +kernel
theorem d_Mo_findBest_59 : decode b_Mo_findBest 59 = .ok (.iload_n 2, 1) := by decide +kernel
theorem d_Mo_findBest_60 : decode b_Mo_findBest 60 = .ok (.invokestatic 88, 3) := by decide +kernel
theorem d_Mo_findBest_63 : decode b_Mo_findBest 63 = .ok (.istore_n 3, 1) := by decide +kernel
theorem d_Mo_findBest_64 : decode b_Mo_findBest 64 = .ok (.aload_n 0, 1) := by decide +kernel
theorem d_Mo_findBest_65 : decode b_Mo_findBest 65 = .ok (.getfield 23, 3) := by decide +kernel
theorem d_Mo_findBest_68 : decode b_Mo_findBest 68 = .ok (.iload_n 2, 1) := by decide +kernel
theorem d_Mo_findBest_69 : decode b_Mo_findBest 69 = .ok (.iload_n 3, 1) := by decide +kernel
theorem d_Mo_findBest_70 : decode b_Mo_findBest 70 = .ok (.aload_n 0, 1) := by decide +kernel
theorem d_Mo_findBest_71 : decode b_Mo_findBest 71 = .ok (.getfield 85, 3) := by decide +kernel
theorem d_Mo_findBest_74 : decode b_Mo_findBest 74 = .ok (.if_icmp .ne 7, 3) := by decide +kernel
theorem d_Mo_findBest_77 : decode b_Mo_findBest 77 = .ok (.iconst 0, 1) := by decide +kernel
theorem d_Mo_findBest_78 : decode b_Mo_findBest 78 = .ok (.goto 5, 3) := by decide +kernel
theorem d_Mo_findBest_81 : decode b_Mo_findBest 81 = .ok (.ldc 92, 2) := by decide +kernel
theorem d_Mo_findBest_83 : decode b_Mo_findBest 83 = .ok (.iastore, 1) := by decide +kernel
theorem d_Mo_findBest_84 : decode b_Mo_findBest 84 = .ok (.iconst 0, 1) := by decide +kernel
theorem d_Mo_findBest_85 : decode b_Mo_findBest 85 = .ok (.istore 4, 2) := by decide +kernel
theorem d_Mo_findBest_87 : decode b_Mo_findBest 87 = .ok (.iload 4, 2) := by decide +kernel
theorem d_Mo_findBest_89 : decode b_Mo_findBest 89 = .ok (.aload_n 0, 1) := by decide +kernel
theorem d_Mo_findBest_90 : decode b_Mo_findBest 90 = .ok (.getfield 53, 3) := by decide +kernel
theorem d_Mo_findBest_93 : decode b_Mo_findBest 93 = .ok (.if_icmp .ge 116, 3) := by decide +kernel
theorem d_Mo_findBest_96 : decode b_Mo_findBest 96 = .ok (.iload_n 3, 1) := by decide +kernel
theorem d_Mo_findBest_97 : decode b_Mo_findBest 97 = .ok (.aload_n 0, 1) := by decide +kernel
theorem d_Mo_findBest_98 : decode b_Mo_findBest 98 = .ok (.getfield 85, 3) := by decide +kernel
theorem d_Mo_findBest_101 : decode b_Mo_findBest 101 = .ok (.if_icmp .ge 108, 3) := by decide +kernel
theorem d_Mo_findBest_104 : decode b_Mo_findBest 104 = .ok (.iconst 1, 1) := by decide +kernel
theorem d_Mo_findBest_105 : decode b_Mo_findBest 105 = .ok (.iload 4, 2) := by decide +kernel
theorem d_Mo_findBest_107 : decode b_Mo_findBest 107 = .ok (.ishl, 1) := by decide +kernel
theorem d_Mo_findBest_108 : decode b_Mo_findBest 108 = .ok (.istore 5, 2) := by decide +kernel
theorem d_Mo_findBest_110 : decode b_Mo_findBest 110 = .ok (.aload_n 0, 1) := by decide +kernel
theorem d_Mo_findBest_111 : decode b_Mo_findBest 111 = .ok (.getfield 26, 3) := by decide +kernel
theorem d_Mo_findBest_114 : decode b_Mo_findBest 114 = .ok (.iload_n 3, 1) := by decide +kernel
theorem d_Mo_findBest_115 : decode b_Mo_findBest 115 = .ok (.iaload, 1) := by decide +kernel
theorem d_Mo_findBest_116 : decode b_Mo_findBest 116 = .ok (.istore 6, 2) := by decide +kernel
theorem d_Mo_findBest_118 : decode b_Mo_findBest 118 = .ok (.iload_n 2, 1) := by decide +kernel
theorem d_Mo_findBest_119 : decode b_Mo_findBest 119 = .ok (.iload 5, 2) := by decide +kernel
theorem d_Mo_findBest_121 : decode b_Mo_findBest 121 = .ok (.iand, 1) := by decide +kernel
theorem d_Mo_findBest_122 : decode b_Mo_findBest 122 = .ok (.ifCond .ne 81, 3) := by decide +kernel
theorem d_Mo_findBest_125 : decode b_Mo_findBest 125 = .ok (.aload_n 0, 1) := by decide +kernel
theorem d_Mo_findBest_126 : decode b_Mo_findBest 126 = .ok (.getfield 13, 3) := by decide +kernel
theorem d_Mo_findBest_129 : decode b_Mo_findBest 129 = .ok (.bipush 14, 2) := by decide +kernel
theorem d_Mo_findBest_131 : decode b_Mo_findBest 131 = .ok (.iload 6, 2) := by decide +kernel
theorem d_Mo_findBest_133 : decode b_Mo_findBest 133 = .ok (.imul, 1) := by decide +kernel
theorem d_Mo_findBest_134 : decode b_Mo_findBest 134 = .ok (.iload 4, 2) := by decide +kernel
theorem d_Mo_findBest_136 : decode b_Mo_findBest 136 = .ok (.iadd, 1) := by decide +kernel
theorem d_Mo_findBest_137 : decode b_Mo_findBest 137 = .ok (.baload, 1) := by decide +kernel
theorem d_Mo_findBest_138 : decode b_Mo_findBest 138 = .ok (.ifCond .ne 65, 3) := by decide +kernel
theorem d_Mo_findBest_141 : decode b_Mo_findBest 141 = .ok (.aload_n 0, 1) := by decide +kernel
theorem d_Mo_findBest_142 : decode b_Mo_findBest 142 = .ok (.getfield 23, 3) := by decide +kernel
theorem d_Mo_findBest_145 : decode b_Mo_findBest 145 = .ok (.iload_n 2, 1) := by decide +kernel
theorem d_Mo_findBest_146 : decode b_Mo_findBest 146 = .ok (.iload 5, 2) := by decide +kernel
theorem d_Mo_findBest_148 : decode b_Mo_findBest 148 = .ok (.iadd, 1) := by decide +kernel
theorem d_Mo_findBest_149 : decode b_Mo_findBest 149 = .ok (.iaload, 1) := by decide +kernel
theorem d_Mo_findBest_150 : decode b_Mo_findBest 150 = .ok (.ldc 92, 2) := by decide +kernel
theorem d_Mo_findBest_152 : decode b_Mo_findBest 152 = .ok (.if_icmp .le 51, 3) := by decide +kernel
theorem d_Mo_findBest_155 : decode b_Mo_findBest 155 = .ok (.aload_n 0, 1) := by decide +kernel
theorem d_Mo_findBest_156 : decode b_Mo_findBest 156 = .ok (.iload 6, 2) := by decide +kernel
theorem d_Mo_findBest_158 : decode b_Mo_findBest 158 = .ok (.iload 4, 2) := by decide +kernel
theorem d_Mo_findBest_160 : decode b_Mo_findBest 160 = .ok (.invokevirtual 93, 3) := by decide +kernel
theorem d_Mo_findBest_163 : decode b_Mo_findBest 163 = .ok (.aload_n 0, 1) := by decide +kernel
theorem d_Mo_findBest_164 : decode b_Mo_findBest 164 = .ok (.getfield 23, 3) := by decide +kernel
theorem d_Mo_findBest_167 : decode b_Mo_findBest 167 = .ok (.iload_n 2, 1) := by decide +kernel
theorem d_Mo_findBest_168 : decode b_Mo_findBest 168 = .ok (.iload 5, 2) := by decide +kernel
theorem d_Mo_findBest_170 : decode b_Mo_findBest 170 = .ok (.iadd, 1) := by decide +kernel
theorem d_Mo_findBest_171 : decode b_Mo_findBest 171 = .ok (.iaload, 1) := by decide +kernel
theorem d_Mo_findBest_172 : decode b_Mo_findBest 172 = .ok (.iadd, 1) := by decide +kernel
theorem d_Mo_findBest_173 : decode b_Mo_findBest 173 = .ok (.istore 7, 2) := by decide +kernel
theorem d_Mo_findBest_175 : decode b_Mo_findBest 175 = .ok (.aload_n 0, 1) := by decide +kernel
theorem d_Mo_findBest_176 : decode b_Mo_findBest 176 = .ok (.getfield 23, 3) := by decide +kernel
theorem d_Mo_findBest_179 : decode b_Mo_findBest 179 = .ok (.iload_n 2, 1) := by decide +kernel
theorem d_Mo_findBest_180 : decode b_Mo_findBest 180 = .ok (.iload 7, 2) := by decide +kernel
theorem d_Mo_findBest_182 : decode b_Mo_findBest 182 = .ok (.aload_n 0, 1) := by decide +kernel
theorem d_Mo_findBest_183 : decode b_Mo_findBest 183 = .ok (.getfield 23, 3) := by decide +kernel
theorem d_Mo_findBest_186 : decode b_Mo_findBest 186 = .ok (.iload_n 2, 1) := by decide +kernel
theorem d_Mo_findBest_187 : decode b_Mo_findBest 187 = .ok (.iaload, 1) := by decide +kernel
theorem d_Mo_findBest_188 : decode b_Mo_findBest 188 = .ok (.if_icmp .le 8, 3) := by decide +kernel
theorem d_Mo_findBest_191 : decode b_Mo_findBest 191 = .ok (.iload 7, 2) := by decide +kernel
theorem d_Mo_findBest_193 : decode b_Mo_findBest 193 = .ok (.goto 9, 3) := by decide +kernel
theorem d_Mo_findBest_196 : decode b_Mo_findBest 196 = .ok (.aload_n 0, 1) := by decide +kernel
theorem d_Mo_findBest_197 : decode b_Mo_findBest 197 = .ok (.getfield 23, 3) := by decide +kernel
theorem d_Mo_findBest_200 : decode b_Mo_findBest 200 = .ok (.iload_n 2, 1) := by decide +kernel
theorem d_Mo_findBest_201 : decode b_Mo_findBest 201 = .ok (.iaload, 1) := by decide +kernel
theorem d_Mo_findBest_202 : decode b_Mo_findBest 202 = .ok (.iastore, 1) := by decide +kernel
theorem d_Mo_findBest_203 : decode b_Mo_findBest 203 = .ok (.iinc 4 1, 3) := by decide +kernel
theorem d_Mo_findBest_206 : decode b_Mo_findBest 206 = .ok (.goto (-119), 3) := by decide +kernel
theorem d_Mo_findBest_209 : decode b_Mo_findBest 209 = .ok (.iinc 2 (-1), 3) := by decide +kernel
theorem d_Mo_findBest_212 : decode b_Mo_findBest 212 = .ok (.goto (-157), 3) := by decide +kernel
theorem d_Mo_findBest_215 : decode b_Mo_findBest 215 = .ok (.aload_n 0, 1) := by decide +kernel
theorem d_Mo_findBest_216 : decode b_Mo_findBest 216 = .ok (.getfield 23, 3) := by decide +kernel
theorem d_Mo_findBest_219 : decode b_Mo_findBest 219 = .ok (.iconst 0, 1) := by decide +kernel
theorem d_Mo_findBest_220 : decode b_Mo_findBest 220 = .ok (.iaload, 1) := by decide +kernel
theorem d_Mo_findBest_221 : decode b_Mo_findBest 221 = .ok (.ireturn, 1) := by decide +kernel
theorem d_Mo_worthIn_0 : decode b_Mo_worthIn 0 = .ok (.iload_n 0, 1) := by decide +kernel
theorem d_Mo_worthIn_1 : decode b_Mo_worthIn 1 = .ok (.bipush 15, 2) := by decide +kernel
theorem d_Mo_worthIn_3 : decode b_Mo_worthIn 3 = .ok (.iadd, 1) := by decide +kernel
theorem d_Mo_worthIn_4 : decode b_Mo_worthIn 4 = .ok (.bipush 16, 2) := by decide +kernel
theorem d_Mo_worthIn_6 : decode b_Mo_worthIn 6 = .ok (.idiv, 1) := by decide +kernel
theorem d_Mo_worthIn_7 : decode b_Mo_worthIn 7 = .ok (.ireturn, 1) := by decide +kernel
theorem d_Mo_seat_0 : decode b_Mo_seat 0 = .ok (.aload_n 0, 1) := by decide +kernel
theorem d_Mo_seat_1 : decode b_Mo_seat 1 = .ok (.iconst 0, 1) := by decide +kernel
theorem d_Mo_seat_2 : decode b_Mo_seat 2 = .ok (.putfield 57, 3) := by decide +kernel
theorem d_Mo_seat_5 : decode b_Mo_seat 5 = .ok (.aload_n 0, 1) := by decide +kernel
theorem d_Mo_seat_6 : decode b_Mo_seat 6 = .ok (.iconst (-1), 1) := by decide +kernel
theorem d_Mo_seat_7 : decode b_Mo_seat 7 = .ok (.invokevirtual 97, 3) := by decide +kernel
theorem d_Mo_seat_10 : decode b_Mo_seat 10 = .ok (.istore_n 1, 1) := by decide +kernel
theorem d_Mo_seat_11 : decode b_Mo_seat 11 = .ok (.aload_n 0, 1) := by decide +kernel
theorem d_Mo_seat_12 : decode b_Mo_seat 12 = .ok (.iload_n 1, 1) := by decide +kernel
theorem d_Mo_seat_13 : decode b_Mo_seat 13 = .ok (.ldc 92, 2) := by decide +kernel
theorem d_Mo_seat_15 : decode b_Mo_seat 15 = .ok (.if_icmp .le 7, 3) := by decide +kernel
theorem d_Mo_seat_18 : decode b_Mo_seat 18 = .ok (.iconst 1, 1) := by decide +kernel
theorem d_Mo_seat_19 : decode b_Mo_seat 19 = .ok (.goto 4, 3) := by decide +kernel
theorem d_Mo_seat_22 : decode b_Mo_seat 22 = .ok (.iconst 0, 1) := by decide +kernel
theorem d_Mo_seat_23 : decode b_Mo_seat 23 = .ok (.putfield 70, 3) := by decide +kernel
theorem d_Mo_seat_26 : decode b_Mo_seat 26 = .ok (.aload_n 0, 1) := by decide +kernel
theorem d_Mo_seat_27 : decode b_Mo_seat 27 = .ok (.getfield 70, 3) := by decide +kernel
theorem d_Mo_seat_30 : decode b_Mo_seat 30 = .ok (.ifCond .ne 5, 3) := by decide +kernel
theorem d_Mo_seat_33 : decode b_Mo_seat 33 = .ok (.iconst (-1), 1) := by decide +kernel
theorem d_Mo_seat_34 : decode b_Mo_seat 34 = .ok (.ireturn, 1) := by decide +kernel
theorem d_Mo_seat_35 : decode b_Mo_seat 35 = .ok (.aload_n 0, 1) := by decide +kernel
theorem d_Mo_seat_36 : decode b_Mo_seat 36 = .ok (.iload_n 1, 1) := by decide +kernel
theorem d_Mo_seat_37 : decode b_Mo_seat 37 = .ok (.invokestatic 100, 3) := by decide +kernel
theorem d_Mo_seat_40 : decode b_Mo_seat 40 = .ok (.putfield 103, 3) := by decide +kernel
theorem d_Mo_seat_43 : decode b_Mo_seat 43 = .ok (.iconst 0, 1) := by decide +kernel
theorem d_Mo_seat_44 : decode b_Mo_seat 44 = .ok (.istore_n 2, 1) := by decide +kernel
theorem d_Mo_seat_45 : decode b_Mo_seat 45 = .ok (.iconst 0, 1) := by decide +kernel
theorem d_Mo_seat_46 : decode b_Mo_seat 46 = .ok (.istore_n 3, 1) := by decide +kernel
theorem d_Mo_seat_47 : decode b_Mo_seat 47 = .ok (.iload_n 3, 1) := by decide +kernel
theorem d_Mo_seat_48 : decode b_Mo_seat 48 = .ok (.aload_n 0, 1) := by decide +kernel
theorem d_Mo_seat_49 : decode b_Mo_seat 49 = .ok (.getfield 60, 3) := by decide +kernel
theorem d_Mo_seat_52 : decode b_Mo_seat 52 = .ok (.if_icmp .ge 102, 3) := by decide +kernel
theorem d_Mo_seat_55 : decode b_Mo_seat 55 = .ok (.iconst 0, 1) := by decide +kernel
theorem d_Mo_seat_56 : decode b_Mo_seat 56 = .ok (.istore 4, 2) := by decide +kernel
theorem d_Mo_seat_58 : decode b_Mo_seat 58 = .ok (.iload_n 2, 1) := by decide +kernel
theorem d_Mo_seat_59 : decode b_Mo_seat 59 = .ok (.iload 4, 2) := by decide +kernel
theorem d_Mo_seat_61 : decode b_Mo_seat 61 = .ok (.ishr, 1) := by decide +kernel
theorem d_Mo_seat_62 : decode b_Mo_seat 62 = .ok (.iconst 1, 1) := by decide +kernel
theorem d_Mo_seat_63 : decode b_Mo_seat 63 = .ok (.iand, 1) := by decide +kernel
theorem d_Mo_seat_64 : decode b_Mo_seat 64 = .ok (.iconst 1, 1) := by decide +kernel
theorem d_Mo_seat_65 : decode b_Mo_seat 65 = .ok (.if_icmp .eq 62, 3) := by decide +kernel
theorem d_Mo_seat_68 : decode b_Mo_seat 68 = .ok (.aload_n 0, 1) := by decide +kernel
theorem d_Mo_seat_69 : decode b_Mo_seat 69 = .ok (.getfield 13, 3) := by decide +kernel
theorem d_Mo_seat_72 : decode b_Mo_seat 72 = .ok (.bipush 14, 2) := by decide +kernel
theorem d_Mo_seat_74 : decode b_Mo_seat 74 = .ok (.iload_n 3, 1) := by decide +kernel
theorem d_Mo_seat_75 : decode b_Mo_seat 75 = .ok (.imul, 1) := by decide +kernel
theorem d_Mo_seat_76 : decode b_Mo_seat 76 = .ok (.iload 4, 2) := by decide +kernel
theorem d_Mo_seat_78 : decode b_Mo_seat 78 = .ok (.iadd, 1) := by decide +kernel
theorem d_Mo_seat_79 : decode b_Mo_seat 79 = .ok (.baload, 1) := by decide +kernel
theorem d_Mo_seat_80 : decode b_Mo_seat 80 = .ok (.ifCond .ne 47, 3) := by decide +kernel
theorem d_Mo_seat_83 : decode b_Mo_seat 83 = .ok (.aload_n 0, 1) := by decide +kernel
theorem d_Mo_seat_84 : decode b_Mo_seat 84 = .ok (.getfield 23, 3) := by decide +kernel
theorem d_Mo_seat_87 : decode b_Mo_seat 87 = .ok (.iload_n 2, 1) := by decide +kernel
theorem d_Mo_seat_88 : decode b_Mo_seat 88 = .ok (.iconst 1, 1) := by decide +kernel
theorem d_Mo_seat_89 : decode b_Mo_seat 89 = .ok (.iload 4, 2) := by decide +kernel
theorem d_Mo_seat_91 : decode b_Mo_seat 91 = .ok (.ishl, 1) := by decide +kernel
theorem d_Mo_seat_92 : decode b_Mo_seat 92 = .ok (.iadd, 1) := by decide +kernel
theorem d_Mo_seat_93 : decode b_Mo_seat 93 = .ok (.iaload, 1) := by decide +kernel
theorem d_Mo_seat_94 : decode b_Mo_seat 94 = .ok (.ldc 92, 2) := by decide +kernel
theorem d_Mo_seat_96 : decode b_Mo_seat 96 = .ok (.if_icmp .eq 31, 3) := by decide +kernel
theorem d_Mo_seat_99 : decode b_Mo_seat 99 = .ok (.aload_n 0, 1) := by decide +kernel
theorem d_Mo_seat_100 : decode b_Mo_seat 100 = .ok (.iload_n 3, 1) := by decide +kernel
theorem d_Mo_seat_101 : decode b_Mo_seat 101 = .ok (.iload 4, 2) := by decide +kernel
theorem d_Mo_seat_103 : decode b_Mo_seat 103 = .ok (.invokevirtual 93, 3) := by decide +kernel
theorem d_Mo_seat_106 : decode b_Mo_seat 106 = .ok (.aload_n 0, 1) := by decide +kernel
theorem d_Mo_seat_107 : decode b_Mo_seat 107 = .ok (.getfield 23, 3) := by decide +kernel
theorem d_Mo_seat_110 : decode b_Mo_seat 110 = .ok (.iload_n 2, 1) := by decide +kernel
theorem d_Mo_seat_111 : decode b_Mo_seat 111 = .ok (.iconst 1, 1) := by decide +kernel
theorem d_Mo_seat_112 : decode b_Mo_seat 112 = .ok (.iload 4, 2) := by decide +kernel
theorem d_Mo_seat_114 : decode b_Mo_seat 114 = .ok (.ishl, 1) := by decide +kernel
theorem d_Mo_seat_115 : decode b_Mo_seat 115 = .ok (.iadd, 1) := by decide +kernel
theorem d_Mo_seat_116 : decode b_Mo_seat 116 = .ok (.iaload, 1) := by decide +kernel
theorem d_Mo_seat_117 : decode b_Mo_seat 117 = .ok (.iadd, 1) := by decide +kernel
theorem d_Mo_seat_118 : decode b_Mo_seat 118 = .ok (.aload_n 0, 1) := by decide +kernel
theorem d_Mo_seat_119 : decode b_Mo_seat 119 = .ok (.getfield 23, 3) := by decide +kernel
theorem d_Mo_seat_122 : decode b_Mo_seat 122 = .ok (.iload_n 2, 1) := by decide +kernel
theorem d_Mo_seat_123 : decode b_Mo_seat 123 = .ok (.iaload, 1) := by decide +kernel
theorem d_Mo_seat_124 : decode b_Mo_seat 124 = .ok (.if_icmp .eq 9, 3) := by decide +kernel
theorem d_Mo_seat_127 : decode b_Mo_seat 127 = .ok (.iinc 4 1, 3) := by decide +kernel
theorem d_Mo_seat_130 : decode b_Mo_seat 130 = .ok (.goto (-72), 3) := by decide +kernel
theorem d_Mo_seat_133 : decode b_Mo_seat 133 = .ok (.aload_n 0, 1) := by decide +kernel
theorem d_Mo_seat_134 : decode b_Mo_seat 134 = .ok (.getfield 20, 3) := by decide +kernel
theorem d_Mo_seat_137 : decode b_Mo_seat 137 = .ok (.iload_n 3, 1) := by decide +kernel
theorem d_Mo_seat_138 : decode b_Mo_seat 138 = .ok (.iload 4, 2) := by decide +kernel
theorem d_Mo_seat_140 : decode b_Mo_seat 140 = .ok (.iastore, 1) := by decide +kernel
theorem d_Mo_seat_141 : decode b_Mo_seat 141 = .ok (.iload_n 2, 1) := by decide +kernel
theorem d_Mo_seat_142 : decode b_Mo_seat 142 = .ok (.iconst 1, 1) := by decide +kernel
theorem d_Mo_seat_143 : decode b_Mo_seat 143 = .ok (.iload 4, 2) := by decide +kernel
theorem d_Mo_seat_145 : decode b_Mo_seat 145 = .ok (.ishl, 1) := by decide +kernel
theorem d_Mo_seat_146 : decode b_Mo_seat 146 = .ok (.iadd, 1) := by decide +kernel
theorem d_Mo_seat_147 : decode b_Mo_seat 147 = .ok (.istore_n 2, 1) := by decide +kernel
theorem d_Mo_seat_148 : decode b_Mo_seat 148 = .ok (.iinc 3 1, 3) := by decide +kernel
theorem d_Mo_seat_151 : decode b_Mo_seat 151 = .ok (.goto (-104), 3) := by decide +kernel
theorem d_Mo_seat_154 : decode b_Mo_seat 154 = .ok (.aload_n 0, 1) := by decide +kernel
theorem d_Mo_seat_155 : decode b_Mo_seat 155 = .ok (.invokevirtual 106, 3) := by decide +kernel
theorem d_Mo_seat_158 : decode b_Mo_seat 158 = .ok (.aload_n 0, 1) := by decide +kernel
theorem d_Mo_seat_159 : decode b_Mo_seat 159 = .ok (.getfield 103, 3) := by decide +kernel
theorem d_Mo_seat_162 : decode b_Mo_seat 162 = .ok (.ireturn, 1) := by decide +kernel
theorem d_Mo_deskOf_0 : decode b_Mo_deskOf 0 = .ok (.aload_n 0, 1) := by decide +kernel
theorem d_Mo_deskOf_1 : decode b_Mo_deskOf 1 = .ok (.aload_n 0, 1) := by decide +kernel
theorem d_Mo_deskOf_2 : decode b_Mo_deskOf 2 = .ok (.iload_n 1, 1) := by decide +kernel
theorem d_Mo_deskOf_3 : decode b_Mo_deskOf 3 = .ok (.invokevirtual 74, 3) := by decide +kernel
theorem d_Mo_deskOf_6 : decode b_Mo_deskOf 6 = .ok (.ifCond .eq 7, 3) := by decide +kernel
theorem d_Mo_deskOf_9 : decode b_Mo_deskOf 9 = .ok (.iconst 0, 1) := by decide +kernel
theorem d_Mo_deskOf_10 : decode b_Mo_deskOf 10 = .ok (.goto 4, 3) := by decide +kernel
theorem d_Mo_deskOf_13 : decode b_Mo_deskOf 13 = .ok (.iconst 1, 1) := by decide +kernel
theorem d_Mo_deskOf_14 : decode b_Mo_deskOf 14 = .ok (.putfield 57, 3) := by decide +kernel
theorem d_Mo_deskOf_17 : decode b_Mo_deskOf 17 = .ok (.aload_n 0, 1) := by decide +kernel
theorem d_Mo_deskOf_18 : decode b_Mo_deskOf 18 = .ok (.getfield 57, 3) := by decide +kernel
theorem d_Mo_deskOf_21 : decode b_Mo_deskOf 21 = .ok (.ifCond .le 7, 3) := by decide +kernel
theorem d_Mo_deskOf_24 : decode b_Mo_deskOf 24 = .ok (.iconst 0, 1) := by decide +kernel
theorem d_Mo_deskOf_25 : decode b_Mo_deskOf 25 = .ok (.goto 20, 3) := by decide +kernel
theorem d_Mo_deskOf_28 : decode b_Mo_deskOf 28 = .ok (.aload_n 0, 1) := by decide +kernel
theorem d_Mo_deskOf_29 : decode b_Mo_deskOf 29 = .ok (.getfield 70, 3) := by decide +kernel
theorem d_Mo_deskOf_32 : decode b_Mo_deskOf 32 = .ok (.ifCond .eq 12, 3) := by decide +kernel
theorem d_Mo_deskOf_35 : decode b_Mo_deskOf 35 = .ok (.aload_n 0, 1) := by decide +kernel
theorem d_Mo_deskOf_36 : decode b_Mo_deskOf 36 = .ok (.getfield 20, 3) := by decide +kernel
theorem d_Mo_deskOf_39 : decode b_Mo_deskOf 39 = .ok (.iload_n 1, 1) := by decide +kernel
theorem d_Mo_deskOf_40 : decode b_Mo_deskOf 40 = .ok (.iaload, 1) := by decide +kernel
theorem d_Mo_deskOf_41 : decode b_Mo_deskOf 41 = .ok (.goto 4, 3) := by decide +kernel
theorem d_Mo_deskOf_44 : decode b_Mo_deskOf 44 = .ok (.iconst (-1), 1) := by decide +kernel
theorem d_Mo_deskOf_45 : decode b_Mo_deskOf 45 = .ok (.ireturn, 1) := by decide +kernel
theorem d_Mo_moved_0 : decode b_Mo_moved 0 = .ok (.aload_n 0, 1) := by decide +kernel
theorem d_Mo_moved_1 : decode b_Mo_moved 1 = .ok (.iconst 0, 1) := by decide +kernel
theorem d_Mo_moved_2 : decode b_Mo_moved 2 = .ok (.putfield 57, 3) := by decide +kernel
theorem d_Mo_moved_5 : decode b_Mo_moved 5 = .ok (.aload_n 0, 1) := by decide +kernel
theorem d_Mo_moved_6 : decode b_Mo_moved 6 = .ok (.getfield 70, 3) := by decide +kernel
theorem d_Mo_moved_9 : decode b_Mo_moved 9 = .ok (.ifCond .ne 5, 3) := by decide +kernel
theorem d_Mo_moved_12 : decode b_Mo_moved 12 = .ok (.iconst (-1), 1) := by decide +kernel
theorem d_Mo_moved_13 : decode b_Mo_moved 13 = .ok (.ireturn, 1) := by decide +kernel
theorem d_Mo_moved_14 : decode b_Mo_moved 14 = .ok (.iconst 0, 1) := by decide +kernel
theorem d_Mo_moved_15 : decode b_Mo_moved 15 = .ok (.istore_n 1, 1) := by decide +kernel
theorem d_Mo_moved_16 : decode b_Mo_moved 16 = .ok (.iconst 0, 1) := by decide +kernel
theorem d_Mo_moved_17 : decode b_Mo_moved 17 = .ok (.istore_n 2, 1) := by decide +kernel
theorem d_Mo_moved_18 : decode b_Mo_moved 18 = .ok (.iload_n 2, 1) := by decide +kernel
theorem d_Mo_moved_19 : decode b_Mo_moved 19 = .ok (.aload_n 0, 1) := by decide +kernel
theorem d_Mo_moved_20 : decode b_Mo_moved 20 = .ok (.getfield 60, 3) := by decide +kernel
theorem d_Mo_moved_23 : decode b_Mo_moved 23 = .ok (.if_icmp .ge 31, 3) := by decide +kernel
theorem d_Mo_moved_26 : decode b_Mo_moved 26 = .ok (.aload_n 0, 1) := by decide +kernel
theorem d_Mo_moved_27 : decode b_Mo_moved 27 = .ok (.iload_n 2, 1) := by decide +kernel
theorem d_Mo_moved_28 : decode b_Mo_moved 28 = .ok (.aload_n 0, 1) := by decide +kernel
theorem d_Mo_moved_29 : decode b_Mo_moved 29 = .ok (.getfield 20, 3) := by decide +kernel
theorem d_Mo_moved_32 : decode b_Mo_moved 32 = .ok (.iload_n 2, 1) := by decide +kernel
theorem d_Mo_moved_33 : decode b_Mo_moved 33 = .ok (.iaload, 1) := by decide +kernel
theorem d_Mo_moved_34 : decode b_Mo_moved 34 = .ok (.invokevirtual 81, 3) := by decide +kernel
theorem d_Mo_moved_37 : decode b_Mo_moved 37 = .ok (.ifCond .eq 9, 3) := by decide +kernel
theorem d_Mo_moved_40 : decode b_Mo_moved 40 = .ok (.iload_n 1, 1) := by decide +kernel
theorem d_Mo_moved_41 : decode b_Mo_moved 41 = .ok (.iconst 1, 1) := by decide +kernel
theorem d_Mo_moved_42 : decode b_Mo_moved 42 = .ok (.iadd, 1) := by decide +kernel
theorem d_Mo_moved_43 : decode b_Mo_moved 43 = .ok (.goto 4, 3) := by decide +kernel
theorem d_Mo_moved_46 : decode b_Mo_moved 46 = .ok (.iload_n 1, 1) := by decide +kernel
theorem d_Mo_moved_47 : decode b_Mo_moved 47 = .ok (.istore_n 1, 1) := by decide +kernel
theorem d_Mo_moved_48 : decode b_Mo_moved 48 = .ok (.iinc 2 1, 3) := by decide +kernel
theorem d_Mo_moved_51 : decode b_Mo_moved 51 = .ok (.goto (-33), 3) := by decide +kernel
theorem d_Mo_moved_54 : decode b_Mo_moved 54 = .ok (.iload_n 1, 1) := by decide +kernel
theorem d_Mo_moved_55 : decode b_Mo_moved 55 = .ok (.ireturn, 1) := by decide +kernel
theorem d_Mo_worthOf_0 : decode b_Mo_worthOf 0 = .ok (.aload_n 0, 1) := by decide +kernel
theorem d_Mo_worthOf_1 : decode b_Mo_worthOf 1 = .ok (.aload_n 0, 1) := by decide +kernel
theorem d_Mo_worthOf_2 : decode b_Mo_worthOf 2 = .ok (.iload_n 1, 1) := by decide +kernel
theorem d_Mo_worthOf_3 : decode b_Mo_worthOf 3 = .ok (.invokevirtual 74, 3) := by decide +kernel
theorem d_Mo_worthOf_6 : decode b_Mo_worthOf 6 = .ok (.ifCond .ne 7, 3) := by decide +kernel
theorem d_Mo_worthOf_9 : decode b_Mo_worthOf 9 = .ok (.iconst 1, 1) := by decide +kernel
theorem d_Mo_worthOf_10 : decode b_Mo_worthOf 10 = .ok (.goto 15, 3) := by decide +kernel
theorem d_Mo_worthOf_13 : decode b_Mo_worthOf 13 = .ok (.aload_n 0, 1) := by decide +kernel
theorem d_Mo_worthOf_14 : decode b_Mo_worthOf 14 = .ok (.getfield 70, 3) := by decide +kernel
theorem d_Mo_worthOf_17 : decode b_Mo_worthOf 17 = .ok (.ifCond .ne 7, 3) := by decide +kernel
theorem d_Mo_worthOf_20 : decode b_Mo_worthOf 20 = .ok (.iconst 2, 1) := by decide +kernel
theorem d_Mo_worthOf_21 : decode b_Mo_worthOf 21 = .ok (.goto 4, 3) := by decide +kernel
theorem d_Mo_worthOf_24 : decode b_Mo_worthOf 24 = .ok (.iconst 0, 1) := by decide +kernel
theorem d_Mo_worthOf_25 : decode b_Mo_worthOf 25 = .ok (.putfield 57, 3) := by decide +kernel
theorem d_Mo_worthOf_28 : decode b_Mo_worthOf 28 = .ok (.aload_n 0, 1) := by decide +kernel
theorem d_Mo_worthOf_29 : decode b_Mo_worthOf 29 = .ok (.getfield 57, 3) := by decide +kernel
theorem d_Mo_worthOf_32 : decode b_Mo_worthOf 32 = .ok (.ifCond .le 7, 3) := by decide +kernel
theorem d_Mo_worthOf_35 : decode b_Mo_worthOf 35 = .ok (.iconst 0, 1) := by decide +kernel
theorem d_Mo_worthOf_36 : decode b_Mo_worthOf 36 = .ok (.goto 16, 3) := by decide +kernel
theorem d_Mo_worthOf_39 : decode b_Mo_worthOf 39 = .ok (.aload_n 0, 1) := by decide +kernel
theorem d_Mo_worthOf_40 : decode b_Mo_worthOf 40 = .ok (.getfield 103, 3) := by decide +kernel
theorem d_Mo_worthOf_43 : decode b_Mo_worthOf 43 = .ok (.aload_n 0, 1) := by decide +kernel
theorem d_Mo_worthOf_44 : decode b_Mo_worthOf 44 = .ok (.iload_n 1, 1) := by decide +kernel
theorem d_Mo_worthOf_45 : decode b_Mo_worthOf 45 = .ok (.invokevirtual 97, 3) := by decide +kernel
theorem d_Mo_worthOf_48 : decode b_Mo_worthOf 48 = .ok (.invokestatic 100, 3) := by decide +kernel
theorem d_Mo_worthOf_51 : decode b_Mo_worthOf 51 = .ok (.isub, 1) := by decide +kernel
theorem d_Mo_worthOf_52 : decode b_Mo_worthOf 52 = .ok (.ireturn, 1) := by decide +kernel
theorem d_Mo_settle_0 : decode b_Mo_settle 0 = .ok (.aload_n 0, 1) := by decide +kernel
theorem d_Mo_settle_1 : decode b_Mo_settle 1 = .ok (.aload_n 0, 1) := by decide +kernel
theorem d_Mo_settle_2 : decode b_Mo_settle 2 = .ok (.getfield 70, 3) := by decide +kernel
theorem d_Mo_settle_5 : decode b_Mo_settle 5 = .ok (.ifCond .eq 7, 3) := by decide +kernel
theorem d_Mo_settle_8 : decode b_Mo_settle 8 = .ok (.iconst 0, 1) := by decide +kernel
theorem d_Mo_settle_9 : decode b_Mo_settle 9 = .ok (.goto 4, 3) := by decide +kernel
theorem d_Mo_settle_12 : decode b_Mo_settle 12 = .ok (.iconst 1, 1) := by decide +kernel
theorem d_Mo_settle_13 : decode b_Mo_settle 13 = .ok (.putfield 57, 3) := by decide +kernel
theorem d_Mo_settle_16 : decode b_Mo_settle 16 = .ok (.aload_n 0, 1) := by decide +kernel
theorem d_Mo_settle_17 : decode b_Mo_settle 17 = .ok (.getfield 57, 3) := by decide +kernel
theorem d_Mo_settle_20 : decode b_Mo_settle 20 = .ok (.ifCond .le 5, 3) := by decide +kernel
theorem d_Mo_settle_23 : decode b_Mo_settle 23 = .ok (.iconst 0, 1) := by decide +kernel
theorem d_Mo_settle_24 : decode b_Mo_settle 24 = .ok (.ireturn, 1) := by decide +kernel
theorem d_Mo_settle_25 : decode b_Mo_settle 25 = .ok (.iconst 0, 1) := by decide +kernel
theorem d_Mo_settle_26 : decode b_Mo_settle 26 = .ok (.istore_n 1, 1) := by decide +kernel
theorem d_Mo_settle_27 : decode b_Mo_settle 27 = .ok (.iconst 0, 1) := by decide +kernel
theorem d_Mo_settle_28 : decode b_Mo_settle 28 = .ok (.istore_n 2, 1) := by decide +kernel
theorem d_Mo_settle_29 : decode b_Mo_settle 29 = .ok (.iload_n 2, 1) := by decide +kernel
theorem d_Mo_settle_30 : decode b_Mo_settle 30 = .ok (.aload_n 0, 1) := by decide +kernel
theorem d_Mo_settle_31 : decode b_Mo_settle 31 = .ok (.getfield 60, 3) := by decide +kernel
theorem d_Mo_settle_34 : decode b_Mo_settle 34 = .ok (.if_icmp .ge 44, 3) := by decide +kernel
theorem d_Mo_settle_37 : decode b_Mo_settle 37 = .ok (.aload_n 0, 1) := by decide +kernel
theorem d_Mo_settle_38 : decode b_Mo_settle 38 = .ok (.getfield 17, 3) := by decide +kernel
theorem d_Mo_settle_41 : decode b_Mo_settle 41 = .ok (.iload_n 2, 1) := by decide +kernel
theorem d_Mo_settle_42 : decode b_Mo_settle 42 = .ok (.iaload, 1) := by decide +kernel
theorem d_Mo_settle_43 : decode b_Mo_settle 43 = .ok (.aload_n 0, 1) := by decide +kernel
theorem d_Mo_settle_44 : decode b_Mo_settle 44 = .ok (.getfield 20, 3) := by decide +kernel
theorem d_Mo_settle_47 : decode b_Mo_settle 47 = .ok (.iload_n 2, 1) := by decide +kernel
theorem d_Mo_settle_48 : decode b_Mo_settle 48 = .ok (.iaload, 1) := by decide +kernel
theorem d_Mo_settle_49 : decode b_Mo_settle 49 = .ok (.if_icmp .eq 9, 3) := by decide +kernel
theorem d_Mo_settle_52 : decode b_Mo_settle 52 = .ok (.iload_n 1, 1) := by decide +kernel
theorem d_Mo_settle_53 : decode b_Mo_settle 53 = .ok (.iconst 1, 1) := by decide +kernel
theorem d_Mo_settle_54 : decode b_Mo_settle 54 = .ok (.iadd, 1) := by decide +kernel
theorem d_Mo_settle_55 : decode b_Mo_settle 55 = .ok (.goto 4, 3) := by decide +kernel
theorem d_Mo_settle_58 : decode b_Mo_settle 58 = .ok (.iload_n 1, 1) := by decide +kernel
theorem d_Mo_settle_59 : decode b_Mo_settle 59 = .ok (.istore_n 1, 1) := by decide +kernel
theorem d_Mo_settle_60 : decode b_Mo_settle 60 = .ok (.aload_n 0, 1) := by decide +kernel
theorem d_Mo_settle_61 : decode b_Mo_settle 61 = .ok (.getfield 17, 3) := by decide +kernel
theorem d_Mo_settle_64 : decode b_Mo_settle 64 = .ok (.iload_n 2, 1) := by decide +kernel
theorem d_Mo_settle_65 : decode b_Mo_settle 65 = .ok (.aload_n 0, 1) := by decide +kernel
theorem d_Mo_settle_66 : decode b_Mo_settle 66 = .ok (.getfield 20, 3) := by decide +kernel
theorem d_Mo_settle_69 : decode b_Mo_settle 69 = .ok (.iload_n 2, 1) := by decide +kernel
theorem d_Mo_settle_70 : decode b_Mo_settle 70 = .ok (.iaload, 1) := by decide +kernel
theorem d_Mo_settle_71 : decode b_Mo_settle 71 = .ok (.iastore, 1) := by decide +kernel
theorem d_Mo_settle_72 : decode b_Mo_settle 72 = .ok (.iinc 2 1, 3) := by decide +kernel
theorem d_Mo_settle_75 : decode b_Mo_settle 75 = .ok (.goto (-46), 3) := by decide +kernel
theorem d_Mo_settle_78 : decode b_Mo_settle 78 = .ok (.aload_n 0, 1) := by decide +kernel
theorem d_Mo_settle_79 : decode b_Mo_settle 79 = .ok (.iconst 0, 1) := by decide +kernel
theorem d_Mo_settle_80 : decode b_Mo_settle 80 = .ok (.putfield 70, 3) := by decide +kernel
theorem d_Mo_settle_83 : decode b_Mo_settle 83 = .ok (.iload_n 1, 1) := by decide +kernel
theorem d_Mo_settle_84 : decode b_Mo_settle 84 = .ok (.ireturn, 1) := by decide +kernel
theorem d_Mo_isFree_0 : decode b_Mo_isFree 0 = .ok (.iconst 1, 1) := by decide +kernel
theorem d_Mo_isFree_1 : decode b_Mo_isFree 1 = .ok (.istore_n 2, 1) := by decide +kernel
theorem d_Mo_isFree_2 : decode b_Mo_isFree 2 = .ok (.iconst 0, 1) := by decide +kernel
theorem d_Mo_isFree_3 : decode b_Mo_isFree 3 = .ok (.istore_n 3, 1) := by decide +kernel
theorem d_Mo_isFree_4 : decode b_Mo_isFree 4 = .ok (.iload_n 3, 1) := by decide +kernel
theorem d_Mo_isFree_5 : decode b_Mo_isFree 5 = .ok (.aload_n 0, 1) := by decide +kernel
theorem d_Mo_isFree_6 : decode b_Mo_isFree 6 = .ok (.getfield 60, 3) := by decide +kernel
theorem d_Mo_isFree_9 : decode b_Mo_isFree 9 = .ok (.if_icmp .ge 29, 3) := by decide +kernel
theorem d_Mo_isFree_12 : decode b_Mo_isFree 12 = .ok (.iload_n 2, 1) := by decide +kernel
theorem d_Mo_isFree_13 : decode b_Mo_isFree 13 = .ok (.ifCond .eq 17, 3) := by decide +kernel
theorem d_Mo_isFree_16 : decode b_Mo_isFree 16 = .ok (.aload_n 0, 1) := by decide +kernel
theorem d_Mo_isFree_17 : decode b_Mo_isFree 17 = .ok (.getfield 32, 3) := by decide +kernel
theorem d_Mo_isFree_20 : decode b_Mo_isFree 20 = .ok (.iload_n 3, 1) := by decide +kernel
theorem d_Mo_isFree_21 : decode b_Mo_isFree 21 = .ok (.iaload, 1) := by decide +kernel
theorem d_Mo_isFree_22 : decode b_Mo_isFree 22 = .ok (.iload_n 1, 1) := by decide +kernel
theorem d_Mo_isFree_23 : decode b_Mo_isFree 23 = .ok (.if_icmp .eq 7, 3) := by decide +kernel
theorem d_Mo_isFree_26 : decode b_Mo_isFree 26 = .ok (.iconst 1, 1) := by decide +kernel
theorem d_Mo_isFree_27 : decode b_Mo_isFree 27 = .ok (.goto 4, 3) := by decide +kernel
theorem d_Mo_isFree_30 : decode b_Mo_isFree 30 = .ok (.iconst 0, 1) := by decide +kernel
theorem d_Mo_isFree_31 : decode b_Mo_isFree 31 = .ok (.istore_n 2, 1) := by decide +kernel
theorem d_Mo_isFree_32 : decode b_Mo_isFree 32 = .ok (.iinc 3 1, 3) := by decide +kernel
theorem d_Mo_isFree_35 : decode b_Mo_isFree 35 = .ok (.goto (-31), 3) := by decide +kernel
theorem d_Mo_isFree_38 : decode b_Mo_isFree 38 = .ok (.iload_n 2, 1) := by decide +kernel
theorem d_Mo_isFree_39 : decode b_Mo_isFree 39 = .ok (.ireturn, 1) := by decide +kernel
theorem d_Mo_go_0 : decode b_Mo_go 0 = .ok (.aload_n 0, 1) := by decide +kernel
theorem d_Mo_go_1 : decode b_Mo_go 1 = .ok (.getfield 29, 3) := by decide +kernel
theorem d_Mo_go_4 : decode b_Mo_go 4 = .ok (.iconst 3, 1) := by decide +kernel
theorem d_Mo_go_5 : decode b_Mo_go 5 = .ok (.aload_n 0, 1) := by decide +kernel
theorem d_Mo_go_6 : decode b_Mo_go 6 = .ok (.getfield 109, 3) := by decide +kernel
theorem d_Mo_go_9 : decode b_Mo_go 9 = .ok (.imul, 1) := by decide +kernel
theorem d_Mo_go_10 : decode b_Mo_go 10 = .ok (.iload_n 1, 1) := by decide +kernel
theorem d_Mo_go_11 : decode b_Mo_go 11 = .ok (.iastore, 1) := by decide +kernel
theorem d_Mo_go_12 : decode b_Mo_go 12 = .ok (.aload_n 0, 1) := by decide +kernel
theorem d_Mo_go_13 : decode b_Mo_go 13 = .ok (.getfield 29, 3) := by decide +kernel
theorem d_Mo_go_16 : decode b_Mo_go 16 = .ok (.iconst 3, 1) := by decide +kernel
theorem d_Mo_go_17 : decode b_Mo_go 17 = .ok (.aload_n 0, 1) := by decide +kernel
theorem d_Mo_go_18 : decode b_Mo_go 18 = .ok (.getfield 109, 3) := by decide +kernel
theorem d_Mo_go_21 : decode b_Mo_go 21 = .ok (.imul, 1) := by decide +kernel
theorem d_Mo_go_22 : decode b_Mo_go 22 = .ok (.iconst 1, 1) := by decide +kernel
theorem d_Mo_go_23 : decode b_Mo_go 23 = .ok (.iadd, 1) := by decide +kernel
theorem d_Mo_go_24 : decode b_Mo_go 24 = .ok (.aload_n 0, 1) := by decide +kernel
theorem d_Mo_go_25 : decode b_Mo_go 25 = .ok (.getfield 32, 3) := by decide +kernel
theorem d_Mo_go_28 : decode b_Mo_go 28 = .ok (.iload_n 1, 1) := by decide +kernel
theorem d_Mo_go_29 : decode b_Mo_go 29 = .ok (.iaload, 1) := by decide +kernel
theorem d_Mo_go_30 : decode b_Mo_go 30 = .ok (.iastore, 1) := by decide +kernel
theorem d_Mo_go_31 : decode b_Mo_go 31 = .ok (.aload_n 0, 1) := by decide +kernel
theorem d_Mo_go_32 : decode b_Mo_go 32 = .ok (.getfield 29, 3) := by decide +kernel
theorem d_Mo_go_35 : decode b_Mo_go 35 = .ok (.iconst 3, 1) := by decide +kernel
theorem d_Mo_go_36 : decode b_Mo_go 36 = .ok (.aload_n 0, 1) := by decide +kernel
theorem d_Mo_go_37 : decode b_Mo_go 37 = .ok (.getfield 109, 3) := by decide +kernel
theorem d_Mo_go_40 : decode b_Mo_go 40 = .ok (.imul, 1) := by decide +kernel
theorem d_Mo_go_41 : decode b_Mo_go 41 = .ok (.iconst 2, 1) := by decide +kernel
theorem d_Mo_go_42 : decode b_Mo_go 42 = .ok (.iadd, 1) := by decide +kernel
theorem d_Mo_go_43 : decode b_Mo_go 43 = .ok (.iload_n 2, 1) := by decide +kernel
theorem d_Mo_go_44 : decode b_Mo_go 44 = .ok (.iastore, 1) := by decide +kernel
theorem d_Mo_go_45 : decode b_Mo_go 45 = .ok (.aload_n 0, 1) := by decide +kernel
theorem d_Mo_go_46 : decode b_Mo_go 46 = .ok (.dup, 1) := by decide +kernel
theorem d_Mo_go_47 : decode b_Mo_go 47 = .ok (.getfield 109, 3) := by decide +kernel
theorem d_Mo_go_50 : decode b_Mo_go 50 = .ok (.iconst 1, 1) := by decide +kernel
theorem d_Mo_go_51 : decode b_Mo_go 51 = .ok (.iadd, 1) := by decide +kernel
theorem d_Mo_go_52 : decode b_Mo_go 52 = .ok (.putfield 109, 3) := by decide +kernel
theorem d_Mo_go_55 : decode b_Mo_go 55 = .ok (.aload_n 0, 1) := by decide +kernel
theorem d_Mo_go_56 : decode b_Mo_go 56 = .ok (.getfield 32, 3) := by decide +kernel
theorem d_Mo_go_59 : decode b_Mo_go 59 = .ok (.iload_n 1, 1) := by decide +kernel
theorem d_Mo_go_60 : decode b_Mo_go 60 = .ok (.iload_n 2, 1) := by decide +kernel
theorem d_Mo_go_61 : decode b_Mo_go 61 = .ok (.iastore, 1) := by decide +kernel
theorem d_Mo_go_62 : decode b_Mo_go 62 = .ok (.return_, 1) := by decide +kernel
theorem d_Mo_goes_0 : decode b_Mo_goes 0 = .ok (.iconst (-1), 1) := by decide +kernel
theorem d_Mo_goes_1 : decode b_Mo_goes 1 = .ok (.istore_n 1, 1) := by decide +kernel
theorem d_Mo_goes_2 : decode b_Mo_goes 2 = .ok (.iconst 0, 1) := by decide +kernel
theorem d_Mo_goes_3 : decode b_Mo_goes 3 = .ok (.istore_n 2, 1) := by decide +kernel
theorem d_Mo_goes_4 : decode b_Mo_goes 4 = .ok (.iload_n 2, 1) := by decide +kernel
theorem d_Mo_goes_5 : decode b_Mo_goes 5 = .ok (.aload_n 0, 1) := by decide +kernel
theorem d_Mo_goes_6 : decode b_Mo_goes 6 = .ok (.getfield 60, 3) := by decide +kernel
theorem d_Mo_goes_9 : decode b_Mo_goes 9 = .ok (.if_icmp .ge 76, 3) := by decide +kernel
theorem d_Mo_goes_12 : decode b_Mo_goes 12 = .ok (.aload_n 0, 1) := by decide +kernel
theorem d_Mo_goes_13 : decode b_Mo_goes 13 = .ok (.getfield 32, 3) := by decide +kernel
theorem d_Mo_goes_16 : decode b_Mo_goes 16 = .ok (.iload_n 2, 1) := by decide +kernel
theorem d_Mo_goes_17 : decode b_Mo_goes 17 = .ok (.iaload, 1) := by decide +kernel
theorem d_Mo_goes_18 : decode b_Mo_goes 18 = .ok (.aload_n 0, 1) := by decide +kernel
theorem d_Mo_goes_19 : decode b_Mo_goes 19 = .ok (.getfield 20, 3) := by decide +kernel
theorem d_Mo_goes_22 : decode b_Mo_goes 22 = .ok (.iload_n 2, 1) := by decide +kernel
theorem d_Mo_goes_23 : decode b_Mo_goes 23 = .ok (.iaload, 1) := by decide +kernel
theorem d_Mo_goes_24 : decode b_Mo_goes 24 = .ok (.if_icmp .eq 29, 3) := by decide +kernel
theorem d_Mo_goes_27 : decode b_Mo_goes 27 = .ok (.aload_n 0, 1) := by decide +kernel
theorem d_Mo_goes_28 : decode b_Mo_goes 28 = .ok (.aload_n 0, 1) := by decide +kernel
theorem d_Mo_goes_29 : decode b_Mo_goes 29 = .ok (.getfield 20, 3) := by decide +kernel
theorem d_Mo_goes_32 : decode b_Mo_goes 32 = .ok (.iload_n 2, 1) := by decide +kernel
theorem d_Mo_goes_33 : decode b_Mo_goes 33 = .ok (.iaload, 1) := by decide +kernel
theorem d_Mo_goes_34 : decode b_Mo_goes 34 = .ok (.invokevirtual 112, 3) := by decide +kernel
theorem d_Mo_goes_37 : decode b_Mo_goes 37 = .ok (.ifCond .eq 16, 3) := by decide +kernel
theorem d_Mo_goes_40 : decode b_Mo_goes 40 = .ok (.aload_n 0, 1) := by decide +kernel
theorem d_Mo_goes_41 : decode b_Mo_goes 41 = .ok (.iload_n 2, 1) := by decide +kernel
theorem d_Mo_goes_42 : decode b_Mo_goes 42 = .ok (.aload_n 0, 1) := by decide +kernel
theorem d_Mo_goes_43 : decode b_Mo_goes 43 = .ok (.getfield 20, 3) := by decide +kernel
theorem d_Mo_goes_46 : decode b_Mo_goes 46 = .ok (.iload_n 2, 1) := by decide +kernel
theorem d_Mo_goes_47 : decode b_Mo_goes 47 = .ok (.iaload, 1) := by decide +kernel
theorem d_Mo_goes_48 : decode b_Mo_goes 48 = .ok (.invokevirtual 115, 3) := by decide +kernel
theorem d_Mo_goes_51 : decode b_Mo_goes 51 = .ok (.iconst 1, 1) := by decide +kernel
theorem d_Mo_goes_52 : decode b_Mo_goes 52 = .ok (.ireturn, 1) := by decide +kernel
theorem d_Mo_goes_53 : decode b_Mo_goes 53 = .ok (.iload_n 1, 1) := by decide +kernel
theorem d_Mo_goes_54 : decode b_Mo_goes 54 = .ok (.iconst (-1), 1) := by decide +kernel
theorem d_Mo_goes_55 : decode b_Mo_goes 55 = .ok (.if_icmp .ne 22, 3) := by decide +kernel
theorem d_Mo_goes_58 : decode b_Mo_goes 58 = .ok (.aload_n 0, 1) := by decide +kernel
theorem d_Mo_goes_59 : decode b_Mo_goes 59 = .ok (.getfield 32, 3) := by decide +kernel
theorem d_Mo_goes_62 : decode b_Mo_goes 62 = .ok (.iload_n 2, 1) := by decide +kernel
theorem d_Mo_goes_63 : decode b_Mo_goes 63 = .ok (.iaload, 1) := by decide +kernel
theorem d_Mo_goes_64 : decode b_Mo_goes 64 = .ok (.aload_n 0, 1) := by decide +kernel
theorem d_Mo_goes_65 : decode b_Mo_goes 65 = .ok (.getfield 20, 3) := by decide +kernel
theorem d_Mo_goes_68 : decode b_Mo_goes 68 = .ok (.iload_n 2, 1) := by decide +kernel
theorem d_Mo_goes_69 : decode b_Mo_goes 69 = .ok (.iaload, 1) := by decide +kernel
theorem d_Mo_goes_70 : decode b_Mo_goes 70 = .ok (.if_icmp .eq 7, 3) := by decide +kernel
theorem d_Mo_goes_73 : decode b_Mo_goes 73 = .ok (.iload_n 2, 1) := by decide +kernel
theorem d_Mo_goes_74 : decode b_Mo_goes 74 = .ok (.goto 4, 3) := by decide +kernel
theorem d_Mo_goes_77 : decode b_Mo_goes 77 = .ok (.iload_n 1, 1) := by decide +kernel
theorem d_Mo_goes_78 : decode b_Mo_goes 78 = .ok (.istore_n 1, 1) := by decide +kernel
theorem d_Mo_goes_79 : decode b_Mo_goes 79 = .ok (.iinc 2 1, 3) := by decide +kernel
theorem d_Mo_goes_82 : decode b_Mo_goes 82 = .ok (.goto (-78), 3) := by decide +kernel
theorem d_Mo_goes_85 : decode b_Mo_goes 85 = .ok (.iload_n 1, 1) := by decide +kernel
theorem d_Mo_goes_86 : decode b_Mo_goes 86 = .ok (.iconst (-1), 1) := by decide +kernel
theorem d_Mo_goes_87 : decode b_Mo_goes 87 = .ok (.if_icmp .ne 5, 3) := by decide +kernel
theorem d_Mo_goes_90 : decode b_Mo_goes 90 = .ok (.iconst 0, 1) := by decide +kernel
theorem d_Mo_goes_91 : decode b_Mo_goes 91 = .ok (.ireturn, 1) := by decide +kernel
theorem d_Mo_goes_92 : decode b_Mo_goes 92 = .ok (.iconst 0, 1) := by decide +kernel
theorem d_Mo_goes_93 : decode b_Mo_goes 93 = .ok (.istore_n 2, 1) := by decide +kernel
theorem d_Mo_goes_94 : decode b_Mo_goes 94 = .ok (.iload_n 2, 1) := by decide +kernel
theorem d_Mo_goes_95 : decode b_Mo_goes 95 = .ok (.aload_n 0, 1) := by decide +kernel
theorem d_Mo_goes_96 : decode b_Mo_goes 96 = .ok (.getfield 53, 3) := by decide +kernel
theorem d_Mo_goes_99 : decode b_Mo_goes 99 = .ok (.if_icmp .ge 25, 3) := by decide +kernel
theorem d_Mo_goes_102 : decode b_Mo_goes 102 = .ok (.aload_n 0, 1) := by decide +kernel
theorem d_Mo_goes_103 : decode b_Mo_goes 103 = .ok (.iload_n 2, 1) := by decide +kernel
theorem d_Mo_goes_104 : decode b_Mo_goes 104 = .ok (.invokevirtual 112, 3) := by decide +kernel
theorem d_Mo_goes_107 : decode b_Mo_goes 107 = .ok (.ifCond .eq 11, 3) := by decide +kernel
theorem d_Mo_goes_110 : decode b_Mo_goes 110 = .ok (.aload_n 0, 1) := by decide +kernel
theorem d_Mo_goes_111 : decode b_Mo_goes 111 = .ok (.iload_n 1, 1) := by decide +kernel
theorem d_Mo_goes_112 : decode b_Mo_goes 112 = .ok (.iload_n 2, 1) := by decide +kernel
theorem d_Mo_goes_113 : decode b_Mo_goes 113 = .ok (.invokevirtual 115, 3) := by decide +kernel
theorem d_Mo_goes_116 : decode b_Mo_goes 116 = .ok (.iconst 1, 1) := by decide +kernel
theorem d_Mo_goes_117 : decode b_Mo_goes 117 = .ok (.ireturn, 1) := by decide +kernel
theorem d_Mo_goes_118 : decode b_Mo_goes 118 = .ok (.iinc 2 1, 3) := by decide +kernel
theorem d_Mo_goes_121 : decode b_Mo_goes 121 = .ok (.goto (-27), 3) := by decide +kernel
theorem d_Mo_goes_124 : decode b_Mo_goes 124 = .ok (.aload_n 0, 1) := by decide +kernel
theorem d_Mo_goes_125 : decode b_Mo_goes 125 = .ok (.iconst 1, 1) := by decide +kernel
theorem d_Mo_goes_126 : decode b_Mo_goes 126 = .ok (.putfield 119, 3) := by decide +kernel
theorem d_Mo_goes_129 : decode b_Mo_goes 129 = .ok (.iconst 0, 1) := by decide +kernel
theorem d_Mo_goes_130 : decode b_Mo_goes 130 = .ok (.ireturn, 1) := by decide +kernel
theorem d_Mo_walk_0 : decode b_Mo_walk 0 = .ok (.aload_n 0, 1) := by decide +kernel
theorem d_Mo_walk_1 : decode b_Mo_walk 1 = .ok (.iconst 0, 1) := by decide +kernel
theorem d_Mo_walk_2 : decode b_Mo_walk 2 = .ok (.putfield 109, 3) := by decide +kernel
theorem d_Mo_walk_5 : decode b_Mo_walk 5 = .ok (.aload_n 0, 1) := by decide +kernel
theorem d_Mo_walk_6 : decode b_Mo_walk 6 = .ok (.iconst 0, 1) := by decide +kernel
theorem d_Mo_walk_7 : decode b_Mo_walk 7 = .ok (.putfield 119, 3) := by decide +kernel
theorem d_Mo_walk_10 : decode b_Mo_walk 10 = .ok (.iconst 0, 1) := by decide +kernel
theorem d_Mo_walk_11 : decode b_Mo_walk 11 = .ok (.istore_n 1, 1) := by decide +kernel
theorem d_Mo_walk_12 : decode b_Mo_walk 12 = .ok (.iload_n 1, 1) := by decide +kernel
theorem d_Mo_walk_13 : decode b_Mo_walk 13 = .ok (.aload_n 0, 1) := by decide +kernel
theorem d_Mo_walk_14 : decode b_Mo_walk 14 = .ok (.getfield 60, 3) := by decide +kernel
theorem d_Mo_walk_17 : decode b_Mo_walk 17 = .ok (.if_icmp .ge 21, 3) := by decide +kernel
theorem d_Mo_walk_20 : decode b_Mo_walk 20 = .ok (.aload_n 0, 1) := by decide +kernel
theorem d_Mo_walk_21 : decode b_Mo_walk 21 = .ok (.getfield 32, 3) := by decide +kernel
theorem d_Mo_walk_24 : decode b_Mo_walk 24 = .ok (.iload_n 1, 1) := by decide +kernel
theorem d_Mo_walk_25 : decode b_Mo_walk 25 = .ok (.aload_n 0, 1) := by decide +kernel
theorem d_Mo_walk_26 : decode b_Mo_walk 26 = .ok (.getfield 17, 3) := by decide +kernel
theorem d_Mo_walk_29 : decode b_Mo_walk 29 = .ok (.iload_n 1, 1) := by decide +kernel
theorem d_Mo_walk_30 : decode b_Mo_walk 30 = .ok (.iaload, 1) := by decide +kernel
theorem d_Mo_walk_31 : decode b_Mo_walk 31 = .ok (.iastore, 1) := by decide +kernel
theorem d_Mo_walk_32 : decode b_Mo_walk 32 = .ok (.iinc 1 1, 3) := by decide +kernel
theorem d_Mo_walk_35 : decode b_Mo_walk 35 = .ok (.goto (-23), 3) := by decide +kernel
theorem d_Mo_walk_38 : decode b_Mo_walk 38 = .ok (.iconst 1, 1) := by decide +kernel
theorem d_Mo_walk_39 : decode b_Mo_walk 39 = .ok (.istore_n 1, 1) := by decide +kernel
theorem d_Mo_walk_40 : decode b_Mo_walk 40 = .ok (.iload_n 1, 1) := by decide +kernel
theorem d_Mo_walk_41 : decode b_Mo_walk 41 = .ok (.ifCond .eq 11, 3) := by decide +kernel
theorem d_Mo_walk_44 : decode b_Mo_walk 44 = .ok (.aload_n 0, 1) := by decide +kernel
theorem d_Mo_walk_45 : decode b_Mo_walk 45 = .ok (.invokevirtual 122, 3) := by decide +kernel
theorem d_Mo_walk_48 : decode b_Mo_walk 48 = .ok (.istore_n 1, 1) := by decide +kernel
theorem d_Mo_walk_49 : decode b_Mo_walk 49 = .ok (.goto (-9), 3) := by decide +kernel
theorem d_Mo_walk_52 : decode b_Mo_walk 52 = .ok (.return_, 1) := by decide +kernel
theorem d_Mo_steps_0 : decode b_Mo_steps 0 = .ok (.aload_n 0, 1) := by decide +kernel
theorem d_Mo_steps_1 : decode b_Mo_steps 1 = .ok (.aload_n 0, 1) := by decide +kernel
theorem d_Mo_steps_2 : decode b_Mo_steps 2 = .ok (.getfield 70, 3) := by decide +kernel
theorem d_Mo_steps_5 : decode b_Mo_steps 5 = .ok (.ifCond .eq 7, 3) := by decide +kernel
theorem d_Mo_steps_8 : decode b_Mo_steps 8 = .ok (.iconst 0, 1) := by decide +kernel
theorem d_Mo_steps_9 : decode b_Mo_steps 9 = .ok (.goto 4, 3) := by decide +kernel
theorem d_Mo_steps_12 : decode b_Mo_steps 12 = .ok (.iconst 1, 1) := by decide +kernel
theorem d_Mo_steps_13 : decode b_Mo_steps 13 = .ok (.putfield 57, 3) := by decide +kernel
theorem d_Mo_steps_16 : decode b_Mo_steps 16 = .ok (.aload_n 0, 1) := by decide +kernel
theorem d_Mo_steps_17 : decode b_Mo_steps 17 = .ok (.getfield 57, 3) := by decide +kernel
theorem d_Mo_steps_20 : decode b_Mo_steps 20 = .ok (.ifCond .le 7, 3) := by decide +kernel
theorem d_Mo_steps_23 : decode b_Mo_steps 23 = .ok (.iconst 0, 1) := by decide +kernel
theorem d_Mo_steps_24 : decode b_Mo_steps 24 = .ok (.goto 19, 3) := by decide +kernel
theorem d_Mo_steps_27 : decode b_Mo_steps 27 = .ok (.aload_n 0, 1) := by decide +kernel
theorem d_Mo_steps_28 : decode b_Mo_steps 28 = .ok (.getfield 119, 3) := by decide +kernel
theorem d_Mo_steps_31 : decode b_Mo_steps 31 = .ok (.ifCond .eq 8, 3) := by decide +kernel
theorem d_Mo_steps_34 : decode b_Mo_steps 34 = .ok (.bipush (-2), 2) := by decide +kernel
theorem d_Mo_steps_36 : decode b_Mo_steps 36 = .ok (.goto 7, 3) := by decide +kernel
theorem d_Mo_steps_39 : decode b_Mo_steps 39 = .ok (.aload_n 0, 1) := by decide +kernel
theorem d_Mo_steps_40 : decode b_Mo_steps 40 = .ok (.getfield 109, 3) := by decide +kernel
theorem d_Mo_steps_43 : decode b_Mo_steps 43 = .ok (.ireturn, 1) := by decide +kernel
theorem d_Mo_step_0 : decode b_Mo_step 0 = .ok (.aload_n 0, 1) := by decide +kernel
theorem d_Mo_step_1 : decode b_Mo_step 1 = .ok (.iload_n 1, 1) := by decide +kernel
theorem d_Mo_step_2 : decode b_Mo_step 2 = .ok (.ifCond .lt 12, 3) := by decide +kernel
theorem d_Mo_step_5 : decode b_Mo_step 5 = .ok (.iload_n 2, 1) := by decide +kernel
theorem d_Mo_step_6 : decode b_Mo_step 6 = .ok (.iconst 0, 1) := by decide +kernel
theorem d_Mo_step_7 : decode b_Mo_step 7 = .ok (.iconst 2, 1) := by decide +kernel
theorem d_Mo_step_8 : decode b_Mo_step 8 = .ok (.invokestatic 63, 3) := by decide +kernel
theorem d_Mo_step_11 : decode b_Mo_step 11 = .ok (.ifCond .ne 7, 3) := by decide +kernel
theorem d_Mo_step_14 : decode b_Mo_step 14 = .ok (.iconst 1, 1) := by decide +kernel
theorem d_Mo_step_15 : decode b_Mo_step 15 = .ok (.goto 27, 3) := by decide +kernel
theorem d_Mo_step_18 : decode b_Mo_step 18 = .ok (.aload_n 0, 1) := by decide +kernel
theorem d_Mo_step_19 : decode b_Mo_step 19 = .ok (.getfield 70, 3) := by decide +kernel
theorem d_Mo_step_22 : decode b_Mo_step 22 = .ok (.ifCond .ne 7, 3) := by decide +kernel
theorem d_Mo_step_25 : decode b_Mo_step 25 = .ok (.iconst 2, 1) := by decide +kernel
theorem d_Mo_step_26 : decode b_Mo_step 26 = .ok (.goto 16, 3) := by decide +kernel
theorem d_Mo_step_29 : decode b_Mo_step 29 = .ok (.iload_n 1, 1) := by decide +kernel
theorem d_Mo_step_30 : decode b_Mo_step 30 = .ok (.aload_n 0, 1) := by decide +kernel
theorem d_Mo_step_31 : decode b_Mo_step 31 = .ok (.getfield 109, 3) := by decide +kernel
theorem d_Mo_step_34 : decode b_Mo_step 34 = .ok (.if_icmp .lt 7, 3) := by decide +kernel
theorem d_Mo_step_37 : decode b_Mo_step 37 = .ok (.iconst 1, 1) := by decide +kernel
theorem d_Mo_step_38 : decode b_Mo_step 38 = .ok (.goto 4, 3) := by decide +kernel
theorem d_Mo_step_41 : decode b_Mo_step 41 = .ok (.iconst 0, 1) := by decide +kernel
theorem d_Mo_step_42 : decode b_Mo_step 42 = .ok (.putfield 57, 3) := by decide +kernel
theorem d_Mo_step_45 : decode b_Mo_step 45 = .ok (.aload_n 0, 1) := by decide +kernel
theorem d_Mo_step_46 : decode b_Mo_step 46 = .ok (.getfield 57, 3) := by decide +kernel
theorem d_Mo_step_49 : decode b_Mo_step 49 = .ok (.ifCond .le 7, 3) := by decide +kernel
theorem d_Mo_step_52 : decode b_Mo_step 52 = .ok (.iconst 0, 1) := by decide +kernel
theorem d_Mo_step_53 : decode b_Mo_step 53 = .ok (.goto 13, 3) := by decide +kernel
theorem d_Mo_step_56 : decode b_Mo_step 56 = .ok (.aload_n 0, 1) := by decide +kernel
theorem d_Mo_step_57 : decode b_Mo_step 57 = .ok (.getfield 29, 3) := by decide +kernel
theorem d_Mo_step_60 : decode b_Mo_step 60 = .ok (.iconst 3, 1) := by decide +kernel
theorem d_Mo_step_61 : decode b_Mo_step 61 = .ok (.iload_n 1, 1) := by decide +kernel
theorem d_Mo_step_62 : decode b_Mo_step 62 = .ok (.imul, 1) := by decide +kernel
theorem d_Mo_step_63 : decode b_Mo_step 63 = .ok (.iload_n 2, 1) := by decide +kernel
theorem d_Mo_step_64 : decode b_Mo_step 64 = .ok (.iadd, 1) := by decide +kernel
theorem d_Mo_step_65 : decode b_Mo_step 65 = .ok (.iaload, 1) := by decide +kernel
theorem d_Mo_step_66 : decode b_Mo_step 66 = .ok (.ireturn, 1) := by decide +kernel
theorem d_Mo_room_0 : decode b_Mo_room 0 = .ok (.aload_n 0, 1) := by decide +kernel
theorem d_Mo_room_1 : decode b_Mo_room 1 = .ok (.iload_n 1, 1) := by decide +kernel
theorem d_Mo_room_2 : decode b_Mo_room 2 = .ok (.iconst 1, 1) := by decide +kernel
theorem d_Mo_room_3 : decode b_Mo_room 3 = .ok (.sipush 200, 3) := by decide +kernel
theorem d_Mo_room_6 : decode b_Mo_room 6 = .ok (.invokestatic 63, 3) := by decide +kernel
theorem d_Mo_room_9 : decode b_Mo_room 9 = .ok (.ifCond .ne 7, 3) := by decide +kernel
theorem d_Mo_room_12 : decode b_Mo_room 12 = .ok (.iconst 1, 1) := by decide +kernel
theorem d_Mo_room_13 : decode b_Mo_room 13 = .ok (.goto 17, 3) := by decide +kernel
theorem d_Mo_room_16 : decode b_Mo_room 16 = .ok (.aload_n 0, 1) := by decide +kernel
theorem d_Mo_room_17 : decode b_Mo_room 17 = .ok (.getfield 67, 3) := by decide +kernel
theorem d_Mo_room_20 : decode b_Mo_room 20 = .ok (.bipush 8, 2) := by decide +kernel
theorem d_Mo_room_22 : decode b_Mo_room 22 = .ok (.if_icmp .ne 7, 3) := by decide +kernel
theorem d_Mo_room_25 : decode b_Mo_room 25 = .ok (.iconst 2, 1) := by decide +kernel
theorem d_Mo_room_26 : decode b_Mo_room 26 = .ok (.goto 4, 3) := by decide +kernel
theorem d_Mo_room_29 : decode b_Mo_room 29 = .ok (.iconst 0, 1) := by decide +kernel
theorem d_Mo_room_30 : decode b_Mo_room 30 = .ok (.putfield 57, 3) := by decide +kernel
theorem d_Mo_room_33 : decode b_Mo_room 33 = .ok (.aload_n 0, 1) := by decide +kernel
theorem d_Mo_room_34 : decode b_Mo_room 34 = .ok (.getfield 57, 3) := by decide +kernel
theorem d_Mo_room_37 : decode b_Mo_room 37 = .ok (.ifCond .le 5, 3) := by decide +kernel
theorem d_Mo_room_40 : decode b_Mo_room 40 = .ok (.iconst 0, 1) := by decide +kernel
theorem d_Mo_room_41 : decode b_Mo_room 41 = .ok (.ireturn, 1) := by decide +kernel
theorem d_Mo_room_42 : decode b_Mo_room 42 = .ok (.aload_n 0, 1) := by decide +kernel
theorem d_Mo_room_43 : decode b_Mo_room 43 = .ok (.getfield 35, 3) := by decide +kernel
theorem d_Mo_room_46 : decode b_Mo_room 46 = .ok (.aload_n 0, 1) := by decide +kernel
theorem d_Mo_room_47 : decode b_Mo_room 47 = .ok (.getfield 67, 3) := by decide +kernel
theorem d_Mo_room_50 : decode b_Mo_room 50 = .ok (.iload_n 1, 1) := by decide +kernel
theorem d_Mo_room_51 : decode b_Mo_room 51 = .ok (.iastore, 1) := by decide +kernel
theorem d_Mo_room_52 : decode b_Mo_room 52 = .ok (.aload_n 0, 1) := by decide +kernel
theorem d_Mo_room_53 : decode b_Mo_room 53 = .ok (.dup, 1) := by decide +kernel
theorem d_Mo_room_54 : decode b_Mo_room 54 = .ok (.getfield 67, 3) := by decide +kernel
theorem d_Mo_room_57 : decode b_Mo_room 57 = .ok (.iconst 1, 1) := by decide +kernel
theorem d_Mo_room_58 : decode b_Mo_room 58 = .ok (.iadd, 1) := by decide +kernel
theorem d_Mo_room_59 : decode b_Mo_room 59 = .ok (.putfield 67, 3) := by decide +kernel
theorem d_Mo_room_62 : decode b_Mo_room 62 = .ok (.aload_n 0, 1) := by decide +kernel
theorem d_Mo_room_63 : decode b_Mo_room 63 = .ok (.getfield 67, 3) := by decide +kernel
theorem d_Mo_room_66 : decode b_Mo_room 66 = .ok (.iconst 1, 1) := by decide +kernel
theorem d_Mo_room_67 : decode b_Mo_room 67 = .ok (.isub, 1) := by decide +kernel
theorem d_Mo_room_68 : decode b_Mo_room 68 = .ok (.ireturn, 1) := by decide +kernel
theorem d_Mo_meeting_0 : decode b_Mo_meeting 0 = .ok (.iconst (-1), 1) := by decide +kernel
theorem d_Mo_meeting_1 : decode b_Mo_meeting 1 = .ok (.istore 4, 2) := by decide +kernel
theorem d_Mo_meeting_3 : decode b_Mo_meeting 3 = .ok (.iconst 0, 1) := by decide +kernel
theorem d_Mo_meeting_4 : decode b_Mo_meeting 4 = .ok (.istore 5, 2) := by decide +kernel
theorem d_Mo_meeting_6 : decode b_Mo_meeting 6 = .ok (.iload 5, 2) := by decide +kernel
theorem d_Mo_meeting_8 : decode b_Mo_meeting 8 = .ok (.aload_n 0, 1) := by decide +kernel
theorem d_Mo_meeting_9 : decode b_Mo_meeting 9 = .ok (.getfield 126, 3) := by decide +kernel
theorem d_Mo_meeting_12 : decode b_Mo_meeting 12 = .ok (.if_icmp .ge 61, 3) := by decide +kernel
theorem d_Mo_meeting_15 : decode b_Mo_meeting 15 = .ok (.aload_n 0, 1) := by decide +kernel
theorem d_Mo_meeting_16 : decode b_Mo_meeting 16 = .ok (.getfield 50, 3) := by decide +kernel
theorem d_Mo_meeting_19 : decode b_Mo_meeting 19 = .ok (.iload 5, 2) := by decide +kernel
theorem d_Mo_meeting_21 : decode b_Mo_meeting 21 = .ok (.baload, 1) := by decide +kernel
theorem d_Mo_meeting_22 : decode b_Mo_meeting 22 = .ok (.ifCond .eq 41, 3) := by decide +kernel
theorem d_Mo_meeting_25 : decode b_Mo_meeting 25 = .ok (.aload_n 0, 1) := by decide +kernel
theorem d_Mo_meeting_26 : decode b_Mo_meeting 26 = .ok (.getfield 38, 3) := by decide +kernel
theorem d_Mo_meeting_29 : decode b_Mo_meeting 29 = .ok (.iload 5, 2) := by decide +kernel
theorem d_Mo_meeting_31 : decode b_Mo_meeting 31 = .ok (.iaload, 1) := by decide +kernel
theorem d_Mo_meeting_32 : decode b_Mo_meeting 32 = .ok (.iload_n 1, 1) := by decide +kernel
theorem d_Mo_meeting_33 : decode b_Mo_meeting 33 = .ok (.if_icmp .ne 30, 3) := by decide +kernel
theorem d_Mo_meeting_36 : decode b_Mo_meeting 36 = .ok (.aload_n 0, 1) := by decide +kernel
theorem d_Mo_meeting_37 : decode b_Mo_meeting 37 = .ok (.getfield 41, 3) := by decide +kernel
theorem d_Mo_meeting_40 : decode b_Mo_meeting 40 = .ok (.iload 5, 2) := by decide +kernel
theorem d_Mo_meeting_42 : decode b_Mo_meeting 42 = .ok (.iaload, 1) := by decide +kernel
theorem d_Mo_meeting_43 : decode b_Mo_meeting 43 = .ok (.iload_n 3, 1) := by decide +kernel
theorem d_Mo_meeting_44 : decode b_Mo_meeting 44 = .ok (.if_icmp .ge 19, 3) := by decide +kernel
theorem d_Mo_meeting_47 : decode b_Mo_meeting 47 = .ok (.iload_n 2, 1) := by decide +kernel
theorem d_Mo_meeting_48 : decode b_Mo_meeting 48 = .ok (.aload_n 0, 1) := by decide +kernel
theorem d_Mo_meeting_49 : decode b_Mo_meeting 49 = .ok (.getfield 44, 3) := by decide +kernel
theorem d_Mo_meeting_52 : decode b_Mo_meeting 52 = .ok (.iload 5, 2) := by decide +kernel
theorem d_Mo_meeting_54 : decode b_Mo_meeting 54 = .ok (.iaload, 1) := by decide +kernel
theorem d_Mo_meeting_55 : decode b_Mo_meeting 55 = .ok (.if_icmp .ge 8, 3) := by decide +kernel
theorem d_Mo_meeting_58 : decode b_Mo_meeting 58 = .ok (.iload 5, 2) := by decide +kernel
theorem d_Mo_meeting_60 : decode b_Mo_meeting 60 = .ok (.goto 5, 3) := by decide +kernel
theorem d_Mo_meeting_63 : decode b_Mo_meeting 63 = .ok (.iload 4, 2) := by decide +kernel
theorem d_Mo_meeting_65 : decode b_Mo_meeting 65 = .ok (.istore 4, 2) := by decide +kernel
theorem d_Mo_meeting_67 : decode b_Mo_meeting 67 = .ok (.iinc 5 1, 3) := by decide +kernel
theorem d_Mo_meeting_70 : decode b_Mo_meeting 70 = .ok (.goto (-64), 3) := by decide +kernel
theorem d_Mo_meeting_73 : decode b_Mo_meeting 73 = .ok (.iload 4, 2) := by decide +kernel
theorem d_Mo_meeting_75 : decode b_Mo_meeting 75 = .ok (.ireturn, 1) := by decide +kernel
theorem d_Mo_book_0 : decode b_Mo_book 0 = .ok (.aload_n 0, 1) := by decide +kernel
theorem d_Mo_book_1 : decode b_Mo_book 1 = .ok (.iload_n 3, 1) := by decide +kernel
theorem d_Mo_book_2 : decode b_Mo_book 2 = .ok (.iconst 1, 1) := by decide +kernel
theorem d_Mo_book_3 : decode b_Mo_book 3 = .ok (.sipush 200, 3) := by decide +kernel
theorem d_Mo_book_6 : decode b_Mo_book 6 = .ok (.invokestatic 63, 3) := by decide +kernel
theorem d_Mo_book_9 : decode b_Mo_book 9 = .ok (.ifCond .eq 30, 3) := by decide +kernel
theorem d_Mo_book_12 : decode b_Mo_book 12 = .ok (.iload_n 1, 1) := by decide +kernel
theorem d_Mo_book_13 : decode b_Mo_book 13 = .ok (.iconst 0, 1) := by decide +kernel
theorem d_Mo_book_14 : decode b_Mo_book 14 = .ok (.sipush 10080, 3) := by decide +kernel
theorem d_Mo_book_17 : decode b_Mo_book 17 = .ok (.invokestatic 63, 3) := by decide +kernel
theorem d_Mo_book_20 : decode b_Mo_book 20 = .ok (.ifCond .eq 19, 3) := by decide +kernel
theorem d_Mo_book_23 : decode b_Mo_book 23 = .ok (.iload_n 2, 1) := by decide +kernel
theorem d_Mo_book_24 : decode b_Mo_book 24 = .ok (.iconst 0, 1) := by decide +kernel
theorem d_Mo_book_25 : decode b_Mo_book 25 = .ok (.sipush 10080, 3) := by decide +kernel
theorem d_Mo_book_28 : decode b_Mo_book 28 = .ok (.invokestatic 63, 3) := by decide +kernel
theorem d_Mo_book_31 : decode b_Mo_book 31 = .ok (.ifCond .eq 8, 3) := by decide +kernel
theorem d_Mo_book_34 : decode b_Mo_book 34 = .ok (.iload_n 1, 1) := by decide +kernel
theorem d_Mo_book_35 : decode b_Mo_book 35 = .ok (.iload_n 2, 1) := by decide +kernel
theorem d_Mo_book_36 : decode b_Mo_book 36 = .ok (.if_icmp .lt 7, 3) := by decide +kernel
theorem d_Mo_book_39 : decode b_Mo_book 39 = .ok (.iconst 1, 1) := by decide +kernel
theorem d_Mo_book_40 : decode b_Mo_book 40 = .ok (.goto 18, 3) := by decide +kernel
theorem d_Mo_book_43 : decode b_Mo_book 43 = .ok (.aload_n 0, 1) := by decide +kernel
theorem d_Mo_book_44 : decode b_Mo_book 44 = .ok (.getfield 126, 3) := by decide +kernel
theorem d_Mo_book_47 : decode b_Mo_book 47 = .ok (.sipush 300, 3) := by decide +kernel
theorem d_Mo_book_50 : decode b_Mo_book 50 = .ok (.if_icmp .ne 7, 3) := by decide +kernel
theorem d_Mo_book_53 : decode b_Mo_book 53 = .ok (.iconst 2, 1) := by decide +kernel
theorem d_Mo_book_54 : decode b_Mo_book 54 = .ok (.goto 4, 3) := by decide +kernel
theorem d_Mo_book_57 : decode b_Mo_book 57 = .ok (.iconst 0, 1) := by decide +kernel
theorem d_Mo_book_58 : decode b_Mo_book 58 = .ok (.putfield 57, 3) := by decide +kernel
theorem d_Mo_book_61 : decode b_Mo_book 61 = .ok (.aload_n 0, 1) := by decide +kernel
theorem d_Mo_book_62 : decode b_Mo_book 62 = .ok (.getfield 57, 3) := by decide +kernel
theorem d_Mo_book_65 : decode b_Mo_book 65 = .ok (.ifCond .le 5, 3) := by decide +kernel
theorem d_Mo_book_68 : decode b_Mo_book 68 = .ok (.iconst 0, 1) := by decide +kernel
theorem d_Mo_book_69 : decode b_Mo_book 69 = .ok (.ireturn, 1) := by decide +kernel
theorem d_Mo_book_70 : decode b_Mo_book 70 = .ok (.iconst (-1), 1) := by decide +kernel
theorem d_Mo_book_71 : decode b_Mo_book 71 = .ok (.istore 4, 2) := by decide +kernel
theorem d_Mo_book_73 : decode b_Mo_book 73 = .ok (.iconst 0, 1) := by decide +kernel
theorem d_Mo_book_74 : decode b_Mo_book 74 = .ok (.istore 5, 2) := by decide +kernel
theorem d_Mo_book_76 : decode b_Mo_book 76 = .ok (.iload 5, 2) := by decide +kernel
theorem d_Mo_book_78 : decode b_Mo_book 78 = .ok (.aload_n 0, 1) := by decide +kernel
theorem d_Mo_book_79 : decode b_Mo_book 79 = .ok (.getfield 67, 3) := by decide +kernel
theorem d_Mo_book_82 : decode b_Mo_book 82 = .ok (.if_icmp .ge 59, 3) := by decide +kernel
theorem d_Mo_book_85 : decode b_Mo_book 85 = .ok (.aload_n 0, 1) := by decide +kernel
theorem d_Mo_book_86 : decode b_Mo_book 86 = .ok (.getfield 35, 3) := by decide +kernel
theorem d_Mo_book_89 : decode b_Mo_book 89 = .ok (.iload 5, 2) := by decide +kernel
theorem d_Mo_book_91 : decode b_Mo_book 91 = .ok (.iaload, 1) := by decide +kernel
theorem d_Mo_book_92 : decode b_Mo_book 92 = .ok (.iload_n 3, 1) := by decide +kernel
theorem d_Mo_book_93 : decode b_Mo_book 93 = .ok (.if_icmp .lt 42, 3) := by decide +kernel
theorem d_Mo_book_96 : decode b_Mo_book 96 = .ok (.iload 4, 2) := by decide +kernel
theorem d_Mo_book_98 : decode b_Mo_book 98 = .ok (.iconst (-1), 1) := by decide +kernel
theorem d_Mo_book_99 : decode b_Mo_book 99 = .ok (.if_icmp .eq 20, 3) := by decide +kernel
theorem d_Mo_book_102 : decode b_Mo_book 102 = .ok (.aload_n 0, 1) := by decide +kernel
theorem d_Mo_book_103 : decode b_Mo_book 103 = .ok (.getfield 35, 3) := by decide +kernel
theorem d_Mo_book_106 : decode b_Mo_book 106 = .ok (.iload 5, 2) := by decide +kernel
theorem d_Mo_book_108 : decode b_Mo_book 108 = .ok (.iaload, 1) := by decide +kernel
theorem d_Mo_book_109 : decode b_Mo_book 109 = .ok (.aload_n 0, 1) := by decide +kernel
theorem d_Mo_book_110 : decode b_Mo_book 110 = .ok (.getfield 35, 3) := by decide +kernel
theorem d_Mo_book_113 : decode b_Mo_book 113 = .ok (.iload 4, 2) := by decide +kernel
theorem d_Mo_book_115 : decode b_Mo_book 115 = .ok (.iaload, 1) := by decide +kernel
theorem d_Mo_book_116 : decode b_Mo_book 116 = .ok (.if_icmp .ge 19, 3) := by decide +kernel
theorem d_Mo_book_119 : decode b_Mo_book 119 = .ok (.aload_n 0, 1) := by decide +kernel
theorem d_Mo_book_120 : decode b_Mo_book 120 = .ok (.iload 5, 2) := by decide +kernel
theorem d_Mo_book_122 : decode b_Mo_book 122 = .ok (.iload_n 1, 1) := by decide +kernel
theorem d_Mo_book_123 : decode b_Mo_book 123 = .ok (.iload_n 2, 1) := by decide +kernel
theorem d_Mo_book_124 : decode b_Mo_book 124 = .ok (.invokevirtual 129, 3) := by decide +kernel
theorem d_Mo_book_127 : decode b_Mo_book 127 = .ok (.iconst (-1), 1) := by decide +kernel
theorem d_Mo_book_128 : decode b_Mo_book 128 = .ok (.if_icmp .ne 7, 3) := by decide +kernel
theorem d_Mo_book_131 : decode b_Mo_book 131 = .ok (.iload 5, 2) := by decide +kernel
theorem d_Mo_book_133 : decode b_Mo_book 133 = .ok (.istore 4, 2) := by decide +kernel
theorem d_Mo_book_135 : decode b_Mo_book 135 = .ok (.iinc 5 1, 3) := by decide +kernel
theorem d_Mo_book_138 : decode b_Mo_book 138 = .ok (.goto (-62), 3) := by decide +kernel
theorem d_Mo_book_141 : decode b_Mo_book 141 = .ok (.iload 4, 2) := by decide +kernel
theorem d_Mo_book_143 : decode b_Mo_book 143 = .ok (.iconst (-1), 1) := by decide +kernel
theorem d_Mo_book_144 : decode b_Mo_book 144 = .ok (.if_icmp .ne 5, 3) := by decide +kernel
theorem d_Mo_book_147 : decode b_Mo_book 147 = .ok (.iconst (-1), 1) := by decide +kernel
theorem d_Mo_book_148 : decode b_Mo_book 148 = .ok (.ireturn, 1) := by decide +kernel
theorem d_Mo_book_149 : decode b_Mo_book 149 = .ok (.aload_n 0, 1) := by decide +kernel
theorem d_Mo_book_150 : decode b_Mo_book 150 = .ok (.getfield 38, 3) := by decide +kernel
theorem d_Mo_book_153 : decode b_Mo_book 153 = .ok (.aload_n 0, 1) := by decide +kernel
theorem d_Mo_book_154 : decode b_Mo_book 154 = .ok (.getfield 126, 3) := by decide +kernel
theorem d_Mo_book_157 : decode b_Mo_book 157 = .ok (.iload 4, 2) := by decide +kernel
theorem d_Mo_book_159 : decode b_Mo_book 159 = .ok (.iastore, 1) := by decide +kernel
theorem d_Mo_book_160 : decode b_Mo_book 160 = .ok (.aload_n 0, 1) := by decide +kernel
theorem d_Mo_book_161 : decode b_Mo_book 161 = .ok (.getfield 41, 3) := by decide +kernel
theorem d_Mo_book_164 : decode b_Mo_book 164 = .ok (.aload_n 0, 1) := by decide +kernel
theorem d_Mo_book_165 : decode b_Mo_book 165 = .ok (.getfield 126, 3) := by decide +kernel
theorem d_Mo_book_168 : decode b_Mo_book 168 = .ok (.iload_n 1, 1) := by decide +kernel
theorem d_Mo_book_169 : decode b_Mo_book 169 = .ok (.iastore, 1) := by decide +kernel
theorem d_Mo_book_170 : decode b_Mo_book 170 = .ok (.aload_n 0, 1) := by decide +kernel
theorem d_Mo_book_171 : decode b_Mo_book 171 = .ok (.getfield 44, 3) := by decide +kernel
theorem d_Mo_book_174 : decode b_Mo_book 174 = .ok (.aload_n 0, 1) := by decide +kernel
theorem d_Mo_book_175 : decode b_Mo_book 175 = .ok (.getfield 126, 3) := by decide +kernel
theorem d_Mo_book_178 : decode b_Mo_book 178 = .ok (.iload_n 2, 1) := by decide +kernel
theorem d_Mo_book_179 : decode b_Mo_book 179 = .ok (.iastore, 1) := by decide +kernel
theorem d_Mo_book_180 : decode b_Mo_book 180 = .ok (.aload_n 0, 1) := by decide +kernel
theorem d_Mo_book_181 : decode b_Mo_book 181 = .ok (.getfield 47, 3) := by decide +kernel
theorem d_Mo_book_184 : decode b_Mo_book 184 = .ok (.aload_n 0, 1) := by decide +kernel
theorem d_Mo_book_185 : decode b_Mo_book 185 = .ok (.getfield 126, 3) := by decide +kernel
theorem d_Mo_book_188 : decode b_Mo_book 188 = .ok (.aload_n 0, 1) := by decide +kernel
theorem d_Mo_book_189 : decode b_Mo_book 189 = .ok (.getfield 35, 3) := by decide +kernel
theorem d_Mo_book_192 : decode b_Mo_book 192 = .ok (.iload 4, 2) := by decide +kernel
theorem d_Mo_book_194 : decode b_Mo_book 194 = .ok (.iaload, 1) := by decide +kernel
theorem d_Mo_book_195 : decode b_Mo_book 195 = .ok (.iload_n 3, 1) := by decide +kernel
theorem d_Mo_book_196 : decode b_Mo_book 196 = .ok (.isub, 1) := by decide +kernel
theorem d_Mo_book_197 : decode b_Mo_book 197 = .ok (.iastore, 1) := by decide +kernel
theorem d_Mo_book_198 : decode b_Mo_book 198 = .ok (.aload_n 0, 1) := by decide +kernel
theorem d_Mo_book_199 : decode b_Mo_book 199 = .ok (.getfield 50, 3) := by decide +kernel
theorem d_Mo_book_202 : decode b_Mo_book 202 = .ok (.aload_n 0, 1) := by decide +kernel
theorem d_Mo_book_203 : decode b_Mo_book 203 = .ok (.getfield 126, 3) := by decide +kernel
theorem d_Mo_book_206 : decode b_Mo_book 206 = .ok (.iconst 1, 1) := by decide +kernel
theorem d_Mo_book_207 : decode b_Mo_book 207 = .ok (.bastore, 1) := by decide +kernel
theorem d_Mo_book_208 : decode b_Mo_book 208 = .ok (.aload_n 0, 1) := by decide +kernel
theorem d_Mo_book_209 : decode b_Mo_book 209 = .ok (.dup, 1) := by decide +kernel
theorem d_Mo_book_210 : decode b_Mo_book 210 = .ok (.getfield 126, 3) := by decide +kernel
theorem d_Mo_book_213 : decode b_Mo_book 213 = .ok (.iconst 1, 1) := by decide +kernel
theorem d_Mo_book_214 : decode b_Mo_book 214 = .ok (.iadd, 1) := by decide +kernel
theorem d_Mo_book_215 : decode b_Mo_book 215 = .ok (.putfield 126, 3) := by decide +kernel
theorem d_Mo_book_218 : decode b_Mo_book 218 = .ok (.aload_n 0, 1) := by decide +kernel
theorem d_Mo_book_219 : decode b_Mo_book 219 = .ok (.getfield 126, 3) := by decide +kernel
theorem d_Mo_book_222 : decode b_Mo_book 222 = .ok (.iconst 1, 1) := by decide +kernel
theorem d_Mo_book_223 : decode b_Mo_book 223 = .ok (.isub, 1) := by decide +kernel
theorem d_Mo_book_224 : decode b_Mo_book 224 = .ok (.ireturn, 1) := by decide +kernel
theorem d_Mo_cancel_0 : decode b_Mo_cancel 0 = .ok (.aload_n 0, 1) := by decide +kernel
theorem d_Mo_cancel_1 : decode b_Mo_cancel 1 = .ok (.iload_n 1, 1) := by decide +kernel
theorem d_Mo_cancel_2 : decode b_Mo_cancel 2 = .ok (.iconst 0, 1) := by decide +kernel
theorem d_Mo_cancel_3 : decode b_Mo_cancel 3 = .ok (.aload_n 0, 1) := by decide +kernel
theorem d_Mo_cancel_4 : decode b_Mo_cancel 4 = .ok (.getfield 126, 3) := by decide +kernel
theorem d_Mo_cancel_7 : decode b_Mo_cancel 7 = .ok (.iconst 1, 1) := by decide +kernel
theorem d_Mo_cancel_8 : decode b_Mo_cancel 8 = .ok (.isub, 1) := by decide +kernel
theorem d_Mo_cancel_9 : decode b_Mo_cancel 9 = .ok (.invokestatic 63, 3) := by decide +kernel
theorem d_Mo_cancel_12 : decode b_Mo_cancel 12 = .ok (.ifCond .eq 7, 3) := by decide +kernel
theorem d_Mo_cancel_15 : decode b_Mo_cancel 15 = .ok (.iconst 0, 1) := by decide +kernel
theorem d_Mo_cancel_16 : decode b_Mo_cancel 16 = .ok (.goto 4, 3) := by decide +kernel
theorem d_Mo_cancel_19 : decode b_Mo_cancel 19 = .ok (.iconst 1, 1) := by decide +kernel
theorem d_Mo_cancel_20 : decode b_Mo_cancel 20 = .ok (.putfield 57, 3) := by decide +kernel
theorem d_Mo_cancel_23 : decode b_Mo_cancel 23 = .ok (.aload_n 0, 1) := by decide +kernel
theorem d_Mo_cancel_24 : decode b_Mo_cancel 24 = .ok (.getfield 57, 3) := by decide +kernel
theorem d_Mo_cancel_27 : decode b_Mo_cancel 27 = .ok (.ifCond .le 5, 3) := by decide +kernel
theorem d_Mo_cancel_30 : decode b_Mo_cancel 30 = .ok (.iconst 0, 1) := by decide +kernel
theorem d_Mo_cancel_31 : decode b_Mo_cancel 31 = .ok (.ireturn, 1) := by decide +kernel
theorem d_Mo_cancel_32 : decode b_Mo_cancel 32 = .ok (.aload_n 0, 1) := by decide +kernel
theorem d_Mo_cancel_33 : decode b_Mo_cancel 33 = .ok (.getfield 50, 3) := by decide +kernel
theorem d_Mo_cancel_36 : decode b_Mo_cancel 36 = .ok (.iload_n 1, 1) := by decide +kernel
theorem d_Mo_cancel_37 : decode b_Mo_cancel 37 = .ok (.baload, 1) := by decide +kernel
theorem d_Mo_cancel_38 : decode b_Mo_cancel 38 = .ok (.istore_n 2, 1) := by decide +kernel
theorem d_Mo_cancel_39 : decode b_Mo_cancel 39 = .ok (.aload_n 0, 1) := by decide +kernel
theorem d_Mo_cancel_40 : decode b_Mo_cancel 40 = .ok (.getfield 50, 3) := by decide +kernel
theorem d_Mo_cancel_43 : decode b_Mo_cancel 43 = .ok (.iload_n 1, 1) := by decide +kernel
theorem d_Mo_cancel_44 : decode b_Mo_cancel 44 = .ok (.iconst 0, 1) := by decide +kernel
theorem d_Mo_cancel_45 : decode b_Mo_cancel 45 = .ok (.bastore, 1) := by decide +kernel
theorem d_Mo_cancel_46 : decode b_Mo_cancel 46 = .ok (.iload_n 2, 1) := by decide +kernel
theorem d_Mo_cancel_47 : decode b_Mo_cancel 47 = .ok (.ireturn, 1) := by decide +kernel
theorem d_Mo_roomOf_0 : decode b_Mo_roomOf 0 = .ok (.aload_n 0, 1) := by decide +kernel
theorem d_Mo_roomOf_1 : decode b_Mo_roomOf 1 = .ok (.iload_n 1, 1) := by decide +kernel
theorem d_Mo_roomOf_2 : decode b_Mo_roomOf 2 = .ok (.iconst 0, 1) := by decide +kernel
theorem d_Mo_roomOf_3 : decode b_Mo_roomOf 3 = .ok (.aload_n 0, 1) := by decide +kernel
theorem d_Mo_roomOf_4 : decode b_Mo_roomOf 4 = .ok (.getfield 126, 3) := by decide +kernel
theorem d_Mo_roomOf_7 : decode b_Mo_roomOf 7 = .ok (.iconst 1, 1) := by decide +kernel
theorem d_Mo_roomOf_8 : decode b_Mo_roomOf 8 = .ok (.isub, 1) := by decide +kernel
theorem d_Mo_roomOf_9 : decode b_Mo_roomOf 9 = .ok (.invokestatic 63, 3) := by decide +kernel
theorem d_Mo_roomOf_12 : decode b_Mo_roomOf 12 = .ok (.ifCond .eq 7, 3) := by decide +kernel
theorem d_Mo_roomOf_15 : decode b_Mo_roomOf 15 = .ok (.iconst 0, 1) := by decide +kernel
theorem d_Mo_roomOf_16 : decode b_Mo_roomOf 16 = .ok (.goto 4, 3) := by decide +kernel
theorem d_Mo_roomOf_19 : decode b_Mo_roomOf 19 = .ok (.iconst 1, 1) := by decide +kernel
theorem d_Mo_roomOf_20 : decode b_Mo_roomOf 20 = .ok (.putfield 57, 3) := by decide +kernel
theorem d_Mo_roomOf_23 : decode b_Mo_roomOf 23 = .ok (.aload_n 0, 1) := by decide +kernel
theorem d_Mo_roomOf_24 : decode b_Mo_roomOf 24 = .ok (.getfield 57, 3) := by decide +kernel
theorem d_Mo_roomOf_27 : decode b_Mo_roomOf 27 = .ok (.ifCond .le 7, 3) := by decide +kernel
theorem d_Mo_roomOf_30 : decode b_Mo_roomOf 30 = .ok (.iconst 0, 1) := by decide +kernel
theorem d_Mo_roomOf_31 : decode b_Mo_roomOf 31 = .ok (.goto 9, 3) := by decide +kernel
theorem d_Mo_roomOf_34 : decode b_Mo_roomOf 34 = .ok (.aload_n 0, 1) := by decide +kernel
theorem d_Mo_roomOf_35 : decode b_Mo_roomOf 35 = .ok (.getfield 38, 3) := by decide +kernel
theorem d_Mo_roomOf_38 : decode b_Mo_roomOf 38 = .ok (.iload_n 1, 1) := by decide +kernel
theorem d_Mo_roomOf_39 : decode b_Mo_roomOf 39 = .ok (.iaload, 1) := by decide +kernel
theorem d_Mo_roomOf_40 : decode b_Mo_roomOf 40 = .ok (.ireturn, 1) := by decide +kernel
theorem d_Mo_inside_0 : decode b_Mo_inside 0 = .ok (.aload_n 0, 1) := by decide +kernel
theorem d_Mo_inside_1 : decode b_Mo_inside 1 = .ok (.aload_n 0, 1) := by decide +kernel
theorem d_Mo_inside_2 : decode b_Mo_inside 2 = .ok (.iload_n 1, 1) := by decide +kernel
theorem d_Mo_inside_3 : decode b_Mo_inside 3 = .ok (.invokevirtual 133, 3) := by decide +kernel
theorem d_Mo_inside_6 : decode b_Mo_inside 6 = .ok (.ifCond .eq 18, 3) := by decide +kernel
theorem d_Mo_inside_9 : decode b_Mo_inside 9 = .ok (.iload_n 2, 1) := by decide +kernel
theorem d_Mo_inside_10 : decode b_Mo_inside 10 = .ok (.iconst 0, 1) := by decide +kernel
theorem d_Mo_inside_11 : decode b_Mo_inside 11 = .ok (.sipush 10079, 3) := by decide +kernel
theorem d_Mo_inside_14 : decode b_Mo_inside 14 = .ok (.invokestatic 63, 3) := by decide +kernel
theorem d_Mo_inside_17 : decode b_Mo_inside 17 = .ok (.ifCond .eq 7, 3) := by decide +kernel
theorem d_Mo_inside_20 : decode b_Mo_inside 20 = .ok (.iconst 0, 1) := by decide +kernel
theorem d_Mo_inside_21 : decode b_Mo_inside 21 = .ok (.goto 4, 3) := by decide +kernel
theorem d_Mo_inside_24 : decode b_Mo_inside 24 = .ok (.iconst 1, 1) := by decide +kernel
theorem d_Mo_inside_25 : decode b_Mo_inside 25 = .ok (.putfield 57, 3) := by decide +kernel
theorem d_Mo_inside_28 : decode b_Mo_inside 28 = .ok (.aload_n 0, 1) := by decide +kernel
theorem d_Mo_inside_29 : decode b_Mo_inside 29 = .ok (.getfield 57, 3) := by decide +kernel
theorem d_Mo_inside_32 : decode b_Mo_inside 32 = .ok (.ifCond .le 7, 3) := by decide +kernel
theorem d_Mo_inside_35 : decode b_Mo_inside 35 = .ok (.iconst 0, 1) := by decide +kernel
theorem d_Mo_inside_36 : decode b_Mo_inside 36 = .ok (.goto 12, 3) := by decide +kernel
theorem d_Mo_inside_39 : decode b_Mo_inside 39 = .ok (.aload_n 0, 1) := by decide +kernel
theorem d_Mo_inside_40 : decode b_Mo_inside 40 = .ok (.iload_n 1, 1) := by decide +kernel
theorem d_Mo_inside_41 : decode b_Mo_inside 41 = .ok (.iload_n 2, 1) := by decide +kernel
theorem d_Mo_inside_42 : decode b_Mo_inside 42 = .ok (.iload_n 2, 1) := by decide +kernel
theorem d_Mo_inside_43 : decode b_Mo_inside 43 = .ok (.iconst 1, 1) := by decide +kernel
theorem d_Mo_inside_44 : decode b_Mo_inside 44 = .ok (.iadd, 1) := by decide +kernel
theorem d_Mo_inside_45 : decode b_Mo_inside 45 = .ok (.invokevirtual 129, 3) := by decide +kernel
theorem d_Mo_inside_48 : decode b_Mo_inside 48 = .ok (.ireturn, 1) := by decide +kernel
theorem d_Mo_gap_0 : decode b_Mo_gap 0 = .ok (.aload_n 0, 1) := by decide +kernel
theorem d_Mo_gap_1 : decode b_Mo_gap 1 = .ok (.aload_n 0, 1) := by decide +kernel
theorem d_Mo_gap_2 : decode b_Mo_gap 2 = .ok (.iload_n 1, 1) := by decide +kernel
theorem d_Mo_gap_3 : decode b_Mo_gap 3 = .ok (.invokevirtual 133, 3) := by decide +kernel
theorem d_Mo_gap_6 : decode b_Mo_gap 6 = .ok (.ifCond .eq 29, 3) := by decide +kernel
theorem d_Mo_gap_9 : decode b_Mo_gap 9 = .ok (.iload_n 2, 1) := by decide +kernel
theorem d_Mo_gap_10 : decode b_Mo_gap 10 = .ok (.iconst 0, 1) := by decide +kernel
theorem d_Mo_gap_11 : decode b_Mo_gap 11 = .ok (.sipush 10079, 3) := by decide +kernel
theorem d_Mo_gap_14 : decode b_Mo_gap 14 = .ok (.invokestatic 63, 3) := by decide +kernel
theorem d_Mo_gap_17 : decode b_Mo_gap 17 = .ok (.ifCond .eq 18, 3) := by decide +kernel
theorem d_Mo_gap_20 : decode b_Mo_gap 20 = .ok (.iload_n 3, 1) := by decide +kernel
theorem d_Mo_gap_21 : decode b_Mo_gap 21 = .ok (.iconst 1, 1) := by decide +kernel
theorem d_Mo_gap_22 : decode b_Mo_gap 22 = .ok (.sipush 10080, 3) := by decide +kernel
theorem d_Mo_gap_25 : decode b_Mo_gap 25 = .ok (.invokestatic 63, 3) := by decide +kernel
theorem d_Mo_gap_28 : decode b_Mo_gap 28 = .ok (.ifCond .eq 7, 3) := by decide +kernel
theorem d_Mo_gap_31 : decode b_Mo_gap 31 = .ok (.iconst 0, 1) := by decide +kernel
theorem d_Mo_gap_32 : decode b_Mo_gap 32 = .ok (.goto 4, 3) := by decide +kernel
theorem d_Mo_gap_35 : decode b_Mo_gap 35 = .ok (.iconst 1, 1) := by decide +kernel
theorem d_Mo_gap_36 : decode b_Mo_gap 36 = .ok (.putfield 57, 3) := by decide +kernel
theorem d_Mo_gap_39 : decode b_Mo_gap 39 = .ok (.aload_n 0, 1) := by decide +kernel
theorem d_Mo_gap_40 : decode b_Mo_gap 40 = .ok (.getfield 57, 3) := by decide +kernel
theorem d_Mo_gap_43 : decode b_Mo_gap 43 = .ok (.ifCond .le 5, 3) := by decide +kernel
theorem d_Mo_gap_46 : decode b_Mo_gap 46 = .ok (.iconst 0, 1) := by decide +kernel
theorem d_Mo_gap_47 : decode b_Mo_gap 47 = .ok (.ireturn, 1) := by decide +kernel
theorem d_Mo_gap_48 : decode b_Mo_gap 48 = .ok (.iload_n 2, 1) := by decide +kernel
theorem d_Mo_gap_49 : decode b_Mo_gap 49 = .ok (.istore 4, 2) := by decide +kernel
theorem d_Mo_gap_51 : decode b_Mo_gap 51 = .ok (.iload 4, 2) := by decide +kernel
theorem d_Mo_gap_53 : decode b_Mo_gap 53 = .ok (.iload_n 3, 1) := by decide +kernel
theorem d_Mo_gap_54 : decode b_Mo_gap 54 = .ok (.iadd, 1) := by decide +kernel
theorem d_Mo_gap_55 : decode b_Mo_gap 55 = .ok (.sipush 10080, 3) := by decide +kernel
theorem d_Mo_gap_58 : decode b_Mo_gap 58 = .ok (.if_icmp .gt 37, 3) := by decide +kernel
theorem d_Mo_gap_61 : decode b_Mo_gap 61 = .ok (.aload_n 0, 1) := by decide +kernel
theorem d_Mo_gap_62 : decode b_Mo_gap 62 = .ok (.iload_n 1, 1) := by decide +kernel
theorem d_Mo_gap_63 : decode b_Mo_gap 63 = .ok (.iload 4, 2) := by decide +kernel
theorem d_Mo_gap_65 : decode b_Mo_gap 65 = .ok (.iload 4, 2) := by decide +kernel
theorem d_Mo_gap_67 : decode b_Mo_gap 67 = .ok (.iload_n 3, 1) := by decide +kernel
theorem d_Mo_gap_68 : decode b_Mo_gap 68 = .ok (.iadd, 1) := by decide +kernel
theorem d_Mo_gap_69 : decode b_Mo_gap 69 = .ok (.invokevirtual 129, 3) := by decide +kernel
theorem d_Mo_gap_72 : decode b_Mo_gap 72 = .ok (.istore 5, 2) := by decide +kernel
theorem d_Mo_gap_74 : decode b_Mo_gap 74 = .ok (.iload 5, 2) := by decide +kernel
theorem d_Mo_gap_76 : decode b_Mo_gap 76 = .ok (.iconst (-1), 1) := by decide +kernel
theorem d_Mo_gap_77 : decode b_Mo_gap 77 = .ok (.if_icmp .ne 6, 3) := by decide +kernel
theorem d_Mo_gap_80 : decode b_Mo_gap 80 = .ok (.iload 4, 2) := by decide +kernel
theorem d_Mo_gap_82 : decode b_Mo_gap 82 = .ok (.ireturn, 1) := by decide +kernel
theorem d_Mo_gap_83 : decode b_Mo_gap 83 = .ok (.aload_n 0, 1) := by decide +kernel
theorem d_Mo_gap_84 : decode b_Mo_gap 84 = .ok (.getfield 44, 3) := by decide +kernel
theorem d_Mo_gap_87 : decode b_Mo_gap 87 = .ok (.iload 5, 2) := by decide +kernel
theorem d_Mo_gap_89 : decode b_Mo_gap 89 = .ok (.iaload, 1) := by decide +kernel
theorem d_Mo_gap_90 : decode b_Mo_gap 90 = .ok (.istore 4, 2) := by decide +kernel
theorem d_Mo_gap_92 : decode b_Mo_gap 92 = .ok (.goto (-41), 3) := by decide +kernel
theorem d_Mo_gap_95 : decode b_Mo_gap 95 = .ok (.iconst (-1), 1) := by decide +kernel
theorem d_Mo_gap_96 : decode b_Mo_gap 96 = .ok (.ireturn, 1) := by decide +kernel
theorem d_Mo_waste_0 : decode b_Mo_waste 0 = .ok (.aload_n 0, 1) := by decide +kernel
theorem d_Mo_waste_1 : decode b_Mo_waste 1 = .ok (.iconst 0, 1) := by decide +kernel
theorem d_Mo_waste_2 : decode b_Mo_waste 2 = .ok (.putfield 57, 3) := by decide +kernel
theorem d_Mo_waste_5 : decode b_Mo_waste 5 = .ok (.iconst 0, 1) := by decide +kernel
theorem d_Mo_waste_6 : decode b_Mo_waste 6 = .ok (.istore_n 1, 1) := by decide +kernel
theorem d_Mo_waste_7 : decode b_Mo_waste 7 = .ok (.iconst 0, 1) := by decide +kernel
theorem d_Mo_waste_8 : decode b_Mo_waste 8 = .ok (.istore_n 2, 1) := by decide +kernel
theorem d_Mo_waste_9 : decode b_Mo_waste 9 = .ok (.iload_n 2, 1) := by decide +kernel
theorem d_Mo_waste_10 : decode b_Mo_waste 10 = .ok (.aload_n 0, 1) := by decide +kernel
theorem d_Mo_waste_11 : decode b_Mo_waste 11 = .ok (.getfield 126, 3) := by decide +kernel
theorem d_Mo_waste_14 : decode b_Mo_waste 14 = .ok (.if_icmp .ge 31, 3) := by decide +kernel
theorem d_Mo_waste_17 : decode b_Mo_waste 17 = .ok (.aload_n 0, 1) := by decide +kernel
theorem d_Mo_waste_18 : decode b_Mo_waste 18 = .ok (.getfield 50, 3) := by decide +kernel
theorem d_Mo_waste_21 : decode b_Mo_waste 21 = .ok (.iload_n 2, 1) := by decide +kernel
theorem d_Mo_waste_22 : decode b_Mo_waste 22 = .ok (.baload, 1) := by decide +kernel
theorem d_Mo_waste_23 : decode b_Mo_waste 23 = .ok (.ifCond .eq 14, 3) := by decide +kernel
theorem d_Mo_waste_26 : decode b_Mo_waste 26 = .ok (.iload_n 1, 1) := by decide +kernel
theorem d_Mo_waste_27 : decode b_Mo_waste 27 = .ok (.aload_n 0, 1) := by decide +kernel
theorem d_Mo_waste_28 : decode b_Mo_waste 28 = .ok (.getfield 47, 3) := by decide +kernel
theorem d_Mo_waste_31 : decode b_Mo_waste 31 = .ok (.iload_n 2, 1) := by decide +kernel
theorem d_Mo_waste_32 : decode b_Mo_waste 32 = .ok (.iaload, 1) := by decide +kernel
theorem d_Mo_waste_33 : decode b_Mo_waste 33 = .ok (.iadd, 1) := by decide +kernel
theorem d_Mo_waste_34 : decode b_Mo_waste 34 = .ok (.goto 4, 3) := by decide +kernel
theorem d_Mo_waste_37 : decode b_Mo_waste 37 = .ok (.iload_n 1, 1) := by decide +kernel
theorem d_Mo_waste_38 : decode b_Mo_waste 38 = .ok (.istore_n 1, 1) := by decide +kernel
theorem d_Mo_waste_39 : decode b_Mo_waste 39 = .ok (.iinc 2 1, 3) := by decide +kernel
theorem d_Mo_waste_42 : decode b_Mo_waste 42 = .ok (.goto (-33), 3) := by decide +kernel
theorem d_Mo_waste_45 : decode b_Mo_waste 45 = .ok (.iload_n 1, 1) := by decide +kernel
theorem d_Mo_waste_46 : decode b_Mo_waste 46 = .ok (.ireturn, 1) := by decide +kernel
end
section
def pe_wm (S : ds_S) (i : Nat) (x : Int32) : Int32 := if S.1 12 i 0 = -1 ∨ S.1 12 i 0 = x then 0 else 1
def pe_cost (S : ds_S) (i d : Nat) : Int64 := ((if pe_wm S i (nI d) = 0 then (1000 - S.1 10 i d).toInt64 * 17592186044416 else (1000 - S.1 10 i d).toInt64 * 17592186044416 + 1099511627776) : Int64) + (nI d).toInt64 <<< ((4 * (9 - nI i)).toInt64 &&& 63)
set_option maxHeartbeats 4000000 in
set_option maxRecDepth 100000 in
theorem c_Pe_wouldMoveTo (l : Launch) (D : va_G) (ad : Nat → Nat → Nat) (cA : Nat → ClassId) (nb : Nat) (S : ds_S) (i : Nat) (x : Int32) (hi : i < 10) : Ct_i l y_Pe_wouldMoveTo b_Pe_wouldMoveTo 2 (some .boolean) ({ frames := 0, cells := 0, slots := 0, locals := 0 } : Room) 0 0 D (ds_ty cA) (ds_A ad nb) [.ref (ad 10 i), .int x] (ds_P D ad cA nb S) (fun (r : Int32) (u : ds_S) => S = u ∧ r = pe_wm S i x) (ds_P D ad cA nb) := by
  intro sz
  refine ct_of (by decide) (Nat.le_of_ble_eq_true rfl) ?_
  intro p e s m args below meth c hsz C hr hlk hnm hK
  refine aw_lv (lv' := [(0, .ref (ad 10 i)), (1, .int x)]) [0, 1] rfl ?_
  refine aw_aload_n C d_Pe_wouldMoveTo_0 rfl (j := 0) rfl ?_
  refine gt_Pe_Pe_oldDesk C hK hi d_Pe_wouldMoveTo_1 ?_
  refine aw_iconst (v := (-1)) C d_Pe_wouldMoveTo_4 (by decide) ?_
  refine aw_icmp_eq (tgt := 20) C d_Pe_wouldMoveTo_5 (by decide) (fun c_5 => ?_) (fun c_5 => ?_)
  · refine aw_iconst (v := 0) C d_Pe_wouldMoveTo_20 (by decide) ?_
    exact aw_zret C hr hlk rfl S ⟨rfl, by unfold pe_wm; rw [if_pos (Or.inl c_5)]⟩ (fun H h => h) d_Pe_wouldMoveTo_21
  · refine aw_aload_n C d_Pe_wouldMoveTo_8 rfl (j := 0) rfl ?_
    refine gt_Pe_Pe_oldDesk C hK hi d_Pe_wouldMoveTo_9 ?_
    refine aw_iload_n C d_Pe_wouldMoveTo_12 rfl (j := 1) rfl ?_
    refine aw_icmp_eq (tgt := 20) C d_Pe_wouldMoveTo_13 (by decide) (fun c_13 => ?_) (fun c_13 => ?_)
    · refine aw_iconst (v := 0) C d_Pe_wouldMoveTo_20 (by decide) ?_
      exact aw_zret C hr hlk rfl S ⟨rfl, by unfold pe_wm; rw [if_pos (Or.inr c_13)]⟩ (fun H h => h) d_Pe_wouldMoveTo_21
    · refine aw_iconst (v := 1) C d_Pe_wouldMoveTo_16 (by decide) ?_
      refine aw_goto (tgt := 21) C d_Pe_wouldMoveTo_17 (by decide) ?_
      exact aw_zret C hr hlk rfl S ⟨rfl, by unfold pe_wm; rw [if_neg (fun h => h.elim c_5 c_13)]⟩ (fun H h => h) d_Pe_wouldMoveTo_21
set_option maxHeartbeats 4000000 in
set_option maxRecDepth 100000 in
theorem c_Pe_costAt (l : Launch) (D : va_G) (ad : Nat → Nat → Nat) (cA : Nat → ClassId) (nb : Nat) (S : ds_S) (i d : Nat) (hi : i < 10) (hd : d < 14) : Ct_l l y_Pe_costAt b_Pe_costAt 4 (some .long) ({ frames := 1, cells := 0, slots := 0, locals := 21 } : Room) 0 0 D (ds_ty cA) (ds_A ad nb) [.ref (ad 10 i), .int (nI d)] (ds_P D ad cA nb S) (fun (r : Int64) (u : ds_S) => S = u ∧ r = pe_cost S i d) (ds_P D ad cA nb) := by
  intro sz
  refine ct_of (by decide) (Nat.le_of_ble_eq_true rfl) ?_
  intro p e s m args below meth c hsz C hr hlk hnm hK
  refine aw_lv (lv' := [(0, .ref (ad 10 i)), (1, .int (nI d))]) [0, 1] rfl ?_
  refine aw_sipush (v := 1000) C d_Pe_costAt_0 (by decide) ?_
  refine aw_aload_n C d_Pe_costAt_3 rfl (j := 0) rfl ?_
  refine gt_Pe_Pe_wishes C hK hi d_Pe_costAt_4 ?_
  refine aw_iload_n C d_Pe_costAt_7 rfl (j := 1) rfl ?_
  refine al_11 C hK hi d rfl hd d_Pe_costAt_8 ?_
  refine aw_isub C d_Pe_costAt_9 ?_
  refine aw_topi (fun z_9 hz_9 => ?_)
  refine aw_i2l C d_Pe_costAt_10 rfl ?_
  refine aw_topl (fun z_10 hz_10 => ?_)
  refine aw_ldc2 C kl_Pe_17592186044416 d_Pe_costAt_11 ?_
  refine aw_lmul C d_Pe_costAt_14 ?_
  refine aw_topl (fun z_14 hz_14 => ?_)
  refine aw_lstore_n (i := 2) (lv' := [(2, .long z_14), (0, .ref (ad 10 i)), (1, .int (nI d))]) C d_Pe_costAt_15 rfl (by decide) rfl ?_
  refine aw_aload_n C d_Pe_costAt_16 rfl (j := 1) rfl ?_
  refine aw_iload_n C d_Pe_costAt_17 rfl (j := 2) rfl ?_
  refine aw_callVi (P9 := fun r u => ds_P D ad cA nb u) [.int (nI d)] C hK (c_Pe_wouldMoveTo l D ad cA nb S i (nI d) hi) (cw_Pe_Pe_wouldMoveTo C.2.2.2.2 rfl rfl (by decide)) rfl (fun H h => aw_recv hK rfl (h 10 i hi)) (fun H h => h) (fun q h => Or.inl h) (fun q h => Or.inr (by rw [← hsz]; exact h)) rfl (by decide) d_Pe_costAt_18 (by decide) (fun H H1 r u _ _ hB _ _ => hB) ?_
  rintro r u ⟨rfl, rfl⟩
  refine aw_if_eq (tgt := 30) C d_Pe_costAt_21 (by decide) (fun c_21 => ?_) (fun c_21 => ?_)
  · refine aw_lload_n C d_Pe_costAt_30 rfl (j := 0) rfl ?_
    refine aw_iload_n C d_Pe_costAt_31 rfl (j := 2) rfl ?_
    refine aw_i2l C d_Pe_costAt_32 rfl ?_
    refine aw_topl (fun z_32 hz_32 => ?_)
    refine aw_iconst (v := 4) C d_Pe_costAt_33 (by decide) ?_
    refine aw_bipush (v := 9) C d_Pe_costAt_34 (by decide) ?_
    refine aw_aload_n C d_Pe_costAt_36 rfl (j := 1) rfl ?_
    refine gt_Pe_Pe_number C hK hi d_Pe_costAt_37 ?_
    refine aw_isub C d_Pe_costAt_40 ?_
    refine aw_topi (fun z_40 hz_40 => ?_)
    refine aw_imul C d_Pe_costAt_41 ?_
    refine aw_topi (fun z_41 hz_41 => ?_)
    refine aw_lshl C d_Pe_costAt_42 rfl ?_
    refine aw_topl (fun z_42 hz_42 => ?_)
    refine aw_ladd C d_Pe_costAt_43 ?_
    refine aw_topl (fun z_43 hz_43 => ?_)
    exact aw_lret C hr hlk S ⟨rfl, by unfold pe_cost; rw [if_pos c_21, hz_43, hz_42, hz_41, hz_40, hz_32, hz_14, hz_10, hz_9]⟩ (fun H h => h) d_Pe_costAt_44
  · refine aw_lload_n C d_Pe_costAt_24 rfl (j := 0) rfl ?_
    refine aw_ldc2 C kl_Pe_1099511627776 d_Pe_costAt_25 ?_
    refine aw_ladd C d_Pe_costAt_28 ?_
    refine aw_topl (fun z_28 hz_28 => ?_)
    refine aw_lstore_n (i := 2) (lv' := [(2, .long z_28), (0, .ref (ad 10 i)), (1, .int (nI d))]) C d_Pe_costAt_29 rfl (by decide) rfl ?_
    refine aw_lload_n C d_Pe_costAt_30 rfl (j := 0) rfl ?_
    refine aw_iload_n C d_Pe_costAt_31 rfl (j := 2) rfl ?_
    refine aw_i2l C d_Pe_costAt_32 rfl ?_
    refine aw_topl (fun z_32 hz_32 => ?_)
    refine aw_iconst (v := 4) C d_Pe_costAt_33 (by decide) ?_
    refine aw_bipush (v := 9) C d_Pe_costAt_34 (by decide) ?_
    refine aw_aload_n C d_Pe_costAt_36 rfl (j := 1) rfl ?_
    refine gt_Pe_Pe_number C hK hi d_Pe_costAt_37 ?_
    refine aw_isub C d_Pe_costAt_40 ?_
    refine aw_topi (fun z_40 hz_40 => ?_)
    refine aw_imul C d_Pe_costAt_41 ?_
    refine aw_topi (fun z_41 hz_41 => ?_)
    refine aw_lshl C d_Pe_costAt_42 rfl ?_
    refine aw_topl (fun z_42 hz_42 => ?_)
    refine aw_ladd C d_Pe_costAt_43 ?_
    refine aw_topl (fun z_43 hz_43 => ?_)
    exact aw_lret C hr hlk S ⟨rfl, by unfold pe_cost; rw [if_neg c_21, hz_43, hz_42, hz_41, hz_40, hz_32, hz_28, hz_14, hz_10, hz_9]⟩ (fun H h => h) d_Pe_costAt_44
end
section
section MM
variable {p : Program} {l : Launch} {e : Env} {R : Room} {s : State} {m : MethodId} {args : Array Value} {below : List Frame} {meth : Method} {c : Code} {cc : ByteArray} {nL cells slots : Nat} {Q : State → Prop} {P : Heap → Prop} {A : Nat → Prop} {pc : Nat} {lv : List (Nat × Value)} {st : List Value}
theorem aw_mmin (C : CallFix p m c cc nL s args tb_G R_Ma) (hfr : 1 ≤ R.frames) (hlo : (st.map fun v => v.category).sum + 13 ≤ R.locals) (hc : cells ≤ R.cells) (hs : slots ≤ R.slots) {x y : Int32} (hd : decode cc pc = .ok (.invokestatic 43, 3)) (kk : AW p l e R s m args below meth c nL cells slots Q P A (pc + 3) lv (.int (if y < x then y else x) :: st)) : AW p l e R s m args below meth c nL cells slots Q P A pc lv (.int y :: .int x :: st) := fun H locs ls hP hS hl =>
  va_mmin C.1 C.2.1 (C.2.2.1.trans hl.1.symm) C.2.2.2.1 (C.2.2.2.2 _ ml_Ma_Mt_min) (C.2.2.2.2 _ sm_Mt_min) (C.2.2.2.2 _ ii_Mt) (C.2.2.2.2 _ cd_Mt_min) hfr hlo hc hs hd (kk H locs ls hP hS hl)
end MM
/-! what each method of the matcher does, as functions -/
def cs_F (S : ds_S) : Nat → ds_S
  | 0 => S
  | k + 1 => ds_wJ (ds_wR (cs_F S k) 0 k none) 1 k 0
theorem cs_1 (S : ds_S) : ∀ k, (cs_F S k).1 = S.1
  | 0 => rfl
  | k + 1 => cs_1 S k
def ss_F (S : ds_S) : Nat → ds_S
  | 0 => S
  | k + 1 => ds_wI (ds_wR (ds_wJ (ss_F S k) 2 k 4611686018427387904) 1 k none) 15 k 0 0
theorem ss_6 (S : ds_S) : ∀ k, (ss_F S k).1 6 0 0 = S.1 6 0 0
  | 0 => rfl
  | k + 1 => ss_6 S k
def lf_z (S : ds_S) (x k : Nat) : Int64 := pe_cost S x k - S.2.1 0 x - S.2.1 1 k
def lf_step (S : ds_S) (x : Nat) (fr : Option Nat) (k : Nat) : ds_S := if S.1 15 k 0 = 0 then (if S.1 11 x k = 0 then (if lf_z S x k < S.2.1 2 k then ds_wR (ds_wJ S 2 k (lf_z S x k)) 1 k fr else S) else S) else S
def lf_F (S : ds_S) (x : Nat) (fr : Option Nat) : Nat → ds_S
  | 0 => S
  | k + 1 => lf_step (lf_F S x fr k) x fr k
theorem lf_1 (S : ds_S) (x : Nat) (fr : Option Nat) : ∀ k, (lf_F S x fr k).1 = S.1
  | 0 => rfl
  | k + 1 => by
    show (lf_step (lf_F S x fr k) x fr k).1 = S.1
    unfold lf_step
    have := lf_1 S x fr k
    split
    · split
      · split
        · exact this
        · exact this
      · exact this
    · exact this
def ns_F (S : ds_S) : Nat → Option Nat × Int64
  | 0 => (none, 4611686018427387904)
  | k + 1 => if S.1 15 k 0 = 0 then (if S.2.1 2 k < (ns_F S k).2 then (some k, S.2.1 2 k) else ns_F S k) else ns_F S k
theorem ns_lt (S : ds_S) : ∀ k d, (ns_F S k).1 = some d → d < k
  | 0, d, h => by cases h
  | k + 1, d, h => by
    unfold ns_F at h
    split at h
    · split at h
      · cases h; omega
      · have := ns_lt S k d h; omega
    · have := ns_lt S k d h; omega
def sp_step (S : ds_S) (by' : Int64) (k : Nat) : ds_S := if S.1 15 k 0 = 0 then (if S.2.1 2 k < 4611686018427387904 then ds_wJ S 2 k (S.2.1 2 k - by') else S) else (match S.2.2 0 k with
  | none => ds_wJ S 1 k (S.2.1 1 k - by')
  | some p => ds_wJ (ds_wJ S 1 k (S.2.1 1 k - by')) 0 p ((ds_wJ S 1 k (S.2.1 1 k - by')).2.1 0 p + by'))
def sp_F (S : ds_S) (by' : Int64) : Nat → ds_S
  | 0 => S
  | k + 1 => sp_step (sp_F S by' k) by' k
theorem sp_1 (S : ds_S) (by' : Int64) : ∀ k, (sp_F S by' k).1 = S.1
  | 0 => rfl
  | k + 1 => by
    show (sp_step (sp_F S by' k) by' k).1 = S.1
    unfold sp_step
    have := sp_1 S by' k
    split
    · split
      · exact this
      · exact this
    · split
      · exact this
      · exact this
theorem sp_2 (S : ds_S) (by' : Int64) : ∀ k, (sp_F S by' k).2.2 = S.2.2
  | 0 => rfl
  | k + 1 => by
    show (sp_step (sp_F S by' k) by' k).2.2 = S.2.2
    unfold sp_step
    have := sp_2 S by' k
    split
    · split
      · exact this
      · exact this
    · split
      · exact this
      · exact this
def tp_F (S : ds_S) : Nat → ds_S
  | 0 => S
  | k + 1 => match (tp_F S k).2.2 0 k with
    | none => tp_F S k
    | some p => ds_wI (tp_F S k) 13 p 0 (nI k)
theorem tp_2 (S : ds_S) : ∀ k, (tp_F S k).2 = S.2
  | 0 => rfl
  | k + 1 => by
    unfold tp_F
    split
    · exact tp_2 S k
    · exact tp_2 S k
theorem tp_6 (S : ds_S) : ∀ k, (tp_F S k).1 6 0 0 = S.1 6 0 0
  | 0 => rfl
  | k + 1 => by
    unfold tp_F
    split
    · exact tp_6 S k
    · exact tp_6 S k
def wo_F (S : ds_S) : Nat → Int32
  | 0 => 0
  | k + 1 => match S.2.2 0 k with
    | none => wo_F S k
    | some p => wo_F S k + S.1 10 p k
/-- sitters are persons, what is before a spot is a spot -/
def ma_V (S : ds_S) : Prop := (∀ d p, S.2.2 0 d = some p → p < 10) ∧ (∀ d d', S.2.2 1 d = some d' → d' < 14)
set_option maxHeartbeats 4000000 in
set_option maxRecDepth 100000 in
theorem c_Ma_clearSpots (l : Launch) (D : va_G) (ad : Nat → Nat → Nat) (cA : Nat → ClassId) (nb : Nat) (S : ds_S) (N : Nat) (hI : ds_I ad nb) (hN : N ≤ 14) : Ct_v l y_Ma_clearSpots b_Ma_clearSpots 3 none ({ frames := 1, cells := 0, slots := 0, locals := 21 } : Room) 0 0 D (ds_ty cA) (ds_A ad nb) [.ref (ad 2 0), .int (nI N)] (ds_P D ad cA nb S) (fun (u : ds_S) => u = cs_F (ds_wI S 6 0 0 (nI N)) N) (ds_P D ad cA nb) := by
  intro sz
  refine ct_of (by decide) (Nat.le_of_ble_eq_true rfl) ?_
  intro p e s m args below meth c hsz C hr hlk hnm hK
  have lp : ∀ (n k : Nat) , k ≤ N → N + 1 ≤ k + n → AW p l e ({ frames := 1, cells := 0, slots := 0, locals := 21 } : Room) s m args below meth c 3 0 0 (MQ below (va_Qv (fun (u : ds_S) => u = cs_F (ds_wI S 6 0 0 (nI N)) N) (fun u t => (ds_P D ad cA nb) u t.heap) (ct_A (ds_A ad nb) sz)) args s 0 0 (ct_A (ds_A ad nb) sz)) (ds_P D ad cA nb (cs_F (ds_wI S 6 0 0 (nI N)) k)) (ct_A (ds_A ad nb) sz) 12 [(0, .ref (ad 2 0)), (1, .int (nI N)), (2, .int (nI k))] [] := by
    intro n
    induction n with
    | zero => intro k h1 h2; exact absurd h2 (by omega)
    | succ n ih =>
      intro k hk hn
      refine aw_iload_n C d_Ma_clearSpots_12 rfl (j := 2) rfl ?_
      refine aw_aload_n C d_Ma_clearSpots_13 rfl (j := 0) rfl ?_
      refine gt_Ma_Ma_spotCount C hK  d_Ma_clearSpots_14 ?_
      refine aw_icmp_ge (tgt := 46) C d_Ma_clearSpots_17 (by decide) (fun c_17 => ?_) (fun c_17 => ?_)
      · have hkN : k = N := by rw [cs_1, show (ds_wI S 6 0 0 (nI N)).1 6 0 0 = nI N from rfl] at c_17; have := (nI_leI (by omega) (by omega)).mp c_17; omega
        subst hkN
        exact aw_vret C hr hlk _ rfl (fun H h => h) d_Ma_clearSpots_46
      · have hlt : k < N := by rw [cs_1, show (ds_wI S 6 0 0 (nI N)).1 6 0 0 = nI N from rfl] at c_17; exact Nat.lt_of_not_le (fun h => c_17 (nI_le h (by omega)))
        refine aw_aload_n C d_Ma_clearSpots_20 rfl (j := 0) rfl ?_
        refine gt_Ma_Ma_spots C hK  d_Ma_clearSpots_21 ?_
        refine aw_iload_n C d_Ma_clearSpots_24 rfl (j := 2) rfl ?_
        refine al_3 C hK  k rfl (show k < 14 by omega) d_Ma_clearSpots_25 ?_
        refine aw_null C d_Ma_clearSpots_26 ?_
        refine pt_Ma_Sp_sitter (x := none) C hK hI (show k < 14 by omega)  d_Ma_clearSpots_27 ?_
        refine aw_aload_n C d_Ma_clearSpots_30 rfl (j := 0) rfl ?_
        refine gt_Ma_Ma_spots C hK  d_Ma_clearSpots_31 ?_
        refine aw_iload_n C d_Ma_clearSpots_34 rfl (j := 2) rfl ?_
        refine al_3 C hK  k rfl (show k < 14 by omega) d_Ma_clearSpots_35 ?_
        refine aw_lconst (v := 0) C d_Ma_clearSpots_36 (by decide) ?_
        refine pt_Ma_Sp_price (x := 0) C hK hI (show k < 14 by omega)  d_Ma_clearSpots_37 ?_
        refine aw_iinc (i := 2) (v := (nI (k + 1))) (lv' := [(2, .int (nI (k + 1))), (0, .ref (ad 2 0)), (1, .int (nI N))]) C d_Ma_clearSpots_40 (j := 2) rfl (nI_1 k) (by decide) rfl ?_
        refine aw_goto (tgt := 12) C d_Ma_clearSpots_43 (by decide) ?_
        exact aw_lv [1, 2, 0] rfl (ih (k + 1) (by omega) (by omega))
  refine aw_lv (lv' := [(0, .ref (ad 2 0)), (1, .int (nI N))]) [0, 1] rfl ?_
  refine aw_aload_n C d_Ma_clearSpots_0 rfl (j := 0) rfl ?_
  refine aw_iload_n C d_Ma_clearSpots_1 rfl (j := 1) rfl ?_
  refine aw_bipush (v := 14) C d_Ma_clearSpots_2 (by decide) ?_
  refine aw_mmin C (by decide) (Nat.le_of_ble_eq_true rfl) (by decide) (by decide) d_Ma_clearSpots_4 ?_
  rw [show (if (14 : Int32) < nI N then (14 : Int32) else nI N) = nI N from if_neg (by rw [show (14 : Int32) = nI 14 from rfl]; exact nI_nlt hN (by omega))]
  refine pt_Ma_Ma_spotCount (x := (nI N)) C hK hI   d_Ma_clearSpots_7 ?_
  refine aw_iconst (v := 0) C d_Ma_clearSpots_10 (by decide) ?_
  refine aw_istore_n (i := 2) (lv' := [(2, .int 0), (0, .ref (ad 2 0)), (1, .int (nI N))]) C d_Ma_clearSpots_11 rfl (by decide) rfl ?_
  exact aw_lv [1, 2, 0] rfl (lp (N + 1) 0 (by omega) (by omega))
set_option maxHeartbeats 4000000 in
set_option maxRecDepth 100000 in
theorem c_Ma_startSearch (l : Launch) (D : va_G) (ad : Nat → Nat → Nat) (cA : Nat → ClassId) (nb : Nat) (S : ds_S) (N : Nat) (hI : ds_I ad nb) (hN : N ≤ 14) (h6 : S.1 6 0 0 = nI N) : Ct_v l y_Ma_startSearch b_Ma_startSearch 2 none ({ frames := 0, cells := 0, slots := 0, locals := 0 } : Room) 0 0 D (ds_ty cA) (ds_A ad nb) [.ref (ad 2 0)] (ds_P D ad cA nb S) (fun (u : ds_S) => u = ss_F S N) (ds_P D ad cA nb) := by
  intro sz
  refine ct_of (by decide) (Nat.le_of_ble_eq_true rfl) ?_
  intro p e s m args below meth c hsz C hr hlk hnm hK
  have lp : ∀ (n k : Nat) , k ≤ N → N + 1 ≤ k + n → AW p l e ({ frames := 0, cells := 0, slots := 0, locals := 0 } : Room) s m args below meth c 2 0 0 (MQ below (va_Qv (fun (u : ds_S) => u = ss_F S N) (fun u t => (ds_P D ad cA nb) u t.heap) (ct_A (ds_A ad nb) sz)) args s 0 0 (ct_A (ds_A ad nb) sz)) (ds_P D ad cA nb (ss_F S k)) (ct_A (ds_A ad nb) sz) 2 [(0, .ref (ad 2 0)), (1, .int (nI k))] [] := by
    intro n
    induction n with
    | zero => intro k h1 h2; exact absurd h2 (by omega)
    | succ n ih =>
      intro k hk hn
      refine aw_iload_n C d_Ma_startSearch_2 rfl (j := 1) rfl ?_
      refine aw_aload_n C d_Ma_startSearch_3 rfl (j := 0) rfl ?_
      refine gt_Ma_Ma_spotCount C hK  d_Ma_startSearch_4 ?_
      refine aw_icmp_ge (tgt := 48) C d_Ma_startSearch_7 (by decide) (fun c_7 => ?_) (fun c_7 => ?_)
      · have hkN : k = N := by rw [ss_6, h6] at c_7; have := (nI_leI (by omega) (by omega)).mp c_7; omega
        subst hkN
        exact aw_vret C hr hlk _ rfl (fun H h => h) d_Ma_startSearch_48
      · have hlt : k < N := by rw [ss_6, h6] at c_7; exact Nat.lt_of_not_le (fun h => c_7 (nI_le h (by omega)))
        refine aw_aload_n C d_Ma_startSearch_10 rfl (j := 0) rfl ?_
        refine gt_Ma_Ma_spots C hK  d_Ma_startSearch_11 ?_
        refine aw_iload_n C d_Ma_startSearch_14 rfl (j := 1) rfl ?_
        refine al_3 C hK  k rfl (show k < 14 by omega) d_Ma_startSearch_15 ?_
        refine aw_ldc2 C kl_Ma_4611686018427387904 d_Ma_startSearch_16 ?_
        refine pt_Ma_Sp_distance (x := 4611686018427387904) C hK hI (show k < 14 by omega)  d_Ma_startSearch_19 ?_
        refine aw_aload_n C d_Ma_startSearch_22 rfl (j := 0) rfl ?_
        refine gt_Ma_Ma_spots C hK  d_Ma_startSearch_23 ?_
        refine aw_iload_n C d_Ma_startSearch_26 rfl (j := 1) rfl ?_
        refine al_3 C hK  k rfl (show k < 14 by omega) d_Ma_startSearch_27 ?_
        refine aw_null C d_Ma_startSearch_28 ?_
        refine pt_Ma_Sp_before (x := none) C hK hI (show k < 14 by omega)  d_Ma_startSearch_29 ?_
        refine aw_aload_n C d_Ma_startSearch_32 rfl (j := 0) rfl ?_
        refine gt_Ma_Ma_spots C hK  d_Ma_startSearch_33 ?_
        refine aw_iload_n C d_Ma_startSearch_36 rfl (j := 1) rfl ?_
        refine al_3 C hK  k rfl (show k < 14 by omega) d_Ma_startSearch_37 ?_
        refine aw_iconst (v := 0) C d_Ma_startSearch_38 (by decide) ?_
        refine pt_Ma_Sp_reached (x := 0) C hK hI (show k < 14 by omega) (Or.inl rfl) d_Ma_startSearch_39 ?_
        refine aw_iinc (i := 1) (v := (nI (k + 1))) (lv' := [(1, .int (nI (k + 1))), (0, .ref (ad 2 0))]) C d_Ma_startSearch_42 (j := 1) rfl (nI_1 k) (by decide) rfl ?_
        refine aw_goto (tgt := 2) C d_Ma_startSearch_45 (by decide) ?_
        exact aw_lv [1, 0] rfl (ih (k + 1) (by omega) (by omega))
  refine aw_lv (lv' := [(0, .ref (ad 2 0))]) [0] rfl ?_
  refine aw_iconst (v := 0) C d_Ma_startSearch_0 (by decide) ?_
  refine aw_istore_n (i := 1) (lv' := [(1, .int 0), (0, .ref (ad 2 0))]) C d_Ma_startSearch_1 rfl (by decide) rfl ?_
  exact aw_lv [1, 0] rfl (lp (N + 1) 0 (by omega) (by omega))
set_option maxHeartbeats 4000000 in
set_option maxRecDepth 100000 in
theorem c_Ma_lookFrom (l : Launch) (D : va_G) (ad : Nat → Nat → Nat) (cA : Nat → ClassId) (nb : Nat) (S : ds_S) (N x : Nat) (fr : Option Nat) (hI : ds_I ad nb) (hN : N ≤ 14) (h6 : S.1 6 0 0 = nI N) (hx : x < 10) : Ct_v l y_Ma_lookFrom b_Ma_lookFrom 7 none ({ frames := 2, cells := 0, slots := 0, locals := 44 } : Room) 0 0 D (ds_ty cA) (ds_A ad nb) [.ref (ad 2 0), .ref (ad 10 x), va_rf (fr.map (ad 13))] (ds_P D ad cA nb S) (fun (u : ds_S) => u = lf_F S x fr N) (ds_P D ad cA nb) := by
  intro sz
  refine ct_of (by decide) (by simp [lg_sl, va_rf_cat, ct_ref, ct_int, ct_long]) ?_
  intro p e s m args below meth c hsz C hr hlk hnm hK
  have lp : ∀ (n k : Nat) , k ≤ N → N + 1 ≤ k + n → AW p l e ({ frames := 2, cells := 0, slots := 0, locals := 44 } : Room) s m args below meth c 7 0 0 (MQ below (va_Qv (fun (u : ds_S) => u = lf_F S x fr N) (fun u t => (ds_P D ad cA nb) u t.heap) (ct_A (ds_A ad nb) sz)) args s 0 0 (ct_A (ds_A ad nb) sz)) (ds_P D ad cA nb (lf_F S x fr k)) (ct_A (ds_A ad nb) sz) 2 [(0, .ref (ad 2 0)), (1, .ref (ad 10 x)), (2, va_rf (fr.map (ad 13))), (3, .int (nI k))] [] := by
    intro n
    induction n with
    | zero => intro k h1 h2; exact absurd h2 (by omega)
    | succ n ih =>
      intro k hk hn
      refine aw_iload_n C d_Ma_lookFrom_2 rfl (j := 3) rfl ?_
      refine aw_aload_n C d_Ma_lookFrom_3 rfl (j := 0) rfl ?_
      refine gt_Ma_Ma_spotCount C hK  d_Ma_lookFrom_4 ?_
      refine aw_icmp_ge (tgt := 86) C d_Ma_lookFrom_7 (by decide) (fun c_7 => ?_) (fun c_7 => ?_)
      · have hkN : k = N := by rw [lf_1, h6] at c_7; have := (nI_leI (by omega) (by omega)).mp c_7; omega
        subst hkN
        exact aw_vret C hr hlk _ rfl (fun H h => h) d_Ma_lookFrom_86
      · have hlt : k < N := by rw [lf_1, h6] at c_7; exact Nat.lt_of_not_le (fun h => c_7 (nI_le h (by omega)))
        refine aw_aload_n C d_Ma_lookFrom_10 rfl (j := 0) rfl ?_
        refine gt_Ma_Ma_spots C hK  d_Ma_lookFrom_11 ?_
        refine aw_iload_n C d_Ma_lookFrom_14 rfl (j := 3) rfl ?_
        refine al_3 C hK  k rfl (show k < 14 by omega) d_Ma_lookFrom_15 ?_
        refine aw_astore (i := 4) (lv' := [(4, .ref (ad 13 k)), (0, .ref (ad 2 0)), (1, .ref (ad 10 x)), (2, va_rf (fr.map (ad 13))), (3, .int (nI k))]) C d_Ma_lookFrom_16 (by decide) rfl ?_
        refine aw_aload C d_Ma_lookFrom_18 (j := 0) rfl ?_
        refine gt_Ma_Sp_reached C hK (show k < 14 by omega) d_Ma_lookFrom_20 ?_
        refine aw_if_ne (tgt := 80) C d_Ma_lookFrom_23 (by decide) (fun c_23 => ?_) (fun c_23 => ?_)
        · refine aw_iinc (i := 3) (v := (nI (k + 1))) (lv' := [(3, .int (nI (k + 1))), (4, .ref (ad 13 k)), (0, .ref (ad 2 0)), (1, .ref (ad 10 x)), (2, va_rf (fr.map (ad 13)))]) C d_Ma_lookFrom_80 (j := 4) rfl (nI_1 k) (by decide) (by simp [va_rf_cat, ct_ref, ct_int, ct_long]) ?_
          refine aw_goto (tgt := 2) C d_Ma_lookFrom_83 (by decide) ?_
          have e9 : lf_F S x fr (k + 1) = lf_F S x fr k := by
            show lf_step (lf_F S x fr k) x fr k = _
            unfold lf_step
            rw [if_neg c_23]
          rw [← e9]
          exact aw_lv [2, 3, 4, 0] rfl (ih (k + 1) (by omega) (by omega))
        · refine aw_aload_n C d_Ma_lookFrom_26 rfl (j := 2) rfl ?_
          refine gt_Ma_Pe_barred C hK hx d_Ma_lookFrom_27 ?_
          refine aw_iload_n C d_Ma_lookFrom_30 rfl (j := 4) rfl ?_
          refine al_12 C hK hx k rfl (show k < 14 by omega) d_Ma_lookFrom_31 ?_
          refine aw_if_eq (tgt := 38) C d_Ma_lookFrom_32 (by decide) (fun c_32 => ?_) (fun c_32 => ?_)
          · refine aw_aload_n C d_Ma_lookFrom_38 rfl (j := 2) rfl ?_
            refine aw_iload_n C d_Ma_lookFrom_39 rfl (j := 4) rfl ?_
            refine aw_callVl (P9 := fun r u => ds_P D ad cA nb u) [.int (nI k)] C hK (c_Pe_costAt l D ad cA nb (lf_F S x fr k) x k hx (by omega)) (cw_Ma_Pe_costAt C.2.2.2.2 rfl rfl (by decide)) rfl (fun H h => aw_recv hK rfl (h 10 x hx)) (fun H h => h) (fun q h => Or.inl h) (fun q h => Or.inr (by rw [← hsz]; exact h)) rfl (Nat.le_of_ble_eq_true rfl) d_Ma_lookFrom_40 (by decide) (fun H H1 r u _ _ hB _ _ => hB) ?_
            rintro r u ⟨rfl, rfl⟩
            refine aw_aload_n C d_Ma_lookFrom_43 rfl (j := 2) rfl ?_
            refine gt_Ma_Pe_price C hK hx d_Ma_lookFrom_44 ?_
            refine aw_lsub C d_Ma_lookFrom_47 ?_
            refine aw_topl (fun z_47 hz_47 => ?_)
            refine aw_aload C d_Ma_lookFrom_48 (j := 0) rfl ?_
            refine gt_Ma_Sp_price C hK (show k < 14 by omega) d_Ma_lookFrom_50 ?_
            refine aw_lsub C d_Ma_lookFrom_53 ?_
            refine aw_topl (fun z_53 hz_53 => ?_)
            refine aw_lstore (i := 5) (lv' := [(5, .long z_53), (4, .ref (ad 13 k)), (0, .ref (ad 2 0)), (1, .ref (ad 10 x)), (2, va_rf (fr.map (ad 13))), (3, .int (nI k))]) C d_Ma_lookFrom_54 (by decide) rfl ?_
            refine aw_lload C d_Ma_lookFrom_56 (j := 0) rfl ?_
            refine aw_aload C d_Ma_lookFrom_58 (j := 1) rfl ?_
            refine gt_Ma_Sp_distance C hK (show k < 14 by omega) d_Ma_lookFrom_60 ?_
            refine aw_lcmp C d_Ma_lookFrom_63 ?_
            refine aw_topi (fun z_63 hz_63 => ?_)
            refine aw_if_ge (tgt := 80) C d_Ma_lookFrom_64 (by decide) (fun c_64 => ?_) (fun c_64 => ?_)
            · refine aw_iinc (i := 3) (v := (nI (k + 1))) (lv' := [(3, .int (nI (k + 1))), (5, .long z_53), (4, .ref (ad 13 k)), (0, .ref (ad 2 0)), (1, .ref (ad 10 x)), (2, va_rf (fr.map (ad 13)))]) C d_Ma_lookFrom_80 (j := 5) rfl (nI_1 k) (by decide) (by simp [va_rf_cat, ct_ref, ct_int, ct_long]) ?_
              refine aw_goto (tgt := 2) C d_Ma_lookFrom_83 (by decide) ?_
              have e9 : lf_F S x fr (k + 1) = lf_F S x fr k := by
                show lf_step (lf_F S x fr k) x fr k = _
                unfold lf_step
                rw [if_pos c_23, if_pos c_32, if_neg (fun h => by rw [hz_63] at c_64; have h9 := (lg_cmp_ge _ _).mp c_64; rw [hz_53, hz_47] at h9; unfold lf_z at h; exact absurd h (Int64.not_lt.mpr h9))]
              rw [← e9]
              exact aw_lv [3, 4, 5, 0] rfl (ih (k + 1) (by omega) (by omega))
            · refine aw_aload C d_Ma_lookFrom_67 (j := 1) rfl ?_
              refine aw_lload C d_Ma_lookFrom_69 (j := 0) rfl ?_
              refine pt_Ma_Sp_distance (x := z_53) C hK hI (show k < 14 by omega)  d_Ma_lookFrom_71 ?_
              refine aw_aload C d_Ma_lookFrom_74 (j := 1) rfl ?_
              refine aw_aloadq_n C d_Ma_lookFrom_76 rfl (j := 4) rfl ?_
              refine pt_Ma_Sp_before (x := fr) C hK hI (show k < 14 by omega)  d_Ma_lookFrom_77 ?_
              refine aw_iinc (i := 3) (v := (nI (k + 1))) (lv' := [(3, .int (nI (k + 1))), (5, .long z_53), (4, .ref (ad 13 k)), (0, .ref (ad 2 0)), (1, .ref (ad 10 x)), (2, va_rf (fr.map (ad 13)))]) C d_Ma_lookFrom_80 (j := 5) rfl (nI_1 k) (by decide) (by simp [va_rf_cat, ct_ref, ct_int, ct_long]) ?_
              refine aw_goto (tgt := 2) C d_Ma_lookFrom_83 (by decide) ?_
              have e9 : lf_F S x fr (k + 1) = ds_wR (ds_wJ (lf_F S x fr k) 2 k z_53) 1 k fr := by
                show lf_step (lf_F S x fr k) x fr k = _
                unfold lf_step
                rw [if_pos c_23, if_pos c_32, if_pos (by rw [hz_63] at c_64; have h9 := fun h => c_64 ((lg_cmp_ge _ _).mpr h); rw [hz_53, hz_47] at h9; unfold lf_z; exact Int64.not_le.mp h9), show lf_z (lf_F S x fr k) x k = z_53 by unfold lf_z; rw [hz_53, hz_47]]
              rw [← e9]
              exact aw_lv [3, 4, 5, 0] rfl (ih (k + 1) (by omega) (by omega))
          · refine aw_goto (tgt := 80) C d_Ma_lookFrom_35 (by decide) ?_
            refine aw_iinc (i := 3) (v := (nI (k + 1))) (lv' := [(3, .int (nI (k + 1))), (4, .ref (ad 13 k)), (0, .ref (ad 2 0)), (1, .ref (ad 10 x)), (2, va_rf (fr.map (ad 13)))]) C d_Ma_lookFrom_80 (j := 4) rfl (nI_1 k) (by decide) (by simp [va_rf_cat, ct_ref, ct_int, ct_long]) ?_
            refine aw_goto (tgt := 2) C d_Ma_lookFrom_83 (by decide) ?_
            have e9 : lf_F S x fr (k + 1) = lf_F S x fr k := by
              show lf_step (lf_F S x fr k) x fr k = _
              unfold lf_step
              rw [if_pos c_23, if_neg c_32]
            rw [← e9]
            exact aw_lv [2, 3, 4, 0] rfl (ih (k + 1) (by omega) (by omega))
  refine aw_lv (lv' := [(0, .ref (ad 2 0)), (1, .ref (ad 10 x)), (2, va_rf (fr.map (ad 13)))]) [0, 1, 2] rfl ?_
  refine aw_iconst (v := 0) C d_Ma_lookFrom_0 (by decide) ?_
  refine aw_istore_n (i := 3) (lv' := [(3, .int 0), (0, .ref (ad 2 0)), (1, .ref (ad 10 x)), (2, va_rf (fr.map (ad 13)))]) C d_Ma_lookFrom_1 rfl (by decide) (by simp [va_rf_cat, ct_ref, ct_int, ct_long]) ?_
  exact aw_lv [1, 2, 3, 0] rfl (lp (N + 1) 0 (by omega) (by omega))
end
section
set_option maxHeartbeats 4000000 in
set_option maxRecDepth 100000 in
theorem c_Ma_nearestSpot (l : Launch) (D : va_G) (ad : Nat → Nat → Nat) (cA : Nat → ClassId) (nb : Nat) (S : ds_S) (N : Nat) (hI : ds_I ad nb) (hN : N ≤ 14) (h6 : S.1 6 0 0 = nI N) : Ct_q l y_Ma_nearestSpot b_Ma_nearestSpot 5 (some (.object "DeskMoves$Spot")) ({ frames := 0, cells := 0, slots := 0, locals := 0 } : Room) 0 0 D (ds_ty cA) (ds_A ad nb) [.ref (ad 2 0)] (ds_P D ad cA nb S) (fun (r : Option Nat) (u : ds_S) => S = u ∧ r = (ns_F S N).1.map (ad 13)) (ds_P D ad cA nb) := by
  intro sz
  refine ct_of (by decide) (Nat.le_of_ble_eq_true rfl) ?_
  intro p e s m args below meth c hsz C hr hlk hnm hK
  have lp : ∀ (n k : Nat) , k ≤ N → N + 1 ≤ k + n → AW p l e ({ frames := 0, cells := 0, slots := 0, locals := 0 } : Room) s m args below meth c 5 0 0 (MQ below (va_Qq (fun (r : Option Nat) (u : ds_S) => S = u ∧ r = (ns_F S N).1.map (ad 13)) (fun u t => (ds_P D ad cA nb) u t.heap) (ct_A (ds_A ad nb) sz)) args s 0 0 (ct_A (ds_A ad nb) sz)) (ds_P D ad cA nb S) (ct_A (ds_A ad nb) sz) 9 [(0, .ref (ad 2 0)), (1, va_rf ((ns_F S k).1.map (ad 13))), (2, .long (ns_F S k).2), (4, .int (nI k))] [] := by
    intro n
    induction n with
    | zero => intro k h1 h2; exact absurd h2 (by omega)
    | succ n ih =>
      intro k hk hn
      refine aw_iload C d_Ma_nearestSpot_9 (j := 3) rfl ?_
      refine aw_aload_n C d_Ma_nearestSpot_11 rfl (j := 0) rfl ?_
      refine gt_Ma_Ma_spotCount C hK  d_Ma_nearestSpot_12 ?_
      refine aw_icmp_ge (tgt := 65) C d_Ma_nearestSpot_15 (by decide) (fun c_15 => ?_) (fun c_15 => ?_)
      · have hkN : k = N := by rw [h6] at c_15; have := (nI_leI (by omega) (by omega)).mp c_15; omega
        subst hkN
        refine aw_aloadq_n C d_Ma_nearestSpot_65 rfl (j := 1) rfl ?_
        exact aw_qret C hr hlk S ⟨rfl, rfl⟩ (fun H h => h) d_Ma_nearestSpot_66
      · have hlt : k < N := by rw [h6] at c_15; exact Nat.lt_of_not_le (fun h => c_15 (nI_le h (by omega)))
        refine aw_aload_n C d_Ma_nearestSpot_18 rfl (j := 0) rfl ?_
        refine gt_Ma_Ma_spots C hK  d_Ma_nearestSpot_19 ?_
        refine aw_iload C d_Ma_nearestSpot_22 (j := 3) rfl ?_
        refine al_3 C hK  k rfl (show k < 14 by omega) d_Ma_nearestSpot_24 ?_
        refine gt_Ma_Sp_reached C hK (show k < 14 by omega) d_Ma_nearestSpot_25 ?_
        refine aw_if_ne (tgt := 59) C d_Ma_nearestSpot_28 (by decide) (fun c_28 => ?_) (fun c_28 => ?_)
        · refine aw_iinc (i := 4) (v := (nI (k + 1))) (lv' := [(4, .int (nI (k + 1))), (0, .ref (ad 2 0)), (1, va_rf ((ns_F S k).1.map (ad 13))), (2, .long (ns_F S k).2)]) C d_Ma_nearestSpot_59 (j := 3) rfl (nI_1 k) (by decide) rfl ?_
          refine aw_goto (tgt := 9) C d_Ma_nearestSpot_62 (by decide) ?_
          have e9 : ns_F S (k + 1) = ns_F S k := by
            show (if S.1 15 k 0 = 0 then (if S.2.1 2 k < (ns_F S k).2 then (some k, S.2.1 2 k) else ns_F S k) else ns_F S k) = _
            rw [if_neg c_28]
          have h9 := ih (k + 1) (by omega) (by omega)
          rw [e9] at h9
          exact aw_lv [1, 2, 3, 0] rfl h9
        · refine aw_aload_n C d_Ma_nearestSpot_31 rfl (j := 0) rfl ?_
          refine gt_Ma_Ma_spots C hK  d_Ma_nearestSpot_32 ?_
          refine aw_iload C d_Ma_nearestSpot_35 (j := 3) rfl ?_
          refine al_3 C hK  k rfl (show k < 14 by omega) d_Ma_nearestSpot_37 ?_
          refine gt_Ma_Sp_distance C hK (show k < 14 by omega) d_Ma_nearestSpot_38 ?_
          refine aw_lload_n C d_Ma_nearestSpot_41 rfl (j := 2) rfl ?_
          refine aw_lcmp C d_Ma_nearestSpot_42 ?_
          refine aw_topi (fun z_42 hz_42 => ?_)
          refine aw_if_ge (tgt := 59) C d_Ma_nearestSpot_43 (by decide) (fun c_43 => ?_) (fun c_43 => ?_)
          · refine aw_iinc (i := 4) (v := (nI (k + 1))) (lv' := [(4, .int (nI (k + 1))), (0, .ref (ad 2 0)), (1, va_rf ((ns_F S k).1.map (ad 13))), (2, .long (ns_F S k).2)]) C d_Ma_nearestSpot_59 (j := 3) rfl (nI_1 k) (by decide) rfl ?_
            refine aw_goto (tgt := 9) C d_Ma_nearestSpot_62 (by decide) ?_
            have e9 : ns_F S (k + 1) = ns_F S k := by
              show (if S.1 15 k 0 = 0 then (if S.2.1 2 k < (ns_F S k).2 then (some k, S.2.1 2 k) else ns_F S k) else ns_F S k) = _
              rw [if_pos c_28, if_neg (fun h => by rw [hz_42] at c_43; exact absurd h (Int64.not_lt.mpr ((lg_cmp_ge _ _).mp c_43)))]
            have h9 := ih (k + 1) (by omega) (by omega)
            rw [e9] at h9
            exact aw_lv [1, 2, 3, 0] rfl h9
          · refine aw_aload_n C d_Ma_nearestSpot_46 rfl (j := 0) rfl ?_
            refine gt_Ma_Ma_spots C hK  d_Ma_nearestSpot_47 ?_
            refine aw_iload C d_Ma_nearestSpot_50 (j := 3) rfl ?_
            refine al_3 C hK  k rfl (show k < 14 by omega) d_Ma_nearestSpot_52 ?_
            refine aw_astore_n (i := 1) (lv' := [(1, .ref (ad 13 k)), (0, .ref (ad 2 0)), (2, .long (ns_F S k).2), (4, .int (nI k))]) C d_Ma_nearestSpot_53 rfl (by decide) rfl ?_
            refine aw_aload_n C d_Ma_nearestSpot_54 rfl (j := 0) rfl ?_
            refine gt_Ma_Sp_distance C hK (show k < 14 by omega) d_Ma_nearestSpot_55 ?_
            refine aw_lstore_n (i := 2) (lv' := [(2, .long (S.2.1 2 k)), (1, .ref (ad 13 k)), (0, .ref (ad 2 0)), (4, .int (nI k))]) C d_Ma_nearestSpot_58 rfl (by decide) rfl ?_
            refine aw_iinc (i := 4) (v := (nI (k + 1))) (lv' := [(4, .int (nI (k + 1))), (2, .long (S.2.1 2 k)), (1, .ref (ad 13 k)), (0, .ref (ad 2 0))]) C d_Ma_nearestSpot_59 (j := 3) rfl (nI_1 k) (by decide) rfl ?_
            refine aw_goto (tgt := 9) C d_Ma_nearestSpot_62 (by decide) ?_
            have e9 : ns_F S (k + 1) = (some k, S.2.1 2 k) := by
              show (if S.1 15 k 0 = 0 then (if S.2.1 2 k < (ns_F S k).2 then (some k, S.2.1 2 k) else ns_F S k) else ns_F S k) = _
              rw [if_pos c_28, if_pos (by rw [hz_42] at c_43; exact Int64.not_le.mp (fun h => c_43 ((lg_cmp_ge _ _).mpr h)))]
            have h9 := ih (k + 1) (by omega) (by omega)
            rw [e9] at h9
            exact aw_lv [3, 2, 1, 0] rfl h9
  refine aw_lv (lv' := [(0, .ref (ad 2 0))]) [0] rfl ?_
  refine aw_null C d_Ma_nearestSpot_0 ?_
  refine aw_astoreq_n (x := none) (i := 1) (lv' := [(1, va_rf none), (0, .ref (ad 2 0))]) C d_Ma_nearestSpot_1 rfl (by decide) rfl ?_
  refine aw_ldc2 C kl_Ma_4611686018427387904 d_Ma_nearestSpot_2 ?_
  refine aw_lstore_n (i := 2) (lv' := [(2, .long 4611686018427387904), (1, va_rf none), (0, .ref (ad 2 0))]) C d_Ma_nearestSpot_5 rfl (by decide) (by simp [va_rf_cat, ct_ref, ct_int, ct_long]) ?_
  refine aw_iconst (v := 0) C d_Ma_nearestSpot_6 (by decide) ?_
  refine aw_istore (i := 4) (lv' := [(4, .int 0), (2, .long 4611686018427387904), (1, va_rf none), (0, .ref (ad 2 0))]) C d_Ma_nearestSpot_7 (by decide) rfl ?_
  exact aw_lv [3, 2, 1, 0] rfl (lp (N + 1) 0 (by omega) (by omega))
set_option maxHeartbeats 4000000 in
set_option maxRecDepth 100000 in
theorem c_Ma_shiftPrices (l : Launch) (D : va_G) (ad : Nat → Nat → Nat) (cA : Nat → ClassId) (nb : Nat) (S : ds_S) (N q : Nat) (by9 : Int64) (hI : ds_I ad nb) (hN : N ≤ 14) (h6 : S.1 6 0 0 = nI N) (hq : q < 10) (hV : ma_V S) : Ct_v l y_Ma_shiftPrices b_Ma_shiftPrices 6 none ({ frames := 0, cells := 0, slots := 0, locals := 0 } : Room) 0 0 D (ds_ty cA) (ds_A ad nb) [.ref (ad 2 0), .ref (ad 10 q), .long by9] (ds_P D ad cA nb S) (fun (u : ds_S) => u = sp_F (ds_wJ S 0 q (S.2.1 0 q + by9)) by9 N) (ds_P D ad cA nb) := by
  intro sz
  refine ct_of (by decide) (Nat.le_of_ble_eq_true rfl) ?_
  intro p e s m args below meth c hsz C hr hlk hnm hK
  have lp : ∀ (n k : Nat) , k ≤ N → N + 1 ≤ k + n → AW p l e ({ frames := 0, cells := 0, slots := 0, locals := 0 } : Room) s m args below meth c 6 0 0 (MQ below (va_Qv (fun (u : ds_S) => u = sp_F (ds_wJ S 0 q (S.2.1 0 q + by9)) by9 N) (fun u t => (ds_P D ad cA nb) u t.heap) (ct_A (ds_A ad nb) sz)) args s 0 0 (ct_A (ds_A ad nb) sz)) (ds_P D ad cA nb (sp_F (ds_wJ S 0 q (S.2.1 0 q + by9)) by9 k)) (ct_A (ds_A ad nb) sz) 13 [(0, .ref (ad 2 0)), (1, .ref (ad 10 q)), (2, .long by9), (4, .int (nI k))] [] := by
    intro n
    induction n with
    | zero => intro k h1 h2; exact absurd h2 (by omega)
    | succ n ih =>
      intro k hk hn
      refine aw_iload C d_Ma_shiftPrices_13 (j := 3) rfl ?_
      refine aw_aload_n C d_Ma_shiftPrices_15 rfl (j := 0) rfl ?_
      refine gt_Ma_Ma_spotCount C hK  d_Ma_shiftPrices_16 ?_
      refine aw_icmp_ge (tgt := 104) C d_Ma_shiftPrices_19 (by decide) (fun c_19 => ?_) (fun c_19 => ?_)
      · have hkN : k = N := by rw [sp_1, show (ds_wJ S 0 q (S.2.1 0 q + by9)).1 6 0 0 = nI N from h6] at c_19; have := (nI_leI (by omega) (by omega)).mp c_19; omega
        subst hkN
        exact aw_vret C hr hlk _ rfl (fun H h => h) d_Ma_shiftPrices_104
      · have hlt : k < N := by rw [sp_1, show (ds_wJ S 0 q (S.2.1 0 q + by9)).1 6 0 0 = nI N from h6] at c_19; exact Nat.lt_of_not_le (fun h => c_19 (nI_le h (by omega)))
        refine aw_aload_n C d_Ma_shiftPrices_22 rfl (j := 0) rfl ?_
        refine gt_Ma_Ma_spots C hK  d_Ma_shiftPrices_23 ?_
        refine aw_iload C d_Ma_shiftPrices_26 (j := 3) rfl ?_
        refine al_3 C hK  k rfl (show k < 14 by omega) d_Ma_shiftPrices_28 ?_
        refine aw_astore (i := 5) (lv' := [(5, .ref (ad 13 k)), (0, .ref (ad 2 0)), (1, .ref (ad 10 q)), (2, .long by9), (4, .int (nI k))]) C d_Ma_shiftPrices_29 (by decide) rfl ?_
        refine aw_aload C d_Ma_shiftPrices_31 (j := 0) rfl ?_
        refine gt_Ma_Sp_reached C hK (show k < 14 by omega) d_Ma_shiftPrices_33 ?_
        refine aw_if_eq (tgt := 75) C d_Ma_shiftPrices_36 (by decide) (fun c_36 => ?_) (fun c_36 => ?_)
        · refine aw_aload C d_Ma_shiftPrices_75 (j := 0) rfl ?_
          refine gt_Ma_Sp_distance C hK (show k < 14 by omega) d_Ma_shiftPrices_77 ?_
          refine aw_ldc2 C kl_Ma_4611686018427387904 d_Ma_shiftPrices_80 ?_
          refine aw_lcmp C d_Ma_shiftPrices_83 ?_
          refine aw_topi (fun z_83 hz_83 => ?_)
          refine aw_if_ge (tgt := 98) C d_Ma_shiftPrices_84 (by decide) (fun c_84 => ?_) (fun c_84 => ?_)
          · refine aw_iinc (i := 4) (v := (nI (k + 1))) (lv' := [(4, .int (nI (k + 1))), (5, .ref (ad 13 k)), (0, .ref (ad 2 0)), (1, .ref (ad 10 q)), (2, .long by9)]) C d_Ma_shiftPrices_98 (j := 4) rfl (nI_1 k) (by decide) rfl ?_
            refine aw_goto (tgt := 13) C d_Ma_shiftPrices_101 (by decide) ?_
            have e9 : sp_F (ds_wJ S 0 q (S.2.1 0 q + by9)) by9 (k + 1) = sp_F (ds_wJ S 0 q (S.2.1 0 q + by9)) by9 k := by
              show sp_step (sp_F (ds_wJ S 0 q (S.2.1 0 q + by9)) by9 k) by9 k = _
              unfold sp_step
              rw [if_pos c_36, if_neg (fun h => by rw [hz_83] at c_84; exact absurd h (Int64.not_lt.mpr ((lg_cmp_ge _ _).mp c_84)))]
            rw [← e9]
            exact aw_lv [2, 3, 4, 0] rfl (ih (k + 1) (by omega) (by omega))
          · refine aw_aload C d_Ma_shiftPrices_87 (j := 0) rfl ?_
            refine aw_dup C d_Ma_shiftPrices_89 rfl ?_
            refine gt_Ma_Sp_distance C hK (show k < 14 by omega) d_Ma_shiftPrices_90 ?_
            refine aw_lload_n C d_Ma_shiftPrices_93 rfl (j := 3) rfl ?_
            refine aw_lsub C d_Ma_shiftPrices_94 ?_
            refine pt_Ma_Sp_distance (x := ((((sp_F (ds_wJ S 0 q (S.2.1 0 q + by9)) by9 k).2.1 2 k)) - by9)) C hK hI (show k < 14 by omega)  d_Ma_shiftPrices_95 ?_
            refine aw_iinc (i := 4) (v := (nI (k + 1))) (lv' := [(4, .int (nI (k + 1))), (5, .ref (ad 13 k)), (0, .ref (ad 2 0)), (1, .ref (ad 10 q)), (2, .long by9)]) C d_Ma_shiftPrices_98 (j := 4) rfl (nI_1 k) (by decide) rfl ?_
            refine aw_goto (tgt := 13) C d_Ma_shiftPrices_101 (by decide) ?_
            have e9 : sp_F (ds_wJ S 0 q (S.2.1 0 q + by9)) by9 (k + 1) = ds_wJ (sp_F (ds_wJ S 0 q (S.2.1 0 q + by9)) by9 k) 2 k (((((sp_F (ds_wJ S 0 q (S.2.1 0 q + by9)) by9 k).2.1 2 k)) - by9)) := by
              show sp_step (sp_F (ds_wJ S 0 q (S.2.1 0 q + by9)) by9 k) by9 k = _
              unfold sp_step
              rw [if_pos c_36, if_pos (by rw [hz_83] at c_84; exact Int64.not_le.mp (fun h => c_84 ((lg_cmp_ge _ _).mpr h)))]
            rw [← e9]
            exact aw_lv [2, 3, 4, 0] rfl (ih (k + 1) (by omega) (by omega))
        · refine aw_aload C d_Ma_shiftPrices_39 (j := 0) rfl ?_
          refine aw_dup C d_Ma_shiftPrices_41 rfl ?_
          refine gt_Ma_Sp_price C hK (show k < 14 by omega) d_Ma_shiftPrices_42 ?_
          refine aw_lload_n C d_Ma_shiftPrices_45 rfl (j := 3) rfl ?_
          refine aw_lsub C d_Ma_shiftPrices_46 ?_
          refine pt_Ma_Sp_price (x := ((((sp_F (ds_wJ S 0 q (S.2.1 0 q + by9)) by9 k).2.1 1 k)) - by9)) C hK hI (show k < 14 by omega)  d_Ma_shiftPrices_47 ?_
          refine aw_aload C d_Ma_shiftPrices_50 (j := 0) rfl ?_
          refine gt_Ma_Sp_sitter C hK (show k < 14 by omega) d_Ma_shiftPrices_52 ?_
          rcases ho_52 : ((ds_wJ (sp_F (ds_wJ S 0 q (S.2.1 0 q + by9)) by9 k) 1 k (((((sp_F (ds_wJ S 0 q (S.2.1 0 q + by9)) by9 k).2.1 1 k)) - by9))).2.2 0 k) with _ | p_52
          · refine aw_ifnull (o := none) (tgt := 98) C d_Ma_shiftPrices_55 (by decide) (fun _ => ?_) (fun _ h => nomatch h)
            refine aw_iinc (i := 4) (v := (nI (k + 1))) (lv' := [(4, .int (nI (k + 1))), (5, .ref (ad 13 k)), (0, .ref (ad 2 0)), (1, .ref (ad 10 q)), (2, .long by9)]) C d_Ma_shiftPrices_98 (j := 4) rfl (nI_1 k) (by decide) rfl ?_
            refine aw_goto (tgt := 13) C d_Ma_shiftPrices_101 (by decide) ?_
            have e9 : sp_F (ds_wJ S 0 q (S.2.1 0 q + by9)) by9 (k + 1) = ds_wJ (sp_F (ds_wJ S 0 q (S.2.1 0 q + by9)) by9 k) 1 k (((((sp_F (ds_wJ S 0 q (S.2.1 0 q + by9)) by9 k).2.1 1 k)) - by9)) := by
              show sp_step (sp_F (ds_wJ S 0 q (S.2.1 0 q + by9)) by9 k) by9 k = _
              unfold sp_step
              rw [if_neg c_36, show (sp_F (ds_wJ S 0 q (S.2.1 0 q + by9)) by9 k).2.2 0 k = none from ho_52]
            rw [← e9]
            exact aw_lv [2, 3, 4, 0] rfl (ih (k + 1) (by omega) (by omega))
          · refine aw_ifnull (o := some ((ad 10 p_52))) (tgt := 98) C d_Ma_shiftPrices_55 (by decide) (fun h => nomatch h) (fun _ _ => ?_)
            refine aw_aload C d_Ma_shiftPrices_58 (j := 0) rfl ?_
            refine gt_Ma_Sp_sitter C hK (show k < 14 by omega) d_Ma_shiftPrices_60 ?_
            rw [ho_52]
            refine aw_dup C d_Ma_shiftPrices_63 rfl ?_
            refine gt_Ma_Pe_price C hK (hV.1 k p_52 (by rw [← ho_52]; exact (congrFun (congrFun (sp_2 (ds_wJ S 0 q (S.2.1 0 q + by9)) by9 k) 0) k).symm)) d_Ma_shiftPrices_64 ?_
            refine aw_lload_n C d_Ma_shiftPrices_67 rfl (j := 3) rfl ?_
            refine aw_ladd C d_Ma_shiftPrices_68 ?_
            refine pt_Ma_Pe_price (x := ((((ds_wJ (sp_F (ds_wJ S 0 q (S.2.1 0 q + by9)) by9 k) 1 k (((((sp_F (ds_wJ S 0 q (S.2.1 0 q + by9)) by9 k).2.1 1 k)) - by9))).2.1 0 p_52)) + by9)) C hK hI (hV.1 k p_52 (by rw [← ho_52]; exact (congrFun (congrFun (sp_2 (ds_wJ S 0 q (S.2.1 0 q + by9)) by9 k) 0) k).symm))  d_Ma_shiftPrices_69 ?_
            refine aw_goto (tgt := 98) C d_Ma_shiftPrices_72 (by decide) ?_
            refine aw_iinc (i := 4) (v := (nI (k + 1))) (lv' := [(4, .int (nI (k + 1))), (5, .ref (ad 13 k)), (0, .ref (ad 2 0)), (1, .ref (ad 10 q)), (2, .long by9)]) C d_Ma_shiftPrices_98 (j := 4) rfl (nI_1 k) (by decide) rfl ?_
            refine aw_goto (tgt := 13) C d_Ma_shiftPrices_101 (by decide) ?_
            have e9 : sp_F (ds_wJ S 0 q (S.2.1 0 q + by9)) by9 (k + 1) = ds_wJ (ds_wJ (sp_F (ds_wJ S 0 q (S.2.1 0 q + by9)) by9 k) 1 k (((((sp_F (ds_wJ S 0 q (S.2.1 0 q + by9)) by9 k).2.1 1 k)) - by9))) 0 p_52 (((((ds_wJ (sp_F (ds_wJ S 0 q (S.2.1 0 q + by9)) by9 k) 1 k (((((sp_F (ds_wJ S 0 q (S.2.1 0 q + by9)) by9 k).2.1 1 k)) - by9))).2.1 0 p_52)) + by9)) := by
              show sp_step (sp_F (ds_wJ S 0 q (S.2.1 0 q + by9)) by9 k) by9 k = _
              unfold sp_step
              rw [if_neg c_36, show (sp_F (ds_wJ S 0 q (S.2.1 0 q + by9)) by9 k).2.2 0 k = some p_52 from ho_52]
            rw [← e9]
            exact aw_lv [2, 3, 4, 0] rfl (ih (k + 1) (by omega) (by omega))
  refine aw_lv (lv' := [(0, .ref (ad 2 0)), (1, .ref (ad 10 q)), (2, .long by9)]) [0, 1, 2] rfl ?_
  refine aw_aload_n C d_Ma_shiftPrices_0 rfl (j := 1) rfl ?_
  refine aw_dup C d_Ma_shiftPrices_1 rfl ?_
  refine gt_Ma_Pe_price C hK hq d_Ma_shiftPrices_2 ?_
  refine aw_lload_n C d_Ma_shiftPrices_5 rfl (j := 2) rfl ?_
  refine aw_ladd C d_Ma_shiftPrices_6 ?_
  refine pt_Ma_Pe_price (x := (((S.2.1 0 q)) + by9)) C hK hI hq  d_Ma_shiftPrices_7 ?_
  refine aw_iconst (v := 0) C d_Ma_shiftPrices_10 (by decide) ?_
  refine aw_istore (i := 4) (lv' := [(4, .int 0), (0, .ref (ad 2 0)), (1, .ref (ad 10 q)), (2, .long by9)]) C d_Ma_shiftPrices_11 (by decide) rfl ?_
  exact aw_lv [1, 2, 3, 0] rfl (lp (N + 1) 0 (by omega) (by omega))
set_option maxHeartbeats 4000000 in
set_option maxRecDepth 100000 in
theorem c_Ma_tellPersons (l : Launch) (D : va_G) (ad : Nat → Nat → Nat) (cA : Nat → ClassId) (nb : Nat) (S : ds_S) (N : Nat) (hI : ds_I ad nb) (hN : N ≤ 14) (h6 : S.1 6 0 0 = nI N) (hV : ma_V S) : Ct_v l y_Ma_tellPersons b_Ma_tellPersons 3 none ({ frames := 0, cells := 0, slots := 0, locals := 0 } : Room) 0 0 D (ds_ty cA) (ds_A ad nb) [.ref (ad 2 0)] (ds_P D ad cA nb S) (fun (u : ds_S) => u = tp_F S N) (ds_P D ad cA nb) := by
  intro sz
  refine ct_of (by decide) (Nat.le_of_ble_eq_true rfl) ?_
  intro p e s m args below meth c hsz C hr hlk hnm hK
  have lp : ∀ (n k : Nat) , k ≤ N → N + 1 ≤ k + n → AW p l e ({ frames := 0, cells := 0, slots := 0, locals := 0 } : Room) s m args below meth c 3 0 0 (MQ below (va_Qv (fun (u : ds_S) => u = tp_F S N) (fun u t => (ds_P D ad cA nb) u t.heap) (ct_A (ds_A ad nb) sz)) args s 0 0 (ct_A (ds_A ad nb) sz)) (ds_P D ad cA nb (tp_F S k)) (ct_A (ds_A ad nb) sz) 2 [(0, .ref (ad 2 0)), (1, .int (nI k))] [] := by
    intro n
    induction n with
    | zero => intro k h1 h2; exact absurd h2 (by omega)
    | succ n ih =>
      intro k hk hn
      refine aw_iload_n C d_Ma_tellPersons_2 rfl (j := 1) rfl ?_
      refine aw_aload_n C d_Ma_tellPersons_3 rfl (j := 0) rfl ?_
      refine gt_Ma_Ma_spotCount C hK  d_Ma_tellPersons_4 ?_
      refine aw_icmp_ge (tgt := 35) C d_Ma_tellPersons_7 (by decide) (fun c_7 => ?_) (fun c_7 => ?_)
      · have hkN : k = N := by rw [tp_6, h6] at c_7; have := (nI_leI (by omega) (by omega)).mp c_7; omega
        subst hkN
        exact aw_vret C hr hlk _ rfl (fun H h => h) d_Ma_tellPersons_35
      · have hlt : k < N := by rw [tp_6, h6] at c_7; exact Nat.lt_of_not_le (fun h => c_7 (nI_le h (by omega)))
        refine aw_aload_n C d_Ma_tellPersons_10 rfl (j := 0) rfl ?_
        refine gt_Ma_Ma_spots C hK  d_Ma_tellPersons_11 ?_
        refine aw_iload_n C d_Ma_tellPersons_14 rfl (j := 1) rfl ?_
        refine al_3 C hK  k rfl (show k < 14 by omega) d_Ma_tellPersons_15 ?_
        refine gt_Ma_Sp_sitter C hK (show k < 14 by omega) d_Ma_tellPersons_16 ?_
        rcases ho_16 : ((tp_F S k).2.2 0 k) with _ | p_16
        · refine aw_astoreq_n (x := none) (i := 2) (lv' := [(2, va_rf none), (0, .ref (ad 2 0)), (1, .int (nI k))]) C d_Ma_tellPersons_19 rfl (by decide) rfl ?_
          refine aw_aloadq_n C d_Ma_tellPersons_20 rfl (j := 0) rfl ?_
          refine aw_ifnull (o := none) (tgt := 29) C d_Ma_tellPersons_21 (by decide) (fun _ => ?_) (fun _ h => nomatch h)
          refine aw_iinc (i := 1) (v := (nI (k + 1))) (lv' := [(1, .int (nI (k + 1))), (2, va_rf none), (0, .ref (ad 2 0))]) C d_Ma_tellPersons_29 (j := 2) rfl (nI_1 k) (by decide) rfl ?_
          refine aw_goto (tgt := 2) C d_Ma_tellPersons_32 (by decide) ?_
          have e9 : tp_F S (k + 1) = tp_F S k := by
            show (match (tp_F S k).2.2 0 k with | none => tp_F S k | some p => ds_wI (tp_F S k) 13 p 0 (nI k)) = _
            rw [ho_16]
          rw [← e9]
          exact aw_lv [2, 0] rfl (ih (k + 1) (by omega) (by omega))
        · refine aw_astore_n (i := 2) (lv' := [(2, .ref (ad 10 p_16)), (0, .ref (ad 2 0)), (1, .int (nI k))]) C d_Ma_tellPersons_19 rfl (by decide) rfl ?_
          refine aw_aload_n C d_Ma_tellPersons_20 rfl (j := 0) rfl ?_
          refine aw_ifnull (o := some ((ad 10 p_16))) (tgt := 29) C d_Ma_tellPersons_21 (by decide) (fun h => nomatch h) (fun _ _ => ?_)
          refine aw_aload_n C d_Ma_tellPersons_24 rfl (j := 0) rfl ?_
          refine aw_iload_n C d_Ma_tellPersons_25 rfl (j := 2) rfl ?_
          refine pt_Ma_Pe_newDesk (x := (nI k)) C hK hI (hV.1 k p_16 (by rw [← ho_16, tp_2]))  d_Ma_tellPersons_26 ?_
          refine aw_iinc (i := 1) (v := (nI (k + 1))) (lv' := [(1, .int (nI (k + 1))), (2, .ref (ad 10 p_16)), (0, .ref (ad 2 0))]) C d_Ma_tellPersons_29 (j := 2) rfl (nI_1 k) (by decide) rfl ?_
          refine aw_goto (tgt := 2) C d_Ma_tellPersons_32 (by decide) ?_
          have e9 : tp_F S (k + 1) = ds_wI (tp_F S k) 13 p_16 0 ((nI k)) := by
            show (match (tp_F S k).2.2 0 k with | none => tp_F S k | some p => ds_wI (tp_F S k) 13 p 0 (nI k)) = _
            rw [ho_16]
          rw [← e9]
          exact aw_lv [2, 0] rfl (ih (k + 1) (by omega) (by omega))
  refine aw_lv (lv' := [(0, .ref (ad 2 0))]) [0] rfl ?_
  refine aw_iconst (v := 0) C d_Ma_tellPersons_0 (by decide) ?_
  refine aw_istore_n (i := 1) (lv' := [(1, .int 0), (0, .ref (ad 2 0))]) C d_Ma_tellPersons_1 rfl (by decide) rfl ?_
  exact aw_lv [1, 0] rfl (lp (N + 1) 0 (by omega) (by omega))
set_option maxHeartbeats 4000000 in
set_option maxRecDepth 100000 in
theorem c_Ma_worthOfSpots (l : Launch) (D : va_G) (ad : Nat → Nat → Nat) (cA : Nat → ClassId) (nb : Nat) (S : ds_S) (N : Nat) (hI : ds_I ad nb) (hN : N ≤ 14) (h6 : S.1 6 0 0 = nI N) (hV : ma_V S) : Ct_i l y_Ma_worthOfSpots b_Ma_worthOfSpots 4 (some .int) ({ frames := 0, cells := 0, slots := 0, locals := 0 } : Room) 0 0 D (ds_ty cA) (ds_A ad nb) [.ref (ad 2 0)] (ds_P D ad cA nb S) (fun (r : Int32) (u : ds_S) => S = u ∧ r = wo_F S N) (ds_P D ad cA nb) := by
  intro sz
  refine ct_of (by decide) (Nat.le_of_ble_eq_true rfl) ?_
  intro p e s m args below meth c hsz C hr hlk hnm hK
  have lp : ∀ (n k : Nat) , k ≤ N → N + 1 ≤ k + n → AW p l e ({ frames := 0, cells := 0, slots := 0, locals := 0 } : Room) s m args below meth c 4 0 0 (MQ below (va_Qi (fun (r : Int32) (u : ds_S) => S = u ∧ r = wo_F S N) (fun u t => (ds_P D ad cA nb) u t.heap) (ct_A (ds_A ad nb) sz)) args s 0 0 (ct_A (ds_A ad nb) sz)) (ds_P D ad cA nb S) (ct_A (ds_A ad nb) sz) 4 [(0, .ref (ad 2 0)), (1, .int (wo_F S k)), (2, .int (nI k))] [] := by
    intro n
    induction n with
    | zero => intro k h1 h2; exact absurd h2 (by omega)
    | succ n ih =>
      intro k hk hn
      refine aw_iload_n C d_Ma_worthOfSpots_4 rfl (j := 2) rfl ?_
      refine aw_aload_n C d_Ma_worthOfSpots_5 rfl (j := 0) rfl ?_
      refine gt_Ma_Ma_spotCount C hK  d_Ma_worthOfSpots_6 ?_
      refine aw_icmp_ge (tgt := 41) C d_Ma_worthOfSpots_9 (by decide) (fun c_9 => ?_) (fun c_9 => ?_)
      · have hkN : k = N := by rw [h6] at c_9; have := (nI_leI (by omega) (by omega)).mp c_9; omega
        subst hkN
        refine aw_iload_n C d_Ma_worthOfSpots_41 rfl (j := 1) rfl ?_
        exact aw_iret C hr hlk S ⟨rfl, rfl⟩ (fun H h => h) d_Ma_worthOfSpots_42
      · have hlt : k < N := by rw [h6] at c_9; exact Nat.lt_of_not_le (fun h => c_9 (nI_le h (by omega)))
        refine aw_aload_n C d_Ma_worthOfSpots_12 rfl (j := 0) rfl ?_
        refine gt_Ma_Ma_spots C hK  d_Ma_worthOfSpots_13 ?_
        refine aw_iload_n C d_Ma_worthOfSpots_16 rfl (j := 2) rfl ?_
        refine al_3 C hK  k rfl (show k < 14 by omega) d_Ma_worthOfSpots_17 ?_
        refine gt_Ma_Sp_sitter C hK (show k < 14 by omega) d_Ma_worthOfSpots_18 ?_
        rcases ho_18 : (S.2.2 0 k) with _ | p_18
        · refine aw_astoreq_n (x := none) (i := 3) (lv' := [(3, va_rf none), (0, .ref (ad 2 0)), (1, .int (wo_F S k)), (2, .int (nI k))]) C d_Ma_worthOfSpots_21 rfl (by decide) rfl ?_
          refine aw_aloadq_n C d_Ma_worthOfSpots_22 rfl (j := 0) rfl ?_
          refine aw_ifnull (o := none) (tgt := 35) C d_Ma_worthOfSpots_23 (by decide) (fun _ => ?_) (fun _ h => nomatch h)
          refine aw_iinc (i := 2) (v := (nI (k + 1))) (lv' := [(2, .int (nI (k + 1))), (3, va_rf none), (0, .ref (ad 2 0)), (1, .int (wo_F S k))]) C d_Ma_worthOfSpots_35 (j := 3) rfl (nI_1 k) (by decide) rfl ?_
          refine aw_goto (tgt := 4) C d_Ma_worthOfSpots_38 (by decide) ?_
          have e9 : wo_F S (k + 1) = wo_F S k := by
            show (match S.2.2 0 k with | none => wo_F S k | some p => wo_F S k + S.1 10 p k) = _
            rw [ho_18]
          have h9 := ih (k + 1) (by omega) (by omega)
          rw [e9] at h9
          exact aw_lv [2, 3, 0] rfl h9
        · refine aw_astore_n (i := 3) (lv' := [(3, .ref (ad 10 p_18)), (0, .ref (ad 2 0)), (1, .int (wo_F S k)), (2, .int (nI k))]) C d_Ma_worthOfSpots_21 rfl (by decide) rfl ?_
          refine aw_aload_n C d_Ma_worthOfSpots_22 rfl (j := 0) rfl ?_
          refine aw_ifnull (o := some ((ad 10 p_18))) (tgt := 35) C d_Ma_worthOfSpots_23 (by decide) (fun h => nomatch h) (fun _ _ => ?_)
          refine aw_iload_n C d_Ma_worthOfSpots_26 rfl (j := 2) rfl ?_
          refine aw_aload_n C d_Ma_worthOfSpots_27 rfl (j := 0) rfl ?_
          refine gt_Ma_Pe_wishes C hK (hV.1 k p_18 ho_18) d_Ma_worthOfSpots_28 ?_
          refine aw_iload_n C d_Ma_worthOfSpots_31 rfl (j := 3) rfl ?_
          refine al_11 C hK (hV.1 k p_18 ho_18) k rfl (show k < 14 by omega) d_Ma_worthOfSpots_32 ?_
          refine aw_iadd C d_Ma_worthOfSpots_33 ?_
          refine aw_istore_n (i := 1) (lv' := [(1, .int (((wo_F S k)) + ((S.1 10 p_18 k)))), (3, .ref (ad 10 p_18)), (0, .ref (ad 2 0)), (2, .int (nI k))]) C d_Ma_worthOfSpots_34 rfl (by decide) rfl ?_
          refine aw_iinc (i := 2) (v := (nI (k + 1))) (lv' := [(2, .int (nI (k + 1))), (1, .int (((wo_F S k)) + ((S.1 10 p_18 k)))), (3, .ref (ad 10 p_18)), (0, .ref (ad 2 0))]) C d_Ma_worthOfSpots_35 (j := 3) rfl (nI_1 k) (by decide) rfl ?_
          refine aw_goto (tgt := 4) C d_Ma_worthOfSpots_38 (by decide) ?_
          have e9 : wo_F S (k + 1) = wo_F S k + S.1 10 p_18 k := by
            show (match S.2.2 0 k with | none => wo_F S k | some p => wo_F S k + S.1 10 p k) = _
            rw [ho_18]
          have h9 := ih (k + 1) (by omega) (by omega)
          rw [e9] at h9
          exact aw_lv [3, 1, 0] rfl h9
  refine aw_lv (lv' := [(0, .ref (ad 2 0))]) [0] rfl ?_
  refine aw_iconst (v := 0) C d_Ma_worthOfSpots_0 (by decide) ?_
  refine aw_istore_n (i := 1) (lv' := [(1, .int 0), (0, .ref (ad 2 0))]) C d_Ma_worthOfSpots_1 rfl (by decide) rfl ?_
  refine aw_iconst (v := 0) C d_Ma_worthOfSpots_2 (by decide) ?_
  refine aw_istore_n (i := 2) (lv' := [(2, .int 0), (1, .int 0), (0, .ref (ad 2 0))]) C d_Ma_worthOfSpots_3 rfl (by decide) rfl ?_
  exact aw_lv [2, 1, 0] rfl (lp (N + 1) 0 (by omega) (by omega))
def ho_F (q : Nat) : Nat → ds_S → Option Nat → ds_S
  | 0, S, _ => S
  | _ + 1, S, none => S
  | n + 1, S, some d => ho_F q n (ds_wR S 0 d (match S.2.2 1 d with | none => some q | some d' => S.2.2 0 d')) (S.2.2 1 d)
/-- the chain of places before a place has an end -/
def ho_T (B : Nat → Option Nat) : Nat → Option Nat → Prop
  | 0, _ => False
  | _ + 1, none => True
  | n + 1, some d => ho_T B n (B d)
set_option maxHeartbeats 4000000 in
set_option maxRecDepth 100000 in
theorem c_Ma_handOn (l : Launch) (D : va_G) (ad : Nat → Nat → Nat) (cA : Nat → ClassId) (nb : Nat) (S : ds_S) (n0 d0 q : Nat) (hI : ds_I ad nb) (hq : q < 10) (hd0 : d0 < 14) (hB : ∀ d d', S.2.2 1 d = some d' → d' < 14) (hT : ho_T (S.2.2 1) n0 (some d0)) : Ct_v l y_Ma_handOn b_Ma_handOn 4 none ({ frames := 0, cells := 0, slots := 0, locals := 0 } : Room) 0 0 D (ds_ty cA) (ds_A ad nb) [.ref (ad 2 0), .ref (ad 13 d0), .ref (ad 10 q)] (ds_P D ad cA nb S) (fun (u : ds_S) => u = ho_F q n0 S (some d0)) (ds_P D ad cA nb) := by
  intro sz
  refine ct_of (by decide) (Nat.le_of_ble_eq_true rfl) ?_
  intro p e s m args below meth c hsz C hr hlk hnm hK
  have lp : ∀ (n : Nat) (S' : ds_S) (o : Option Nat), S'.2.2 1 = S.2.2 1 → (∀ d, o = some d → d < 14) → ho_T (S.2.2 1) n o → ho_F q n S' o = ho_F q n0 S (some d0) → AW p l e ({ frames := 0, cells := 0, slots := 0, locals := 0 } : Room) s m args below meth c 4 0 0 (MQ below (va_Qv (fun (u : ds_S) => u = ho_F q n0 S (some d0)) (fun u t => (ds_P D ad cA nb) u t.heap) (ct_A (ds_A ad nb) sz)) args s 0 0 (ct_A (ds_A ad nb) sz)) (ds_P D ad cA nb (S')) (ct_A (ds_A ad nb) sz) 2 [(0, .ref (ad 2 0)), (1, .ref (ad 13 d0)), (2, .ref (ad 10 q)), (3, va_rf (o.map (ad 13)))] [] := by
    intro n
    induction n with
    | zero => intro S' o hE ho hT hR; exact hT.elim
    | succ n ih =>
      intro S' o hE ho hT hR
      rcases o with _ | d
      · refine aw_aloadq_n C d_Ma_handOn_2 rfl (j := 3) rfl ?_
        refine aw_ifnull (o := none) (tgt := 36) C d_Ma_handOn_3 (by decide) (fun _ => ?_) (fun _ h => nomatch h)
        exact aw_vret C hr hlk _ (by rw [← hR]; rfl) (fun H h => h) d_Ma_handOn_36
      · have hd : d < 14 := ho d rfl
        refine aw_aload_n C d_Ma_handOn_2 rfl (j := 3) rfl ?_
        refine aw_ifnull (o := some ((ad 13 d))) (tgt := 36) C d_Ma_handOn_3 (by decide) (fun h => nomatch h) (fun _ _ => ?_)
        refine aw_aload_n C d_Ma_handOn_6 rfl (j := 3) rfl ?_
        refine aw_aload_n C d_Ma_handOn_7 rfl (j := 3) rfl ?_
        refine gt_Ma_Sp_before C hK hd d_Ma_handOn_8 ?_
        rcases ho_8 : ((S').2.2 1 d) with _ | p_8
        · refine aw_ifnonnull (o := none) (tgt := 18) C d_Ma_handOn_11 (by decide) (fun _ h => nomatch h) (fun _ => ?_)
          refine aw_aload_n C d_Ma_handOn_14 rfl (j := 2) rfl ?_
          refine aw_goto (tgt := 25) C d_Ma_handOn_15 (by decide) ?_
          refine pt_Ma_Sp_sitter (x := some q) C hK hI hd  d_Ma_handOn_25 ?_
          refine aw_aload_n C d_Ma_handOn_28 rfl (j := 3) rfl ?_
          refine gt_Ma_Sp_before C hK hd d_Ma_handOn_29 ?_
          rw [show (ds_wR (S') 0 d (some q)).2.2 1 d = none from ho_8]
          refine aw_astoreq_n (x := none) (i := 3) (lv' := [(3, va_rf none), (0, .ref (ad 2 0)), (1, .ref (ad 13 d0)), (2, .ref (ad 10 q))]) C d_Ma_handOn_32 rfl (by decide) rfl ?_
          refine aw_goto (tgt := 2) C d_Ma_handOn_33 (by decide) ?_
          exact aw_lv [1, 2, 3, 0] rfl (ih (ds_wR (S') 0 d (some q)) none hE (fun z hz => by cases hz) (by have h9 : ho_T (S.2.2 1) n (S.2.2 1 d) := hT; rw [show S.2.2 1 d = none from by rw [← hE]; exact ho_8] at h9; exact h9) (by rw [← hR]; show _ = ho_F q n (ds_wR S' 0 d (match S'.2.2 1 d with | none => some q | some d' => S'.2.2 0 d')) (S'.2.2 1 d); rw [ho_8]))
        · have hd8 : p_8 < 14 := hB d p_8 (by rw [← hE, ho_8])
          refine aw_ifnonnull (o := some ((ad 13 p_8))) (tgt := 18) C d_Ma_handOn_11 (by decide) (fun _ _ => ?_) (fun h => nomatch h)
          refine aw_aload_n C d_Ma_handOn_18 rfl (j := 3) rfl ?_
          refine gt_Ma_Sp_before C hK hd d_Ma_handOn_19 ?_
          rw [ho_8]
          refine gt_Ma_Sp_sitter C hK hd8 d_Ma_handOn_22 ?_
          refine pt_Ma_Sp_sitter (x := ((S').2.2 0 p_8)) C hK hI hd  d_Ma_handOn_25 ?_
          refine aw_aload_n C d_Ma_handOn_28 rfl (j := 3) rfl ?_
          refine gt_Ma_Sp_before C hK hd d_Ma_handOn_29 ?_
          rw [show (ds_wR (S') 0 d (((S').2.2 0 p_8))).2.2 1 d = some p_8 from ho_8]
          refine aw_astore_n (i := 3) (lv' := [(3, .ref (ad 13 p_8)), (0, .ref (ad 2 0)), (1, .ref (ad 13 d0)), (2, .ref (ad 10 q))]) C d_Ma_handOn_32 rfl (by decide) rfl ?_
          refine aw_goto (tgt := 2) C d_Ma_handOn_33 (by decide) ?_
          exact aw_lv [1, 2, 3, 0] rfl (ih (ds_wR (S') 0 d (((S').2.2 0 p_8))) (some p_8) hE (fun z hz => by cases hz; exact hd8) (by have h9 : ho_T (S.2.2 1) n (S.2.2 1 d) := hT; rw [show S.2.2 1 d = (some p_8) from by rw [← hE]; exact ho_8] at h9; exact h9) (by rw [← hR]; show _ = ho_F q n (ds_wR S' 0 d (match S'.2.2 1 d with | none => some q | some d' => S'.2.2 0 d')) (S'.2.2 1 d); rw [ho_8]))
  refine aw_lv (lv' := [(0, .ref (ad 2 0)), (1, .ref (ad 13 d0)), (2, .ref (ad 10 q))]) [0, 1, 2] rfl ?_
  refine aw_aload_n C d_Ma_handOn_0 rfl (j := 1) rfl ?_
  refine aw_astore_n (i := 3) (lv' := [(3, .ref (ad 13 d0)), (0, .ref (ad 2 0)), (1, .ref (ad 13 d0)), (2, .ref (ad 10 q))]) C d_Ma_handOn_1 rfl (by decide) rfl ?_
  exact aw_lv [1, 2, 3, 0] rfl (lp n0 S (some d0) rfl (fun z hz => by cases hz; exact hd0) hT rfl)
end
section
def ap_3 (N q : Nat) (S1 : ds_S) (d : Nat) : ds_S := ds_wI (sp_F (ds_wJ S1 0 q (S1.2.1 0 q + S1.2.1 2 d)) (S1.2.1 2 d) N) 15 d 0 1
/-- the search for person q: n rounds are left; the answer and the state behind it -/
def ap_L (N q : Nat) : Nat → ds_S → Nat → Option Nat → Int32 × ds_S
  | 0, S, _, _ => (0, S)
  | n + 1, S, x, fr => match (ns_F (lf_F S x fr N) N).1 with
    | none => (0, lf_F S x fr N)
    | some d => match (ap_3 N q (lf_F S x fr N) d).2.2 0 d with
      | none => (1, ho_F q 16 (ap_3 N q (lf_F S x fr N) d) (some d))
      | some p => ap_L N q n (ap_3 N q (lf_F S x fr N) d) p (some d)
/-- its chains have ends -/
def ap_T (N q : Nat) : Nat → ds_S → Nat → Option Nat → Prop
  | 0, _, _, _ => True
  | n + 1, S, x, fr => match (ns_F (lf_F S x fr N) N).1 with
    | none => True
    | some d => match (ap_3 N q (lf_F S x fr N) d).2.2 0 d with
      | none => ho_T ((ap_3 N q (lf_F S x fr N) d).2.2 1) 16 (some d)
      | some p => ap_T N q n (ap_3 N q (lf_F S x fr N) d) p (some d)
theorem ap_L_none {N q n x : Nat} {S : ds_S} {fr : Option Nat} (h : (ns_F (lf_F S x fr N) N).1 = none) : ap_L N q (n + 1) S x fr = (0, lf_F S x fr N) := by simp only [ap_L, h]
theorem ap_L_end {N q n x d : Nat} {S : ds_S} {fr : Option Nat} (h : (ns_F (lf_F S x fr N) N).1 = some d) (h2 : (ap_3 N q (lf_F S x fr N) d).2.2 0 d = none) : ap_L N q (n + 1) S x fr = (1, ho_F q 16 (ap_3 N q (lf_F S x fr N) d) (some d)) := by simp only [ap_L, h, h2]
theorem ap_L_go {N q n x d p : Nat} {S : ds_S} {fr : Option Nat} (h : (ns_F (lf_F S x fr N) N).1 = some d) (h2 : (ap_3 N q (lf_F S x fr N) d).2.2 0 d = some p) : ap_L N q (n + 1) S x fr = ap_L N q n (ap_3 N q (lf_F S x fr N) d) p (some d) := by simp only [ap_L, h, h2]
theorem ap_T_end {N q n x d : Nat} {S : ds_S} {fr : Option Nat} (h : (ns_F (lf_F S x fr N) N).1 = some d) (h2 : (ap_3 N q (lf_F S x fr N) d).2.2 0 d = none) (ht : ap_T N q (n + 1) S x fr) : ho_T ((ap_3 N q (lf_F S x fr N) d).2.2 1) 16 (some d) := by simpa only [ap_T, h, h2] using ht
theorem ap_T_go {N q n x d p : Nat} {S : ds_S} {fr : Option Nat} (h : (ns_F (lf_F S x fr N) N).1 = some d) (h2 : (ap_3 N q (lf_F S x fr N) d).2.2 0 d = some p) (ht : ap_T N q (n + 1) S x fr) : ap_T N q n (ap_3 N q (lf_F S x fr N) d) p (some d) := by simpa only [ap_T, h, h2] using ht
theorem ss_V {S : ds_S} (h : ma_V S) : ∀ k, ma_V (ss_F S k)
  | 0 => h
  | k + 1 => by
    have ih := ss_V h k
    refine ⟨fun d p e => ih.1 d p e, fun d d' e => ?_⟩
    have e : ds_u2 (ss_F S k).2.2 1 k none 1 d = some d' := e
    unfold ds_u2 at e
    split at e
    · cases e
    · exact ih.2 d d' e
theorem lf_V {S : ds_S} {x : Nat} {fr : Option Nat} (h : ma_V S) (hf : ∀ d, fr = some d → d < 14) : ∀ k, ma_V (lf_F S x fr k)
  | 0 => h
  | k + 1 => by
    have ih := lf_V (x := x) h hf k
    show ma_V (lf_step (lf_F S x fr k) x fr k)
    unfold lf_step
    split
    · split
      · split
        · refine ⟨fun d p e => ih.1 d p e, fun d d' e => ?_⟩
          have e : ds_u2 (lf_F S x fr k).2.2 1 k fr 1 d = some d' := e
          unfold ds_u2 at e
          split at e
          · exact hf d' e
          · exact ih.2 d d' e
        · exact ih
      · exact ih
    · exact ih
theorem ap_3V {N q d : Nat} {S : ds_S} (h : ma_V S) : ma_V (ap_3 N q S d) := by
  have e : (ap_3 N q S d).2.2 = S.2.2 := sp_2 _ _ N
  refine ⟨fun d p e1 => h.1 d p (by rw [← e]; exact e1), fun d d' e1 => h.2 d d' (by rw [← e]; exact e1)⟩
theorem ap_36 {N q d : Nat} {S : ds_S} {v : Int32} (h : S.1 6 0 0 = v) : (ap_3 N q S d).1 6 0 0 = v := by
  show (sp_F (ds_wJ S 0 q (S.2.1 0 q + S.2.1 2 d)) (S.2.1 2 d) N).1 6 0 0 = v
  rw [sp_1]; exact h
set_option maxHeartbeats 4000000 in
set_option maxRecDepth 100000 in
theorem c_Ma_addPerson (l : Launch) (D : va_G) (ad : Nat → Nat → Nat) (cA : Nat → ClassId) (nb : Nat) (S : ds_S) (N q : Nat) (hI : ds_I ad nb) (hN : N ≤ 14) (h6 : S.1 6 0 0 = nI N) (hq : q < 10) (hV : ma_V S) (hT : ap_T N q N (ds_wJ (ss_F S N) 0 q 0) q none) : Ct_i l y_Ma_addPerson b_Ma_addPerson 6 (some .boolean) ({ frames := 3, cells := 0, slots := 0, locals := 70 } : Room) 0 0 D (ds_ty cA) (ds_A ad nb) [.ref (ad 2 0), .ref (ad 10 q)] (ds_P D ad cA nb S) (fun (r : Int32) (u : ds_S) => u = (ap_L N q N (ds_wJ (ss_F S N) 0 q 0) q none).2 ∧ r = (ap_L N q N (ds_wJ (ss_F S N) 0 q 0) q none).1) (ds_P D ad cA nb) := by
  intro sz
  refine ct_of (by decide) (Nat.le_of_ble_eq_true rfl) ?_
  intro p e s m args below meth c hsz C hr hlk hnm hK
  have lp : ∀ (n k : Nat) (S' : ds_S) (x : Nat) (fr : Option Nat), k + n = N → S'.1 6 0 0 = nI N → ma_V S' → x < 10 → (∀ d, fr = some d → d < 14) → ap_T N q n S' x fr → ap_L N q n S' x fr = ap_L N q N (ds_wJ (ss_F S N) 0 q 0) q none → AW p l e ({ frames := 3, cells := 0, slots := 0, locals := 70 } : Room) s m args below meth c 6 0 0 (MQ below (va_Qi (fun (r : Int32) (u : ds_S) => u = (ap_L N q N (ds_wJ (ss_F S N) 0 q 0) q none).2 ∧ r = (ap_L N q N (ds_wJ (ss_F S N) 0 q 0) q none).1) (fun u t => (ds_P D ad cA nb) u t.heap) (ct_A (ds_A ad nb) sz)) args s 0 0 (ct_A (ds_A ad nb) sz)) (ds_P D ad cA nb (S')) (ct_A (ds_A ad nb) sz) 16 [(0, .ref (ad 2 0)), (1, .ref (ad 10 q)), (2, .ref (ad 10 x)), (3, va_rf (fr.map (ad 13))), (4, .int (nI k))] [] := by
    intro n
    induction n with
    | zero =>
      intro k S' x fr hkn h6' hV' hx hfr hT' hR
      refine aw_iload C d_Ma_addPerson_16 (j := 4) rfl ?_
      refine aw_aload_n C d_Ma_addPerson_18 rfl (j := 0) rfl ?_
      refine gt_Ma_Ma_spotCount C hK  d_Ma_addPerson_19 ?_
      refine aw_icmp_ge (tgt := 92) C d_Ma_addPerson_22 (by decide) (fun c_22 => ?_) (fun c_22 => ?_)
      · refine aw_iconst (v := 0) C d_Ma_addPerson_92 (by decide) ?_
        have e9 : ap_L N q 0 S' x fr = (0, S') := rfl
        rw [e9] at hR
        exact aw_zret C hr hlk rfl _ ⟨by rw [← hR], by rw [← hR]⟩ (fun H h => h) d_Ma_addPerson_93
      · exact absurd (by rw [h6', show k = N by omega]; exact nI_le (Nat.le_refl _) (by omega)) c_22
    | succ n ih =>
      intro k S' x fr hkn h6' hV' hx hfr hT' hR
      refine aw_iload C d_Ma_addPerson_16 (j := 4) rfl ?_
      refine aw_aload_n C d_Ma_addPerson_18 rfl (j := 0) rfl ?_
      refine gt_Ma_Ma_spotCount C hK  d_Ma_addPerson_19 ?_
      refine aw_icmp_ge (tgt := 92) C d_Ma_addPerson_22 (by decide) (fun c_22 => ?_) (fun c_22 => ?_)
      · exact absurd c_22 (by rw [h6']; exact nI_ge (by omega) (by omega))
      · refine aw_aload_n C d_Ma_addPerson_25 rfl (j := 0) rfl ?_
        refine aw_aload_n C d_Ma_addPerson_26 rfl (j := 2) rfl ?_
        refine aw_aloadq_n C d_Ma_addPerson_27 rfl (j := 3) rfl ?_
        refine aw_callVv (P9 := fun u => ds_P D ad cA nb u) [.ref (ad 10 x), va_rf (fr.map (ad 13))] C hK (c_Ma_lookFrom l D ad cA nb S' N x fr hI hN h6' hx) (cw_Ma_Ma_lookFrom C.2.2.2.2 rfl rfl (by decide)) rfl (fun H h => aw_recv hK rfl (h 2 0 rfl)) (fun H h => h) (fun q h => Or.inl h) (fun q h => Or.inr (by rw [← hsz]; exact h)) rfl (Nat.le_of_ble_eq_true rfl) d_Ma_addPerson_28 (by decide) (fun H H1 u _ _ hB _ _ => hB) ?_
        rintro u rfl
        have h61 : (lf_F S' x fr N).1 6 0 0 = nI N := by rw [lf_1]; exact h6'
        have hV1 := lf_V (x := x) hV' hfr N
        refine aw_aload_n C d_Ma_addPerson_31 rfl (j := 0) rfl ?_
        refine aw_callVq (P9 := fun r u => ds_P D ad cA nb u) [] C hK (c_Ma_nearestSpot l D ad cA nb (lf_F S' x fr N) N hI hN h61) (cw_Ma_Ma_nearestSpot C.2.2.2.2 rfl rfl (by decide)) rfl (fun H h => aw_recv hK rfl (h 2 0 rfl)) (fun H h => h) (fun q h => Or.inl h) (fun q h => Or.inr (by rw [← hsz]; exact h)) rfl (Nat.le_of_ble_eq_true rfl) d_Ma_addPerson_32 (by decide) (fun H H1 r u _ _ hB _ _ => hB) ?_
        rintro r u ⟨rfl, rfl⟩
        rcases hns : (ns_F (lf_F S' x fr N) N).1 with _ | d
        · refine aw_astoreq (x := none) (i := 5) (lv' := [(5, va_rf none), (0, .ref (ad 2 0)), (1, .ref (ad 10 q)), (2, .ref (ad 10 x)), (3, va_rf (fr.map (ad 13))), (4, .int (nI k))]) C d_Ma_addPerson_35 (by decide) rfl ?_
          refine aw_aloadq C d_Ma_addPerson_37 (j := 0) rfl ?_
          refine aw_ifnonnull (o := none) (tgt := 44) C d_Ma_addPerson_39 (by decide) (fun _ h => nomatch h) (fun _ => ?_)
          refine aw_iconst (v := 0) C d_Ma_addPerson_42 (by decide) ?_
          have e9 : ap_L N q (n + 1) S' x fr = (0, lf_F S' x fr N) := ap_L_none hns
          rw [e9] at hR
          exact aw_zret C hr hlk rfl _ ⟨by rw [← hR], by rw [← hR]⟩ (fun H h => h) d_Ma_addPerson_43
        · have hd : d < 14 := Nat.lt_of_lt_of_le (ns_lt _ N d hns) hN
          refine aw_astore (i := 5) (lv' := [(5, .ref (ad 13 d)), (0, .ref (ad 2 0)), (1, .ref (ad 10 q)), (2, .ref (ad 10 x)), (3, va_rf (fr.map (ad 13))), (4, .int (nI k))]) C d_Ma_addPerson_35 (by decide) rfl ?_
          refine aw_aload C d_Ma_addPerson_37 (j := 0) rfl ?_
          refine aw_ifnonnull (o := some ((ad 13 d))) (tgt := 44) C d_Ma_addPerson_39 (by decide) (fun _ _ => ?_) (fun h => nomatch h)
          refine aw_aload_n C d_Ma_addPerson_44 rfl (j := 1) rfl ?_
          refine aw_aload_n C d_Ma_addPerson_45 rfl (j := 2) rfl ?_
          refine aw_aload C d_Ma_addPerson_46 (j := 0) rfl ?_
          refine gt_Ma_Sp_distance C hK hd d_Ma_addPerson_48 ?_
          refine aw_callVv (P9 := fun u => ds_P D ad cA nb u) [.ref (ad 10 q), .long ((lf_F S' x fr N).2.1 2 d)] C hK (c_Ma_shiftPrices l D ad cA nb (lf_F S' x fr N) N q ((lf_F S' x fr N).2.1 2 d) hI hN h61 hq hV1) (cw_Ma_Ma_shiftPrices C.2.2.2.2 rfl rfl (by decide)) rfl (fun H h => aw_recv hK rfl (h 2 0 rfl)) (fun H h => h) (fun q h => Or.inl h) (fun q h => Or.inr (by rw [← hsz]; exact h)) rfl (Nat.le_of_ble_eq_true rfl) d_Ma_addPerson_51 (by decide) (fun H H1 u _ _ hB _ _ => hB) ?_
          rintro u rfl
          refine aw_aload C d_Ma_addPerson_54 (j := 0) rfl ?_
          refine aw_iconst (v := 1) C d_Ma_addPerson_56 (by decide) ?_
          refine pt_Ma_Sp_reached (x := 1) C hK hI hd (Or.inr rfl) d_Ma_addPerson_57 ?_
          show AW p l e _ s m args below meth c _ _ _ _ (ds_P D ad cA nb (ap_3 N q (lf_F S' x fr N) d)) _ 60 _ []
          refine aw_aload C d_Ma_addPerson_60 (j := 0) rfl ?_
          refine gt_Ma_Sp_sitter C hK hd d_Ma_addPerson_62 ?_
          rcases ho_62 : ((ap_3 N q (lf_F S' x fr N) d).2.2 0 d) with _ | p_62
          · refine aw_ifnonnull (o := none) (tgt := 77) C d_Ma_addPerson_65 (by decide) (fun _ h => nomatch h) (fun _ => ?_)
            refine aw_aload_n C d_Ma_addPerson_68 rfl (j := 1) rfl ?_
            refine aw_aload C d_Ma_addPerson_69 (j := 0) rfl ?_
            refine aw_aload_n C d_Ma_addPerson_71 rfl (j := 2) rfl ?_
            refine aw_callVv (P9 := fun u => ds_P D ad cA nb u) [.ref (ad 13 d), .ref (ad 10 q)] C hK (c_Ma_handOn l D ad cA nb (ap_3 N q (lf_F S' x fr N) d) 16 d q hI hq hd (ap_3V hV1).2 (ap_T_end hns ho_62 hT')) (cw_Ma_Ma_handOn C.2.2.2.2 rfl rfl (by decide)) rfl (fun H h => aw_recv hK rfl (h 2 0 rfl)) (fun H h => h) (fun q h => Or.inl h) (fun q h => Or.inr (by rw [← hsz]; exact h)) rfl (Nat.le_of_ble_eq_true rfl) d_Ma_addPerson_72 (by decide) (fun H H1 u _ _ hB _ _ => hB) ?_
            rintro u rfl
            refine aw_iconst (v := 1) C d_Ma_addPerson_75 (by decide) ?_
            have e9 : ap_L N q (n + 1) S' x fr = (1, ho_F q 16 (ap_3 N q (lf_F S' x fr N) d) (some d)) := ap_L_end hns ho_62
            rw [e9] at hR
            exact aw_zret C hr hlk rfl _ ⟨by rw [← hR], by rw [← hR]⟩ (fun H h => h) d_Ma_addPerson_76
          · have hp62 : p_62 < 10 := (ap_3V (N := N) (q := q) (d := d) hV1).1 d p_62 ho_62
            refine aw_ifnonnull (o := some ((ad 10 p_62))) (tgt := 77) C d_Ma_addPerson_65 (by decide) (fun _ _ => ?_) (fun h => nomatch h)
            refine aw_aload C d_Ma_addPerson_77 (j := 0) rfl ?_
            refine gt_Ma_Sp_sitter C hK hd d_Ma_addPerson_79 ?_
            rw [ho_62]
            refine aw_astore_n (i := 2) (lv' := [(2, .ref (ad 10 p_62)), (5, .ref (ad 13 d)), (0, .ref (ad 2 0)), (1, .ref (ad 10 q)), (3, va_rf (fr.map (ad 13))), (4, .int (nI k))]) C d_Ma_addPerson_82 rfl (by decide) rfl ?_
            refine aw_aload C d_Ma_addPerson_83 (j := 1) rfl ?_
            refine aw_astore_n (i := 3) (lv' := [(3, .ref (ad 13 d)), (2, .ref (ad 10 p_62)), (5, .ref (ad 13 d)), (0, .ref (ad 2 0)), (1, .ref (ad 10 q)), (4, .int (nI k))]) C d_Ma_addPerson_85 rfl (by decide) rfl ?_
            refine aw_iinc (i := 4) (v := (nI (k + 1))) (lv' := [(4, .int (nI (k + 1))), (3, .ref (ad 13 d)), (2, .ref (ad 10 p_62)), (5, .ref (ad 13 d)), (0, .ref (ad 2 0)), (1, .ref (ad 10 q))]) C d_Ma_addPerson_86 (j := 5) rfl (nI_1 k) (by decide) rfl ?_
            refine aw_goto (tgt := 16) C d_Ma_addPerson_89 (by decide) ?_
            exact aw_lv [4, 5, 2, 1, 0] rfl (ih (k + 1) (ap_3 N q (lf_F S' x fr N) d) p_62 (some d) (by omega) (ap_36 h61) (ap_3V hV1) hp62 (fun z hz => by cases hz; exact hd) (ap_T_go hns ho_62 hT') (by rw [← hR]; exact (ap_L_go hns ho_62).symm))
  refine aw_lv (lv' := [(0, .ref (ad 2 0)), (1, .ref (ad 10 q))]) [0, 1] rfl ?_
  refine aw_aload_n C d_Ma_addPerson_0 rfl (j := 0) rfl ?_
  refine aw_callVv (P9 := fun u => ds_P D ad cA nb u) [] C hK (c_Ma_startSearch l D ad cA nb S N hI hN h6) (cw_Ma_Ma_startSearch C.2.2.2.2 rfl rfl (by decide)) rfl (fun H h => aw_recv hK rfl (h 2 0 rfl)) (fun H h => h) (fun q h => Or.inl h) (fun q h => Or.inr (by rw [← hsz]; exact h)) rfl (Nat.le_of_ble_eq_true rfl) d_Ma_addPerson_1 (by decide) (fun H H1 u _ _ hB _ _ => hB) ?_
  rintro u rfl
  refine aw_aload_n C d_Ma_addPerson_4 rfl (j := 1) rfl ?_
  refine aw_lconst (v := 0) C d_Ma_addPerson_5 (by decide) ?_
  refine pt_Ma_Pe_price (x := 0) C hK hI hq  d_Ma_addPerson_6 ?_
  refine aw_aload_n C d_Ma_addPerson_9 rfl (j := 1) rfl ?_
  refine aw_astore_n (i := 2) (lv' := [(2, .ref (ad 10 q)), (0, .ref (ad 2 0)), (1, .ref (ad 10 q))]) C d_Ma_addPerson_10 rfl (by decide) rfl ?_
  refine aw_null C d_Ma_addPerson_11 ?_
  refine aw_astoreq_n (x := none) (i := 3) (lv' := [(3, va_rf none), (2, .ref (ad 10 q)), (0, .ref (ad 2 0)), (1, .ref (ad 10 q))]) C d_Ma_addPerson_12 rfl (by decide) rfl ?_
  refine aw_iconst (v := 0) C d_Ma_addPerson_13 (by decide) ?_
  refine aw_istore (i := 4) (lv' := [(4, .int 0), (3, va_rf none), (2, .ref (ad 10 q)), (0, .ref (ad 2 0)), (1, .ref (ad 10 q))]) C d_Ma_addPerson_14 (by decide) (by simp [va_rf_cat, ct_ref, ct_int, ct_long]) ?_
  exact aw_lv [3, 4, 2, 1, 0] rfl (lp N 0 (ds_wJ (ss_F S N) 0 q 0) q none (by omega) (by show (ss_F S N).1 6 0 0 = nI N; rw [ss_6]; exact h6) (ss_V hV N) hq (fun z hz => by cases hz) hT rfl)
end
section
theorem ho_V {q : Nat} (hq : q < 10) : ∀ (n : Nat) (S : ds_S) (o : Option Nat), ma_V S → ma_V (ho_F q n S o)
  | 0, _, _, h => h
  | _ + 1, _, none, h => h
  | n + 1, S, some d, h => by
    refine ho_V hq n _ _ ⟨fun e p he => ?_, fun e e' he => h.2 e e' he⟩
    have he : ds_u2 S.2.2 0 d (match S.2.2 1 d with | none => some q | some d' => S.2.2 0 d') 0 e = some p := he
    unfold ds_u2 at he
    split at he
    · split at he
      · cases he; exact hq
      · exact h.1 _ p he
    · exact h.1 e p he
theorem ho_1 {q : Nat} : ∀ (n : Nat) (S : ds_S) (o : Option Nat), (ho_F q n S o).1 = S.1
  | 0, _, _ => rfl
  | _ + 1, _, none => rfl
  | n + 1, S, some d => ho_1 n _ _
theorem ap_LV {N q : Nat} (hq : q < 10) (hN : N ≤ 14) : ∀ (n : Nat) (S : ds_S) (x : Nat) (fr : Option Nat), ma_V S → (∀ d, fr = some d → d < 14) → ma_V (ap_L N q n S x fr).2
  | 0, _, _, _, h, _ => h
  | n + 1, S, x, fr, h, hf => by
    have h1 := lf_V (x := x) h hf N
    rcases hns : (ns_F (lf_F S x fr N) N).1 with _ | d
    · rw [ap_L_none hns]; exact h1
    · rcases hs : (ap_3 N q (lf_F S x fr N) d).2.2 0 d with _ | p
      · rw [ap_L_end hns hs]; exact ho_V hq _ _ _ (ap_3V h1)
      · rw [ap_L_go hns hs]
        exact ap_LV hq hN n _ _ _ (ap_3V h1) (fun z hz => by cases hz; exact Nat.lt_of_lt_of_le (ns_lt _ N d hns) hN)
theorem ap_L6 {N q : Nat} {v : Int32} : ∀ (n : Nat) (S : ds_S) (x : Nat) (fr : Option Nat), S.1 6 0 0 = v → (ap_L N q n S x fr).2.1 6 0 0 = v
  | 0, _, _, _, h => h
  | n + 1, S, x, fr, h => by
    have h1 : (lf_F S x fr N).1 6 0 0 = v := by rw [lf_1]; exact h
    rcases hns : (ns_F (lf_F S x fr N) N).1 with _ | d
    · rw [ap_L_none hns]; exact h1
    · rcases hs : (ap_3 N q (lf_F S x fr N) d).2.2 0 d with _ | p
      · rw [ap_L_end hns hs, ho_1]; exact ap_36 h1
      · rw [ap_L_go hns hs]
        exact ap_L6 n _ _ _ (ap_36 h1)
/-- person after person, from k on: n are left -/
def mt_L (N : Nat) (wo : Int32) : Nat → Nat → ds_S → Int32 × ds_S
  | 0, _, S => (wo_F S N, S)
  | n + 1, k, S => if nI k = wo then mt_L N wo n (k + 1) S else (if (ap_L N k N (ds_wJ (ss_F S N) 0 k 0) k none).1 = 0 then (-1, (ap_L N k N (ds_wJ (ss_F S N) 0 k 0) k none).2) else mt_L N wo n (k + 1) (ap_L N k N (ds_wJ (ss_F S N) 0 k 0) k none).2)
def mt_T (N : Nat) (wo : Int32) : Nat → Nat → ds_S → Prop
  | 0, _, _ => True
  | n + 1, k, S => (nI k = wo → mt_T N wo n (k + 1) S) ∧ (¬ nI k = wo → ap_T N k N (ds_wJ (ss_F S N) 0 k 0) k none ∧ (¬ (ap_L N k N (ds_wJ (ss_F S N) 0 k 0) k none).1 = 0 → mt_T N wo n (k + 1) (ap_L N k N (ds_wJ (ss_F S N) 0 k 0) k none).2))
theorem cs_V {S : ds_S} (h : ma_V S) : ∀ k, ma_V (cs_F S k)
  | 0 => h
  | k + 1 => by
    have ih := cs_V h k
    refine ⟨fun d p e => ?_, fun d d' e => ih.2 d d' e⟩
    have e : ds_u2 (cs_F S k).2.2 0 k none 0 d = some p := e
    unfold ds_u2 at e
    split at e
    · cases e
    · exact ih.1 d p e
set_option maxHeartbeats 4000000 in
set_option maxRecDepth 100000 in
theorem c_Ma_match (l : Launch) (D : va_G) (ad : Nat → Nat → Nat) (cA : Nat → ClassId) (nb : Nat) (S : ds_S) (N M : Nat) (wo : Int32) (hI : ds_I ad nb) (hN : N ≤ 14) (hM : M ≤ 10) (hV : ma_V S) (hT : mt_T N wo M 0 (cs_F (ds_wI S 6 0 0 (nI N)) N)) : Ct_i l y_Ma_match b_Ma_match 6 (some .int) ({ frames := 4, cells := 0, slots := 0, locals := 95 } : Room) 0 0 D (ds_ty cA) (ds_A ad nb) [.ref (ad 2 0), .ref (ad 1 0), .int (nI M), .int wo, .int (nI N)] (ds_P D ad cA nb S) (fun (r : Int32) (u : ds_S) => u = (mt_L N wo M 0 (cs_F (ds_wI S 6 0 0 (nI N)) N)).2 ∧ r = (mt_L N wo M 0 (cs_F (ds_wI S 6 0 0 (nI N)) N)).1) (ds_P D ad cA nb) := by
  intro sz
  refine ct_of (by decide) (Nat.le_of_ble_eq_true rfl) ?_
  intro p e s m args below meth c hsz C hr hlk hnm hK
  have lp : ∀ (n k : Nat) (S' : ds_S), k + n = M → S'.1 6 0 0 = nI N → ma_V S' → mt_T N wo n k S' → mt_L N wo n k S' = mt_L N wo M 0 (cs_F (ds_wI S 6 0 0 (nI N)) N) → AW p l e ({ frames := 4, cells := 0, slots := 0, locals := 95 } : Room) s m args below meth c 6 0 0 (MQ below (va_Qi (fun (r : Int32) (u : ds_S) => u = (mt_L N wo M 0 (cs_F (ds_wI S 6 0 0 (nI N)) N)).2 ∧ r = (mt_L N wo M 0 (cs_F (ds_wI S 6 0 0 (nI N)) N)).1) (fun u t => (ds_P D ad cA nb) u t.heap) (ct_A (ds_A ad nb) sz)) args s 0 0 (ct_A (ds_A ad nb) sz)) (ds_P D ad cA nb (S')) (ct_A (ds_A ad nb) sz) 9 [(0, .ref (ad 2 0)), (1, .ref (ad 1 0)), (2, .int (nI M)), (3, .int wo), (4, .int (nI N)), (5, .int (nI k))] [] := by
    intro n
    induction n with
    | zero =>
      intro k S' hkn h6' hV' hT' hR
      refine aw_iload C d_Ma_match_9 (j := 5) rfl ?_
      refine aw_iload_n C d_Ma_match_11 rfl (j := 2) rfl ?_
      refine aw_icmp_ge (tgt := 47) C d_Ma_match_12 (by decide) (fun c_12 => ?_) (fun c_12 => ?_)
      · refine aw_aload_n C d_Ma_match_47 rfl (j := 0) rfl ?_
        refine aw_callVi (P9 := fun r u => ds_P D ad cA nb u) [] C hK (c_Ma_worthOfSpots l D ad cA nb S' N hI hN h6' hV') (cw_Ma_Ma_worthOfSpots C.2.2.2.2 rfl rfl (by decide)) rfl (fun H h => aw_recv hK rfl (h 2 0 rfl)) (fun H h => h) (fun q h => Or.inl h) (fun q h => Or.inr (by rw [← hsz]; exact h)) rfl (Nat.le_of_ble_eq_true rfl) d_Ma_match_48 (by decide) (fun H H1 r u _ _ hB _ _ => hB) ?_
        rintro r u ⟨rfl, rfl⟩
        have e9 : mt_L N wo 0 k S' = (wo_F S' N, S') := rfl
        rw [e9] at hR
        exact aw_iret C hr hlk _ ⟨by rw [← hR], by rw [← hR]⟩ (fun H h => h) d_Ma_match_51
      · exact absurd (by rw [show k = M by omega]; exact nI_le (Nat.le_refl _) (by omega)) c_12
    | succ n ih =>
      intro k S' hkn h6' hV' hT' hR
      refine aw_iload C d_Ma_match_9 (j := 5) rfl ?_
      refine aw_iload_n C d_Ma_match_11 rfl (j := 2) rfl ?_
      refine aw_icmp_ge (tgt := 47) C d_Ma_match_12 (by decide) (fun c_12 => ?_) (fun c_12 => ?_)
      · exact absurd c_12 (nI_ge (by omega) (by omega))
      · refine aw_iload C d_Ma_match_15 (j := 5) rfl ?_
        refine aw_aload_n C d_Ma_match_17 rfl (j := 1) rfl ?_
        refine ln_1 C hK  d_Ma_match_18 ?_
        refine aw_icmp_ge (tgt := 47) C d_Ma_match_19 (by decide) (fun c_19 => ?_) (fun c_19 => ?_)
        · exact absurd c_19 (nI_ge (by omega) (by omega))
        · refine aw_iload C d_Ma_match_22 (j := 5) rfl ?_
          refine aw_iload_n C d_Ma_match_24 rfl (j := 3) rfl ?_
          refine aw_icmp_eq (tgt := 41) C d_Ma_match_25 (by decide) (fun c_25 => ?_) (fun c_25 => ?_)
          · refine aw_iinc (i := 5) (v := (nI (k + 1))) (lv' := [(5, .int (nI (k + 1))), (0, .ref (ad 2 0)), (1, .ref (ad 1 0)), (2, .int (nI M)), (3, .int wo), (4, .int (nI N))]) C d_Ma_match_41 (j := 5) rfl (nI_1 k) (by decide) rfl ?_
            refine aw_goto (tgt := 9) C d_Ma_match_44 (by decide) ?_
            exact aw_lv [1, 2, 3, 4, 5, 0] rfl (ih (k + 1) S' (by omega) h6' hV' (hT'.1 c_25) (by rw [← hR]; simp only [mt_L]; rw [if_pos c_25]))
          · refine aw_aload_n C d_Ma_match_28 rfl (j := 0) rfl ?_
            refine aw_aload_n C d_Ma_match_29 rfl (j := 1) rfl ?_
            refine aw_iload C d_Ma_match_30 (j := 5) rfl ?_
            refine al_1 C hK  k rfl (show k < 10 by omega) d_Ma_match_32 ?_
            refine aw_callVi (P9 := fun r u => ds_P D ad cA nb u) [.ref (ad 10 k)] C hK (c_Ma_addPerson l D ad cA nb S' N k hI hN h6' (by omega) hV' (hT'.2 c_25).1) (cw_Ma_Ma_addPerson C.2.2.2.2 rfl rfl (by decide)) rfl (fun H h => aw_recv hK rfl (h 2 0 rfl)) (fun H h => h) (fun q h => Or.inl h) (fun q h => Or.inr (by rw [← hsz]; exact h)) rfl (Nat.le_of_ble_eq_true rfl) d_Ma_match_33 (by decide) (fun H H1 r u _ _ hB _ _ => hB) ?_
            rintro r u ⟨rfl, rfl⟩
            refine aw_if_ne (tgt := 41) C d_Ma_match_36 (by decide) (fun c_36 => ?_) (fun c_36 => ?_)
            · refine aw_iinc (i := 5) (v := (nI (k + 1))) (lv' := [(5, .int (nI (k + 1))), (0, .ref (ad 2 0)), (1, .ref (ad 1 0)), (2, .int (nI M)), (3, .int wo), (4, .int (nI N))]) C d_Ma_match_41 (j := 5) rfl (nI_1 k) (by decide) rfl ?_
              refine aw_goto (tgt := 9) C d_Ma_match_44 (by decide) ?_
              exact aw_lv [1, 2, 3, 4, 5, 0] rfl (ih (k + 1) (ap_L N k N (ds_wJ (ss_F S' N) 0 k 0) k none).2 (by omega) (ap_L6 N _ k none (by show (ss_F S' N).1 6 0 0 = nI N; rw [ss_6]; exact h6')) (ap_LV (by omega) hN N _ k none (ss_V hV' N) (fun z hz => by cases hz)) ((hT'.2 c_25).2 c_36) (by rw [← hR]; simp only [mt_L]; rw [if_neg c_25, if_neg c_36]))
            · refine aw_iconst (v := (-1)) C d_Ma_match_39 (by decide) ?_
              have e9 : mt_L N wo (n + 1) k S' = (-1, (ap_L N k N (ds_wJ (ss_F S' N) 0 k 0) k none).2) := by
                simp only [mt_L]
                rw [if_neg c_25, if_pos c_36]
              rw [e9] at hR
              exact aw_iret C hr hlk _ ⟨by rw [← hR], by rw [← hR]⟩ (fun H h => h) d_Ma_match_40
  refine aw_lv (lv' := [(0, .ref (ad 2 0)), (1, .ref (ad 1 0)), (2, .int (nI M)), (3, .int wo), (4, .int (nI N))]) [0, 1, 2, 3, 4] rfl ?_
  refine aw_aload_n C d_Ma_match_0 rfl (j := 0) rfl ?_
  refine aw_iload C d_Ma_match_1 (j := 4) rfl ?_
  refine aw_callVv (P9 := fun u => ds_P D ad cA nb u) [.int (nI N)] C hK (c_Ma_clearSpots l D ad cA nb S N hI hN) (cw_Ma_Ma_clearSpots C.2.2.2.2 rfl rfl (by decide)) rfl (fun H h => aw_recv hK rfl (h 2 0 rfl)) (fun H h => h) (fun q h => Or.inl h) (fun q h => Or.inr (by rw [← hsz]; exact h)) rfl (Nat.le_of_ble_eq_true rfl) d_Ma_match_3 (by decide) (fun H H1 u _ _ hB _ _ => hB) ?_
  rintro u rfl
  refine aw_iconst (v := 0) C d_Ma_match_6 (by decide) ?_
  refine aw_istore (i := 5) (lv' := [(5, .int 0), (0, .ref (ad 2 0)), (1, .ref (ad 1 0)), (2, .int (nI M)), (3, .int wo), (4, .int (nI N))]) C d_Ma_match_7 (by decide) rfl ?_
  exact aw_lv [1, 2, 3, 4, 5, 0] rfl (lp M 0 (cs_F (ds_wI S 6 0 0 (nI N)) N) (by omega) (by rw [cs_1]; rfl) (cs_V (S := ds_wI S 6 0 0 (nI N)) hV N) hT rfl)
end
section
def wf_free (S : ds_S) (x : Int32) : Int32 := if S.1 9 0 0 &&& ((1 : Int32) <<< (x &&& 31)) = 0 then 1 else 0
def go_4 (S : ds_S) (p c : Nat) (x : Int32) : ds_S := ds_wI (ds_wI (ds_wI (ds_wI S 16 0 c (nI p)) 17 0 c (S.1 14 p 0)) 18 0 c x) 7 0 0 (nI (c + 1))
def go_5 (S : ds_S) (p c : Nat) (x : Int32) : ds_S := if S.1 14 p 0 = -1 then go_4 S p c x else ds_wI (go_4 S p c x) 9 0 0 (S.1 9 0 0 &&& (((1 : Int32) <<< (S.1 14 p 0 &&& 31)) ^^^ (-1)))
def go_F (S : ds_S) (p c : Nat) (x : Int32) : ds_S := ds_wI (ds_wI (go_5 S p c x) 9 0 0 ((go_5 S p c x).1 9 0 0 ||| ((1 : Int32) <<< (x &&& 31)))) 14 p 0 x
theorem go_7 (S : ds_S) (p c : Nat) (x : Int32) : (go_F S p c x).1 7 0 0 = nI (c + 1) := by
  show (go_5 S p c x).1 7 0 0 = nI (c + 1)
  unfold go_5
  split <;> rfl
def sa_0 (S : ds_S) : ds_S := ds_wI (ds_wI (ds_wI S 7 0 0 0) 8 0 0 0) 9 0 0 0
def sa_F (S : ds_S) : Nat → ds_S
  | 0 => sa_0 S
  | k + 1 => if (sa_F S k).1 12 k 0 = -1 then ds_wI (sa_F S k) 14 k 0 ((sa_F S k).1 12 k 0) else ds_wI (ds_wI (sa_F S k) 14 k 0 ((sa_F S k).1 12 k 0)) 9 0 0 ((sa_F S k).1 9 0 0 ||| ((1 : Int32) <<< ((sa_F S k).1 12 k 0 &&& 31)))
theorem sa_7 (S : ds_S) : ∀ k, (sa_F S k).1 7 0 0 = 0
  | 0 => rfl
  | k + 1 => by
    unfold sa_F
    split
    · exact sa_7 S k
    · exact sa_7 S k
def fw_L (S : ds_S) : Nat → Nat → Option Nat
  | 0, _ => none
  | n + 1, k => if S.1 14 k 0 = S.1 13 k 0 then fw_L S n (k + 1) else (if wf_free S (S.1 13 k 0) = 0 then fw_L S n (k + 1) else some k)
def fn_L (S : ds_S) : Nat → Nat → Option Nat
  | 0, _ => none
  | n + 1, k => if S.1 14 k 0 = S.1 13 k 0 then fn_L S n (k + 1) else some k
def ff_L (S : ds_S) : Nat → Nat → Int32
  | 0, _ => -1
  | n + 1, k => if wf_free S (nI k) = 0 then ff_L S n (k + 1) else nI k
theorem fw_lt {S : ds_S} : ∀ n k p, fw_L S n k = some p → p < k + n
  | 0, _, _, h => by cases h
  | n + 1, k, p, h => by
    unfold fw_L at h
    split at h
    · have := fw_lt n (k + 1) p h; omega
    · split at h
      · have := fw_lt n (k + 1) p h; omega
      · cases h; omega
theorem fn_lt {S : ds_S} : ∀ n k p, fn_L S n k = some p → p < k + n
  | 0, _, _, h => by cases h
  | n + 1, k, p, h => by
    unfold fn_L at h
    split at h
    · have := fn_lt n (k + 1) p h; omega
    · cases h; omega
/-- the steps: n of 15 are left, k are gone -/
def pl_L (M N : Nat) : Nat → Nat → ds_S → ds_S
  | 0, _, S => S
  | n + 1, k, S => match fw_L S M 0 with
    | some p => pl_L M N n (k + 1) (go_F S p k (S.1 13 p 0))
    | none => match fn_L S M 0 with
      | none => S
      | some p => if ff_L S N 0 = -1 then ds_wI S 8 0 0 1 else pl_L M N n (k + 1) (go_F S p k (ff_L S N 0))
set_option maxHeartbeats 4000000 in
set_option maxRecDepth 100000 in
theorem c_Wa_isFree (l : Launch) (D : va_G) (ad : Nat → Nat → Nat) (cA : Nat → ClassId) (nb : Nat) (S : ds_S) (x : Int32) : Ct_i l y_Wa_isFree b_Wa_isFree 2 (some .boolean) ({ frames := 0, cells := 0, slots := 0, locals := 0 } : Room) 0 0 D (ds_ty cA) (ds_A ad nb) [.ref (ad 4 0), .int x] (ds_P D ad cA nb S) (fun (r : Int32) (u : ds_S) => S = u ∧ r = wf_free S x) (ds_P D ad cA nb) := by
  intro sz
  refine ct_of (by decide) (Nat.le_of_ble_eq_true rfl) ?_
  intro p e s m args below meth c hsz C hr hlk hnm hK
  refine aw_lv (lv' := [(0, .ref (ad 4 0)), (1, .int x)]) [0, 1] rfl ?_
  refine aw_aload_n C d_Wa_isFree_0 rfl (j := 0) rfl ?_
  refine gt_Wa_Wa_taken C hK  d_Wa_isFree_1 ?_
  refine aw_iconst (v := 1) C d_Wa_isFree_4 (by decide) ?_
  refine aw_iload_n C d_Wa_isFree_5 rfl (j := 1) rfl ?_
  refine aw_ishl C d_Wa_isFree_6 ?_
  refine aw_iand C d_Wa_isFree_7 ?_
  refine aw_if_ne (tgt := 15) C d_Wa_isFree_8 (by decide) (fun c_8 => ?_) (fun c_8 => ?_)
  · refine aw_iconst (v := 0) C d_Wa_isFree_15 (by decide) ?_
    exact aw_zret C hr hlk rfl S ⟨rfl, by unfold wf_free; rw [if_neg c_8]⟩ (fun H h => h) d_Wa_isFree_16
  · refine aw_iconst (v := 1) C d_Wa_isFree_11 (by decide) ?_
    refine aw_goto (tgt := 16) C d_Wa_isFree_12 (by decide) ?_
    exact aw_zret C hr hlk rfl S ⟨rfl, by unfold wf_free; rw [if_pos c_8]⟩ (fun H h => h) d_Wa_isFree_16
set_option maxHeartbeats 4000000 in
set_option maxRecDepth 100000 in
theorem c_Wa_go (l : Launch) (D : va_G) (ad : Nat → Nat → Nat) (cA : Nat → ClassId) (nb : Nat) (S : ds_S) (g9 c9 : Nat) (x : Int32) (hI : ds_I ad nb) (hp : g9 < 10) (hc : S.1 7 0 0 = nI c9) (h15 : c9 < 15) : Ct_v l y_Wa_go b_Wa_go 3 none ({ frames := 0, cells := 0, slots := 0, locals := 0 } : Room) 0 0 D (ds_ty cA) (ds_A ad nb) [.ref (ad 4 0), .ref (ad 10 g9), .int x] (ds_P D ad cA nb S) (fun (u : ds_S) => u = go_F S g9 c9 x) (ds_P D ad cA nb) := by
  intro sz
  refine ct_of (by decide) (Nat.le_of_ble_eq_true rfl) ?_
  intro p e s m args below meth c hsz C hr hlk hnm hK
  refine aw_lv (lv' := [(0, .ref (ad 4 0)), (1, .ref (ad 10 g9)), (2, .int x)]) [0, 1, 2] rfl ?_
  refine aw_aload_n C d_Wa_go_0 rfl (j := 0) rfl ?_
  refine gt_Wa_Wa_count C hK  d_Wa_go_1 ?_
  refine aw_bipush (v := 15) C d_Wa_go_4 (by decide) ?_
  refine aw_icmp_lt (tgt := 10) C d_Wa_go_6 (by decide) (fun c_6 => ?_) (fun c_6 => ?_)
  · refine aw_aload_n C d_Wa_go_10 rfl (j := 0) rfl ?_
    refine gt_Wa_Wa_goers C hK  d_Wa_go_11 ?_
    refine aw_aload_n C d_Wa_go_14 rfl (j := 0) rfl ?_
    refine gt_Wa_Wa_count C hK  d_Wa_go_15 ?_
    refine aw_aload_n C d_Wa_go_18 rfl (j := 1) rfl ?_
    refine gt_Wa_Pe_number C hK hp d_Wa_go_19 ?_
    refine as_5 C hK hI   c9 hc h15 d_Wa_go_22 ?_
    refine aw_aload_n C d_Wa_go_23 rfl (j := 0) rfl ?_
    refine gt_Wa_Wa_starts C hK  d_Wa_go_24 ?_
    refine aw_aload_n C d_Wa_go_27 rfl (j := 0) rfl ?_
    refine gt_Wa_Wa_count C hK  d_Wa_go_28 ?_
    refine aw_aload_n C d_Wa_go_31 rfl (j := 1) rfl ?_
    refine gt_Wa_Pe_place C hK hp d_Wa_go_32 ?_
    refine as_6 C hK hI   c9 hc h15 d_Wa_go_35 ?_
    refine aw_aload_n C d_Wa_go_36 rfl (j := 0) rfl ?_
    refine gt_Wa_Wa_goals C hK  d_Wa_go_37 ?_
    refine aw_aload_n C d_Wa_go_40 rfl (j := 0) rfl ?_
    refine gt_Wa_Wa_count C hK  d_Wa_go_41 ?_
    refine aw_iload_n C d_Wa_go_44 rfl (j := 2) rfl ?_
    refine as_7 C hK hI   c9 hc h15 d_Wa_go_45 ?_
    refine aw_aload_n C d_Wa_go_46 rfl (j := 0) rfl ?_
    refine aw_dup C d_Wa_go_47 rfl ?_
    refine gt_Wa_Wa_count C hK  d_Wa_go_48 ?_
    refine aw_iconst (v := 1) C d_Wa_go_51 (by decide) ?_
    refine aw_iadd C d_Wa_go_52 ?_
    refine aw_topi (fun z_52 hz_52 => ?_)
    obtain rfl : z_52 = nI (c9 + 1) := by rw [hz_52]; show S.1 7 0 0 + 1 = _; rw [hc]; exact nI_1 c9
    refine pt_Wa_Wa_count (x := (nI (c9 + 1))) C hK hI   d_Wa_go_53 ?_
    refine aw_aload_n C d_Wa_go_56 rfl (j := 1) rfl ?_
    refine gt_Wa_Pe_place C hK hp d_Wa_go_57 ?_
    refine aw_iconst (v := (-1)) C d_Wa_go_60 (by decide) ?_
    refine aw_icmp_eq (tgt := 81) C d_Wa_go_61 (by decide) (fun c_61 => ?_) (fun c_61 => ?_)
    · refine aw_aload_n C d_Wa_go_81 rfl (j := 0) rfl ?_
      refine aw_dup C d_Wa_go_82 rfl ?_
      refine gt_Wa_Wa_taken C hK  d_Wa_go_83 ?_
      refine aw_iconst (v := 1) C d_Wa_go_86 (by decide) ?_
      refine aw_iload_n C d_Wa_go_87 rfl (j := 2) rfl ?_
      refine aw_ishl C d_Wa_go_88 ?_
      refine aw_ior C d_Wa_go_89 ?_
      refine pt_Wa_Wa_taken (x := ((((ds_wI (ds_wI (ds_wI (ds_wI S 16 0 c9 ((nI g9))) 17 0 c9 (((ds_wI S 16 0 c9 ((nI g9))).1 14 g9 0))) 18 0 c9 x) 7 0 0 ((nI (c9 + 1)))).1 9 0 0)) ||| ((1 <<< (x &&& 31))))) C hK hI   d_Wa_go_90 ?_
      refine aw_aload_n C d_Wa_go_93 rfl (j := 1) rfl ?_
      refine aw_iload_n C d_Wa_go_94 rfl (j := 2) rfl ?_
      refine pt_Wa_Pe_place (x := x) C hK hI hp  d_Wa_go_95 ?_
      exact aw_vret C hr hlk _ (by have c9x : S.1 14 g9 0 = -1 := c_61; unfold go_F go_5; rw [if_pos c9x]; rfl) (fun H h => h) d_Wa_go_98
    · refine aw_aload_n C d_Wa_go_64 rfl (j := 0) rfl ?_
      refine aw_dup C d_Wa_go_65 rfl ?_
      refine gt_Wa_Wa_taken C hK  d_Wa_go_66 ?_
      refine aw_iconst (v := 1) C d_Wa_go_69 (by decide) ?_
      refine aw_aload_n C d_Wa_go_70 rfl (j := 1) rfl ?_
      refine gt_Wa_Pe_place C hK hp d_Wa_go_71 ?_
      refine aw_ishl C d_Wa_go_74 ?_
      refine aw_iconst (v := (-1)) C d_Wa_go_75 (by decide) ?_
      refine aw_ixor C d_Wa_go_76 ?_
      refine aw_iand C d_Wa_go_77 ?_
      refine pt_Wa_Wa_taken (x := ((((ds_wI (ds_wI (ds_wI (ds_wI S 16 0 c9 ((nI g9))) 17 0 c9 (((ds_wI S 16 0 c9 ((nI g9))).1 14 g9 0))) 18 0 c9 x) 7 0 0 ((nI (c9 + 1)))).1 9 0 0)) &&& ((((1 <<< ((((ds_wI (ds_wI (ds_wI (ds_wI S 16 0 c9 ((nI g9))) 17 0 c9 (((ds_wI S 16 0 c9 ((nI g9))).1 14 g9 0))) 18 0 c9 x) 7 0 0 ((nI (c9 + 1)))).1 14 g9 0)) &&& 31))) ^^^ ((-1)))))) C hK hI   d_Wa_go_78 ?_
      refine aw_aload_n C d_Wa_go_81 rfl (j := 0) rfl ?_
      refine aw_dup C d_Wa_go_82 rfl ?_
      refine gt_Wa_Wa_taken C hK  d_Wa_go_83 ?_
      refine aw_iconst (v := 1) C d_Wa_go_86 (by decide) ?_
      refine aw_iload_n C d_Wa_go_87 rfl (j := 2) rfl ?_
      refine aw_ishl C d_Wa_go_88 ?_
      refine aw_ior C d_Wa_go_89 ?_
      refine pt_Wa_Wa_taken (x := ((((ds_wI (ds_wI (ds_wI (ds_wI (ds_wI S 16 0 c9 ((nI g9))) 17 0 c9 (((ds_wI S 16 0 c9 ((nI g9))).1 14 g9 0))) 18 0 c9 x) 7 0 0 ((nI (c9 + 1)))) 9 0 0 (((((ds_wI (ds_wI (ds_wI (ds_wI S 16 0 c9 ((nI g9))) 17 0 c9 (((ds_wI S 16 0 c9 ((nI g9))).1 14 g9 0))) 18 0 c9 x) 7 0 0 ((nI (c9 + 1)))).1 9 0 0)) &&& ((((1 <<< ((((ds_wI (ds_wI (ds_wI (ds_wI S 16 0 c9 ((nI g9))) 17 0 c9 (((ds_wI S 16 0 c9 ((nI g9))).1 14 g9 0))) 18 0 c9 x) 7 0 0 ((nI (c9 + 1)))).1 14 g9 0)) &&& 31))) ^^^ ((-1))))))).1 9 0 0)) ||| ((1 <<< (x &&& 31))))) C hK hI   d_Wa_go_90 ?_
      refine aw_aload_n C d_Wa_go_93 rfl (j := 1) rfl ?_
      refine aw_iload_n C d_Wa_go_94 rfl (j := 2) rfl ?_
      refine pt_Wa_Pe_place (x := x) C hK hI hp  d_Wa_go_95 ?_
      exact aw_vret C hr hlk _ (by have c9x : ¬ S.1 14 g9 0 = -1 := c_61; unfold go_F go_5; rw [if_neg c9x]; rfl) (fun H h => h) d_Wa_go_98
  · exact absurd (by rw [hc, show (15 : Int32) = nI 15 from rfl]; exact nI_lt h15 (by omega)) c_6
set_option maxHeartbeats 4000000 in
set_option maxRecDepth 100000 in
theorem c_Wa_sitAtOldDesks (l : Launch) (D : va_G) (ad : Nat → Nat → Nat) (cA : Nat → ClassId) (nb : Nat) (S : ds_S) (M : Nat) (hI : ds_I ad nb) (hM : M ≤ 10) : Ct_v l y_Wa_sitAtOldDesks b_Wa_sitAtOldDesks 4 none ({ frames := 0, cells := 0, slots := 0, locals := 0 } : Room) 0 0 D (ds_ty cA) (ds_A ad nb) [.ref (ad 4 0), .ref (ad 1 0), .int (nI M)] (ds_P D ad cA nb S) (fun (u : ds_S) => u = sa_F S M) (ds_P D ad cA nb) := by
  intro sz
  refine ct_of (by decide) (Nat.le_of_ble_eq_true rfl) ?_
  intro p e s m args below meth c hsz C hr hlk hnm hK
  have lp : ∀ (n k : Nat) , k ≤ M → M + 1 ≤ k + n → AW p l e ({ frames := 0, cells := 0, slots := 0, locals := 0 } : Room) s m args below meth c 4 0 0 (MQ below (va_Qv (fun (u : ds_S) => u = sa_F S M) (fun u t => (ds_P D ad cA nb) u t.heap) (ct_A (ds_A ad nb) sz)) args s 0 0 (ct_A (ds_A ad nb) sz)) (ds_P D ad cA nb (sa_F S k)) (ct_A (ds_A ad nb) sz) 17 [(0, .ref (ad 4 0)), (1, .ref (ad 1 0)), (2, .int (nI M)), (3, .int (nI k))] [] := by
    intro n
    induction n with
    | zero => intro k h1 h2; exact absurd h2 (by omega)
    | succ n ih =>
      intro k hk hn
      refine aw_iload_n C d_Wa_sitAtOldDesks_17 rfl (j := 3) rfl ?_
      refine aw_iload_n C d_Wa_sitAtOldDesks_18 rfl (j := 2) rfl ?_
      refine aw_icmp_ge (tgt := 73) C d_Wa_sitAtOldDesks_19 (by decide) (fun c_19 => ?_) (fun c_19 => ?_)
      · have hkM : k = M := by have := (nI_leI (by omega) (by omega)).mp c_19; omega
        subst hkM
        exact aw_vret C hr hlk _ rfl (fun H h => h) d_Wa_sitAtOldDesks_73
      · have hlt : k < M := Nat.lt_of_not_le (fun h => c_19 (nI_le h (by omega)))
        refine aw_iload_n C d_Wa_sitAtOldDesks_22 rfl (j := 3) rfl ?_
        refine aw_aload_n C d_Wa_sitAtOldDesks_23 rfl (j := 1) rfl ?_
        refine ln_1 C hK  d_Wa_sitAtOldDesks_24 ?_
        refine aw_icmp_ge (tgt := 73) C d_Wa_sitAtOldDesks_25 (by decide) (fun c_25 => ?_) (fun c_25 => ?_)
        · exact absurd c_25 (nI_ge (by omega) (by omega))
        · refine aw_aload_n C d_Wa_sitAtOldDesks_28 rfl (j := 1) rfl ?_
          refine aw_iload_n C d_Wa_sitAtOldDesks_29 rfl (j := 3) rfl ?_
          refine al_1 C hK  k rfl (show k < 10 by omega) d_Wa_sitAtOldDesks_30 ?_
          refine aw_aload_n C d_Wa_sitAtOldDesks_31 rfl (j := 1) rfl ?_
          refine aw_iload_n C d_Wa_sitAtOldDesks_32 rfl (j := 3) rfl ?_
          refine al_1 C hK  k rfl (show k < 10 by omega) d_Wa_sitAtOldDesks_33 ?_
          refine gt_Wa_Pe_oldDesk C hK (show k < 10 by omega) d_Wa_sitAtOldDesks_34 ?_
          refine pt_Wa_Pe_place (x := ((sa_F S k).1 12 k 0)) C hK hI (show k < 10 by omega)  d_Wa_sitAtOldDesks_37 ?_
          refine aw_aload_n C d_Wa_sitAtOldDesks_40 rfl (j := 1) rfl ?_
          refine aw_iload_n C d_Wa_sitAtOldDesks_41 rfl (j := 3) rfl ?_
          refine al_1 C hK  k rfl (show k < 10 by omega) d_Wa_sitAtOldDesks_42 ?_
          refine gt_Wa_Pe_place C hK (show k < 10 by omega) d_Wa_sitAtOldDesks_43 ?_
          rw [show (ds_wI (sa_F S k) 14 k 0 (((sa_F S k).1 12 k 0))).1 14 k 0 = (sa_F S k).1 12 k 0 from ds_u3_s _ _ _ _ _]
          refine aw_iconst (v := (-1)) C d_Wa_sitAtOldDesks_46 (by decide) ?_
          refine aw_icmp_eq (tgt := 67) C d_Wa_sitAtOldDesks_47 (by decide) (fun c_47 => ?_) (fun c_47 => ?_)
          · refine aw_iinc (i := 3) (v := (nI (k + 1))) (lv' := [(3, .int (nI (k + 1))), (0, .ref (ad 4 0)), (1, .ref (ad 1 0)), (2, .int (nI M))]) C d_Wa_sitAtOldDesks_67 (j := 3) rfl (nI_1 k) (by decide) rfl ?_
            refine aw_goto (tgt := 17) C d_Wa_sitAtOldDesks_70 (by decide) ?_
            have e9 : sa_F S (k + 1) = ds_wI (sa_F S k) 14 k 0 (((sa_F S k).1 12 k 0)) := by
              show (if (sa_F S k).1 12 k 0 = -1 then ds_wI (sa_F S k) 14 k 0 ((sa_F S k).1 12 k 0) else ds_wI (ds_wI (sa_F S k) 14 k 0 ((sa_F S k).1 12 k 0)) 9 0 0 ((sa_F S k).1 9 0 0 ||| ((1 : Int32) <<< ((sa_F S k).1 12 k 0 &&& 31)))) = _
              rw [if_pos c_47]
            rw [← e9]
            exact aw_lv [1, 2, 3, 0] rfl (ih (k + 1) (by omega) (by omega))
          · refine aw_aload_n C d_Wa_sitAtOldDesks_50 rfl (j := 0) rfl ?_
            refine aw_dup C d_Wa_sitAtOldDesks_51 rfl ?_
            refine gt_Wa_Wa_taken C hK  d_Wa_sitAtOldDesks_52 ?_
            refine aw_iconst (v := 1) C d_Wa_sitAtOldDesks_55 (by decide) ?_
            refine aw_aload_n C d_Wa_sitAtOldDesks_56 rfl (j := 1) rfl ?_
            refine aw_iload_n C d_Wa_sitAtOldDesks_57 rfl (j := 3) rfl ?_
            refine al_1 C hK  k rfl (show k < 10 by omega) d_Wa_sitAtOldDesks_58 ?_
            refine gt_Wa_Pe_place C hK (show k < 10 by omega) d_Wa_sitAtOldDesks_59 ?_
            rw [show (ds_wI (sa_F S k) 14 k 0 (((sa_F S k).1 12 k 0))).1 14 k 0 = (sa_F S k).1 12 k 0 from ds_u3_s _ _ _ _ _]
            refine aw_ishl C d_Wa_sitAtOldDesks_62 ?_
            refine aw_ior C d_Wa_sitAtOldDesks_63 ?_
            refine pt_Wa_Wa_taken (x := ((((ds_wI (sa_F S k) 14 k 0 (((sa_F S k).1 12 k 0))).1 9 0 0)) ||| ((1 <<< ((((sa_F S k).1 12 k 0)) &&& 31))))) C hK hI   d_Wa_sitAtOldDesks_64 ?_
            refine aw_iinc (i := 3) (v := (nI (k + 1))) (lv' := [(3, .int (nI (k + 1))), (0, .ref (ad 4 0)), (1, .ref (ad 1 0)), (2, .int (nI M))]) C d_Wa_sitAtOldDesks_67 (j := 3) rfl (nI_1 k) (by decide) rfl ?_
            refine aw_goto (tgt := 17) C d_Wa_sitAtOldDesks_70 (by decide) ?_
            have e9 : sa_F S (k + 1) = ds_wI (ds_wI (sa_F S k) 14 k 0 (((sa_F S k).1 12 k 0))) 9 0 0 (((((ds_wI (sa_F S k) 14 k 0 (((sa_F S k).1 12 k 0))).1 9 0 0)) ||| ((1 <<< ((((sa_F S k).1 12 k 0)) &&& 31))))) := by
              show (if (sa_F S k).1 12 k 0 = -1 then ds_wI (sa_F S k) 14 k 0 ((sa_F S k).1 12 k 0) else ds_wI (ds_wI (sa_F S k) 14 k 0 ((sa_F S k).1 12 k 0)) 9 0 0 ((sa_F S k).1 9 0 0 ||| ((1 : Int32) <<< ((sa_F S k).1 12 k 0 &&& 31)))) = _
              rw [if_neg c_47]; rfl
            rw [← e9]
            exact aw_lv [1, 2, 3, 0] rfl (ih (k + 1) (by omega) (by omega))
  refine aw_lv (lv' := [(0, .ref (ad 4 0)), (1, .ref (ad 1 0)), (2, .int (nI M))]) [0, 1, 2] rfl ?_
  refine aw_aload_n C d_Wa_sitAtOldDesks_0 rfl (j := 0) rfl ?_
  refine aw_iconst (v := 0) C d_Wa_sitAtOldDesks_1 (by decide) ?_
  refine pt_Wa_Wa_count (x := 0) C hK hI   d_Wa_sitAtOldDesks_2 ?_
  refine aw_aload_n C d_Wa_sitAtOldDesks_5 rfl (j := 0) rfl ?_
  refine aw_iconst (v := 0) C d_Wa_sitAtOldDesks_6 (by decide) ?_
  refine pt_Wa_Wa_stuck (x := 0) C hK hI  (Or.inl rfl) d_Wa_sitAtOldDesks_7 ?_
  refine aw_aload_n C d_Wa_sitAtOldDesks_10 rfl (j := 0) rfl ?_
  refine aw_iconst (v := 0) C d_Wa_sitAtOldDesks_11 (by decide) ?_
  refine pt_Wa_Wa_taken (x := 0) C hK hI   d_Wa_sitAtOldDesks_12 ?_
  refine aw_iconst (v := 0) C d_Wa_sitAtOldDesks_15 (by decide) ?_
  refine aw_istore_n (i := 3) (lv' := [(3, .int 0), (0, .ref (ad 4 0)), (1, .ref (ad 1 0)), (2, .int (nI M))]) C d_Wa_sitAtOldDesks_16 rfl (by decide) rfl ?_
  exact aw_lv [1, 2, 3, 0] rfl (lp (M + 1) 0 (by omega) (by omega))
set_option maxHeartbeats 4000000 in
set_option maxRecDepth 100000 in
theorem c_Wa_firstWhoCanGoHome (l : Launch) (D : va_G) (ad : Nat → Nat → Nat) (cA : Nat → ClassId) (nb : Nat) (S : ds_S) (M : Nat) (hI : ds_I ad nb) (hM : M ≤ 10) : Ct_q l y_Wa_firstWhoCanGoHome b_Wa_firstWhoCanGoHome 5 (some (.object "DeskMoves$Person")) ({ frames := 1, cells := 0, slots := 0, locals := 21 } : Room) 0 0 D (ds_ty cA) (ds_A ad nb) [.ref (ad 4 0), .ref (ad 1 0), .int (nI M)] (ds_P D ad cA nb S) (fun (r : Option Nat) (u : ds_S) => S = u ∧ r = (fw_L S M 0).map (ad 10)) (ds_P D ad cA nb) := by
  intro sz
  refine ct_of (by decide) (Nat.le_of_ble_eq_true rfl) ?_
  intro p e s m args below meth c hsz C hr hlk hnm hK
  have lp : ∀ (n k : Nat), k + n = M → fw_L S n k = fw_L S M 0 → AW p l e ({ frames := 1, cells := 0, slots := 0, locals := 21 } : Room) s m args below meth c 5 0 0 (MQ below (va_Qq (fun (r : Option Nat) (u : ds_S) => S = u ∧ r = (fw_L S M 0).map (ad 10)) (fun u t => (ds_P D ad cA nb) u t.heap) (ct_A (ds_A ad nb) sz)) args s 0 0 (ct_A (ds_A ad nb) sz)) (ds_P D ad cA nb S) (ct_A (ds_A ad nb) sz) 2 [(0, .ref (ad 4 0)), (1, .ref (ad 1 0)), (2, .int (nI M)), (3, .int (nI k))] [] := by
    intro n
    induction n with
    | zero =>
      intro k hkn hR
      refine aw_iload_n C d_Wa_firstWhoCanGoHome_2 rfl (j := 3) rfl ?_
      refine aw_iload_n C d_Wa_firstWhoCanGoHome_3 rfl (j := 2) rfl ?_
      refine aw_icmp_ge (tgt := 52) C d_Wa_firstWhoCanGoHome_4 (by decide) (fun c_4 => ?_) (fun c_4 => ?_)
      · refine aw_null C d_Wa_firstWhoCanGoHome_52 ?_
        exact aw_qret (v := none) C hr hlk S ⟨rfl, by rw [← hR]; rfl⟩ (fun H h => h) d_Wa_firstWhoCanGoHome_53
      · exact absurd (by rw [show k = M by omega]; exact nI_le (Nat.le_refl _) (by omega)) c_4
    | succ n ih =>
      intro k hkn hR
      refine aw_iload_n C d_Wa_firstWhoCanGoHome_2 rfl (j := 3) rfl ?_
      refine aw_iload_n C d_Wa_firstWhoCanGoHome_3 rfl (j := 2) rfl ?_
      refine aw_icmp_ge (tgt := 52) C d_Wa_firstWhoCanGoHome_4 (by decide) (fun c_4 => ?_) (fun c_4 => ?_)
      · exact absurd c_4 (nI_ge (by omega) (by omega))
      · refine aw_iload_n C d_Wa_firstWhoCanGoHome_7 rfl (j := 3) rfl ?_
        refine aw_aload_n C d_Wa_firstWhoCanGoHome_8 rfl (j := 1) rfl ?_
        refine ln_1 C hK  d_Wa_firstWhoCanGoHome_9 ?_
        refine aw_icmp_ge (tgt := 52) C d_Wa_firstWhoCanGoHome_10 (by decide) (fun c_10 => ?_) (fun c_10 => ?_)
        · exact absurd c_10 (nI_ge (by omega) (by omega))
        · refine aw_aload_n C d_Wa_firstWhoCanGoHome_13 rfl (j := 1) rfl ?_
          refine aw_iload_n C d_Wa_firstWhoCanGoHome_14 rfl (j := 3) rfl ?_
          refine al_1 C hK  k rfl (show k < 10 by omega) d_Wa_firstWhoCanGoHome_15 ?_
          refine aw_astore (i := 4) (lv' := [(4, .ref (ad 10 k)), (0, .ref (ad 4 0)), (1, .ref (ad 1 0)), (2, .int (nI M)), (3, .int (nI k))]) C d_Wa_firstWhoCanGoHome_16 (by decide) rfl ?_
          refine aw_aload C d_Wa_firstWhoCanGoHome_18 (j := 0) rfl ?_
          refine gt_Wa_Pe_place C hK (show k < 10 by omega) d_Wa_firstWhoCanGoHome_20 ?_
          refine aw_aload C d_Wa_firstWhoCanGoHome_23 (j := 0) rfl ?_
          refine gt_Wa_Pe_newDesk C hK (show k < 10 by omega) d_Wa_firstWhoCanGoHome_25 ?_
          refine aw_icmp_eq (tgt := 46) C d_Wa_firstWhoCanGoHome_28 (by decide) (fun c_28 => ?_) (fun c_28 => ?_)
          · refine aw_iinc (i := 3) (v := (nI (k + 1))) (lv' := [(3, .int (nI (k + 1))), (4, .ref (ad 10 k)), (0, .ref (ad 4 0)), (1, .ref (ad 1 0)), (2, .int (nI M))]) C d_Wa_firstWhoCanGoHome_46 (j := 4) rfl (nI_1 k) (by decide) rfl ?_
            refine aw_goto (tgt := 2) C d_Wa_firstWhoCanGoHome_49 (by decide) ?_
            exact aw_lv [2, 3, 4, 0] rfl (ih (k + 1) (by omega) (by rw [← hR]; simp only [fw_L]; rw [if_pos c_28]))
          · refine aw_aload_n C d_Wa_firstWhoCanGoHome_31 rfl (j := 1) rfl ?_
            refine aw_aload C d_Wa_firstWhoCanGoHome_32 (j := 0) rfl ?_
            refine gt_Wa_Pe_newDesk C hK (show k < 10 by omega) d_Wa_firstWhoCanGoHome_34 ?_
            refine aw_callVi (P9 := fun r u => ds_P D ad cA nb u) [.int (S.1 13 k 0)] C hK (c_Wa_isFree l D ad cA nb S (S.1 13 k 0)) (cw_Wa_Wa_isFree C.2.2.2.2 rfl rfl (by decide)) rfl (fun H h => aw_recv hK rfl (h 4 0 rfl)) (fun H h => h) (fun q h => Or.inl h) (fun q h => Or.inr (by rw [← hsz]; exact h)) rfl (Nat.le_of_ble_eq_true rfl) d_Wa_firstWhoCanGoHome_37 (by decide) (fun H H1 r u _ _ hB _ _ => hB) ?_
            rintro r u ⟨rfl, rfl⟩
            refine aw_if_eq (tgt := 46) C d_Wa_firstWhoCanGoHome_40 (by decide) (fun c_40 => ?_) (fun c_40 => ?_)
            · refine aw_iinc (i := 3) (v := (nI (k + 1))) (lv' := [(3, .int (nI (k + 1))), (4, .ref (ad 10 k)), (0, .ref (ad 4 0)), (1, .ref (ad 1 0)), (2, .int (nI M))]) C d_Wa_firstWhoCanGoHome_46 (j := 4) rfl (nI_1 k) (by decide) rfl ?_
              refine aw_goto (tgt := 2) C d_Wa_firstWhoCanGoHome_49 (by decide) ?_
              exact aw_lv [2, 3, 4, 0] rfl (ih (k + 1) (by omega) (by rw [← hR]; simp only [fw_L]; rw [if_neg c_28, if_pos c_40]))
            · refine aw_aload C d_Wa_firstWhoCanGoHome_43 (j := 0) rfl ?_
              exact aw_qret (v := some (ad 10 k)) C hr hlk S ⟨rfl, by rw [← hR]; simp only [fw_L]; rw [if_neg c_28, if_neg c_40]; rfl⟩ (fun H h => h) d_Wa_firstWhoCanGoHome_45
  refine aw_lv (lv' := [(0, .ref (ad 4 0)), (1, .ref (ad 1 0)), (2, .int (nI M))]) [0, 1, 2] rfl ?_
  refine aw_iconst (v := 0) C d_Wa_firstWhoCanGoHome_0 (by decide) ?_
  refine aw_istore_n (i := 3) (lv' := [(3, .int 0), (0, .ref (ad 4 0)), (1, .ref (ad 1 0)), (2, .int (nI M))]) C d_Wa_firstWhoCanGoHome_1 rfl (by decide) rfl ?_
  exact aw_lv [1, 2, 3, 0] rfl (lp M 0 (by omega) rfl)
set_option maxHeartbeats 4000000 in
set_option maxRecDepth 100000 in
theorem c_Wa_firstNotHome (l : Launch) (D : va_G) (ad : Nat → Nat → Nat) (cA : Nat → ClassId) (nb : Nat) (S : ds_S) (M : Nat) (hI : ds_I ad nb) (hM : M ≤ 10) : Ct_q l y_Wa_firstNotHome b_Wa_firstNotHome 4 (some (.object "DeskMoves$Person")) ({ frames := 0, cells := 0, slots := 0, locals := 0 } : Room) 0 0 D (ds_ty cA) (ds_A ad nb) [.ref (ad 4 0), .ref (ad 1 0), .int (nI M)] (ds_P D ad cA nb S) (fun (r : Option Nat) (u : ds_S) => S = u ∧ r = (fn_L S M 0).map (ad 10)) (ds_P D ad cA nb) := by
  intro sz
  refine ct_of (by decide) (Nat.le_of_ble_eq_true rfl) ?_
  intro p e s m args below meth c hsz C hr hlk hnm hK
  have lp : ∀ (n k : Nat), k + n = M → fn_L S n k = fn_L S M 0 → AW p l e ({ frames := 0, cells := 0, slots := 0, locals := 0 } : Room) s m args below meth c 4 0 0 (MQ below (va_Qq (fun (r : Option Nat) (u : ds_S) => S = u ∧ r = (fn_L S M 0).map (ad 10)) (fun u t => (ds_P D ad cA nb) u t.heap) (ct_A (ds_A ad nb) sz)) args s 0 0 (ct_A (ds_A ad nb) sz)) (ds_P D ad cA nb S) (ct_A (ds_A ad nb) sz) 2 [(0, .ref (ad 4 0)), (1, .ref (ad 1 0)), (2, .int (nI M)), (3, .int (nI k))] [] := by
    intro n
    induction n with
    | zero =>
      intro k hkn hR
      refine aw_iload_n C d_Wa_firstNotHome_2 rfl (j := 3) rfl ?_
      refine aw_iload_n C d_Wa_firstNotHome_3 rfl (j := 2) rfl ?_
      refine aw_icmp_ge (tgt := 38) C d_Wa_firstNotHome_4 (by decide) (fun c_4 => ?_) (fun c_4 => ?_)
      · refine aw_null C d_Wa_firstNotHome_38 ?_
        exact aw_qret (v := none) C hr hlk S ⟨rfl, by rw [← hR]; rfl⟩ (fun H h => h) d_Wa_firstNotHome_39
      · exact absurd (by rw [show k = M by omega]; exact nI_le (Nat.le_refl _) (by omega)) c_4
    | succ n ih =>
      intro k hkn hR
      refine aw_iload_n C d_Wa_firstNotHome_2 rfl (j := 3) rfl ?_
      refine aw_iload_n C d_Wa_firstNotHome_3 rfl (j := 2) rfl ?_
      refine aw_icmp_ge (tgt := 38) C d_Wa_firstNotHome_4 (by decide) (fun c_4 => ?_) (fun c_4 => ?_)
      · exact absurd c_4 (nI_ge (by omega) (by omega))
      · refine aw_iload_n C d_Wa_firstNotHome_7 rfl (j := 3) rfl ?_
        refine aw_aload_n C d_Wa_firstNotHome_8 rfl (j := 1) rfl ?_
        refine ln_1 C hK  d_Wa_firstNotHome_9 ?_
        refine aw_icmp_ge (tgt := 38) C d_Wa_firstNotHome_10 (by decide) (fun c_10 => ?_) (fun c_10 => ?_)
        · exact absurd c_10 (nI_ge (by omega) (by omega))
        · refine aw_aload_n C d_Wa_firstNotHome_13 rfl (j := 1) rfl ?_
          refine aw_iload_n C d_Wa_firstNotHome_14 rfl (j := 3) rfl ?_
          refine al_1 C hK  k rfl (show k < 10 by omega) d_Wa_firstNotHome_15 ?_
          refine gt_Wa_Pe_place C hK (show k < 10 by omega) d_Wa_firstNotHome_16 ?_
          refine aw_aload_n C d_Wa_firstNotHome_19 rfl (j := 1) rfl ?_
          refine aw_iload_n C d_Wa_firstNotHome_20 rfl (j := 3) rfl ?_
          refine al_1 C hK  k rfl (show k < 10 by omega) d_Wa_firstNotHome_21 ?_
          refine gt_Wa_Pe_newDesk C hK (show k < 10 by omega) d_Wa_firstNotHome_22 ?_
          refine aw_icmp_eq (tgt := 32) C d_Wa_firstNotHome_25 (by decide) (fun c_25 => ?_) (fun c_25 => ?_)
          · refine aw_iinc (i := 3) (v := (nI (k + 1))) (lv' := [(3, .int (nI (k + 1))), (0, .ref (ad 4 0)), (1, .ref (ad 1 0)), (2, .int (nI M))]) C d_Wa_firstNotHome_32 (j := 3) rfl (nI_1 k) (by decide) rfl ?_
            refine aw_goto (tgt := 2) C d_Wa_firstNotHome_35 (by decide) ?_
            exact aw_lv [1, 2, 3, 0] rfl (ih (k + 1) (by omega) (by rw [← hR]; simp only [fn_L]; rw [if_pos c_25]))
          · refine aw_aload_n C d_Wa_firstNotHome_28 rfl (j := 1) rfl ?_
            refine aw_iload_n C d_Wa_firstNotHome_29 rfl (j := 3) rfl ?_
            refine al_1 C hK  k rfl (show k < 10 by omega) d_Wa_firstNotHome_30 ?_
            exact aw_qret (v := some (ad 10 k)) C hr hlk S ⟨rfl, by rw [← hR]; simp only [fn_L]; rw [if_neg c_25]; rfl⟩ (fun H h => h) d_Wa_firstNotHome_31
  refine aw_lv (lv' := [(0, .ref (ad 4 0)), (1, .ref (ad 1 0)), (2, .int (nI M))]) [0, 1, 2] rfl ?_
  refine aw_iconst (v := 0) C d_Wa_firstNotHome_0 (by decide) ?_
  refine aw_istore_n (i := 3) (lv' := [(3, .int 0), (0, .ref (ad 4 0)), (1, .ref (ad 1 0)), (2, .int (nI M))]) C d_Wa_firstNotHome_1 rfl (by decide) rfl ?_
  exact aw_lv [1, 2, 3, 0] rfl (lp M 0 (by omega) rfl)
set_option maxHeartbeats 4000000 in
set_option maxRecDepth 100000 in
theorem c_Wa_firstFreeDesk (l : Launch) (D : va_G) (ad : Nat → Nat → Nat) (cA : Nat → ClassId) (nb : Nat) (S : ds_S) (N : Nat) (hN : N ≤ 14) : Ct_i l y_Wa_firstFreeDesk b_Wa_firstFreeDesk 3 (some .int) ({ frames := 1, cells := 0, slots := 0, locals := 21 } : Room) 0 0 D (ds_ty cA) (ds_A ad nb) [.ref (ad 4 0), .int (nI N)] (ds_P D ad cA nb S) (fun (r : Int32) (u : ds_S) => S = u ∧ r = ff_L S N 0) (ds_P D ad cA nb) := by
  intro sz
  refine ct_of (by decide) (Nat.le_of_ble_eq_true rfl) ?_
  intro p e s m args below meth c hsz C hr hlk hnm hK
  have lp : ∀ (n k : Nat), k + n = N → ff_L S n k = ff_L S N 0 → AW p l e ({ frames := 1, cells := 0, slots := 0, locals := 21 } : Room) s m args below meth c 3 0 0 (MQ below (va_Qi (fun (r : Int32) (u : ds_S) => S = u ∧ r = ff_L S N 0) (fun u t => (ds_P D ad cA nb) u t.heap) (ct_A (ds_A ad nb) sz)) args s 0 0 (ct_A (ds_A ad nb) sz)) (ds_P D ad cA nb S) (ct_A (ds_A ad nb) sz) 2 [(0, .ref (ad 4 0)), (1, .int (nI N)), (2, .int (nI k))] [] := by
    intro n
    induction n with
    | zero =>
      intro k hkn hR
      refine aw_iload_n C d_Wa_firstFreeDesk_2 rfl (j := 2) rfl ?_
      refine aw_iload_n C d_Wa_firstFreeDesk_3 rfl (j := 1) rfl ?_
      refine aw_icmp_ge (tgt := 23) C d_Wa_firstFreeDesk_4 (by decide) (fun c_4 => ?_) (fun c_4 => ?_)
      · refine aw_iconst (v := (-1)) C d_Wa_firstFreeDesk_23 (by decide) ?_
        exact aw_iret C hr hlk S ⟨rfl, by rw [← hR]; rfl⟩ (fun H h => h) d_Wa_firstFreeDesk_24
      · exact absurd (by rw [show k = N by omega]; exact nI_le (Nat.le_refl _) (by omega)) c_4
    | succ n ih =>
      intro k hkn hR
      refine aw_iload_n C d_Wa_firstFreeDesk_2 rfl (j := 2) rfl ?_
      refine aw_iload_n C d_Wa_firstFreeDesk_3 rfl (j := 1) rfl ?_
      refine aw_icmp_ge (tgt := 23) C d_Wa_firstFreeDesk_4 (by decide) (fun c_4 => ?_) (fun c_4 => ?_)
      · exact absurd c_4 (nI_ge (by omega) (by omega))
      · refine aw_aload_n C d_Wa_firstFreeDesk_7 rfl (j := 0) rfl ?_
        refine aw_iload_n C d_Wa_firstFreeDesk_8 rfl (j := 2) rfl ?_
        refine aw_callVi (P9 := fun r u => ds_P D ad cA nb u) [.int (nI k)] C hK (c_Wa_isFree l D ad cA nb S (nI k)) (cw_Wa_Wa_isFree C.2.2.2.2 rfl rfl (by decide)) rfl (fun H h => aw_recv hK rfl (h 4 0 rfl)) (fun H h => h) (fun q h => Or.inl h) (fun q h => Or.inr (by rw [← hsz]; exact h)) rfl (Nat.le_of_ble_eq_true rfl) d_Wa_firstFreeDesk_9 (by decide) (fun H H1 r u _ _ hB _ _ => hB) ?_
        rintro r u ⟨rfl, rfl⟩
        refine aw_if_eq (tgt := 17) C d_Wa_firstFreeDesk_12 (by decide) (fun c_12 => ?_) (fun c_12 => ?_)
        · refine aw_iinc (i := 2) (v := (nI (k + 1))) (lv' := [(2, .int (nI (k + 1))), (0, .ref (ad 4 0)), (1, .int (nI N))]) C d_Wa_firstFreeDesk_17 (j := 2) rfl (nI_1 k) (by decide) rfl ?_
          refine aw_goto (tgt := 2) C d_Wa_firstFreeDesk_20 (by decide) ?_
          exact aw_lv [1, 2, 0] rfl (ih (k + 1) (by omega) (by rw [← hR]; simp only [ff_L]; rw [if_pos c_12]))
        · refine aw_iload_n C d_Wa_firstFreeDesk_15 rfl (j := 2) rfl ?_
          exact aw_iret C hr hlk S ⟨rfl, by rw [← hR]; simp only [ff_L]; rw [if_neg c_12]⟩ (fun H h => h) d_Wa_firstFreeDesk_16
  refine aw_lv (lv' := [(0, .ref (ad 4 0)), (1, .int (nI N))]) [0, 1] rfl ?_
  refine aw_iconst (v := 0) C d_Wa_firstFreeDesk_0 (by decide) ?_
  refine aw_istore_n (i := 2) (lv' := [(2, .int 0), (0, .ref (ad 4 0)), (1, .int (nI N))]) C d_Wa_firstFreeDesk_1 rfl (by decide) rfl ?_
  exact aw_lv [1, 2, 0] rfl (lp N 0 (by omega) rfl)
set_option maxHeartbeats 4000000 in
set_option maxRecDepth 100000 in
theorem c_Wa_plan (l : Launch) (D : va_G) (ad : Nat → Nat → Nat) (cA : Nat → ClassId) (nb : Nat) (S : ds_S) (M N : Nat) (hI : ds_I ad nb) (hM : M ≤ 10) (hN : N ≤ 14) : Ct_v l y_Wa_plan b_Wa_plan 7 none ({ frames := 2, cells := 0, slots := 0, locals := 45 } : Room) 0 0 D (ds_ty cA) (ds_A ad nb) [.ref (ad 4 0), .ref (ad 1 0), .int (nI M), .int (nI N)] (ds_P D ad cA nb S) (fun (u : ds_S) => u = pl_L M N 15 0 (sa_F S M)) (ds_P D ad cA nb) := by
  intro sz
  refine ct_of (by decide) (Nat.le_of_ble_eq_true rfl) ?_
  intro p e s m args below meth c hsz C hr hlk hnm hK
  have lp : ∀ (n k : Nat) (S' : ds_S), k + n = 15 → S'.1 7 0 0 = nI k → pl_L M N n k S' = pl_L M N 15 0 (sa_F S M) → AW p l e ({ frames := 2, cells := 0, slots := 0, locals := 45 } : Room) s m args below meth c 7 0 0 (MQ below (va_Qv (fun (u : ds_S) => u = pl_L M N 15 0 (sa_F S M)) (fun u t => (ds_P D ad cA nb) u t.heap) (ct_A (ds_A ad nb) sz)) args s 0 0 (ct_A (ds_A ad nb) sz)) (ds_P D ad cA nb (S')) (ct_A (ds_A ad nb) sz) 9 [(0, .ref (ad 4 0)), (1, .ref (ad 1 0)), (2, .int (nI M)), (3, .int (nI N)), (4, .int (nI k))] [] := by
    intro n
    induction n with
    | zero =>
      intro k S' hkn hc hR
      refine aw_iload C d_Wa_plan_9 (j := 4) rfl ?_
      refine aw_bipush (v := 15) C d_Wa_plan_11 (by decide) ?_
      refine aw_icmp_ge (tgt := 90) C d_Wa_plan_13 (by decide) (fun c_13 => ?_) (fun c_13 => ?_)
      · exact aw_vret C hr hlk _ (by rw [← hR]; rfl) (fun H h => h) d_Wa_plan_90
      · exact absurd (by rw [show k = 15 by omega]; exact nI_le (Nat.le_refl _) (by omega)) c_13
    | succ n ih =>
      intro k S' hkn hc hR
      refine aw_iload C d_Wa_plan_9 (j := 4) rfl ?_
      refine aw_bipush (v := 15) C d_Wa_plan_11 (by decide) ?_
      refine aw_icmp_ge (tgt := 90) C d_Wa_plan_13 (by decide) (fun c_13 => ?_) (fun c_13 => ?_)
      · exact absurd c_13 (by rw [show (15 : Int32) = nI 15 from rfl]; exact nI_ge (by omega) (by omega))
      · refine aw_aload_n C d_Wa_plan_16 rfl (j := 0) rfl ?_
        refine aw_aload_n C d_Wa_plan_17 rfl (j := 1) rfl ?_
        refine aw_iload_n C d_Wa_plan_18 rfl (j := 2) rfl ?_
        refine aw_callVq (P9 := fun r u => ds_P D ad cA nb u) [.ref (ad 1 0), .int (nI M)] C hK (c_Wa_firstWhoCanGoHome l D ad cA nb S' M hI hM) (cw_Wa_Wa_firstWhoCanGoHome C.2.2.2.2 rfl rfl (by decide)) rfl (fun H h => aw_recv hK rfl (h 4 0 rfl)) (fun H h => h) (fun q h => Or.inl h) (fun q h => Or.inr (by rw [← hsz]; exact h)) rfl (Nat.le_of_ble_eq_true rfl) d_Wa_plan_19 (by decide) (fun H H1 r u _ _ hB _ _ => hB) ?_
        rintro r u ⟨rfl, rfl⟩
        rcases hfw : fw_L S' M 0 with _ | p
        · refine aw_astoreq (x := none) (i := 5) (lv' := [(5, va_rf none), (0, .ref (ad 4 0)), (1, .ref (ad 1 0)), (2, .int (nI M)), (3, .int (nI N)), (4, .int (nI k))]) C d_Wa_plan_22 (by decide) rfl ?_
          refine aw_aloadq C d_Wa_plan_24 (j := 0) rfl ?_
          refine aw_ifnull (o := none) (tgt := 43) C d_Wa_plan_26 (by decide) (fun _ => ?_) (fun _ h => nomatch h)
          refine aw_aload_n C d_Wa_plan_43 rfl (j := 1) rfl ?_
          refine aw_aload_n C d_Wa_plan_44 rfl (j := 2) rfl ?_
          refine aw_iload_n C d_Wa_plan_45 rfl (j := 3) rfl ?_
          refine aw_callVq (P9 := fun r u => ds_P D ad cA nb u) [.ref (ad 1 0), .int (nI M)] C hK (c_Wa_firstNotHome l D ad cA nb S' M hI hM) (cw_Wa_Wa_firstNotHome C.2.2.2.2 rfl rfl (by decide)) rfl (fun H h => aw_recv hK rfl (h 4 0 rfl)) (fun H h => h) (fun q h => Or.inl h) (fun q h => Or.inr (by rw [← hsz]; exact h)) rfl (Nat.le_of_ble_eq_true rfl) d_Wa_plan_46 (by decide) (fun H H1 r u _ _ hB _ _ => hB) ?_
          rintro r u ⟨rfl, rfl⟩
          rcases hfn : fn_L S' M 0 with _ | p
          · refine aw_astoreq (x := none) (i := 5) (lv' := [(5, va_rf none), (0, .ref (ad 4 0)), (1, .ref (ad 1 0)), (2, .int (nI M)), (3, .int (nI N)), (4, .int (nI k))]) C d_Wa_plan_49 (by decide) rfl ?_
            refine aw_aloadq C d_Wa_plan_51 (j := 0) rfl ?_
            refine aw_ifnonnull (o := none) (tgt := 57) C d_Wa_plan_53 (by decide) (fun _ h => nomatch h) (fun _ => ?_)
            exact aw_vret C hr hlk _ (by rw [← hR]; simp only [pl_L, hfw, hfn]) (fun H h => h) d_Wa_plan_56
          · have hp : p < 10 := by have := fn_lt _ _ _ hfn; omega
            refine aw_astore (i := 5) (lv' := [(5, .ref (ad 10 p)), (0, .ref (ad 4 0)), (1, .ref (ad 1 0)), (2, .int (nI M)), (3, .int (nI N)), (4, .int (nI k))]) C d_Wa_plan_49 (by decide) rfl ?_
            refine aw_aload C d_Wa_plan_51 (j := 0) rfl ?_
            refine aw_ifnonnull (o := some ((ad 10 p))) (tgt := 57) C d_Wa_plan_53 (by decide) (fun _ _ => ?_) (fun h => nomatch h)
            refine aw_aload_n C d_Wa_plan_57 rfl (j := 1) rfl ?_
            refine aw_iload_n C d_Wa_plan_58 rfl (j := 4) rfl ?_
            refine aw_callVi (P9 := fun r u => ds_P D ad cA nb u) [.int (nI N)] C hK (c_Wa_firstFreeDesk l D ad cA nb S' N hN) (cw_Wa_Wa_firstFreeDesk C.2.2.2.2 rfl rfl (by decide)) rfl (fun H h => aw_recv hK rfl (h 4 0 rfl)) (fun H h => h) (fun q h => Or.inl h) (fun q h => Or.inr (by rw [← hsz]; exact h)) rfl (Nat.le_of_ble_eq_true rfl) d_Wa_plan_59 (by decide) (fun H H1 r u _ _ hB _ _ => hB) ?_
            rintro r u ⟨rfl, rfl⟩
            refine aw_istore (i := 6) (lv' := [(6, .int (ff_L S' N 0)), (5, .ref (ad 10 p)), (0, .ref (ad 4 0)), (1, .ref (ad 1 0)), (2, .int (nI M)), (3, .int (nI N)), (4, .int (nI k))]) C d_Wa_plan_62 (by decide) rfl ?_
            refine aw_iload C d_Wa_plan_64 (j := 0) rfl ?_
            refine aw_iconst (v := (-1)) C d_Wa_plan_66 (by decide) ?_
            refine aw_icmp_ne (tgt := 76) C d_Wa_plan_67 (by decide) (fun c_67 => ?_) (fun c_67 => ?_)
            · refine aw_aload_n C d_Wa_plan_76 rfl (j := 2) rfl ?_
              refine aw_aload C d_Wa_plan_77 (j := 1) rfl ?_
              refine aw_iload C d_Wa_plan_79 (j := 0) rfl ?_
              refine aw_callVv (P9 := fun u => ds_P D ad cA nb u) [.ref (ad 10 p), .int (ff_L S' N 0)] C hK (c_Wa_go l D ad cA nb S' p k ((ff_L S' N 0)) hI hp hc (by omega)) (cw_Wa_Wa_go C.2.2.2.2 rfl rfl (by decide)) rfl (fun H h => aw_recv hK rfl (h 4 0 rfl)) (fun H h => h) (fun q h => Or.inl h) (fun q h => Or.inr (by rw [← hsz]; exact h)) rfl (Nat.le_of_ble_eq_true rfl) d_Wa_plan_81 (by decide) (fun H H1 u _ _ hB _ _ => hB) ?_
              rintro u rfl
              refine aw_iinc (i := 4) (v := (nI (k + 1))) (lv' := [(4, .int (nI (k + 1))), (6, .int (ff_L S' N 0)), (5, .ref (ad 10 p)), (0, .ref (ad 4 0)), (1, .ref (ad 1 0)), (2, .int (nI M)), (3, .int (nI N))]) C d_Wa_plan_84 (j := 6) rfl (nI_1 k) (by decide) rfl ?_
              refine aw_goto (tgt := 9) C d_Wa_plan_87 (by decide) ?_
              exact aw_lv [3, 4, 5, 6, 0] rfl (ih (k + 1) (go_F S' p k ((ff_L S' N 0))) (by omega) (go_7 _ _ _ _) (by rw [← hR]; simp only [pl_L, hfw, hfn]; rw [if_neg c_67]))
            · refine aw_aload_n C d_Wa_plan_70 rfl (j := 2) rfl ?_
              refine aw_iconst (v := 1) C d_Wa_plan_71 (by decide) ?_
              refine pt_Wa_Wa_stuck (x := 1) C hK hI  (Or.inr rfl) d_Wa_plan_72 ?_
              exact aw_vret C hr hlk _ (by rw [← hR]; simp only [pl_L, hfw, hfn]; rw [if_pos c_67]) (fun H h => h) d_Wa_plan_75
        · have hp : p < 10 := by have := fw_lt _ _ _ hfw; omega
          refine aw_astore (i := 5) (lv' := [(5, .ref (ad 10 p)), (0, .ref (ad 4 0)), (1, .ref (ad 1 0)), (2, .int (nI M)), (3, .int (nI N)), (4, .int (nI k))]) C d_Wa_plan_22 (by decide) rfl ?_
          refine aw_aload C d_Wa_plan_24 (j := 0) rfl ?_
          refine aw_ifnull (o := some ((ad 10 p))) (tgt := 43) C d_Wa_plan_26 (by decide) (fun h => nomatch h) (fun _ _ => ?_)
          refine aw_aload_n C d_Wa_plan_29 rfl (j := 1) rfl ?_
          refine aw_aload C d_Wa_plan_30 (j := 0) rfl ?_
          refine aw_aload C d_Wa_plan_32 (j := 0) rfl ?_
          refine gt_Wa_Pe_newDesk C hK hp d_Wa_plan_34 ?_
          refine aw_callVv (P9 := fun u => ds_P D ad cA nb u) [.ref (ad 10 p), .int ((S').1 13 p 0)] C hK (c_Wa_go l D ad cA nb S' p k (((S').1 13 p 0)) hI hp hc (by omega)) (cw_Wa_Wa_go C.2.2.2.2 rfl rfl (by decide)) rfl (fun H h => aw_recv hK rfl (h 4 0 rfl)) (fun H h => h) (fun q h => Or.inl h) (fun q h => Or.inr (by rw [← hsz]; exact h)) rfl (Nat.le_of_ble_eq_true rfl) d_Wa_plan_37 (by decide) (fun H H1 u _ _ hB _ _ => hB) ?_
          rintro u rfl
          refine aw_goto (tgt := 84) C d_Wa_plan_40 (by decide) ?_
          refine aw_iinc (i := 4) (v := (nI (k + 1))) (lv' := [(4, .int (nI (k + 1))), (5, .ref (ad 10 p)), (0, .ref (ad 4 0)), (1, .ref (ad 1 0)), (2, .int (nI M)), (3, .int (nI N))]) C d_Wa_plan_84 (j := 5) rfl (nI_1 k) (by decide) rfl ?_
          refine aw_goto (tgt := 9) C d_Wa_plan_87 (by decide) ?_
          exact aw_lv [2, 3, 4, 5, 0] rfl (ih (k + 1) (go_F S' p k (((S').1 13 p 0))) (by omega) (go_7 _ _ _ _) (by rw [← hR]; simp only [pl_L, hfw]))
  refine aw_lv (lv' := [(0, .ref (ad 4 0)), (1, .ref (ad 1 0)), (2, .int (nI M)), (3, .int (nI N))]) [0, 1, 2, 3] rfl ?_
  refine aw_aload_n C d_Wa_plan_0 rfl (j := 0) rfl ?_
  refine aw_aload_n C d_Wa_plan_1 rfl (j := 1) rfl ?_
  refine aw_iload_n C d_Wa_plan_2 rfl (j := 2) rfl ?_
  refine aw_callVv (P9 := fun u => ds_P D ad cA nb u) [.ref (ad 1 0), .int (nI M)] C hK (c_Wa_sitAtOldDesks l D ad cA nb S M hI hM) (cw_Wa_Wa_sitAtOldDesks C.2.2.2.2 rfl rfl (by decide)) rfl (fun H h => aw_recv hK rfl (h 4 0 rfl)) (fun H h => h) (fun q h => Or.inl h) (fun q h => Or.inr (by rw [← hsz]; exact h)) rfl (Nat.le_of_ble_eq_true rfl) d_Wa_plan_3 (by decide) (fun H H1 u _ _ hB _ _ => hB) ?_
  rintro u rfl
  refine aw_iconst (v := 0) C d_Wa_plan_6 (by decide) ?_
  refine aw_istore (i := 4) (lv' := [(4, .int 0), (0, .ref (ad 4 0)), (1, .ref (ad 1 0)), (2, .int (nI M)), (3, .int (nI N))]) C d_Wa_plan_7 (by decide) rfl ?_
  exact aw_lv [1, 2, 3, 4, 0] rfl (lp 15 0 (sa_F S M) (by omega) (sa_7 S M) rfl)
end
section
def bw_L (S : ds_S) (a b : Int32) : Nat → Option Nat → Option Nat
  | 0, _ => none
  | _ + 1, none => none
  | n + 1, some k => if b ≤ S.1 20 k 0 then bw_L S a b n (S.2.2 3 k) else (if S.1 21 k 0 ≤ a then bw_L S a b n (S.2.2 3 k) else some k)
def fr_L (S : ds_S) (mi : Int32) : Nat → Option Nat → Int32 → Int32
  | 0, _, t => t
  | _ + 1, none, t => t
  | n + 1, some k, t => if t + mi ≤ S.1 20 k 0 then fr_L S mi n (S.2.2 3 k) t else (if S.1 21 k 0 ≤ t then fr_L S mi n (S.2.2 3 k) t else fr_L S mi n (S.2.2 3 k) (S.1 21 k 0))
def lo_L (S : ds_S) (r : Nat) : Nat → Option Nat → Int32 → Int32
  | 0, _, t => t
  | _ + 1, none, t => t
  | n + 1, some k, t => lo_L S r n (S.2.2 3 k) (t + (S.1 19 r 0 - S.1 22 k 0))
def ab_L (S : ds_S) (g : Nat) : Nat → Option Nat → Option Nat → Option Nat
  | 0, bf, _ => bf
  | _ + 1, bf, none => bf
  | n + 1, bf, some k => if S.1 20 g 0 ≤ S.1 20 k 0 then bf else ab_L S g n (some k) (S.2.2 3 k)
def ab_F (S : ds_S) (r g : Nat) (bf : Option Nat) : ds_S := match bf with
  | none => ds_wR (ds_wR S 3 g (S.2.2 2 r)) 2 r (some g)
  | some k => ds_wR (ds_wR S 3 g (S.2.2 3 k)) 3 k (some g)
def rm_L (S : ds_S) (g : Nat) : Nat → Option Nat → Option Nat
  | 0, _ => none
  | _ + 1, none => none
  | n + 1, some k => if S.2.2 3 k = some g then some k else rm_L S g n (S.2.2 3 k)
def rm_F (S : ds_S) (r g n : Nat) : Int32 × ds_S := if S.2.2 2 r = some g then (1, ds_wR S 2 r (S.2.2 3 g)) else (match rm_L S g n (S.2.2 2 r) with
  | none => (0, S)
  | some k => (1, ds_wR S 3 k (S.2.2 3 g)))
theorem ac_eq {ad : Nat → Nat → Nat} {nb g : Nat} {o : Option Nat} (hI : ds_I ad nb) (hg : g < nb) (ho : ∀ k, o = some k → k < nb) : (o.map (ad 15) = some (ad 15 g)) ↔ o = some g := by
  cases o with
  | none => exact ⟨(fun h => nomatch h), (fun h => nomatch h)⟩
  | some k =>
    refine ⟨fun h => ?_, fun h => by rw [h]; rfl⟩
    have h : ad 15 k = ad 15 g := Option.some.inj h
    rw [(hI 15 k 15 g (ho k rfl) hg h).2]
set_option maxHeartbeats 4000000 in
set_option maxRecDepth 100000 in
theorem c_Ro_bookingWithin (l : Launch) (D : va_G) (ad : Nat → Nat → Nat) (cA : Nat → ClassId) (nb : Nat) (S : ds_S) (n0 r8 : Nat) (a b : Int32) (hI : ds_I ad nb) (hr9 : r8 < 8) (hB : ∀ k k', S.2.2 3 k = some k' → k' < nb) (hF : ∀ k, S.2.2 2 r8 = some k → k < nb) (hT : ho_T (S.2.2 3) n0 (S.2.2 2 r8)) : Ct_q l y_Ro_bookingWithin b_Ro_bookingWithin 4 (some (.object "DeskMoves$Booking")) ({ frames := 0, cells := 0, slots := 0, locals := 0 } : Room) 0 0 D (ds_ty cA) (ds_A ad nb) [.ref (ad 14 r8), .int a, .int b] (ds_P D ad cA nb S) (fun (r : Option Nat) (u : ds_S) => S = u ∧ r = (bw_L S a b n0 (S.2.2 2 r8)).map (ad 15)) (ds_P D ad cA nb) := by
  intro sz
  refine ct_of (by decide) (Nat.le_of_ble_eq_true rfl) ?_
  intro p e s m args below meth c hsz C hr hlk hnm hK
  have lp : ∀ (n : Nat) (o : Option Nat), (∀ k, o = some k → k < nb) → ho_T (S.2.2 3) n o → bw_L S a b n o = bw_L S a b n0 (S.2.2 2 r8) → AW p l e ({ frames := 0, cells := 0, slots := 0, locals := 0 } : Room) s m args below meth c 4 0 0 (MQ below (va_Qq (fun (r : Option Nat) (u : ds_S) => S = u ∧ r = (bw_L S a b n0 (S.2.2 2 r8)).map (ad 15)) (fun u t => (ds_P D ad cA nb) u t.heap) (ct_A (ds_A ad nb) sz)) args s 0 0 (ct_A (ds_A ad nb) sz)) (ds_P D ad cA nb S) (ct_A (ds_A ad nb) sz) 5 [(0, .ref (ad 14 r8)), (1, .int a), (2, .int b), (3, va_rf (o.map (ad 15)))] [] := by
    intro n
    induction n with
    | zero => intro o ho hT hR; exact hT.elim
    | succ n ih =>
      intro o ho hT hR
      rcases o with _ | k
      · refine aw_aloadq_n C d_Ro_bookingWithin_5 rfl (j := 3) rfl ?_
        refine aw_ifnull (o := none) (tgt := 35) C d_Ro_bookingWithin_6 (by decide) (fun _ => ?_) (fun _ h => nomatch h)
        refine aw_null C d_Ro_bookingWithin_35 ?_
        exact aw_qret (v := none) C hr hlk S ⟨rfl, by rw [← hR]; rfl⟩ (fun H h => h) d_Ro_bookingWithin_36
      · have hk : k < nb := ho k rfl
        refine aw_aload_n C d_Ro_bookingWithin_5 rfl (j := 3) rfl ?_
        refine aw_ifnull (o := some ((ad 15 k))) (tgt := 35) C d_Ro_bookingWithin_6 (by decide) (fun h => nomatch h) (fun _ _ => ?_)
        refine aw_aload_n C d_Ro_bookingWithin_9 rfl (j := 3) rfl ?_
        refine gt_Ro_Bk_from C hK hk d_Ro_bookingWithin_10 ?_
        refine aw_iload_n C d_Ro_bookingWithin_13 rfl (j := 2) rfl ?_
        refine aw_icmp_ge (tgt := 27) C d_Ro_bookingWithin_14 (by decide) (fun c_14 => ?_) (fun c_14 => ?_)
        · refine aw_aload_n C d_Ro_bookingWithin_27 rfl (j := 3) rfl ?_
          refine gt_Ro_Bk_next C hK hk d_Ro_bookingWithin_28 ?_
          refine aw_astoreq_n (x := ((S.2.2 3 k).map (ad 15))) (i := 3) (lv' := [(3, va_rf ((S.2.2 3 k).map (ad 15))), (0, .ref (ad 14 r8)), (1, .int a), (2, .int b)]) C d_Ro_bookingWithin_31 rfl (by decide) rfl ?_
          refine aw_goto (tgt := 5) C d_Ro_bookingWithin_32 (by decide) ?_
          exact aw_lv [1, 2, 3, 0] rfl (ih (S.2.2 3 k) (fun z hz => hB k z hz) hT (by rw [← hR]; simp only [bw_L]; rw [if_pos c_14]))
        · refine aw_aload_n C d_Ro_bookingWithin_17 rfl (j := 3) rfl ?_
          refine gt_Ro_Bk_to C hK hk d_Ro_bookingWithin_18 ?_
          refine aw_iload_n C d_Ro_bookingWithin_21 rfl (j := 1) rfl ?_
          refine aw_icmp_le (tgt := 27) C d_Ro_bookingWithin_22 (by decide) (fun c_22 => ?_) (fun c_22 => ?_)
          · refine aw_aload_n C d_Ro_bookingWithin_27 rfl (j := 3) rfl ?_
            refine gt_Ro_Bk_next C hK hk d_Ro_bookingWithin_28 ?_
            refine aw_astoreq_n (x := ((S.2.2 3 k).map (ad 15))) (i := 3) (lv' := [(3, va_rf ((S.2.2 3 k).map (ad 15))), (0, .ref (ad 14 r8)), (1, .int a), (2, .int b)]) C d_Ro_bookingWithin_31 rfl (by decide) rfl ?_
            refine aw_goto (tgt := 5) C d_Ro_bookingWithin_32 (by decide) ?_
            exact aw_lv [1, 2, 3, 0] rfl (ih (S.2.2 3 k) (fun z hz => hB k z hz) hT (by rw [← hR]; simp only [bw_L]; rw [if_neg c_14, if_pos c_22]))
          · refine aw_aload_n C d_Ro_bookingWithin_25 rfl (j := 3) rfl ?_
            exact aw_qret (v := some (ad 15 k)) C hr hlk S ⟨rfl, by rw [← hR]; simp only [bw_L]; rw [if_neg c_14, if_neg c_22]; rfl⟩ (fun H h => h) d_Ro_bookingWithin_26
  refine aw_lv (lv' := [(0, .ref (ad 14 r8)), (1, .int a), (2, .int b)]) [0, 1, 2] rfl ?_
  refine aw_aload_n C d_Ro_bookingWithin_0 rfl (j := 0) rfl ?_
  refine gt_Ro_Ro_first C hK hr9 d_Ro_bookingWithin_1 ?_
  refine aw_astoreq_n (x := ((S.2.2 2 r8).map (ad 15))) (i := 3) (lv' := [(3, va_rf ((S.2.2 2 r8).map (ad 15))), (0, .ref (ad 14 r8)), (1, .int a), (2, .int b)]) C d_Ro_bookingWithin_4 rfl (by decide) rfl ?_
  exact aw_lv [1, 2, 3, 0] rfl (lp n0 (S.2.2 2 r8) hF hT rfl)
set_option maxHeartbeats 4000000 in
set_option maxRecDepth 100000 in
theorem c_Ro_firstFree (l : Launch) (D : va_G) (ad : Nat → Nat → Nat) (cA : Nat → ClassId) (nb : Nat) (S : ds_S) (n0 r8 : Nat) (a mi : Int32) (hI : ds_I ad nb) (hr9 : r8 < 8) (hB : ∀ k k', S.2.2 3 k = some k' → k' < nb) (hF : ∀ k, S.2.2 2 r8 = some k → k < nb) (hT : ho_T (S.2.2 3) n0 (S.2.2 2 r8)) : Ct_i l y_Ro_firstFree b_Ro_firstFree 5 (some .int) ({ frames := 0, cells := 0, slots := 0, locals := 0 } : Room) 0 0 D (ds_ty cA) (ds_A ad nb) [.ref (ad 14 r8), .int a, .int mi] (ds_P D ad cA nb S) (fun (r : Int32) (u : ds_S) => S = u ∧ r = fr_L S mi n0 (S.2.2 2 r8) a) (ds_P D ad cA nb) := by
  intro sz
  refine ct_of (by decide) (Nat.le_of_ble_eq_true rfl) ?_
  intro p e s m args below meth c hsz C hr hlk hnm hK
  have lp : ∀ (n : Nat) (o : Option Nat) (t9 : Int32), (∀ k, o = some k → k < nb) → ho_T (S.2.2 3) n o → fr_L S mi n o t9 = fr_L S mi n0 (S.2.2 2 r8) a → AW p l e ({ frames := 0, cells := 0, slots := 0, locals := 0 } : Room) s m args below meth c 5 0 0 (MQ below (va_Qi (fun (r : Int32) (u : ds_S) => S = u ∧ r = fr_L S mi n0 (S.2.2 2 r8) a) (fun u t => (ds_P D ad cA nb) u t.heap) (ct_A (ds_A ad nb) sz)) args s 0 0 (ct_A (ds_A ad nb) sz)) (ds_P D ad cA nb S) (ct_A (ds_A ad nb) sz) 8 [(0, .ref (ad 14 r8)), (1, .int a), (2, .int mi), (3, .int t9), (4, va_rf (o.map (ad 15)))] [] := by
    intro n
    induction n with
    | zero => intro o t9 ho hT hR; exact hT.elim
    | succ n ih =>
      intro o t9 ho hT hR
      rcases o with _ | k
      · refine aw_aloadq C d_Ro_firstFree_8 (j := 4) rfl ?_
        refine aw_ifnull (o := none) (tgt := 49) C d_Ro_firstFree_10 (by decide) (fun _ => ?_) (fun _ h => nomatch h)
        refine aw_iload_n C d_Ro_firstFree_49 rfl (j := 3) rfl ?_
        exact aw_iret C hr hlk S ⟨rfl, by rw [← hR]; rfl⟩ (fun H h => h) d_Ro_firstFree_50
      · have hk : k < nb := ho k rfl
        refine aw_aload C d_Ro_firstFree_8 (j := 4) rfl ?_
        refine aw_ifnull (o := some ((ad 15 k))) (tgt := 49) C d_Ro_firstFree_10 (by decide) (fun h => nomatch h) (fun _ _ => ?_)
        refine aw_aload C d_Ro_firstFree_13 (j := 4) rfl ?_
        refine gt_Ro_Bk_from C hK hk d_Ro_firstFree_15 ?_
        refine aw_iload_n C d_Ro_firstFree_18 rfl (j := 3) rfl ?_
        refine aw_iload_n C d_Ro_firstFree_19 rfl (j := 2) rfl ?_
        refine aw_iadd C d_Ro_firstFree_20 ?_
        refine aw_icmp_ge (tgt := 39) C d_Ro_firstFree_21 (by decide) (fun c_21 => ?_) (fun c_21 => ?_)
        · refine aw_aload C d_Ro_firstFree_39 (j := 4) rfl ?_
          refine gt_Ro_Bk_next C hK hk d_Ro_firstFree_41 ?_
          refine aw_astoreq (x := ((S.2.2 3 k).map (ad 15))) (i := 4) (lv' := [(4, va_rf ((S.2.2 3 k).map (ad 15))), (0, .ref (ad 14 r8)), (1, .int a), (2, .int mi), (3, .int t9)]) C d_Ro_firstFree_44 (by decide) rfl ?_
          refine aw_goto (tgt := 8) C d_Ro_firstFree_46 (by decide) ?_
          exact aw_lv [1, 2, 3, 4, 0] rfl (ih (S.2.2 3 k) t9 (fun z hz => hB k z hz) hT (by rw [← hR]; simp only [fr_L]; rw [if_pos c_21]))
        · refine aw_aload C d_Ro_firstFree_24 (j := 4) rfl ?_
          refine gt_Ro_Bk_to C hK hk d_Ro_firstFree_26 ?_
          refine aw_iload_n C d_Ro_firstFree_29 rfl (j := 3) rfl ?_
          refine aw_icmp_le (tgt := 39) C d_Ro_firstFree_30 (by decide) (fun c_30 => ?_) (fun c_30 => ?_)
          · refine aw_aload C d_Ro_firstFree_39 (j := 4) rfl ?_
            refine gt_Ro_Bk_next C hK hk d_Ro_firstFree_41 ?_
            refine aw_astoreq (x := ((S.2.2 3 k).map (ad 15))) (i := 4) (lv' := [(4, va_rf ((S.2.2 3 k).map (ad 15))), (0, .ref (ad 14 r8)), (1, .int a), (2, .int mi), (3, .int t9)]) C d_Ro_firstFree_44 (by decide) rfl ?_
            refine aw_goto (tgt := 8) C d_Ro_firstFree_46 (by decide) ?_
            exact aw_lv [1, 2, 3, 4, 0] rfl (ih (S.2.2 3 k) t9 (fun z hz => hB k z hz) hT (by rw [← hR]; simp only [fr_L]; rw [if_neg c_21, if_pos c_30]))
          · refine aw_aload C d_Ro_firstFree_33 (j := 4) rfl ?_
            refine gt_Ro_Bk_to C hK hk d_Ro_firstFree_35 ?_
            refine aw_istore_n (i := 3) (lv' := [(3, .int (S.1 21 k 0)), (0, .ref (ad 14 r8)), (1, .int a), (2, .int mi), (4, .ref (ad 15 k))]) C d_Ro_firstFree_38 rfl (by decide) rfl ?_
            refine aw_aload C d_Ro_firstFree_39 (j := 4) rfl ?_
            refine gt_Ro_Bk_next C hK hk d_Ro_firstFree_41 ?_
            refine aw_astoreq (x := ((S.2.2 3 k).map (ad 15))) (i := 4) (lv' := [(4, va_rf ((S.2.2 3 k).map (ad 15))), (3, .int (S.1 21 k 0)), (0, .ref (ad 14 r8)), (1, .int a), (2, .int mi)]) C d_Ro_firstFree_44 (by decide) rfl ?_
            refine aw_goto (tgt := 8) C d_Ro_firstFree_46 (by decide) ?_
            exact aw_lv [2, 3, 4, 1, 0] rfl (ih (S.2.2 3 k) ((S.1 21 k 0)) (fun z hz => hB k z hz) hT (by rw [← hR]; simp only [fr_L]; rw [if_neg c_21, if_neg c_30]))
  refine aw_lv (lv' := [(0, .ref (ad 14 r8)), (1, .int a), (2, .int mi)]) [0, 1, 2] rfl ?_
  refine aw_iload_n C d_Ro_firstFree_0 rfl (j := 1) rfl ?_
  refine aw_istore_n (i := 3) (lv' := [(3, .int a), (0, .ref (ad 14 r8)), (1, .int a), (2, .int mi)]) C d_Ro_firstFree_1 rfl (by decide) rfl ?_
  refine aw_aload_n C d_Ro_firstFree_2 rfl (j := 1) rfl ?_
  refine gt_Ro_Ro_first C hK hr9 d_Ro_firstFree_3 ?_
  refine aw_astoreq (x := ((S.2.2 2 r8).map (ad 15))) (i := 4) (lv' := [(4, va_rf ((S.2.2 2 r8).map (ad 15))), (3, .int a), (0, .ref (ad 14 r8)), (1, .int a), (2, .int mi)]) C d_Ro_firstFree_6 (by decide) rfl ?_
  exact aw_lv [2, 3, 4, 1, 0] rfl (lp n0 (S.2.2 2 r8) a hF hT rfl)
set_option maxHeartbeats 4000000 in
set_option maxRecDepth 100000 in
theorem c_Ro_placesLeftOver (l : Launch) (D : va_G) (ad : Nat → Nat → Nat) (cA : Nat → ClassId) (nb : Nat) (S : ds_S) (n0 r8 : Nat)  (hI : ds_I ad nb) (hr9 : r8 < 8) (hB : ∀ k k', S.2.2 3 k = some k' → k' < nb) (hF : ∀ k, S.2.2 2 r8 = some k → k < nb) (hT : ho_T (S.2.2 3) n0 (S.2.2 2 r8)) : Ct_i l y_Ro_placesLeftOver b_Ro_placesLeftOver 3 (some .int) ({ frames := 0, cells := 0, slots := 0, locals := 0 } : Room) 0 0 D (ds_ty cA) (ds_A ad nb) [.ref (ad 14 r8)] (ds_P D ad cA nb S) (fun (r : Int32) (u : ds_S) => S = u ∧ r = lo_L S r8 n0 (S.2.2 2 r8) 0) (ds_P D ad cA nb) := by
  intro sz
  refine ct_of (by decide) (Nat.le_of_ble_eq_true rfl) ?_
  intro p e s m args below meth c hsz C hr hlk hnm hK
  have lp : ∀ (n : Nat) (o : Option Nat) (t9 : Int32), (∀ k, o = some k → k < nb) → ho_T (S.2.2 3) n o → lo_L S r8 n o t9 = lo_L S r8 n0 (S.2.2 2 r8) 0 → AW p l e ({ frames := 0, cells := 0, slots := 0, locals := 0 } : Room) s m args below meth c 3 0 0 (MQ below (va_Qi (fun (r : Int32) (u : ds_S) => S = u ∧ r = lo_L S r8 n0 (S.2.2 2 r8) 0) (fun u t => (ds_P D ad cA nb) u t.heap) (ct_A (ds_A ad nb) sz)) args s 0 0 (ct_A (ds_A ad nb) sz)) (ds_P D ad cA nb S) (ct_A (ds_A ad nb) sz) 7 [(0, .ref (ad 14 r8)), (1, .int t9), (2, va_rf (o.map (ad 15)))] [] := by
    intro n
    induction n with
    | zero => intro o t9 ho hT hR; exact hT.elim
    | succ n ih =>
      intro o t9 ho hT hR
      rcases o with _ | k
      · refine aw_aloadq_n C d_Ro_placesLeftOver_7 rfl (j := 2) rfl ?_
        refine aw_ifnull (o := none) (tgt := 31) C d_Ro_placesLeftOver_8 (by decide) (fun _ => ?_) (fun _ h => nomatch h)
        refine aw_iload_n C d_Ro_placesLeftOver_31 rfl (j := 1) rfl ?_
        exact aw_iret C hr hlk S ⟨rfl, by rw [← hR]; rfl⟩ (fun H h => h) d_Ro_placesLeftOver_32
      · have hk : k < nb := ho k rfl
        refine aw_aload_n C d_Ro_placesLeftOver_7 rfl (j := 2) rfl ?_
        refine aw_ifnull (o := some ((ad 15 k))) (tgt := 31) C d_Ro_placesLeftOver_8 (by decide) (fun h => nomatch h) (fun _ _ => ?_)
        refine aw_iload_n C d_Ro_placesLeftOver_11 rfl (j := 1) rfl ?_
        refine aw_aload_n C d_Ro_placesLeftOver_12 rfl (j := 0) rfl ?_
        refine gt_Ro_Ro_places C hK hr9 d_Ro_placesLeftOver_13 ?_
        refine aw_aload_n C d_Ro_placesLeftOver_16 rfl (j := 2) rfl ?_
        refine gt_Ro_Bk_heads C hK hk d_Ro_placesLeftOver_17 ?_
        refine aw_isub C d_Ro_placesLeftOver_20 ?_
        refine aw_iadd C d_Ro_placesLeftOver_21 ?_
        refine aw_istore_n (i := 1) (lv' := [(1, .int (t9 + ((((S.1 19 r8 0)) - ((S.1 22 k 0)))))), (0, .ref (ad 14 r8)), (2, .ref (ad 15 k))]) C d_Ro_placesLeftOver_22 rfl (by decide) rfl ?_
        refine aw_aload_n C d_Ro_placesLeftOver_23 rfl (j := 2) rfl ?_
        refine gt_Ro_Bk_next C hK hk d_Ro_placesLeftOver_24 ?_
        refine aw_astoreq_n (x := ((S.2.2 3 k).map (ad 15))) (i := 2) (lv' := [(2, va_rf ((S.2.2 3 k).map (ad 15))), (1, .int (t9 + ((((S.1 19 r8 0)) - ((S.1 22 k 0)))))), (0, .ref (ad 14 r8))]) C d_Ro_placesLeftOver_27 rfl (by decide) rfl ?_
        refine aw_goto (tgt := 7) C d_Ro_placesLeftOver_28 (by decide) ?_
        exact aw_lv [2, 1, 0] rfl (ih (S.2.2 3 k) ((t9 + ((((S.1 19 r8 0)) - ((S.1 22 k 0)))))) (fun z hz => hB k z hz) hT hR)
  refine aw_lv (lv' := [(0, .ref (ad 14 r8))]) [0] rfl ?_
  refine aw_iconst (v := 0) C d_Ro_placesLeftOver_0 (by decide) ?_
  refine aw_istore_n (i := 1) (lv' := [(1, .int 0), (0, .ref (ad 14 r8))]) C d_Ro_placesLeftOver_1 rfl (by decide) rfl ?_
  refine aw_aload_n C d_Ro_placesLeftOver_2 rfl (j := 1) rfl ?_
  refine gt_Ro_Ro_first C hK hr9 d_Ro_placesLeftOver_3 ?_
  refine aw_astoreq_n (x := ((S.2.2 2 r8).map (ad 15))) (i := 2) (lv' := [(2, va_rf ((S.2.2 2 r8).map (ad 15))), (1, .int 0), (0, .ref (ad 14 r8))]) C d_Ro_placesLeftOver_6 rfl (by decide) rfl ?_
  exact aw_lv [2, 1, 0] rfl (lp n0 (S.2.2 2 r8) 0 hF hT rfl)
set_option maxHeartbeats 4000000 in
set_option maxRecDepth 100000 in
theorem c_Ro_add (l : Launch) (D : va_G) (ad : Nat → Nat → Nat) (cA : Nat → ClassId) (nb : Nat) (S : ds_S) (n0 r8 : Nat) (g : Nat) (hI : ds_I ad nb) (hr9 : r8 < 8) (hB : ∀ k k', S.2.2 3 k = some k' → k' < nb) (hF : ∀ k, S.2.2 2 r8 = some k → k < nb) (hT : ho_T (S.2.2 3) n0 (S.2.2 2 r8)) (hg : g < nb) : Ct_v l y_Ro_add b_Ro_add 4 none ({ frames := 0, cells := 0, slots := 0, locals := 0 } : Room) 0 0 D (ds_ty cA) (ds_A ad nb) [.ref (ad 14 r8), .ref (ad 15 g)] (ds_P D ad cA nb S) (fun (u : ds_S) => u = ab_F S r8 g (ab_L S g n0 none (S.2.2 2 r8))) (ds_P D ad cA nb) := by
  intro sz
  refine ct_of (by decide) (Nat.le_of_ble_eq_true rfl) ?_
  intro p e s m args below meth c hsz C hr hlk hnm hK
  have lp : ∀ (n : Nat) (bf o : Option Nat), (∀ k, bf = some k → k < nb) → (∀ k, o = some k → k < nb) → ho_T (S.2.2 3) n o → ab_L S g n bf o = ab_L S g n0 none (S.2.2 2 r8) → AW p l e ({ frames := 0, cells := 0, slots := 0, locals := 0 } : Room) s m args below meth c 4 0 0 (MQ below (va_Qv (fun (u : ds_S) => u = ab_F S r8 g (ab_L S g n0 none (S.2.2 2 r8))) (fun u t => (ds_P D ad cA nb) u t.heap) (ct_A (ds_A ad nb) sz)) args s 0 0 (ct_A (ds_A ad nb) sz)) (ds_P D ad cA nb S) (ct_A (ds_A ad nb) sz) 7 [(0, .ref (ad 14 r8)), (1, .ref (ad 15 g)), (2, va_rf (bf.map (ad 15))), (3, va_rf (o.map (ad 15)))] [] := by
    intro n
    induction n with
    | zero => intro bf o hb ho hT hR; exact hT.elim
    | succ n ih =>
      intro bf o hb ho hT hR
      rcases o with _ | k
      · rcases bf with _ | j9
        · refine aw_aloadq_n C d_Ro_add_7 rfl (j := 3) rfl ?_
          refine aw_ifnull (o := none) (tgt := 32) C d_Ro_add_8 (by decide) (fun _ => ?_) (fun _ h => nomatch h)
          refine aw_aloadq_n C d_Ro_add_32 rfl (j := 2) rfl ?_
          refine aw_ifnonnull (o := none) (tgt := 52) C d_Ro_add_33 (by decide) (fun _ h => nomatch h) (fun _ => ?_)
          refine aw_aload_n C d_Ro_add_36 rfl (j := 1) rfl ?_
          refine aw_aload_n C d_Ro_add_37 rfl (j := 0) rfl ?_
          refine gt_Ro_Ro_first C hK hr9 d_Ro_add_38 ?_
          refine pt_Ro_Bk_next (x := (S.2.2 2 r8)) C hK hI hg  d_Ro_add_41 ?_
          refine aw_aload_n C d_Ro_add_44 rfl (j := 0) rfl ?_
          refine aw_aload_n C d_Ro_add_45 rfl (j := 1) rfl ?_
          refine pt_Ro_Ro_first (x := some g) C hK hI hr9  d_Ro_add_46 ?_
          refine aw_goto (tgt := 65) C d_Ro_add_49 (by decide) ?_
          exact aw_vret C hr hlk _ (by rw [← hR]; rfl) (fun H h => h) d_Ro_add_65
        · refine aw_aloadq_n C d_Ro_add_7 rfl (j := 3) rfl ?_
          refine aw_ifnull (o := none) (tgt := 32) C d_Ro_add_8 (by decide) (fun _ => ?_) (fun _ h => nomatch h)
          refine aw_aload_n C d_Ro_add_32 rfl (j := 2) rfl ?_
          refine aw_ifnonnull (o := some ((ad 15 j9))) (tgt := 52) C d_Ro_add_33 (by decide) (fun _ _ => ?_) (fun h => nomatch h)
          refine aw_aload_n C d_Ro_add_52 rfl (j := 1) rfl ?_
          refine aw_aload_n C d_Ro_add_53 rfl (j := 2) rfl ?_
          refine gt_Ro_Bk_next C hK (hb j9 rfl) d_Ro_add_54 ?_
          refine pt_Ro_Bk_next (x := (S.2.2 3 j9)) C hK hI hg  d_Ro_add_57 ?_
          refine aw_aload_n C d_Ro_add_60 rfl (j := 2) rfl ?_
          refine aw_aload_n C d_Ro_add_61 rfl (j := 1) rfl ?_
          refine pt_Ro_Bk_next (x := some g) C hK hI (hb j9 rfl)  d_Ro_add_62 ?_
          exact aw_vret C hr hlk _ (by rw [← hR]; rfl) (fun H h => h) d_Ro_add_65
      · have hk : k < nb := ho k rfl
        rcases bf with _ | j9
        · refine aw_aload_n C d_Ro_add_7 rfl (j := 3) rfl ?_
          refine aw_ifnull (o := some ((ad 15 k))) (tgt := 32) C d_Ro_add_8 (by decide) (fun h => nomatch h) (fun _ _ => ?_)
          refine aw_aload_n C d_Ro_add_11 rfl (j := 3) rfl ?_
          refine gt_Ro_Bk_from C hK hk d_Ro_add_12 ?_
          refine aw_aload_n C d_Ro_add_15 rfl (j := 1) rfl ?_
          refine gt_Ro_Bk_from C hK hg d_Ro_add_16 ?_
          refine aw_icmp_ge (tgt := 32) C d_Ro_add_19 (by decide) (fun c_19 => ?_) (fun c_19 => ?_)
          · refine aw_aloadq_n C d_Ro_add_32 rfl (j := 2) rfl ?_
            refine aw_ifnonnull (o := none) (tgt := 52) C d_Ro_add_33 (by decide) (fun _ h => nomatch h) (fun _ => ?_)
            refine aw_aload_n C d_Ro_add_36 rfl (j := 1) rfl ?_
            refine aw_aload_n C d_Ro_add_37 rfl (j := 0) rfl ?_
            refine gt_Ro_Ro_first C hK hr9 d_Ro_add_38 ?_
            refine pt_Ro_Bk_next (x := (S.2.2 2 r8)) C hK hI hg  d_Ro_add_41 ?_
            refine aw_aload_n C d_Ro_add_44 rfl (j := 0) rfl ?_
            refine aw_aload_n C d_Ro_add_45 rfl (j := 1) rfl ?_
            refine pt_Ro_Ro_first (x := some g) C hK hI hr9  d_Ro_add_46 ?_
            refine aw_goto (tgt := 65) C d_Ro_add_49 (by decide) ?_
            exact aw_vret C hr hlk _ (by rw [← hR]; simp only [ab_L]; rw [if_pos c_19]; rfl) (fun H h => h) d_Ro_add_65
          · refine aw_aload_n C d_Ro_add_22 rfl (j := 3) rfl ?_
            refine aw_astore_n (i := 2) (lv' := [(2, .ref (ad 15 k)), (0, .ref (ad 14 r8)), (1, .ref (ad 15 g)), (3, .ref (ad 15 k))]) C d_Ro_add_23 rfl (by decide) rfl ?_
            refine aw_aload_n C d_Ro_add_24 rfl (j := 3) rfl ?_
            refine gt_Ro_Bk_next C hK hk d_Ro_add_25 ?_
            refine aw_astoreq_n (x := ((S.2.2 3 k).map (ad 15))) (i := 3) (lv' := [(3, va_rf ((S.2.2 3 k).map (ad 15))), (2, .ref (ad 15 k)), (0, .ref (ad 14 r8)), (1, .ref (ad 15 g))]) C d_Ro_add_28 rfl (by decide) rfl ?_
            refine aw_goto (tgt := 7) C d_Ro_add_29 (by decide) ?_
            exact aw_lv [2, 3, 1, 0] rfl (ih (some k) (S.2.2 3 k) (fun z hz => by cases hz; exact hk) (fun z hz => hB k z hz) hT (by rw [← hR]; simp only [ab_L]; rw [if_neg c_19]))
        · refine aw_aload_n C d_Ro_add_7 rfl (j := 3) rfl ?_
          refine aw_ifnull (o := some ((ad 15 k))) (tgt := 32) C d_Ro_add_8 (by decide) (fun h => nomatch h) (fun _ _ => ?_)
          refine aw_aload_n C d_Ro_add_11 rfl (j := 3) rfl ?_
          refine gt_Ro_Bk_from C hK hk d_Ro_add_12 ?_
          refine aw_aload_n C d_Ro_add_15 rfl (j := 1) rfl ?_
          refine gt_Ro_Bk_from C hK hg d_Ro_add_16 ?_
          refine aw_icmp_ge (tgt := 32) C d_Ro_add_19 (by decide) (fun c_19 => ?_) (fun c_19 => ?_)
          · refine aw_aload_n C d_Ro_add_32 rfl (j := 2) rfl ?_
            refine aw_ifnonnull (o := some ((ad 15 j9))) (tgt := 52) C d_Ro_add_33 (by decide) (fun _ _ => ?_) (fun h => nomatch h)
            refine aw_aload_n C d_Ro_add_52 rfl (j := 1) rfl ?_
            refine aw_aload_n C d_Ro_add_53 rfl (j := 2) rfl ?_
            refine gt_Ro_Bk_next C hK (hb j9 rfl) d_Ro_add_54 ?_
            refine pt_Ro_Bk_next (x := (S.2.2 3 j9)) C hK hI hg  d_Ro_add_57 ?_
            refine aw_aload_n C d_Ro_add_60 rfl (j := 2) rfl ?_
            refine aw_aload_n C d_Ro_add_61 rfl (j := 1) rfl ?_
            refine pt_Ro_Bk_next (x := some g) C hK hI (hb j9 rfl)  d_Ro_add_62 ?_
            exact aw_vret C hr hlk _ (by rw [← hR]; simp only [ab_L]; rw [if_pos c_19]; rfl) (fun H h => h) d_Ro_add_65
          · refine aw_aload_n C d_Ro_add_22 rfl (j := 3) rfl ?_
            refine aw_astore_n (i := 2) (lv' := [(2, .ref (ad 15 k)), (0, .ref (ad 14 r8)), (1, .ref (ad 15 g)), (3, .ref (ad 15 k))]) C d_Ro_add_23 rfl (by decide) rfl ?_
            refine aw_aload_n C d_Ro_add_24 rfl (j := 3) rfl ?_
            refine gt_Ro_Bk_next C hK hk d_Ro_add_25 ?_
            refine aw_astoreq_n (x := ((S.2.2 3 k).map (ad 15))) (i := 3) (lv' := [(3, va_rf ((S.2.2 3 k).map (ad 15))), (2, .ref (ad 15 k)), (0, .ref (ad 14 r8)), (1, .ref (ad 15 g))]) C d_Ro_add_28 rfl (by decide) rfl ?_
            refine aw_goto (tgt := 7) C d_Ro_add_29 (by decide) ?_
            exact aw_lv [2, 3, 1, 0] rfl (ih (some k) (S.2.2 3 k) (fun z hz => by cases hz; exact hk) (fun z hz => hB k z hz) hT (by rw [← hR]; simp only [ab_L]; rw [if_neg c_19]))
  refine aw_lv (lv' := [(0, .ref (ad 14 r8)), (1, .ref (ad 15 g))]) [0, 1] rfl ?_
  refine aw_null C d_Ro_add_0 ?_
  refine aw_astoreq_n (x := none) (i := 2) (lv' := [(2, va_rf none), (0, .ref (ad 14 r8)), (1, .ref (ad 15 g))]) C d_Ro_add_1 rfl (by decide) rfl ?_
  refine aw_aload_n C d_Ro_add_2 rfl (j := 1) rfl ?_
  refine gt_Ro_Ro_first C hK hr9 d_Ro_add_3 ?_
  refine aw_astoreq_n (x := ((S.2.2 2 r8).map (ad 15))) (i := 3) (lv' := [(3, va_rf ((S.2.2 2 r8).map (ad 15))), (2, va_rf none), (0, .ref (ad 14 r8)), (1, .ref (ad 15 g))]) C d_Ro_add_6 rfl (by decide) (by simp [va_rf_cat, ct_ref, ct_int, ct_long]) ?_
  exact aw_lv [2, 3, 1, 0] rfl (lp n0 none (S.2.2 2 r8) (fun z hz => by cases hz) hF hT rfl)
set_option maxHeartbeats 4000000 in
set_option maxRecDepth 100000 in
theorem c_Ro_remove (l : Launch) (D : va_G) (ad : Nat → Nat → Nat) (cA : Nat → ClassId) (nb : Nat) (S : ds_S) (n0 r8 : Nat) (g : Nat) (hI : ds_I ad nb) (hr9 : r8 < 8) (hB : ∀ k k', S.2.2 3 k = some k' → k' < nb) (hF : ∀ k, S.2.2 2 r8 = some k → k < nb) (hT : ho_T (S.2.2 3) n0 (S.2.2 2 r8)) (hg : g < nb) : Ct_i l y_Ro_remove b_Ro_remove 3 (some .boolean) ({ frames := 0, cells := 0, slots := 0, locals := 0 } : Room) 0 0 D (ds_ty cA) (ds_A ad nb) [.ref (ad 14 r8), .ref (ad 15 g)] (ds_P D ad cA nb S) (fun (r : Int32) (u : ds_S) => u = (rm_F S r8 g n0).2 ∧ r = (rm_F S r8 g n0).1) (ds_P D ad cA nb) := by
  intro sz
  refine ct_of (by decide) (Nat.le_of_ble_eq_true rfl) ?_
  intro p e s m args below meth c hsz C hr hlk hnm hK
  have lp : ∀ (c_5 : ¬ (S.2.2 2 r8).map (ad 15) = some (ad 15 g)) (n : Nat) (o : Option Nat), (∀ k, o = some k → k < nb) → ho_T (S.2.2 3) n o → rm_L S g n o = rm_L S g n0 (S.2.2 2 r8) → AW p l e ({ frames := 0, cells := 0, slots := 0, locals := 0 } : Room) s m args below meth c 3 0 0 (MQ below (va_Qi (fun (r : Int32) (u : ds_S) => u = (rm_F S r8 g n0).2 ∧ r = (rm_F S r8 g n0).1) (fun u t => (ds_P D ad cA nb) u t.heap) (ct_A (ds_A ad nb) sz)) args s 0 0 (ct_A (ds_A ad nb) sz)) (ds_P D ad cA nb S) (ct_A (ds_A ad nb) sz) 23 [(0, .ref (ad 14 r8)), (1, .ref (ad 15 g)), (2, va_rf (o.map (ad 15)))] [] := by
    intro c_5 n
    induction n with
    | zero => intro o ho hT hR; exact hT.elim
    | succ n ih =>
      intro o ho hT hR
      rcases o with _ | k
      · refine aw_aloadq_n C d_Ro_remove_23 rfl (j := 2) rfl ?_
        refine aw_ifnull (o := none) (tgt := 53) C d_Ro_remove_24 (by decide) (fun _ => ?_) (fun _ h => nomatch h)
        refine aw_iconst (v := 0) C d_Ro_remove_53 (by decide) ?_
        have e9 : rm_F S r8 g n0 = (0, S) := by unfold rm_F; rw [if_neg (fun h => c_5 ((ac_eq hI hg hF).mpr h)), ← hR]; rfl
        exact aw_zret C hr hlk rfl _ ⟨by rw [e9], by rw [e9]⟩ (fun H h => h) d_Ro_remove_54
      · have hk : k < nb := ho k rfl
        refine aw_aload_n C d_Ro_remove_23 rfl (j := 2) rfl ?_
        refine aw_ifnull (o := some ((ad 15 k))) (tgt := 53) C d_Ro_remove_24 (by decide) (fun h => nomatch h) (fun _ _ => ?_)
        refine aw_aload_n C d_Ro_remove_27 rfl (j := 2) rfl ?_
        refine gt_Ro_Bk_next C hK hk d_Ro_remove_28 ?_
        refine aw_aload_n C d_Ro_remove_31 rfl (j := 1) rfl ?_
        refine aw_acmp_ne (rx := ((S.2.2 3 k).map (ad 15))) (ry := some ((ad 15 g))) (tgt := 45) C d_Ro_remove_32 (by decide) (fun c_32 => ?_) (fun c_32 => ?_)
        · refine aw_aload_n C d_Ro_remove_45 rfl (j := 2) rfl ?_
          refine gt_Ro_Bk_next C hK hk d_Ro_remove_46 ?_
          refine aw_astoreq_n (x := ((S.2.2 3 k).map (ad 15))) (i := 2) (lv' := [(2, va_rf ((S.2.2 3 k).map (ad 15))), (0, .ref (ad 14 r8)), (1, .ref (ad 15 g))]) C d_Ro_remove_49 rfl (by decide) rfl ?_
          refine aw_goto (tgt := 23) C d_Ro_remove_50 (by decide) ?_
          exact aw_lv [1, 2, 0] rfl (ih (S.2.2 3 k) (fun z hz => hB k z hz) hT (by rw [← hR]; simp only [rm_L]; rw [if_neg (fun h => c_32 ((ac_eq hI hg (hB k)).mpr h))]))
        · refine aw_aload_n C d_Ro_remove_35 rfl (j := 2) rfl ?_
          refine aw_aload_n C d_Ro_remove_36 rfl (j := 1) rfl ?_
          refine gt_Ro_Bk_next C hK hg d_Ro_remove_37 ?_
          refine pt_Ro_Bk_next (x := (S.2.2 3 g)) C hK hI hk  d_Ro_remove_40 ?_
          refine aw_iconst (v := 1) C d_Ro_remove_43 (by decide) ?_
          have e9 : rm_F S r8 g n0 = (1, ds_wR S 3 k (S.2.2 3 g)) := by unfold rm_F; rw [if_neg (fun h => c_5 ((ac_eq hI hg hF).mpr h)), ← hR]; simp only [rm_L]; rw [if_pos ((ac_eq hI hg (hB k)).mp c_32)]
          exact aw_zret C hr hlk rfl _ ⟨by rw [e9], by rw [e9]⟩ (fun H h => h) d_Ro_remove_44
  refine aw_lv (lv' := [(0, .ref (ad 14 r8)), (1, .ref (ad 15 g))]) [0, 1] rfl ?_
  refine aw_aload_n C d_Ro_remove_0 rfl (j := 0) rfl ?_
  refine gt_Ro_Ro_first C hK hr9 d_Ro_remove_1 ?_
  refine aw_aload_n C d_Ro_remove_4 rfl (j := 1) rfl ?_
  refine aw_acmp_ne (rx := ((S.2.2 2 r8).map (ad 15))) (ry := some ((ad 15 g))) (tgt := 18) C d_Ro_remove_5 (by decide) (fun c_5 => ?_) (fun c_5 => ?_)
  · refine aw_aload_n C d_Ro_remove_18 rfl (j := 0) rfl ?_
    refine gt_Ro_Ro_first C hK hr9 d_Ro_remove_19 ?_
    refine aw_astoreq_n (x := ((S.2.2 2 r8).map (ad 15))) (i := 2) (lv' := [(2, va_rf ((S.2.2 2 r8).map (ad 15))), (0, .ref (ad 14 r8)), (1, .ref (ad 15 g))]) C d_Ro_remove_22 rfl (by decide) rfl ?_
    exact aw_lv [1, 2, 0] rfl (lp c_5 n0 (S.2.2 2 r8) hF hT rfl)
  · refine aw_aload_n C d_Ro_remove_8 rfl (j := 0) rfl ?_
    refine aw_aload_n C d_Ro_remove_9 rfl (j := 1) rfl ?_
    refine gt_Ro_Bk_next C hK hg d_Ro_remove_10 ?_
    refine pt_Ro_Ro_first (x := (S.2.2 3 g)) C hK hI hr9  d_Ro_remove_13 ?_
    refine aw_iconst (v := 1) C d_Ro_remove_16 (by decide) ?_
    have e9 : rm_F S r8 g n0 = (1, ds_wR S 2 r8 (S.2.2 3 g)) := by unfold rm_F; rw [if_pos ((ac_eq hI hg hF).mp c_5)]
    exact aw_zret C hr hlk rfl _ ⟨by rw [e9], by rw [e9]⟩ (fun H h => h) d_Ro_remove_17
end
section
def mo_in (v lo hi : Int32) : Int32 := if v < lo then 0 else (if hi < v then 0 else 1)
set_option maxHeartbeats 4000000 in
set_option maxRecDepth 100000 in
theorem c_Mo_in (l : Launch) (D : va_G) (cA : Nat → ClassId) (A : Nat → Prop) (P : Heap → Prop) (v lo hi : Int32) : Ct_i l y_Mo_in b_Mo_in 3 (some .boolean) ({ frames := 0, cells := 0, slots := 0, locals := 0 } : Room) 0 0 D (ds_ty cA) (A) [.int v, .int lo, .int hi] (P) (fun (r : Int32) (u : Unit) => r = mo_in v lo hi) (fun _ => P) := by
  intro sz
  refine ct_of (by decide) (Nat.le_of_ble_eq_true rfl) ?_
  intro p e s m args below meth c hsz C hr hlk hnm hK
  refine aw_lv (lv' := [(0, .int v), (1, .int lo), (2, .int hi)]) [0, 1, 2] rfl ?_
  refine aw_iload_n C d_Mo_in_0 rfl (j := 0) rfl ?_
  refine aw_iload_n C d_Mo_in_1 rfl (j := 1) rfl ?_
  refine aw_icmp_lt (tgt := 14) C d_Mo_in_2 (by decide) (fun c_2 => ?_) (fun c_2 => ?_)
  · refine aw_iconst (v := 0) C d_Mo_in_14 (by decide) ?_
    exact aw_zret C hr hlk rfl () (by unfold mo_in; rw [if_pos c_2]) (fun H h => h) d_Mo_in_15
  · refine aw_iload_n C d_Mo_in_5 rfl (j := 0) rfl ?_
    refine aw_iload_n C d_Mo_in_6 rfl (j := 2) rfl ?_
    refine aw_icmp_gt (tgt := 14) C d_Mo_in_7 (by decide) (fun c_7 => ?_) (fun c_7 => ?_)
    · refine aw_iconst (v := 0) C d_Mo_in_14 (by decide) ?_
      exact aw_zret C hr hlk rfl () (by unfold mo_in; rw [if_neg c_2, if_pos c_7]) (fun H h => h) d_Mo_in_15
    · refine aw_iconst (v := 1) C d_Mo_in_10 (by decide) ?_
      refine aw_goto (tgt := 15) C d_Mo_in_11 (by decide) ?_
      exact aw_zret C hr hlk rfl () (by unfold mo_in; rw [if_neg c_2, if_neg c_7]) (fun H h => h) d_Mo_in_15
theorem mo_in_b (v lo hi : Int32) : mo_in v lo hi = 0 ∨ mo_in v lo hi = 1 := by
  unfold mo_in
  split
  · exact Or.inl rfl
  · split
    · exact Or.inl rfl
    · exact Or.inr rfl
theorem mo_in_z (v lo hi : Int32) : narrow .boolean (.int (mo_in v lo hi)) = .int (mo_in v lo hi) := (nr_z (mo_in_b v lo hi)).1
set_option maxHeartbeats 4000000 in
set_option maxRecDepth 100000 in
theorem c_Mo_isPerson (l : Launch) (D : va_G) (ad : Nat → Nat) (cA : Nat → ClassId) (M : ms_S) (v : Int32) : Ct_i l y_Mo_isPerson b_Mo_isPerson 2 (some .boolean) ({ frames := 1, cells := 0, slots := 0, locals := 22 } : Room) 0 0 D (ds_ty cA) (ms_A ad) [.ref (ad 0), .int v] (ms_P D ad cA M) (fun (r : Int32) (u : ms_S) => M = u ∧ r = mo_in v 0 (M 22 0 - 1)) (ms_P D ad cA) := by
  intro sz
  refine ct_of (by decide) (Nat.le_of_ble_eq_true rfl) ?_
  intro p e s m args below meth c hsz C hr hlk hnm hK
  refine aw_lv (lv' := [(0, .ref (ad 0)), (1, .int v)]) [0, 1] rfl ?_
  refine aw_iload_n C d_Mo_isPerson_0 rfl (j := 1) rfl ?_
  refine aw_iconst (v := 0) C d_Mo_isPerson_1 (by decide) ?_
  refine aw_aload_n C d_Mo_isPerson_2 rfl (j := 0) rfl ?_
  refine gm_persons (v := M 22 0) C hK rfl d_Mo_isPerson_3 ?_
  refine aw_iconst (v := 1) C d_Mo_isPerson_6 (by decide) ?_
  refine aw_isub C d_Mo_isPerson_7 ?_
  refine aw_callSi (Cn := "") (P9 := fun r u => ms_P D ad cA M) [.int v, .int 0, .int (M 22 0 - 1)] C hK (c_Mo_in l D cA (ms_A ad) (ms_P D ad cA M) v 0 (M 22 0 - 1)) (cw_Mo_Mo_in C.2.2.2.2 rfl rfl (by decide)) rfl (fun H h => h) (fun q h => Or.inl h) (fun q h => Or.inr (by rw [← hsz]; exact h)) rfl (Nat.le_of_ble_eq_true rfl) d_Mo_isPerson_8 (by decide) (fun H H1 r u _ _ hB _ _ => hB) ?_
  rintro r u rfl
  exact aw_zret C hr hlk (mo_in_z _ _ _) M ⟨rfl, rfl⟩ (fun H h => h) d_Mo_isPerson_11
set_option maxHeartbeats 4000000 in
set_option maxRecDepth 100000 in
theorem c_Mo_isDesk (l : Launch) (D : va_G) (ad : Nat → Nat) (cA : Nat → ClassId) (M : ms_S) (v : Int32) : Ct_i l y_Mo_isDesk b_Mo_isDesk 2 (some .boolean) ({ frames := 1, cells := 0, slots := 0, locals := 22 } : Room) 0 0 D (ds_ty cA) (ms_A ad) [.ref (ad 0), .int v] (ms_P D ad cA M) (fun (r : Int32) (u : ms_S) => M = u ∧ r = mo_in v 0 (M 21 0 - 1)) (ms_P D ad cA) := by
  intro sz
  refine ct_of (by decide) (Nat.le_of_ble_eq_true rfl) ?_
  intro p e s m args below meth c hsz C hr hlk hnm hK
  refine aw_lv (lv' := [(0, .ref (ad 0)), (1, .int v)]) [0, 1] rfl ?_
  refine aw_iload_n C d_Mo_isDesk_0 rfl (j := 1) rfl ?_
  refine aw_iconst (v := 0) C d_Mo_isDesk_1 (by decide) ?_
  refine aw_aload_n C d_Mo_isDesk_2 rfl (j := 0) rfl ?_
  refine gm_desks (v := M 21 0) C hK rfl d_Mo_isDesk_3 ?_
  refine aw_iconst (v := 1) C d_Mo_isDesk_6 (by decide) ?_
  refine aw_isub C d_Mo_isDesk_7 ?_
  refine aw_callSi (Cn := "") (P9 := fun r u => ms_P D ad cA M) [.int v, .int 0, .int (M 21 0 - 1)] C hK (c_Mo_in l D cA (ms_A ad) (ms_P D ad cA M) v 0 (M 21 0 - 1)) (cw_Mo_Mo_in C.2.2.2.2 rfl rfl (by decide)) rfl (fun H h => h) (fun q h => Or.inl h) (fun q h => Or.inr (by rw [← hsz]; exact h)) rfl (Nat.le_of_ble_eq_true rfl) d_Mo_isDesk_8 (by decide) (fun H H1 r u _ _ hB _ _ => hB) ?_
  rintro r u rfl
  exact aw_zret C hr hlk (mo_in_z _ _ _) M ⟨rfl, rfl⟩ (fun H h => h) d_Mo_isDesk_11
set_option maxHeartbeats 4000000 in
set_option maxRecDepth 100000 in
theorem c_Mo_isRoom (l : Launch) (D : va_G) (ad : Nat → Nat) (cA : Nat → ClassId) (M : ms_S) (v : Int32) : Ct_i l y_Mo_isRoom b_Mo_isRoom 2 (some .boolean) ({ frames := 1, cells := 0, slots := 0, locals := 22 } : Room) 0 0 D (ds_ty cA) (ms_A ad) [.ref (ad 0), .int v] (ms_P D ad cA M) (fun (r : Int32) (u : ms_S) => M = u ∧ r = mo_in v 0 (M 28 0 - 1)) (ms_P D ad cA) := by
  intro sz
  refine ct_of (by decide) (Nat.le_of_ble_eq_true rfl) ?_
  intro p e s m args below meth c hsz C hr hlk hnm hK
  refine aw_lv (lv' := [(0, .ref (ad 0)), (1, .int v)]) [0, 1] rfl ?_
  refine aw_iload_n C d_Mo_isRoom_0 rfl (j := 1) rfl ?_
  refine aw_iconst (v := 0) C d_Mo_isRoom_1 (by decide) ?_
  refine aw_aload_n C d_Mo_isRoom_2 rfl (j := 0) rfl ?_
  refine gm_rooms (v := M 28 0) C hK rfl d_Mo_isRoom_3 ?_
  refine aw_iconst (v := 1) C d_Mo_isRoom_6 (by decide) ?_
  refine aw_isub C d_Mo_isRoom_7 ?_
  refine aw_callSi (Cn := "") (P9 := fun r u => ms_P D ad cA M) [.int v, .int 0, .int (M 28 0 - 1)] C hK (c_Mo_in l D cA (ms_A ad) (ms_P D ad cA M) v 0 (M 28 0 - 1)) (cw_Mo_Mo_in C.2.2.2.2 rfl rfl (by decide)) rfl (fun H h => h) (fun q h => Or.inl h) (fun q h => Or.inr (by rw [← hsz]; exact h)) rfl (Nat.le_of_ble_eq_true rfl) d_Mo_isRoom_8 (by decide) (fun H H1 r u _ _ hB _ _ => hB) ?_
  rintro r u rfl
  exact aw_zret C hr hlk (mo_in_z _ _ _) M ⟨rfl, rfl⟩ (fun H h => h) d_Mo_isRoom_11
set_option maxHeartbeats 4000000 in
set_option maxRecDepth 100000 in
theorem c_Mo_thrown (l : Launch) (D : va_G) (ad : Nat → Nat) (cA : Nat → ClassId) (M : ms_S)  : Ct_i l y_Mo_thrown b_Mo_thrown 1 (some .int) ({ frames := 0, cells := 0, slots := 0, locals := 0 } : Room) 0 0 D (ds_ty cA) (ms_A ad) [.ref (ad 0)] (ms_P D ad cA M) (fun (r : Int32) (u : ms_S) => M = u ∧ r = M 20 0) (ms_P D ad cA) := by
  intro sz
  refine ct_of (by decide) (Nat.le_of_ble_eq_true rfl) ?_
  intro p e s m args below meth c hsz C hr hlk hnm hK
  refine aw_lv (lv' := [(0, .ref (ad 0))]) [0] rfl ?_
  refine aw_aload_n C d_Mo_thrown_0 rfl (j := 0) rfl ?_
  refine gm_thrown (v := M 20 0) C hK rfl d_Mo_thrown_1 ?_
  exact aw_iret C hr hlk M ⟨rfl, rfl⟩ (fun H h => h) d_Mo_thrown_4
def mo_wi (v : Int32) : Int32 := (v + 15) / 16
set_option maxHeartbeats 4000000 in
set_option maxRecDepth 100000 in
theorem c_Mo_worthIn (l : Launch) (D : va_G) (cA : Nat → ClassId) (A : Nat → Prop) (P : Heap → Prop) (v : Int32) : Ct_i l y_Mo_worthIn b_Mo_worthIn 1 (some .int) ({ frames := 0, cells := 0, slots := 0, locals := 0 } : Room) 0 0 D (ds_ty cA) (A) [.int v] (P) (fun (r : Int32) (u : Unit) => r = mo_wi v) (fun _ => P) := by
  intro sz
  refine ct_of (by decide) (Nat.le_of_ble_eq_true rfl) ?_
  intro p e s m args below meth c hsz C hr hlk hnm hK
  refine aw_lv (lv' := [(0, .int v)]) [0] rfl ?_
  refine aw_iload_n C d_Mo_worthIn_0 rfl (j := 0) rfl ?_
  refine aw_bipush (v := 15) C d_Mo_worthIn_1 (by decide) ?_
  refine aw_iadd C d_Mo_worthIn_3 ?_
  refine aw_topi (fun z_3 hz_3 => ?_)
  refine aw_bipush (v := 16) C d_Mo_worthIn_4 (by decide) ?_
  refine aw_idiv C d_Mo_worthIn_6 (by decide) ?_
  refine aw_topi (fun z_6 hz_6 => ?_)
  exact aw_iret C hr hlk () (by rw [hz_6, hz_3]; rfl) (fun H h => h) d_Mo_worthIn_7
def mo_mv (M : ms_S) (p : Nat) (d : Int32) : Int32 := if M 3 p = -1 then 0 else (if M 3 p = d then 0 else 1)
def mo_val (M : ms_S) (p d : Nat) : Int32 := 16 * M 1 (14 * p + d) - mo_mv M p (nI d)
set_option maxHeartbeats 4000000 in
set_option maxRecDepth 100000 in
theorem c_Mo_isMove (l : Launch) (D : va_G) (ad : Nat → Nat) (cA : Nat → ClassId) (M : ms_S) (p9 : Nat) (d9 : Int32) (hp : p9 < 10) : Ct_i l y_Mo_isMove b_Mo_isMove 3 (some .boolean) ({ frames := 0, cells := 0, slots := 0, locals := 0 } : Room) 0 0 D (ds_ty cA) (ms_A ad) [.ref (ad 0), .int (nI p9), .int d9] (ms_P D ad cA M) (fun (r : Int32) (u : ms_S) => M = u ∧ r = mo_mv M p9 d9) (ms_P D ad cA) := by
  intro sz
  refine ct_of (by decide) (Nat.le_of_ble_eq_true rfl) ?_
  intro p e s m args below meth c hsz C hr hlk hnm hK
  refine aw_lv (lv' := [(0, .ref (ad 0)), (1, .int (nI p9)), (2, .int d9)]) [0, 1, 2] rfl ?_
  refine aw_aload_n C d_Mo_isMove_0 rfl (j := 0) rfl ?_
  refine gm_olds C hK d_Mo_isMove_1 ?_
  refine aw_iload_n C d_Mo_isMove_4 rfl (j := 1) rfl ?_
  refine lm_3 (v := M 3 p9) C hK p9 rfl hp rfl d_Mo_isMove_5 ?_
  refine aw_iconst (v := (-1)) C d_Mo_isMove_6 (by decide) ?_
  refine aw_icmp_eq (tgt := 24) C d_Mo_isMove_7 (by decide) (fun c_7 => ?_) (fun c_7 => ?_)
  · refine aw_iconst (v := 0) C d_Mo_isMove_24 (by decide) ?_
    exact aw_zret C hr hlk rfl M ⟨rfl, by unfold mo_mv; rw [if_pos c_7]⟩ (fun H h => h) d_Mo_isMove_25
  · refine aw_aload_n C d_Mo_isMove_10 rfl (j := 0) rfl ?_
    refine gm_olds C hK d_Mo_isMove_11 ?_
    refine aw_iload_n C d_Mo_isMove_14 rfl (j := 1) rfl ?_
    refine lm_3 (v := M 3 p9) C hK p9 rfl hp rfl d_Mo_isMove_15 ?_
    refine aw_iload_n C d_Mo_isMove_16 rfl (j := 2) rfl ?_
    refine aw_icmp_eq (tgt := 24) C d_Mo_isMove_17 (by decide) (fun c_17 => ?_) (fun c_17 => ?_)
    · refine aw_iconst (v := 0) C d_Mo_isMove_24 (by decide) ?_
      exact aw_zret C hr hlk rfl M ⟨rfl, by unfold mo_mv; rw [if_neg c_7, if_pos c_17]⟩ (fun H h => h) d_Mo_isMove_25
    · refine aw_iconst (v := 1) C d_Mo_isMove_20 (by decide) ?_
      refine aw_goto (tgt := 25) C d_Mo_isMove_21 (by decide) ?_
      exact aw_zret C hr hlk rfl M ⟨rfl, by unfold mo_mv; rw [if_neg c_7, if_neg c_17]⟩ (fun H h => h) d_Mo_isMove_25
theorem mo_mv_b (M : ms_S) (p : Nat) (d : Int32) : mo_mv M p d = 0 ∨ mo_mv M p d = 1 := by
  unfold mo_mv
  split
  · exact Or.inl rfl
  · split
    · exact Or.inl rfl
    · exact Or.inr rfl
set_option maxHeartbeats 4000000 in
set_option maxRecDepth 100000 in
theorem c_Mo_value (l : Launch) (D : va_G) (ad : Nat → Nat) (cA : Nat → ClassId) (M : ms_S) (p9 d9 : Nat) (hp : p9 < 10) (hd : d9 < 14) : Ct_i l y_Mo_value b_Mo_value 3 (some .int) ({ frames := 1, cells := 0, slots := 0, locals := 22 } : Room) 0 0 D (ds_ty cA) (ms_A ad) [.ref (ad 0), .int (nI p9), .int (nI d9)] (ms_P D ad cA M) (fun (r : Int32) (u : ms_S) => M = u ∧ r = mo_val M p9 d9) (ms_P D ad cA) := by
  intro sz
  refine ct_of (by decide) (Nat.le_of_ble_eq_true rfl) ?_
  intro p e s m args below meth c hsz C hr hlk hnm hK
  refine aw_lv (lv' := [(0, .ref (ad 0)), (1, .int (nI p9)), (2, .int (nI d9))]) [0, 1, 2] rfl ?_
  refine aw_bipush (v := 16) C d_Mo_value_0 (by decide) ?_
  refine aw_aload_n C d_Mo_value_2 rfl (j := 0) rfl ?_
  refine gm_wishes C hK d_Mo_value_3 ?_
  refine aw_bipush (v := 14) C d_Mo_value_6 (by decide) ?_
  refine aw_iload_n C d_Mo_value_8 rfl (j := 1) rfl ?_
  refine aw_imul C d_Mo_value_9 ?_
  refine aw_topi (fun z_9 hz_9 => ?_)
  refine aw_iload_n C d_Mo_value_10 rfl (j := 2) rfl ?_
  refine aw_iadd C d_Mo_value_11 ?_
  refine aw_topi (fun z_11 hz_11 => ?_)
  refine lm_1 (v := M 1 (14 * p9 + d9)) C hK (14 * p9 + d9) (by rw [hz_11, hz_9, show (14 : Int32) = nI 14 from rfl, pk_mul, nI_add]) (by omega) rfl d_Mo_value_12 ?_
  refine aw_imul C d_Mo_value_13 ?_
  refine aw_topi (fun z_13 hz_13 => ?_)
  refine aw_aload_n C d_Mo_value_14 rfl (j := 0) rfl ?_
  refine aw_iload_n C d_Mo_value_15 rfl (j := 1) rfl ?_
  refine aw_iload_n C d_Mo_value_16 rfl (j := 2) rfl ?_
  refine aw_callVi (P9 := fun r u => ms_P D ad cA u) [.int (nI p9), .int (nI d9)] C hK (c_Mo_isMove l D ad cA M p9 (nI d9) hp) (cw_Mo_Mo_isMove C.2.2.2.2 rfl rfl (by decide)) rfl (fun H h => aw_recv hK rfl (h 0 (by decide))) (fun H h => h) (fun q h => Or.inl h) (fun q h => Or.inr (by rw [← hsz]; exact h)) rfl (Nat.le_of_ble_eq_true rfl) d_Mo_value_17 (by decide) (fun H H1 r u _ _ hB _ _ => hB) ?_
  rintro r u ⟨rfl, rfl⟩
  refine aw_if_eq (tgt := 27) C d_Mo_value_20 (by decide) (fun c_20 => ?_) (fun c_20 => ?_)
  · refine aw_iconst (v := 0) C d_Mo_value_27 (by decide) ?_
    refine aw_isub C d_Mo_value_28 ?_
    refine aw_topi (fun z_28 hz_28 => ?_)
    exact aw_iret C hr hlk M ⟨rfl, by rw [hz_28, hz_13]; unfold mo_val; rw [c_20]⟩ (fun H h => h) d_Mo_value_29
  · refine aw_iconst (v := 1) C d_Mo_value_23 (by decide) ?_
    refine aw_goto (tgt := 28) C d_Mo_value_24 (by decide) ?_
    refine aw_isub C d_Mo_value_28 ?_
    refine aw_topi (fun z_28 hz_28 => ?_)
    exact aw_iret C hr hlk M ⟨rfl, by rw [hz_28, hz_13]; unfold mo_val; rw [show mo_mv M p9 (nI d9) = 1 from (mo_mv_b M p9 (nI d9)).resolve_left c_20]⟩ (fun H h => h) d_Mo_value_29
end
section
def bt_L : Nat → Nat → Nat
  | 0, _ => 0
  | f + 1, n => if n = 0 then 0 else n % 2 + bt_L f (n / 2)
set_option maxHeartbeats 4000000 in
set_option maxRecDepth 100000 in
theorem c_Mo_bits (l : Launch) (D : va_G) (cA : Nat → ClassId) (A : Nat → Prop) (P : Heap → Prop) (n : Nat) (hn : n < 2 ^ 31) : Ct_i l y_Mo_bits b_Mo_bits 3 (some .int) ({ frames := 0, cells := 0, slots := 0, locals := 0 } : Room) 0 0 D (ds_ty cA) (A) [.int (nI n)] (P) (fun (r : Int32) (u : Unit) => r = nI (bt_L 31 n)) (fun _ => P) := by
  intro sz
  refine ct_of (by decide) (Nat.le_of_ble_eq_true rfl) ?_
  intro p e s m args below meth c hsz C hr hlk hnm hK
  have lp : ∀ (f a b : Nat), b < 2 ^ 31 → b < 2 ^ f → a + bt_L f b = bt_L 31 n → AW p l e ({ frames := 0, cells := 0, slots := 0, locals := 0 } : Room) s m args below meth c 3 0 0 (MQ below (va_Qi (fun (r : Int32) (u : Unit) => r = nI (bt_L 31 n)) (fun u t => (fun _ => P) u t.heap) (ct_A (A) sz)) args s 0 0 (ct_A (A) sz)) (P) (ct_A (A) sz) 4 [(0, .int (nI n)), (1, .int (nI a)), (2, .int (nI b))] [] := by
    intro f
    induction f using Nat.strongRecOn with
    | _ f ih =>
      intro a b hb31 hf hR
      refine aw_iload_n C d_Mo_bits_4 rfl (j := 2) rfl ?_
      refine aw_if_le (tgt := 21) C d_Mo_bits_5 (by decide) (fun c_5 => ?_) (fun c_5 => ?_)
      · refine aw_iload_n C d_Mo_bits_21 rfl (j := 1) rfl ?_
        have hb0 : b = 0 := by
          have h9 := (nI_leI (b := 0) hb31 (by omega)).mp c_5
          omega
        exact aw_iret C hr hlk () (by rw [← hR, hb0]; cases f <;> rfl) (fun H h => h) d_Mo_bits_22
      · refine aw_iload_n C d_Mo_bits_8 rfl (j := 1) rfl ?_
        refine aw_iload_n C d_Mo_bits_9 rfl (j := 2) rfl ?_
        refine aw_iconst (v := 2) C d_Mo_bits_10 (by decide) ?_
        refine aw_irem C d_Mo_bits_11 (by decide) ?_
        refine aw_topi (fun z_11 hz_11 => ?_)
        refine aw_iadd C d_Mo_bits_12 ?_
        refine aw_topi (fun z_12 hz_12 => ?_)
        obtain rfl : z_12 = nI (a + b % 2) := by rw [hz_12, hz_11, show (2 : Int32) = nI 2 from rfl, pk_rem hb31 (by omega) (by omega), nI_add]
        refine aw_istore_n (i := 1) (lv' := [(1, .int (nI (a + b % 2))), (0, .int (nI n)), (2, .int (nI b))]) C d_Mo_bits_13 rfl (by decide) rfl ?_
        refine aw_iload_n C d_Mo_bits_14 rfl (j := 2) rfl ?_
        refine aw_iconst (v := 2) C d_Mo_bits_15 (by decide) ?_
        refine aw_idiv C d_Mo_bits_16 (by decide) ?_
        refine aw_topi (fun z_16 hz_16 => ?_)
        obtain rfl : z_16 = nI (b / 2) := by rw [hz_16, show (2 : Int32) = nI 2 from rfl, pk_div hb31 (by omega) (by omega)]
        refine aw_istore_n (i := 2) (lv' := [(2, .int (nI (b / 2))), (1, .int (nI (a + b % 2))), (0, .int (nI n))]) C d_Mo_bits_17 rfl (by decide) rfl ?_
        refine aw_goto (tgt := 4) C d_Mo_bits_18 (by decide) ?_
        have hb0 : ¬ b = 0 := fun h => c_5 (by rw [h]; decide)
        rcases f with _ | f
        · exact absurd hf (by omega)
        · exact aw_lv [2, 1, 0] rfl (ih f (by omega) (a + b % 2) (b / 2) (by omega) (Nat.div_lt_of_lt_mul (by rw [Nat.mul_comm, ← Nat.pow_succ]; exact hf)) (by rw [← hR]; simp only [bt_L]; rw [if_neg hb0]; omega))
  refine aw_lv (lv' := [(0, .int (nI n))]) [0] rfl ?_
  refine aw_iconst (v := 0) C d_Mo_bits_0 (by decide) ?_
  refine aw_istore_n (i := 1) (lv' := [(1, .int 0), (0, .int (nI n))]) C d_Mo_bits_1 rfl (by decide) rfl ?_
  refine aw_iload_n C d_Mo_bits_2 rfl (j := 1) rfl ?_
  refine aw_istore_n (i := 2) (lv' := [(2, .int (nI n)), (1, .int 0), (0, .int (nI n))]) C d_Mo_bits_3 rfl (by decide) rfl ?_
  exact aw_lv [2, 1, 0] rfl (lp 31 0 n hn hn (by omega))
def mf_L (M : ms_S) (x : Int32) : Nat → Int32
  | 0 => 1
  | k + 1 => if mf_L M x k = 0 then 0 else (if M 8 k = x then 0 else 1)
theorem mf_b (M : ms_S) (x : Int32) : ∀ k, mf_L M x k = 0 ∨ mf_L M x k = 1
  | 0 => Or.inr rfl
  | k + 1 => by
    unfold mf_L
    split
    · exact Or.inl rfl
    · split
      · exact Or.inl rfl
      · exact Or.inr rfl
set_option maxHeartbeats 4000000 in
set_option maxRecDepth 100000 in
theorem c_Mo_isFree (l : Launch) (D : va_G) (ad : Nat → Nat) (cA : Nat → ClassId) (M : ms_S) (Pn : Nat) (x : Int32) (hPn : Pn ≤ 10) (h22 : M 22 0 = nI Pn) : Ct_i l y_Mo_isFree b_Mo_isFree 4 (some .boolean) ({ frames := 0, cells := 0, slots := 0, locals := 0 } : Room) 0 0 D (ds_ty cA) (ms_A ad) [.ref (ad 0), .int x] (ms_P D ad cA M) (fun (r : Int32) (u : ms_S) => M = u ∧ r = mf_L M x Pn) (ms_P D ad cA) := by
  intro sz
  refine ct_of (by decide) (Nat.le_of_ble_eq_true rfl) ?_
  intro p e s m args below meth c hsz C hr hlk hnm hK
  have lp : ∀ (n k : Nat) , k ≤ Pn → Pn + 1 ≤ k + n → AW p l e ({ frames := 0, cells := 0, slots := 0, locals := 0 } : Room) s m args below meth c 4 0 0 (MQ below (va_Qi (fun (r : Int32) (u : ms_S) => M = u ∧ r = mf_L M x Pn) (fun u t => (ms_P D ad cA) u t.heap) (ct_A (ms_A ad) sz)) args s 0 0 (ct_A (ms_A ad) sz)) (ms_P D ad cA M) (ct_A (ms_A ad) sz) 4 [(0, .ref (ad 0)), (1, .int x), (2, .int (mf_L M x k)), (3, .int (nI k))] [] := by
    intro n
    induction n with
    | zero => intro k h1 h2; exact absurd h2 (by omega)
    | succ n ih =>
      intro k hk hn
      refine aw_iload_n C d_Mo_isFree_4 rfl (j := 3) rfl ?_
      refine aw_aload_n C d_Mo_isFree_5 rfl (j := 0) rfl ?_
      refine gm_persons (v := M 22 0) C hK rfl d_Mo_isFree_6 ?_
      refine aw_icmp_ge (tgt := 38) C d_Mo_isFree_9 (by decide) (fun c_9 => ?_) (fun c_9 => ?_)
      · have hkN : Pn = k := by rw [h22] at c_9; have := (nI_leI (by omega) (by omega)).mp c_9; omega
        subst hkN
        refine aw_iload_n C d_Mo_isFree_38 rfl (j := 2) rfl ?_
        exact aw_zret C hr hlk (nr_z (mf_b M x _)).1 M ⟨rfl, rfl⟩ (fun H h => h) d_Mo_isFree_39
      · have hlt : k < Pn := by rw [h22] at c_9; exact Nat.lt_of_not_le (fun h => c_9 (nI_le h (by omega)))
        refine aw_iload_n C d_Mo_isFree_12 rfl (j := 2) rfl ?_
        refine aw_if_eq (tgt := 30) C d_Mo_isFree_13 (by decide) (fun c_13 => ?_) (fun c_13 => ?_)
        · refine aw_iconst (v := 0) C d_Mo_isFree_30 (by decide) ?_
          refine aw_istore_n (i := 2) (lv' := [(2, .int 0), (0, .ref (ad 0)), (1, .int x), (3, .int (nI k))]) C d_Mo_isFree_31 rfl (by decide) rfl ?_
          refine aw_iinc (i := 3) (v := (nI (k + 1))) (lv' := [(3, .int (nI (k + 1))), (2, .int 0), (0, .ref (ad 0)), (1, .int x)]) C d_Mo_isFree_32 (j := 3) rfl (nI_1 k) (by decide) rfl ?_
          refine aw_goto (tgt := 4) C d_Mo_isFree_35 (by decide) ?_
          have e9 : mf_L M x (k + 1) = 0 := by simp only [mf_L]; rw [if_pos c_13]
          have h9 := ih (k + 1) (by omega) (by omega)
          rw [e9] at h9
          exact aw_lv [2, 3, 1, 0] rfl h9
        · refine aw_aload_n C d_Mo_isFree_16 rfl (j := 0) rfl ?_
          refine gm_place C hK d_Mo_isFree_17 ?_
          refine aw_iload_n C d_Mo_isFree_20 rfl (j := 3) rfl ?_
          refine lm_8 (v := M 8 k) C hK k rfl (show k < 10 by omega) rfl d_Mo_isFree_21 ?_
          refine aw_iload_n C d_Mo_isFree_22 rfl (j := 1) rfl ?_
          refine aw_icmp_eq (tgt := 30) C d_Mo_isFree_23 (by decide) (fun c_23 => ?_) (fun c_23 => ?_)
          · refine aw_iconst (v := 0) C d_Mo_isFree_30 (by decide) ?_
            refine aw_istore_n (i := 2) (lv' := [(2, .int 0), (0, .ref (ad 0)), (1, .int x), (3, .int (nI k))]) C d_Mo_isFree_31 rfl (by decide) rfl ?_
            refine aw_iinc (i := 3) (v := (nI (k + 1))) (lv' := [(3, .int (nI (k + 1))), (2, .int 0), (0, .ref (ad 0)), (1, .int x)]) C d_Mo_isFree_32 (j := 3) rfl (nI_1 k) (by decide) rfl ?_
            refine aw_goto (tgt := 4) C d_Mo_isFree_35 (by decide) ?_
            have e9 : mf_L M x (k + 1) = 0 := by simp only [mf_L]; rw [if_neg c_13, if_pos c_23]
            have h9 := ih (k + 1) (by omega) (by omega)
            rw [e9] at h9
            exact aw_lv [2, 3, 1, 0] rfl h9
          · refine aw_iconst (v := 1) C d_Mo_isFree_26 (by decide) ?_
            refine aw_goto (tgt := 31) C d_Mo_isFree_27 (by decide) ?_
            refine aw_istore_n (i := 2) (lv' := [(2, .int 1), (0, .ref (ad 0)), (1, .int x), (3, .int (nI k))]) C d_Mo_isFree_31 rfl (by decide) rfl ?_
            refine aw_iinc (i := 3) (v := (nI (k + 1))) (lv' := [(3, .int (nI (k + 1))), (2, .int 1), (0, .ref (ad 0)), (1, .int x)]) C d_Mo_isFree_32 (j := 3) rfl (nI_1 k) (by decide) rfl ?_
            refine aw_goto (tgt := 4) C d_Mo_isFree_35 (by decide) ?_
            have e9 : mf_L M x (k + 1) = 1 := by simp only [mf_L]; rw [if_neg c_13, if_neg c_23]
            have h9 := ih (k + 1) (by omega) (by omega)
            rw [e9] at h9
            exact aw_lv [2, 3, 1, 0] rfl h9
  refine aw_lv (lv' := [(0, .ref (ad 0)), (1, .int x)]) [0, 1] rfl ?_
  refine aw_iconst (v := 1) C d_Mo_isFree_0 (by decide) ?_
  refine aw_istore_n (i := 2) (lv' := [(2, .int 1), (0, .ref (ad 0)), (1, .int x)]) C d_Mo_isFree_1 rfl (by decide) rfl ?_
  refine aw_iconst (v := 0) C d_Mo_isFree_2 (by decide) ?_
  refine aw_istore_n (i := 3) (lv' := [(3, .int 0), (2, .int 1), (0, .ref (ad 0)), (1, .int x)]) C d_Mo_isFree_3 rfl (by decide) rfl ?_
  exact aw_lv [2, 3, 1, 0] rfl (lp (Pn + 1) 0 (by omega) (by omega))
def mg_F (M : ms_S) (p9 g : Nat) (d : Int32) : ms_S := ms_w (ms_w (ms_w (ms_w (ms_w M 7 (3 * g) (nI p9)) 7 (3 * g + 1) (M 8 p9)) 7 (3 * g + 2) d) 26 0 (nI (g + 1))) 8 p9 d
set_option maxHeartbeats 4000000 in
set_option maxRecDepth 100000 in
theorem c_Mo_go (l : Launch) (D : va_G) (ad : Nat → Nat) (cA : Nat → ClassId) (M : ms_S) (p9 g : Nat) (d9 : Int32) (hI : ms_I ad) (hp : p9 < 10) (hg : g < 200) (h26 : M 26 0 = nI g) : Ct_v l y_Mo_go b_Mo_go 3 none ({ frames := 0, cells := 0, slots := 0, locals := 0 } : Room) 0 0 D (ds_ty cA) (ms_A ad) [.ref (ad 0), .int (nI p9), .int d9] (ms_P D ad cA M) (fun (u : ms_S) => u = mg_F M p9 g d9) (ms_P D ad cA) := by
  intro sz
  refine ct_of (by decide) (Nat.le_of_ble_eq_true rfl) ?_
  intro p e s m args below meth c hsz C hr hlk hnm hK
  refine aw_lv (lv' := [(0, .ref (ad 0)), (1, .int (nI p9)), (2, .int d9)]) [0, 1, 2] rfl ?_
  refine aw_aload_n C d_Mo_go_0 rfl (j := 0) rfl ?_
  refine gm_path C hK d_Mo_go_1 ?_
  refine aw_iconst (v := 3) C d_Mo_go_4 (by decide) ?_
  refine aw_aload_n C d_Mo_go_5 rfl (j := 0) rfl ?_
  refine gm_gone (v := nI g) C hK h26 d_Mo_go_6 ?_
  refine aw_imul C d_Mo_go_9 ?_
  refine aw_topi (fun z_9 hz_9 => ?_)
  refine aw_iload_n C d_Mo_go_10 rfl (j := 1) rfl ?_
  refine sm_7 (y := (nI p9)) C hK hI  (3 * g) (by rw [hz_9, show (3 : Int32) = nI 3 from rfl, pk_mul]) (by omega) d_Mo_go_11 ?_
  refine aw_aload_n C d_Mo_go_12 rfl (j := 0) rfl ?_
  refine gm_path C hK d_Mo_go_13 ?_
  refine aw_iconst (v := 3) C d_Mo_go_16 (by decide) ?_
  refine aw_aload_n C d_Mo_go_17 rfl (j := 0) rfl ?_
  refine gm_gone (v := nI g) C hK h26 d_Mo_go_18 ?_
  refine aw_imul C d_Mo_go_21 ?_
  refine aw_topi (fun z_21 hz_21 => ?_)
  refine aw_iconst (v := 1) C d_Mo_go_22 (by decide) ?_
  refine aw_iadd C d_Mo_go_23 ?_
  refine aw_topi (fun z_23 hz_23 => ?_)
  refine aw_aload_n C d_Mo_go_24 rfl (j := 0) rfl ?_
  refine gm_place C hK d_Mo_go_25 ?_
  refine aw_iload_n C d_Mo_go_28 rfl (j := 1) rfl ?_
  refine lm_8 (v := M 8 p9) C hK p9 rfl hp rfl d_Mo_go_29 ?_
  refine sm_7 (y := (M 8 p9)) C hK hI  (3 * g + 1) (by rw [hz_23, hz_21, show (3 : Int32) = nI 3 from rfl, pk_mul, nI_1]) (by omega) d_Mo_go_30 ?_
  refine aw_aload_n C d_Mo_go_31 rfl (j := 0) rfl ?_
  refine gm_path C hK d_Mo_go_32 ?_
  refine aw_iconst (v := 3) C d_Mo_go_35 (by decide) ?_
  refine aw_aload_n C d_Mo_go_36 rfl (j := 0) rfl ?_
  refine gm_gone (v := nI g) C hK h26 d_Mo_go_37 ?_
  refine aw_imul C d_Mo_go_40 ?_
  refine aw_topi (fun z_40 hz_40 => ?_)
  refine aw_iconst (v := 2) C d_Mo_go_41 (by decide) ?_
  refine aw_iadd C d_Mo_go_42 ?_
  refine aw_topi (fun z_42 hz_42 => ?_)
  refine aw_iload_n C d_Mo_go_43 rfl (j := 2) rfl ?_
  refine sm_7 (y := d9) C hK hI  (3 * g + 2) (by rw [hz_42, hz_40, show (3 : Int32) = nI 3 from rfl, show (2 : Int32) = nI 2 from rfl, pk_mul, nI_add]) (by omega) d_Mo_go_44 ?_
  refine aw_aload_n C d_Mo_go_45 rfl (j := 0) rfl ?_
  refine aw_dup C d_Mo_go_46 rfl ?_
  refine gm_gone (v := nI g) C hK h26 d_Mo_go_47 ?_
  refine aw_iconst (v := 1) C d_Mo_go_50 (by decide) ?_
  refine aw_iadd C d_Mo_go_51 ?_
  refine aw_topi (fun z_51 hz_51 => ?_)
  obtain rfl : z_51 = nI (g + 1) := by rw [hz_51]; exact nI_1 g
  refine pm_gone (x := (nI (g + 1))) C hK hI  d_Mo_go_52 ?_
  refine aw_aload_n C d_Mo_go_55 rfl (j := 0) rfl ?_
  refine gm_place C hK d_Mo_go_56 ?_
  refine aw_iload_n C d_Mo_go_59 rfl (j := 1) rfl ?_
  refine aw_iload_n C d_Mo_go_60 rfl (j := 2) rfl ?_
  refine sm_8 (y := d9) C hK hI  p9 rfl hp d_Mo_go_61 ?_
  exact aw_vret C hr hlk _ rfl (fun H h => h) d_Mo_go_62
def mm_L (M : ms_S) (r a b : Int32) : Nat → Int32
  | 0 => -1
  | k + 1 => if M 14 k = 0 then mm_L M r a b k else (if M 10 k = r then (if b ≤ M 11 k then mm_L M r a b k else (if M 12 k ≤ a then mm_L M r a b k else nI k)) else mm_L M r a b k)
set_option maxHeartbeats 4000000 in
set_option maxRecDepth 100000 in
theorem c_Mo_meeting (l : Launch) (D : va_G) (ad : Nat → Nat) (cA : Nat → ClassId) (M : ms_S) (Bn : Nat) (r8 a b : Int32) (hBn : Bn ≤ 300) (h29 : M 29 0 = nI Bn) : Ct_i l y_Mo_meeting b_Mo_meeting 6 (some .int) ({ frames := 0, cells := 0, slots := 0, locals := 0 } : Room) 0 0 D (ds_ty cA) (ms_A ad) [.ref (ad 0), .int r8, .int a, .int b] (ms_P D ad cA M) (fun (r : Int32) (u : ms_S) => M = u ∧ r = mm_L M r8 a b Bn) (ms_P D ad cA) := by
  intro sz
  refine ct_of (by decide) (Nat.le_of_ble_eq_true rfl) ?_
  intro p e s m args below meth c hsz C hr hlk hnm hK
  have lp : ∀ (n k : Nat) , k ≤ Bn → Bn + 1 ≤ k + n → AW p l e ({ frames := 0, cells := 0, slots := 0, locals := 0 } : Room) s m args below meth c 6 0 0 (MQ below (va_Qi (fun (r : Int32) (u : ms_S) => M = u ∧ r = mm_L M r8 a b Bn) (fun u t => (ms_P D ad cA) u t.heap) (ct_A (ms_A ad) sz)) args s 0 0 (ct_A (ms_A ad) sz)) (ms_P D ad cA M) (ct_A (ms_A ad) sz) 6 [(0, .ref (ad 0)), (1, .int r8), (2, .int a), (3, .int b), (4, .int (mm_L M r8 a b k)), (5, .int (nI k))] [] := by
    intro n
    induction n with
    | zero => intro k h1 h2; exact absurd h2 (by omega)
    | succ n ih =>
      intro k hk hn
      refine aw_iload C d_Mo_meeting_6 (j := 5) rfl ?_
      refine aw_aload_n C d_Mo_meeting_8 rfl (j := 0) rfl ?_
      refine gm_bookings (v := M 29 0) C hK rfl d_Mo_meeting_9 ?_
      refine aw_icmp_ge (tgt := 73) C d_Mo_meeting_12 (by decide) (fun c_12 => ?_) (fun c_12 => ?_)
      · have hkN : Bn = k := by rw [h29] at c_12; have := (nI_leI (by omega) (by omega)).mp c_12; omega
        subst hkN
        refine aw_iload C d_Mo_meeting_73 (j := 4) rfl ?_
        exact aw_iret C hr hlk M ⟨rfl, rfl⟩ (fun H h => h) d_Mo_meeting_75
      · have hlt : k < Bn := by rw [h29] at c_12; exact Nat.lt_of_not_le (fun h => c_12 (nI_le h (by omega)))
        refine aw_aload_n C d_Mo_meeting_15 rfl (j := 0) rfl ?_
        refine gm_there C hK d_Mo_meeting_16 ?_
        refine aw_iload C d_Mo_meeting_19 (j := 5) rfl ?_
        refine lm_14 (v := M 14 k) C hK k rfl (show k < 300 by omega) rfl d_Mo_meeting_21 ?_
        refine aw_if_eq (tgt := 63) C d_Mo_meeting_22 (by decide) (fun c_22 => ?_) (fun c_22 => ?_)
        · refine aw_iload C d_Mo_meeting_63 (j := 4) rfl ?_
          refine aw_istore (i := 4) (lv' := [(4, .int (mm_L M r8 a b k)), (0, .ref (ad 0)), (1, .int r8), (2, .int a), (3, .int b), (5, .int (nI k))]) C d_Mo_meeting_65 (by decide) rfl ?_
          refine aw_iinc (i := 5) (v := (nI (k + 1))) (lv' := [(5, .int (nI (k + 1))), (4, .int (mm_L M r8 a b k)), (0, .ref (ad 0)), (1, .int r8), (2, .int a), (3, .int b)]) C d_Mo_meeting_67 (j := 5) rfl (nI_1 k) (by decide) rfl ?_
          refine aw_goto (tgt := 6) C d_Mo_meeting_70 (by decide) ?_
          have e9 : mm_L M r8 a b (k + 1) = mm_L M r8 a b k := by simp only [mm_L]; rw [if_pos c_22]
          have h9 := ih (k + 1) (by omega) (by omega)
          rw [e9] at h9
          exact aw_lv [2, 3, 4, 5, 1, 0] rfl h9
        · refine aw_aload_n C d_Mo_meeting_25 rfl (j := 0) rfl ?_
          refine gm_room C hK d_Mo_meeting_26 ?_
          refine aw_iload C d_Mo_meeting_29 (j := 5) rfl ?_
          refine lm_10 (v := M 10 k) C hK k rfl (show k < 300 by omega) rfl d_Mo_meeting_31 ?_
          refine aw_iload_n C d_Mo_meeting_32 rfl (j := 1) rfl ?_
          refine aw_icmp_ne (tgt := 63) C d_Mo_meeting_33 (by decide) (fun c_33 => ?_) (fun c_33 => ?_)
          · refine aw_iload C d_Mo_meeting_63 (j := 4) rfl ?_
            refine aw_istore (i := 4) (lv' := [(4, .int (mm_L M r8 a b k)), (0, .ref (ad 0)), (1, .int r8), (2, .int a), (3, .int b), (5, .int (nI k))]) C d_Mo_meeting_65 (by decide) rfl ?_
            refine aw_iinc (i := 5) (v := (nI (k + 1))) (lv' := [(5, .int (nI (k + 1))), (4, .int (mm_L M r8 a b k)), (0, .ref (ad 0)), (1, .int r8), (2, .int a), (3, .int b)]) C d_Mo_meeting_67 (j := 5) rfl (nI_1 k) (by decide) rfl ?_
            refine aw_goto (tgt := 6) C d_Mo_meeting_70 (by decide) ?_
            have e9 : mm_L M r8 a b (k + 1) = mm_L M r8 a b k := by simp only [mm_L]; rw [if_neg c_22, if_neg c_33]
            have h9 := ih (k + 1) (by omega) (by omega)
            rw [e9] at h9
            exact aw_lv [2, 3, 4, 5, 1, 0] rfl h9
          · refine aw_aload_n C d_Mo_meeting_36 rfl (j := 0) rfl ?_
            refine gm_from C hK d_Mo_meeting_37 ?_
            refine aw_iload C d_Mo_meeting_40 (j := 5) rfl ?_
            refine lm_11 (v := M 11 k) C hK k rfl (show k < 300 by omega) rfl d_Mo_meeting_42 ?_
            refine aw_iload_n C d_Mo_meeting_43 rfl (j := 3) rfl ?_
            refine aw_icmp_ge (tgt := 63) C d_Mo_meeting_44 (by decide) (fun c_44 => ?_) (fun c_44 => ?_)
            · refine aw_iload C d_Mo_meeting_63 (j := 4) rfl ?_
              refine aw_istore (i := 4) (lv' := [(4, .int (mm_L M r8 a b k)), (0, .ref (ad 0)), (1, .int r8), (2, .int a), (3, .int b), (5, .int (nI k))]) C d_Mo_meeting_65 (by decide) rfl ?_
              refine aw_iinc (i := 5) (v := (nI (k + 1))) (lv' := [(5, .int (nI (k + 1))), (4, .int (mm_L M r8 a b k)), (0, .ref (ad 0)), (1, .int r8), (2, .int a), (3, .int b)]) C d_Mo_meeting_67 (j := 5) rfl (nI_1 k) (by decide) rfl ?_
              refine aw_goto (tgt := 6) C d_Mo_meeting_70 (by decide) ?_
              have e9 : mm_L M r8 a b (k + 1) = mm_L M r8 a b k := by simp only [mm_L]; rw [if_neg c_22, if_pos c_33, if_pos c_44]
              have h9 := ih (k + 1) (by omega) (by omega)
              rw [e9] at h9
              exact aw_lv [2, 3, 4, 5, 1, 0] rfl h9
            · refine aw_iload_n C d_Mo_meeting_47 rfl (j := 2) rfl ?_
              refine aw_aload_n C d_Mo_meeting_48 rfl (j := 0) rfl ?_
              refine gm_to C hK d_Mo_meeting_49 ?_
              refine aw_iload C d_Mo_meeting_52 (j := 5) rfl ?_
              refine lm_12 (v := M 12 k) C hK k rfl (show k < 300 by omega) rfl d_Mo_meeting_54 ?_
              refine aw_icmp_ge (tgt := 63) C d_Mo_meeting_55 (by decide) (fun c_55 => ?_) (fun c_55 => ?_)
              · refine aw_iload C d_Mo_meeting_63 (j := 4) rfl ?_
                refine aw_istore (i := 4) (lv' := [(4, .int (mm_L M r8 a b k)), (0, .ref (ad 0)), (1, .int r8), (2, .int a), (3, .int b), (5, .int (nI k))]) C d_Mo_meeting_65 (by decide) rfl ?_
                refine aw_iinc (i := 5) (v := (nI (k + 1))) (lv' := [(5, .int (nI (k + 1))), (4, .int (mm_L M r8 a b k)), (0, .ref (ad 0)), (1, .int r8), (2, .int a), (3, .int b)]) C d_Mo_meeting_67 (j := 5) rfl (nI_1 k) (by decide) rfl ?_
                refine aw_goto (tgt := 6) C d_Mo_meeting_70 (by decide) ?_
                have e9 : mm_L M r8 a b (k + 1) = mm_L M r8 a b k := by simp only [mm_L]; rw [if_neg c_22, if_pos c_33, if_neg c_44, if_pos c_55]
                have h9 := ih (k + 1) (by omega) (by omega)
                rw [e9] at h9
                exact aw_lv [2, 3, 4, 5, 1, 0] rfl h9
              · refine aw_iload C d_Mo_meeting_58 (j := 5) rfl ?_
                refine aw_goto (tgt := 65) C d_Mo_meeting_60 (by decide) ?_
                refine aw_istore (i := 4) (lv' := [(4, .int (nI k)), (0, .ref (ad 0)), (1, .int r8), (2, .int a), (3, .int b), (5, .int (nI k))]) C d_Mo_meeting_65 (by decide) rfl ?_
                refine aw_iinc (i := 5) (v := (nI (k + 1))) (lv' := [(5, .int (nI (k + 1))), (4, .int (nI k)), (0, .ref (ad 0)), (1, .int r8), (2, .int a), (3, .int b)]) C d_Mo_meeting_67 (j := 5) rfl (nI_1 k) (by decide) rfl ?_
                refine aw_goto (tgt := 6) C d_Mo_meeting_70 (by decide) ?_
                have e9 : mm_L M r8 a b (k + 1) = nI k := by simp only [mm_L]; rw [if_neg c_22, if_pos c_33, if_neg c_44, if_neg c_55]
                have h9 := ih (k + 1) (by omega) (by omega)
                rw [e9] at h9
                exact aw_lv [2, 3, 4, 5, 1, 0] rfl h9
  refine aw_lv (lv' := [(0, .ref (ad 0)), (1, .int r8), (2, .int a), (3, .int b)]) [0, 1, 2, 3] rfl ?_
  refine aw_iconst (v := (-1)) C d_Mo_meeting_0 (by decide) ?_
  refine aw_istore (i := 4) (lv' := [(4, .int (-1)), (0, .ref (ad 0)), (1, .int r8), (2, .int a), (3, .int b)]) C d_Mo_meeting_1 (by decide) rfl ?_
  refine aw_iconst (v := 0) C d_Mo_meeting_3 (by decide) ?_
  refine aw_istore (i := 5) (lv' := [(5, .int 0), (4, .int (-1)), (0, .ref (ad 0)), (1, .int r8), (2, .int a), (3, .int b)]) C d_Mo_meeting_4 (by decide) rfl ?_
  exact aw_lv [2, 3, 4, 5, 1, 0] rfl (lp (Bn + 1) 0 (by omega) (by omega))
end
section
def mfw_L (M : ms_S) (Pn : Nat) : Nat → Nat → Option Nat
  | 0, _ => none
  | n + 1, k => if M 8 k = M 4 k then mfw_L M Pn n (k + 1) else (if mf_L M (M 4 k) Pn = 0 then mfw_L M Pn n (k + 1) else some k)
def mwt_L (M : ms_S) : Nat → Int32
  | 0 => -1
  | k + 1 => if mwt_L M k = -1 then (if M 8 k = M 4 k then mwt_L M k else nI k) else mwt_L M k
theorem mwt_or (M : ms_S) : ∀ k, mwt_L M k = -1 ∨ ∃ w, w < k ∧ mwt_L M k = nI w
  | 0 => Or.inl rfl
  | k + 1 => by
    unfold mwt_L
    split
    · split
      · rcases mwt_or M k with h | ⟨w, h1, h2⟩
        · exact Or.inl h
        · exact Or.inr ⟨w, by omega, h2⟩
      · exact Or.inr ⟨k, by omega, rfl⟩
    · rcases mwt_or M k with h | ⟨w, h1, h2⟩
      · exact Or.inl h
      · exact Or.inr ⟨w, by omega, h2⟩
def mff_L (M : ms_S) (Pn : Nat) : Nat → Nat → Option Nat
  | 0, _ => none
  | n + 1, k => if mf_L M (nI k) Pn = 0 then mff_L M Pn n (k + 1) else some k
def mgs (M : ms_S) (Pn Dn g : Nat) : Int32 × ms_S := match mfw_L M Pn Pn 0 with
  | some p => (1, mg_F M p g (M 4 p))
  | none => if mwt_L M Pn = -1 then (0, M) else (match mff_L M Pn Dn 0 with
    | some d => (1, mg_F M (mwt_L M Pn).toNatClampNeg g (nI d))
    | none => (0, ms_w M 27 0 1))
theorem mgs_b (M : ms_S) (Pn Dn g : Nat) : (mgs M Pn Dn g).1 = 0 ∨ (mgs M Pn Dn g).1 = 1 := by
  unfold mgs
  split
  · exact Or.inr rfl
  · split
    · exact Or.inl rfl
    · split
      · exact Or.inr rfl
      · exact Or.inl rfl
theorem mgs_kept (M : ms_S) (Pn Dn g t : Nat) (h7 : t ≠ 7) (h8 : t ≠ 8) (h26 : t ≠ 26) (h27 : t ≠ 27) (i : Nat) : (mgs M Pn Dn g).2 t i = M t i := by
  have e : ∀ p9 d, mg_F M p9 g d t i = M t i := fun p9 d => by
    unfold mg_F
    rw [ms_w_n (fun q => h8 q.1), ms_w_n (fun q => h26 q.1), ms_w_n (fun q => h7 q.1), ms_w_n (fun q => h7 q.1), ms_w_n (fun q => h7 q.1)]
  unfold mgs
  split
  · exact e _ _
  · split
    · rfl
    · split
      · exact e _ _
      · exact ms_w_n (fun q => h27 q.1)
theorem mg_26 (M : ms_S) (p9 g : Nat) (d : Int32) : mg_F M p9 g d 26 0 = nI (g + 1) := rfl
theorem mgs_26 (M : ms_S) (Pn Dn g : Nat) (h : ¬ (mgs M Pn Dn g).1 = 0) : (mgs M Pn Dn g).2 26 0 = nI (g + 1) := by
  unfold mgs at h ⊢
  rcases h1 : mfw_L M Pn Pn 0 with _ | p
  · simp only [h1] at h ⊢
    by_cases h2 : mwt_L M Pn = -1
    · rw [if_pos h2] at h; exact absurd rfl h
    · rw [if_neg h2] at h ⊢
      rcases h3 : mff_L M Pn Dn 0 with _ | d
      · simp only [h3] at h; exact absurd trivial h
      · rfl
  · rfl
set_option maxHeartbeats 4000000 in
set_option maxRecDepth 100000 in
theorem c_Mo_goes (l : Launch) (D : va_G) (ad : Nat → Nat) (cA : Nat → ClassId) (M : ms_S) (Pn Dn g : Nat) (hI : ms_I ad) (hPn : Pn ≤ 10) (hDn : Dn ≤ 14) (hg : g < 200) (h22 : M 22 0 = nI Pn) (h21 : M 21 0 = nI Dn) (h26 : M 26 0 = nI g) : Ct_i l y_Mo_goes b_Mo_goes 3 (some .boolean) ({ frames := 1, cells := 0, slots := 0, locals := 23 } : Room) 0 0 D (ds_ty cA) (ms_A ad) [.ref (ad 0)] (ms_P D ad cA M) (fun (r : Int32) (u : ms_S) => u = (mgs M Pn Dn g).2 ∧ r = (mgs M Pn Dn g).1) (ms_P D ad cA) := by
  intro sz
  refine ct_of (by decide) (Nat.le_of_ble_eq_true rfl) ?_
  intro p e s m args below meth c hsz C hr hlk hnm hK
  have lp2 : mfw_L M Pn Pn 0 = none → ∀ (w : Nat), w < 10 → mwt_L M Pn = nI w → ¬ mwt_L M Pn = -1 → ∀ (n k : Nat), k + n = Dn → mff_L M Pn n k = mff_L M Pn Dn 0 → AW p l e ({ frames := 1, cells := 0, slots := 0, locals := 23 } : Room) s m args below meth c 3 0 0 (MQ below (va_Qi (fun (r : Int32) (u : ms_S) => u = (mgs M Pn Dn g).2 ∧ r = (mgs M Pn Dn g).1) (fun u t => (ms_P D ad cA) u t.heap) (ct_A (ms_A ad) sz)) args s 0 0 (ct_A (ms_A ad) sz)) (ms_P D ad cA M) (ct_A (ms_A ad) sz) 94 [(0, .ref (ad 0)), (1, .int (nI w)), (2, .int (nI k))] [] := by
    intro hfw w hw ew hw1 n
    induction n with
    | zero =>
      intro k hkn hR
      refine aw_iload_n C d_Mo_goes_94 rfl (j := 2) rfl ?_
      refine aw_aload_n C d_Mo_goes_95 rfl (j := 0) rfl ?_
      refine gm_desks (v := M 21 0) C hK rfl d_Mo_goes_96 ?_
      refine aw_icmp_ge (tgt := 124) C d_Mo_goes_99 (by decide) (fun c_99 => ?_) (fun c_99 => ?_)
      · refine aw_aload_n C d_Mo_goes_124 rfl (j := 0) rfl ?_
        refine aw_iconst (v := 1) C d_Mo_goes_125 (by decide) ?_
        refine pm_stuck (x := 1) C hK hI (Or.inr rfl) d_Mo_goes_126 ?_
        refine aw_iconst (v := 0) C d_Mo_goes_129 (by decide) ?_
        have hff : mff_L M Pn Dn 0 = none := by rw [← hR]; rfl
        have e9 : mgs M Pn Dn g = (0, ms_w M 27 0 1) := by simp only [mgs, hfw, hff]; rw [if_neg hw1]
        exact aw_zret C hr hlk rfl _ ⟨by rw [e9], by rw [e9]⟩ (fun H h => h) d_Mo_goes_130
      · exact absurd (by rw [h21, show k = Dn by omega]; exact nI_le (Nat.le_refl _) (by omega)) c_99
    | succ n ih =>
      intro k hkn hR
      refine aw_iload_n C d_Mo_goes_94 rfl (j := 2) rfl ?_
      refine aw_aload_n C d_Mo_goes_95 rfl (j := 0) rfl ?_
      refine gm_desks (v := M 21 0) C hK rfl d_Mo_goes_96 ?_
      refine aw_icmp_ge (tgt := 124) C d_Mo_goes_99 (by decide) (fun c_99 => ?_) (fun c_99 => ?_)
      · exact absurd c_99 (by rw [h21]; exact nI_ge (by omega) (by omega))
      · refine aw_aload_n C d_Mo_goes_102 rfl (j := 0) rfl ?_
        refine aw_iload_n C d_Mo_goes_103 rfl (j := 2) rfl ?_
        refine aw_callVi (P9 := fun r u => ms_P D ad cA u) [.int (nI k)] C hK (c_Mo_isFree l D ad cA M Pn ((nI k)) hPn h22) (cw_Mo_Mo_isFree C.2.2.2.2 rfl rfl (by decide)) rfl (fun H h => aw_recv hK rfl (h 0 (by decide))) (fun H h => h) (fun q h => Or.inl h) (fun q h => Or.inr (by rw [← hsz]; exact h)) rfl (Nat.le_of_ble_eq_true rfl) d_Mo_goes_104 (by decide) (fun H H1 r u _ _ hB _ _ => hB) ?_
        rintro r u ⟨rfl, rfl⟩
        refine aw_if_eq (tgt := 118) C d_Mo_goes_107 (by decide) (fun c_107 => ?_) (fun c_107 => ?_)
        · refine aw_iinc (i := 2) (v := (nI (k + 1))) (lv' := [(2, .int (nI (k + 1))), (0, .ref (ad 0)), (1, .int (nI w))]) C d_Mo_goes_118 (j := 2) rfl (nI_1 k) (by decide) rfl ?_
          refine aw_goto (tgt := 94) C d_Mo_goes_121 (by decide) ?_
          exact aw_lv [1, 2, 0] rfl (ih (k + 1) (by omega) (by rw [← hR]; simp only [mff_L]; rw [if_pos c_107]))
        · refine aw_aload_n C d_Mo_goes_110 rfl (j := 0) rfl ?_
          refine aw_iload_n C d_Mo_goes_111 rfl (j := 1) rfl ?_
          refine aw_iload_n C d_Mo_goes_112 rfl (j := 2) rfl ?_
          refine aw_callVv (P9 := fun u => ms_P D ad cA u) [.int (nI w), .int (nI k)] C hK (c_Mo_go l D ad cA M w g ((nI k)) hI (by omega) hg h26) (cw_Mo_Mo_go C.2.2.2.2 rfl rfl (by decide)) rfl (fun H h => aw_recv hK rfl (h 0 (by decide))) (fun H h => h) (fun q h => Or.inl h) (fun q h => Or.inr (by rw [← hsz]; exact h)) rfl (Nat.le_of_ble_eq_true rfl) d_Mo_goes_113 (by decide) (fun H H1 u _ _ hB _ _ => hB) ?_
          rintro u rfl
          refine aw_iconst (v := 1) C d_Mo_goes_116 (by decide) ?_
          have hff : mff_L M Pn Dn 0 = some k := by rw [← hR]; simp only [mff_L]; rw [if_neg c_107]
          have e9 : mgs M Pn Dn g = (1, mg_F M w g (nI k)) := by simp only [mgs, hfw, hff]; rw [if_neg hw1, ew, nI_clamp (by omega)]
          exact aw_zret C hr hlk rfl _ ⟨by rw [e9], by rw [e9]⟩ (fun H h => h) d_Mo_goes_117
  have lp : ∀ (n k : Nat), k + n = Pn → mfw_L M Pn n k = mfw_L M Pn Pn 0 → AW p l e ({ frames := 1, cells := 0, slots := 0, locals := 23 } : Room) s m args below meth c 3 0 0 (MQ below (va_Qi (fun (r : Int32) (u : ms_S) => u = (mgs M Pn Dn g).2 ∧ r = (mgs M Pn Dn g).1) (fun u t => (ms_P D ad cA) u t.heap) (ct_A (ms_A ad) sz)) args s 0 0 (ct_A (ms_A ad) sz)) (ms_P D ad cA M) (ct_A (ms_A ad) sz) 4 [(0, .ref (ad 0)), (1, .int (mwt_L M k)), (2, .int (nI k))] [] := by
    intro n
    induction n with
    | zero =>
      intro k hkn hR
      refine aw_iload_n C d_Mo_goes_4 rfl (j := 2) rfl ?_
      refine aw_aload_n C d_Mo_goes_5 rfl (j := 0) rfl ?_
      refine gm_persons (v := M 22 0) C hK rfl d_Mo_goes_6 ?_
      refine aw_icmp_ge (tgt := 85) C d_Mo_goes_9 (by decide) (fun c_9 => ?_) (fun c_9 => ?_)
      · refine aw_iload_n C d_Mo_goes_85 rfl (j := 1) rfl ?_
        refine aw_iconst (v := (-1)) C d_Mo_goes_86 (by decide) ?_
        refine aw_icmp_ne (tgt := 92) C d_Mo_goes_87 (by decide) (fun c_87 => ?_) (fun c_87 => ?_)
        · obtain ⟨w, hw, ew⟩ := (mwt_or M k).resolve_left c_87
          rw [ew]
          have hkP : k = Pn := by omega
          rw [hkP] at ew hw c_87
          refine aw_iconst (v := 0) C d_Mo_goes_92 (by decide) ?_
          refine aw_istore_n (i := 2) (lv' := [(2, .int 0), (0, .ref (ad 0)), (1, .int (nI w))]) C d_Mo_goes_93 rfl (by decide) rfl ?_
          exact aw_lv [1, 2, 0] rfl (lp2 (by rw [← hR]; rfl) w (by omega) ew c_87 Dn 0 (by omega) rfl)
        · rw [show k = Pn by omega] at c_87
          refine aw_iconst (v := 0) C d_Mo_goes_90 (by decide) ?_
          have hfw : mfw_L M Pn Pn 0 = none := by rw [← hR]; rfl
          have e9 : mgs M Pn Dn g = (0, M) := by simp only [mgs, hfw]; rw [if_pos c_87]
          exact aw_zret C hr hlk rfl _ ⟨by rw [e9], by rw [e9]⟩ (fun H h => h) d_Mo_goes_91
      · exact absurd (by rw [h22, show k = Pn by omega]; exact nI_le (Nat.le_refl _) (by omega)) c_9
    | succ n ih =>
      intro k hkn hR
      refine aw_iload_n C d_Mo_goes_4 rfl (j := 2) rfl ?_
      refine aw_aload_n C d_Mo_goes_5 rfl (j := 0) rfl ?_
      refine gm_persons (v := M 22 0) C hK rfl d_Mo_goes_6 ?_
      refine aw_icmp_ge (tgt := 85) C d_Mo_goes_9 (by decide) (fun c_9 => ?_) (fun c_9 => ?_)
      · exact absurd c_9 (by rw [h22]; exact nI_ge (by omega) (by omega))
      · refine aw_aload_n C d_Mo_goes_12 rfl (j := 0) rfl ?_
        refine gm_place C hK d_Mo_goes_13 ?_
        refine aw_iload_n C d_Mo_goes_16 rfl (j := 2) rfl ?_
        refine lm_8 (v := M 8 k) C hK k rfl (show k < 10 by omega) rfl d_Mo_goes_17 ?_
        refine aw_aload_n C d_Mo_goes_18 rfl (j := 0) rfl ?_
        refine gm_seats C hK d_Mo_goes_19 ?_
        refine aw_iload_n C d_Mo_goes_22 rfl (j := 2) rfl ?_
        refine lm_4 (v := M 4 k) C hK k rfl (show k < 10 by omega) rfl d_Mo_goes_23 ?_
        refine aw_icmp_eq (tgt := 53) C d_Mo_goes_24 (by decide) (fun c_24 => ?_) (fun c_24 => ?_)
        · refine aw_iload_n C d_Mo_goes_53 rfl (j := 1) rfl ?_
          refine aw_iconst (v := (-1)) C d_Mo_goes_54 (by decide) ?_
          refine aw_icmp_ne (tgt := 77) C d_Mo_goes_55 (by decide) (fun c_55 => ?_) (fun c_55 => ?_)
          · refine aw_iload_n C d_Mo_goes_77 rfl (j := 1) rfl ?_
            refine aw_istore_n (i := 1) (lv' := [(1, .int (mwt_L M k)), (0, .ref (ad 0)), (2, .int (nI k))]) C d_Mo_goes_78 rfl (by decide) rfl ?_
            refine aw_iinc (i := 2) (v := (nI (k + 1))) (lv' := [(2, .int (nI (k + 1))), (1, .int (mwt_L M k)), (0, .ref (ad 0))]) C d_Mo_goes_79 (j := 2) rfl (nI_1 k) (by decide) rfl ?_
            refine aw_goto (tgt := 4) C d_Mo_goes_82 (by decide) ?_
            have e9 : mwt_L M (k + 1) = mwt_L M k := by simp only [mwt_L]; rw [if_neg c_55]
            have h9 := ih (k + 1) (by omega) (by rw [← hR]; simp only [mfw_L]; rw [if_pos c_24])
            rw [e9] at h9
            exact aw_lv [2, 1, 0] rfl h9
          · refine aw_aload_n C d_Mo_goes_58 rfl (j := 0) rfl ?_
            refine gm_place C hK d_Mo_goes_59 ?_
            refine aw_iload_n C d_Mo_goes_62 rfl (j := 2) rfl ?_
            refine lm_8 (v := M 8 k) C hK k rfl (show k < 10 by omega) rfl d_Mo_goes_63 ?_
            refine aw_aload_n C d_Mo_goes_64 rfl (j := 0) rfl ?_
            refine gm_seats C hK d_Mo_goes_65 ?_
            refine aw_iload_n C d_Mo_goes_68 rfl (j := 2) rfl ?_
            refine lm_4 (v := M 4 k) C hK k rfl (show k < 10 by omega) rfl d_Mo_goes_69 ?_
            refine aw_icmp_eq (tgt := 77) C d_Mo_goes_70 (by decide) (fun c_70 => ?_) (fun c_70 => ?_)
            · refine aw_iload_n C d_Mo_goes_77 rfl (j := 1) rfl ?_
              refine aw_istore_n (i := 1) (lv' := [(1, .int (mwt_L M k)), (0, .ref (ad 0)), (2, .int (nI k))]) C d_Mo_goes_78 rfl (by decide) rfl ?_
              refine aw_iinc (i := 2) (v := (nI (k + 1))) (lv' := [(2, .int (nI (k + 1))), (1, .int (mwt_L M k)), (0, .ref (ad 0))]) C d_Mo_goes_79 (j := 2) rfl (nI_1 k) (by decide) rfl ?_
              refine aw_goto (tgt := 4) C d_Mo_goes_82 (by decide) ?_
              have e9 : mwt_L M (k + 1) = mwt_L M k := by simp only [mwt_L]; rw [if_pos c_55, if_pos c_24]
              have h9 := ih (k + 1) (by omega) (by rw [← hR]; simp only [mfw_L]; rw [if_pos c_24])
              rw [e9] at h9
              exact aw_lv [2, 1, 0] rfl h9
            · refine aw_iload_n C d_Mo_goes_73 rfl (j := 2) rfl ?_
              refine aw_goto (tgt := 78) C d_Mo_goes_74 (by decide) ?_
              refine aw_istore_n (i := 1) (lv' := [(1, .int (nI k)), (0, .ref (ad 0)), (2, .int (nI k))]) C d_Mo_goes_78 rfl (by decide) rfl ?_
              refine aw_iinc (i := 2) (v := (nI (k + 1))) (lv' := [(2, .int (nI (k + 1))), (1, .int (nI k)), (0, .ref (ad 0))]) C d_Mo_goes_79 (j := 2) rfl (nI_1 k) (by decide) rfl ?_
              refine aw_goto (tgt := 4) C d_Mo_goes_82 (by decide) ?_
              exact absurd c_24 c_70
        · refine aw_aload_n C d_Mo_goes_27 rfl (j := 0) rfl ?_
          refine aw_aload_n C d_Mo_goes_28 rfl (j := 0) rfl ?_
          refine gm_seats C hK d_Mo_goes_29 ?_
          refine aw_iload_n C d_Mo_goes_32 rfl (j := 2) rfl ?_
          refine lm_4 (v := M 4 k) C hK k rfl (show k < 10 by omega) rfl d_Mo_goes_33 ?_
          refine aw_callVi (P9 := fun r u => ms_P D ad cA u) [.int (M 4 k)] C hK (c_Mo_isFree l D ad cA M Pn ((M 4 k)) hPn h22) (cw_Mo_Mo_isFree C.2.2.2.2 rfl rfl (by decide)) rfl (fun H h => aw_recv hK rfl (h 0 (by decide))) (fun H h => h) (fun q h => Or.inl h) (fun q h => Or.inr (by rw [← hsz]; exact h)) rfl (Nat.le_of_ble_eq_true rfl) d_Mo_goes_34 (by decide) (fun H H1 r u _ _ hB _ _ => hB) ?_
          rintro r u ⟨rfl, rfl⟩
          refine aw_if_eq (tgt := 53) C d_Mo_goes_37 (by decide) (fun c_37 => ?_) (fun c_37 => ?_)
          · refine aw_iload_n C d_Mo_goes_53 rfl (j := 1) rfl ?_
            refine aw_iconst (v := (-1)) C d_Mo_goes_54 (by decide) ?_
            refine aw_icmp_ne (tgt := 77) C d_Mo_goes_55 (by decide) (fun c_55 => ?_) (fun c_55 => ?_)
            · refine aw_iload_n C d_Mo_goes_77 rfl (j := 1) rfl ?_
              refine aw_istore_n (i := 1) (lv' := [(1, .int (mwt_L M k)), (0, .ref (ad 0)), (2, .int (nI k))]) C d_Mo_goes_78 rfl (by decide) rfl ?_
              refine aw_iinc (i := 2) (v := (nI (k + 1))) (lv' := [(2, .int (nI (k + 1))), (1, .int (mwt_L M k)), (0, .ref (ad 0))]) C d_Mo_goes_79 (j := 2) rfl (nI_1 k) (by decide) rfl ?_
              refine aw_goto (tgt := 4) C d_Mo_goes_82 (by decide) ?_
              have e9 : mwt_L M (k + 1) = mwt_L M k := by simp only [mwt_L]; rw [if_neg c_55]
              have h9 := ih (k + 1) (by omega) (by rw [← hR]; simp only [mfw_L]; rw [if_neg c_24, if_pos c_37])
              rw [e9] at h9
              exact aw_lv [2, 1, 0] rfl h9
            · refine aw_aload_n C d_Mo_goes_58 rfl (j := 0) rfl ?_
              refine gm_place C hK d_Mo_goes_59 ?_
              refine aw_iload_n C d_Mo_goes_62 rfl (j := 2) rfl ?_
              refine lm_8 (v := M 8 k) C hK k rfl (show k < 10 by omega) rfl d_Mo_goes_63 ?_
              refine aw_aload_n C d_Mo_goes_64 rfl (j := 0) rfl ?_
              refine gm_seats C hK d_Mo_goes_65 ?_
              refine aw_iload_n C d_Mo_goes_68 rfl (j := 2) rfl ?_
              refine lm_4 (v := M 4 k) C hK k rfl (show k < 10 by omega) rfl d_Mo_goes_69 ?_
              refine aw_icmp_eq (tgt := 77) C d_Mo_goes_70 (by decide) (fun c_70 => ?_) (fun c_70 => ?_)
              · refine aw_iload_n C d_Mo_goes_77 rfl (j := 1) rfl ?_
                refine aw_istore_n (i := 1) (lv' := [(1, .int (mwt_L M k)), (0, .ref (ad 0)), (2, .int (nI k))]) C d_Mo_goes_78 rfl (by decide) rfl ?_
                refine aw_iinc (i := 2) (v := (nI (k + 1))) (lv' := [(2, .int (nI (k + 1))), (1, .int (mwt_L M k)), (0, .ref (ad 0))]) C d_Mo_goes_79 (j := 2) rfl (nI_1 k) (by decide) rfl ?_
                refine aw_goto (tgt := 4) C d_Mo_goes_82 (by decide) ?_
                exact absurd c_70 c_24
              · refine aw_iload_n C d_Mo_goes_73 rfl (j := 2) rfl ?_
                refine aw_goto (tgt := 78) C d_Mo_goes_74 (by decide) ?_
                refine aw_istore_n (i := 1) (lv' := [(1, .int (nI k)), (0, .ref (ad 0)), (2, .int (nI k))]) C d_Mo_goes_78 rfl (by decide) rfl ?_
                refine aw_iinc (i := 2) (v := (nI (k + 1))) (lv' := [(2, .int (nI (k + 1))), (1, .int (nI k)), (0, .ref (ad 0))]) C d_Mo_goes_79 (j := 2) rfl (nI_1 k) (by decide) rfl ?_
                refine aw_goto (tgt := 4) C d_Mo_goes_82 (by decide) ?_
                have e9 : mwt_L M (k + 1) = nI k := by simp only [mwt_L]; rw [if_pos c_55, if_neg c_24]
                have h9 := ih (k + 1) (by omega) (by rw [← hR]; simp only [mfw_L]; rw [if_neg c_24, if_pos c_37])
                rw [e9] at h9
                exact aw_lv [2, 1, 0] rfl h9
          · refine aw_aload_n C d_Mo_goes_40 rfl (j := 0) rfl ?_
            refine aw_iload_n C d_Mo_goes_41 rfl (j := 2) rfl ?_
            refine aw_aload_n C d_Mo_goes_42 rfl (j := 0) rfl ?_
            refine gm_seats C hK d_Mo_goes_43 ?_
            refine aw_iload_n C d_Mo_goes_46 rfl (j := 2) rfl ?_
            refine lm_4 (v := M 4 k) C hK k rfl (show k < 10 by omega) rfl d_Mo_goes_47 ?_
            refine aw_callVv (P9 := fun u => ms_P D ad cA u) [.int (nI k), .int (M 4 k)] C hK (c_Mo_go l D ad cA M k g ((M 4 k)) hI (by omega) hg h26) (cw_Mo_Mo_go C.2.2.2.2 rfl rfl (by decide)) rfl (fun H h => aw_recv hK rfl (h 0 (by decide))) (fun H h => h) (fun q h => Or.inl h) (fun q h => Or.inr (by rw [← hsz]; exact h)) rfl (Nat.le_of_ble_eq_true rfl) d_Mo_goes_48 (by decide) (fun H H1 u _ _ hB _ _ => hB) ?_
            rintro u rfl
            refine aw_iconst (v := 1) C d_Mo_goes_51 (by decide) ?_
            have hfw : mfw_L M Pn Pn 0 = some k := by rw [← hR]; simp only [mfw_L]; rw [if_neg c_24, if_neg c_37]
            have e9 : mgs M Pn Dn g = (1, mg_F M k g (M 4 k)) := by simp only [mgs, hfw]
            exact aw_zret C hr hlk rfl _ ⟨by rw [e9], by rw [e9]⟩ (fun H h => h) d_Mo_goes_52
  refine aw_lv (lv' := [(0, .ref (ad 0))]) [0] rfl ?_
  refine aw_iconst (v := (-1)) C d_Mo_goes_0 (by decide) ?_
  refine aw_istore_n (i := 1) (lv' := [(1, .int (-1)), (0, .ref (ad 0))]) C d_Mo_goes_1 rfl (by decide) rfl ?_
  refine aw_iconst (v := 0) C d_Mo_goes_2 (by decide) ?_
  refine aw_istore_n (i := 2) (lv' := [(2, .int 0), (1, .int (-1)), (0, .ref (ad 0))]) C d_Mo_goes_3 rfl (by decide) rfl ?_
  exact aw_lv [2, 1, 0] rfl (lp Pn 0 (by omega) rfl)
def mwk_F (M : ms_S) : Nat → ms_S
  | 0 => ms_w (ms_w M 26 0 0) 27 0 0
  | k + 1 => ms_w (mwk_F M k) 8 k (mwk_F M k 3 k)
theorem mwk_n (M : ms_S) (t i : Nat) (h8 : t ≠ 8) (h26 : t ≠ 26) (h27 : t ≠ 27) : ∀ k, mwk_F M k t i = M t i
  | 0 => by
    unfold mwk_F
    rw [ms_w_n (fun q => h27 q.1), ms_w_n (fun q => h26 q.1)]
  | k + 1 => by
    unfold mwk_F
    rw [ms_w_n (fun q => h8 q.1)]
    exact mwk_n M t i h8 h26 h27 k
theorem mwk_26 (M : ms_S) : ∀ k, mwk_F M k 26 0 = 0
  | 0 => rfl
  | k + 1 => mwk_26 M k
def mwl (Pn Dn : Nat) : Nat → Nat → ms_S → ms_S
  | 0, _, M => M
  | n + 1, g, M => if (mgs M Pn Dn g).1 = 0 then (mgs M Pn Dn g).2 else mwl Pn Dn n (g + 1) (mgs M Pn Dn g).2
def mwT (Pn Dn : Nat) : Nat → Nat → ms_S → Prop
  | 0, _, _ => False
  | n + 1, g, M => ¬ (mgs M Pn Dn g).1 = 0 → mwT Pn Dn n (g + 1) (mgs M Pn Dn g).2
set_option maxHeartbeats 4000000 in
set_option maxRecDepth 100000 in
theorem c_Mo_walk (l : Launch) (D : va_G) (ad : Nat → Nat) (cA : Nat → ClassId) (M : ms_S) (Pn Dn n0 : Nat) (hI : ms_I ad) (hPn : Pn ≤ 10) (hDn : Dn ≤ 14) (h22 : M 22 0 = nI Pn) (h21 : M 21 0 = nI Dn) (hn0 : n0 ≤ 199) (hT : mwT Pn Dn n0 0 (mwk_F M Pn)) : Ct_v l y_Mo_walk b_Mo_walk 2 none ({ frames := 2, cells := 0, slots := 0, locals := 45 } : Room) 0 0 D (ds_ty cA) (ms_A ad) [.ref (ad 0)] (ms_P D ad cA M) (fun (u : ms_S) => u = mwl Pn Dn n0 0 (mwk_F M Pn)) (ms_P D ad cA) := by
  intro sz
  refine ct_of (by decide) (Nat.le_of_ble_eq_true rfl) ?_
  intro p e s m args below meth c hsz C hr hlk hnm hK
  have lp2 : ∀ (n g : Nat) (M' : ms_S), g + n ≤ 199 → M' 22 0 = nI Pn → M' 21 0 = nI Dn → M' 26 0 = nI g → mwT Pn Dn n g M' → mwl Pn Dn n g M' = mwl Pn Dn n0 0 (mwk_F M Pn) → AW p l e ({ frames := 2, cells := 0, slots := 0, locals := 45 } : Room) s m args below meth c 2 0 0 (MQ below (va_Qv (fun (u : ms_S) => u = mwl Pn Dn n0 0 (mwk_F M Pn)) (fun u t => (ms_P D ad cA) u t.heap) (ct_A (ms_A ad) sz)) args s 0 0 (ct_A (ms_A ad) sz)) (ms_P D ad cA (M')) (ct_A (ms_A ad) sz) 40 [(0, .ref (ad 0)), (1, .int 1)] [] := by
    intro n
    induction n with
    | zero => intro g M' _ _ _ _ hT' _; exact hT'.elim
    | succ n ih =>
      intro g M' hgn h22' h21' h26' hT' hR
      refine aw_iload_n C d_Mo_walk_40 rfl (j := 1) rfl ?_
      refine aw_if_eq (tgt := 52) C d_Mo_walk_41 (by decide) (fun h => absurd h (by decide)) (fun _ => ?_)
      refine aw_aload_n C d_Mo_walk_44 rfl (j := 0) rfl ?_
      refine aw_callVi (P9 := fun r u => ms_P D ad cA u) [] C hK (c_Mo_goes l D ad cA M' Pn Dn g hI hPn hDn (by omega) h22' h21' h26') (cw_Mo_Mo_goes C.2.2.2.2 rfl rfl (by decide)) rfl (fun H h => aw_recv hK rfl (h 0 (by decide))) (fun H h => h) (fun q h => Or.inl h) (fun q h => Or.inr (by rw [← hsz]; exact h)) rfl (Nat.le_of_ble_eq_true rfl) d_Mo_walk_45 (by decide) (fun H H1 r u _ _ hB _ _ => hB) ?_
      rintro r u ⟨rfl, rfl⟩
      refine aw_istore_n (i := 1) (lv' := [(1, .int (mgs M' Pn Dn g).1), (0, .ref (ad 0))]) C d_Mo_walk_48 rfl (by decide) rfl ?_
      refine aw_goto (tgt := 40) C d_Mo_walk_49 (by decide) ?_
      by_cases h0 : (mgs M' Pn Dn g).1 = 0
      · rw [h0]
        refine aw_iload_n C d_Mo_walk_40 rfl (j := 0) rfl ?_
        refine aw_if_eq (tgt := 52) C d_Mo_walk_41 (by decide) (fun _ => ?_) (fun h => absurd h (by decide))
        exact aw_vret C hr hlk _ (by rw [← hR]; simp only [mwl]; rw [if_pos h0]) (fun H h => h) d_Mo_walk_52
      · rw [(mgs_b M' Pn Dn g).resolve_left h0]
        exact aw_lv [1, 0] rfl (ih (g + 1) (mgs M' Pn Dn g).2 (by omega) (by rw [mgs_kept _ _ _ _ 22 (by decide) (by decide) (by decide) (by decide)]; exact h22') (by rw [mgs_kept _ _ _ _ 21 (by decide) (by decide) (by decide) (by decide)]; exact h21') (mgs_26 _ _ _ _ h0) (hT' h0) (by rw [← hR]; simp only [mwl]; rw [if_neg h0]))
  have lp : ∀ (n k : Nat) , k ≤ Pn → Pn + 1 ≤ k + n → AW p l e ({ frames := 2, cells := 0, slots := 0, locals := 45 } : Room) s m args below meth c 2 0 0 (MQ below (va_Qv (fun (u : ms_S) => u = mwl Pn Dn n0 0 (mwk_F M Pn)) (fun u t => (ms_P D ad cA) u t.heap) (ct_A (ms_A ad) sz)) args s 0 0 (ct_A (ms_A ad) sz)) (ms_P D ad cA (mwk_F M k)) (ct_A (ms_A ad) sz) 12 [(0, .ref (ad 0)), (1, .int (nI k))] [] := by
    intro n
    induction n with
    | zero => intro k h1 h2; exact absurd h2 (by omega)
    | succ n ih =>
      intro k hk hn
      refine aw_iload_n C d_Mo_walk_12 rfl (j := 1) rfl ?_
      refine aw_aload_n C d_Mo_walk_13 rfl (j := 0) rfl ?_
      refine gm_persons (v := (mwk_F M k) 22 0) C hK rfl d_Mo_walk_14 ?_
      refine aw_icmp_ge (tgt := 38) C d_Mo_walk_17 (by decide) (fun c_17 => ?_) (fun c_17 => ?_)
      · have hkN : Pn = k := by rw [mwk_n _ _ _ (by decide) (by decide) (by decide), h22] at c_17; have := (nI_leI (by omega) (by omega)).mp c_17; omega
        subst hkN
        refine aw_iconst (v := 1) C d_Mo_walk_38 (by decide) ?_
        refine aw_istore_n (i := 1) (lv' := [(1, .int 1), (0, .ref (ad 0))]) C d_Mo_walk_39 rfl (by decide) rfl ?_
        exact aw_lv [1, 0] rfl (lp2 n0 0 (mwk_F M Pn) (by omega) (by rw [mwk_n _ _ _ (by decide) (by decide) (by decide)]; exact h22) (by rw [mwk_n _ _ _ (by decide) (by decide) (by decide)]; exact h21) (mwk_26 M _) hT rfl)
      · have hlt : k < Pn := by rw [mwk_n _ _ _ (by decide) (by decide) (by decide), h22] at c_17; exact Nat.lt_of_not_le (fun h => c_17 (nI_le h (by omega)))
        refine aw_aload_n C d_Mo_walk_20 rfl (j := 0) rfl ?_
        refine gm_place C hK d_Mo_walk_21 ?_
        refine aw_iload_n C d_Mo_walk_24 rfl (j := 1) rfl ?_
        refine aw_aload_n C d_Mo_walk_25 rfl (j := 0) rfl ?_
        refine gm_olds C hK d_Mo_walk_26 ?_
        refine aw_iload_n C d_Mo_walk_29 rfl (j := 1) rfl ?_
        refine lm_3 (v := (mwk_F M k) 3 k) C hK k rfl (show k < 10 by omega) rfl d_Mo_walk_30 ?_
        refine sm_8 (y := ((mwk_F M k) 3 k)) C hK hI  k rfl (show k < 10 by omega) d_Mo_walk_31 ?_
        refine aw_iinc (i := 1) (v := (nI (k + 1))) (lv' := [(1, .int (nI (k + 1))), (0, .ref (ad 0))]) C d_Mo_walk_32 (j := 1) rfl (nI_1 k) (by decide) rfl ?_
        refine aw_goto (tgt := 12) C d_Mo_walk_35 (by decide) ?_
        exact aw_lv [1, 0] rfl (ih (k + 1) (by omega) (by omega))
  refine aw_lv (lv' := [(0, .ref (ad 0))]) [0] rfl ?_
  refine aw_aload_n C d_Mo_walk_0 rfl (j := 0) rfl ?_
  refine aw_iconst (v := 0) C d_Mo_walk_1 (by decide) ?_
  refine pm_gone (x := 0) C hK hI  d_Mo_walk_2 ?_
  refine aw_aload_n C d_Mo_walk_5 rfl (j := 0) rfl ?_
  refine aw_iconst (v := 0) C d_Mo_walk_6 (by decide) ?_
  refine pm_stuck (x := 0) C hK hI (Or.inl rfl) d_Mo_walk_7 ?_
  refine aw_iconst (v := 0) C d_Mo_walk_10 (by decide) ?_
  refine aw_istore_n (i := 1) (lv' := [(1, .int 0), (0, .ref (ad 0))]) C d_Mo_walk_11 rfl (by decide) rfl ?_
  exact aw_lv [1, 0] rfl (lp (Pn + 1) 0 (by omega) (by omega))
end
section
theorem bx_and (a b : Nat) (ha : a < 2 ^ 31) (hb : b < 2 ^ 31) : nI a &&& nI b = nI (a &&& b) := by
  apply Int32.toBitVec_inj.mp
  apply BitVec.eq_of_toNat_eq
  have h : a &&& b < 2 ^ 32 := Nat.lt_of_le_of_lt Nat.and_le_left (by omega)
  rw [Int32.toBitVec_and, BitVec.toNat_and, pk_tn (by omega), pk_tn (by omega), pk_tn h]
theorem bx_shl : ∀ k, k < 14 → (1 : Int32) <<< (nI k &&& 31) = nI (2 ^ k) := by decide +kernel
theorem bx_lt {s k D : Nat} (hs : s < 2 ^ D) (hk : k < D) (h : s &&& 2 ^ k = 0) : s + 2 ^ k < 2 ^ D := by
  have h1 : s.testBit k = false := by
    have e := congrArg (fun z => Nat.testBit z k) h
    simpa [Nat.testBit_and, Nat.testBit_two_pow_self] using e
  rw [Nat.testBit_eq_decide_div_mod_eq] at h1
  have h2 : ¬ s / 2 ^ k % 2 = 1 := by simpa using h1
  have e1 : 2 ^ D = 2 ^ (k + 1) * 2 ^ (D - (k + 1)) := by rw [← Nat.pow_add]; congr 1; omega
  have e2 : 2 ^ (k + 1) = 2 * 2 ^ k := by rw [Nat.pow_succ, Nat.mul_comm]
  have hp : 0 < 2 ^ k := Nat.pow_pos (by omega)
  -- s = 2^k * (2 * q) + r with r < 2^k
  have h3 : s = 2 ^ k * (s / 2 ^ k) + s % 2 ^ k := (Nat.div_add_mod s (2 ^ k)).symm
  have h4 : s % 2 ^ k < 2 ^ k := Nat.mod_lt _ hp
  obtain ⟨q, hq⟩ : ∃ q, s / 2 ^ k = 2 * q := ⟨s / 2 ^ k / 2, by omega⟩
  have h5 : q < 2 ^ (D - (k + 1)) := by
    have : 2 ^ k * (2 * q) < 2 ^ (k + 1) * 2 ^ (D - (k + 1)) := by
      rw [← e1, ← hq]; omega
    rw [e2, show 2 ^ k * (2 * q) = (2 * 2 ^ k) * q by rw [Nat.mul_left_comm, Nat.mul_assoc]] at this
    exact Nat.lt_of_mul_lt_mul_left this
  have h6 : (2 * 2 ^ k) * (q + 1) ≤ (2 * 2 ^ k) * 2 ^ (D - (k + 1)) := Nat.mul_le_mul_left _ h5
  rw [e1, e2]
  rw [hq] at h3
  rw [Nat.mul_add, Nat.mul_one] at h6
  have h7 : 2 ^ k * (2 * q) = (2 * 2 ^ k) * q := by rw [Nat.mul_left_comm, Nat.mul_assoc]
  omega
theorem bt_le : ∀ f n, bt_L f n ≤ f
  | 0, _ => Nat.le_refl _
  | f + 1, n => by
    unfold bt_L
    split
    · omega
    · have := bt_le f (n / 2)
      omega
theorem nI_dec (x : Int32) : x + Int32.ofInt (-1) = x - 1 := by
  rw [show Int32.ofInt (-1) = -1 from rfl, Int32.sub_eq_add_neg]
/-- the persons in their order, but one -/
def fb_O (M : ms_S) (but : Int32) : Nat → ms_S × Nat
  | 0 => (ms_w M 25 0 0, 0)
  | k + 1 => if nI k = but then fb_O M but k else (ms_w (ms_w (fb_O M but k).1 6 (fb_O M but k).2 (nI k)) 25 0 (nI ((fb_O M but k).2 + 1)), (fb_O M but k).2 + 1)
theorem fb_O25 (M : ms_S) (but : Int32) : ∀ k, (fb_O M but k).1 25 0 = nI (fb_O M but k).2
  | 0 => rfl
  | k + 1 => by
    unfold fb_O
    split
    · exact fb_O25 M but k
    · rfl
theorem fb_Ole (M : ms_S) (but : Int32) : ∀ k, (fb_O M but k).2 ≤ k
  | 0 => Nat.le_refl _
  | k + 1 => by
    unfold fb_O
    have := fb_Ole M but k
    split
    · omega
    · show (fb_O M but k).2 + 1 ≤ k + 1; omega
theorem fb_On (M : ms_S) (but : Int32) (t i : Nat) (h6 : t ≠ 6) (h25 : t ≠ 25) : ∀ k, (fb_O M but k).1 t i = M t i
  | 0 => ms_w_n (fun q => h25 q.1)
  | k + 1 => by
    unfold fb_O
    split
    · exact fb_On M but t i h6 h25 k
    · show ms_w (ms_w _ _ _ _) _ _ _ t i = _
      rw [ms_w_n (fun q => h25 q.1), ms_w_n (fun q => h6 q.1)]
      exact fb_On M but t i h6 h25 k
theorem fb_O6 (M : ms_S) (but : Int32) : ∀ k j, j < (fb_O M but k).2 → ∃ q, q < k ∧ (fb_O M but k).1 6 j = nI q
  | 0, j, h => absurd h (by show ¬ j < 0; omega)
  | k + 1, j, h => by
    unfold fb_O at h ⊢
    split at h
    · rename_i hb
      rw [if_pos hb]
      obtain ⟨q, h1, h2⟩ := fb_O6 M but k j h
      exact ⟨q, by omega, h2⟩
    · rename_i hb
      rw [if_neg hb]
      show ∃ q, q < k + 1 ∧ ms_w (ms_w (fb_O M but k).1 6 (fb_O M but k).2 (nI k)) 25 0 (nI ((fb_O M but k).2 + 1)) 6 j = nI q
      by_cases hj : j = (fb_O M but k).2
      · exact ⟨k, by omega, by rw [ms_w_n (fun q => absurd q.1 (by decide)), hj, ms_w_s]⟩
      · have h : j < (fb_O M but k).2 + 1 := h
        obtain ⟨q, h1, h2⟩ := fb_O6 M but k j (by omega)
        exact ⟨q, by omega, by rw [ms_w_n (fun q => absurd q.1 (by decide)), ms_w_n (fun q => hj q.2)]; exact h2⟩
def fb_step (M : ms_S) (s n k : Nat) : ms_S :=
  if s &&& 2 ^ k = 0 then (if M 2 (14 * (M 6 n).toNatClampNeg + k) = 0 then (if M 5 (s + 2 ^ k) ≤ -1000000000 then M else
    (if mo_val M (M 6 n).toNatClampNeg k + M 5 (s + 2 ^ k) ≤ M 5 s then ms_w M 5 s (M 5 s) else ms_w M 5 s (mo_val M (M 6 n).toNatClampNeg k + M 5 (s + 2 ^ k)))) else M) else M
def fb_I (M : ms_S) (s n : Nat) : Nat → ms_S
  | 0 => M
  | k + 1 => fb_step (fb_I M s n k) s n k
def fb_1 (M : ms_S) (mn s : Nat) : ms_S := ms_w M 5 s (if bt_L 31 s = mn then 0 else -1000000000)
def fb_D (M : ms_S) (mn Dn s : Nat) : ms_S := if bt_L 31 s < mn then fb_I (fb_1 M mn s) s (bt_L 31 s) Dn else fb_1 M mn s
def fb_S (mn Dn : Nat) : Nat → ms_S → ms_S
  | 0, M => M
  | s + 1, M => fb_S mn Dn s (fb_D M mn Dn s)
theorem fb_stepn (M : ms_S) (s n k t i : Nat) (h : t ≠ 5) : fb_step M s n k t i = M t i := by
  unfold fb_step
  split
  · split
    · split
      · rfl
      · split
        · exact ms_w_n (fun q => h q.1)
        · exact ms_w_n (fun q => h q.1)
    · rfl
  · rfl
theorem fb_In (M : ms_S) (s n t i : Nat) (h : t ≠ 5) : ∀ k, fb_I M s n k t i = M t i
  | 0 => rfl
  | k + 1 => (fb_stepn _ s n k t i h).trans (fb_In M s n t i h k)
theorem fb_1n (M : ms_S) (mn s t i : Nat) (h : t ≠ 5) : fb_1 M mn s t i = M t i := ms_w_n (fun q => h q.1)
theorem fb_Dn (M : ms_S) (mn Dn s t i : Nat) (h : t ≠ 5) : fb_D M mn Dn s t i = M t i := by
  unfold fb_D
  split
  · rw [fb_In _ _ _ _ _ h]; exact fb_1n M mn s t i h
  · exact fb_1n M mn s t i h
theorem bx_shl' : ∀ k, k < 15 → (1 : Int32) <<< (nI k &&& 31) = nI (2 ^ k) := by decide +kernel
set_option maxHeartbeats 4000000 in
set_option maxRecDepth 100000 in
theorem c_Mo_findBest (l : Launch) (D : va_G) (ad : Nat → Nat) (cA : Nat → ClassId) (M : ms_S) (Pn Dn : Nat) (but : Int32) (hI : ms_I ad) (hPn : Pn ≤ 10) (hDn : Dn ≤ 14) (h22 : M 22 0 = nI Pn) (h21 : M 21 0 = nI Dn) : Ct_i l y_Mo_findBest b_Mo_findBest 8 (some .int) ({ frames := 2, cells := 0, slots := 0, locals := 44 } : Room) 0 0 D (ds_ty cA) (ms_A ad) [.ref (ad 0), .int but] (ms_P D ad cA M) (fun (r : Int32) (u : ms_S) => u = fb_S (fb_O M but Pn).2 Dn (2 ^ Dn) (fb_O M but Pn).1 ∧ r = (fb_S (fb_O M but Pn).2 Dn (2 ^ Dn) (fb_O M but Pn).1) 5 0) (ms_P D ad cA) := by
  intro sz
  refine ct_of (by decide) (Nat.le_of_ble_eq_true rfl) ?_
  intro p e s m args below meth c hsz C hr hlk hnm hK
  have lp3 : ∀ (M1 : ms_S) (mn s9 n q : Nat), s9 < 2 ^ Dn → s9 < 16384 → n < mn → mn ≤ 10 → q < 10 → M1 21 0 = nI Dn → M1 25 0 = nI mn → M1 6 n = nI q → AW p l e ({ frames := 2, cells := 0, slots := 0, locals := 44 } : Room) s m args below meth c 8 0 0 (MQ below (va_Qi (fun (r : Int32) (u : ms_S) => u = fb_S (fb_O M but Pn).2 Dn (2 ^ Dn) (fb_O M but Pn).1 ∧ r = (fb_S (fb_O M but Pn).2 Dn (2 ^ Dn) (fb_O M but Pn).1) 5 0) (fun u t => (ms_P D ad cA) u t.heap) (ct_A (ms_A ad) sz)) args s 0 0 (ct_A (ms_A ad) sz)) (ms_P D ad cA (fb_I M1 s9 n Dn)) (ct_A (ms_A ad) sz) 209 [(0, .ref (ad 0)), (1, .int but), (2, .int (nI s9))] [] → ∀ (nn k : Nat), k ≤ Dn → Dn + 1 ≤ k + nn → AW p l e ({ frames := 2, cells := 0, slots := 0, locals := 44 } : Room) s m args below meth c 8 0 0 (MQ below (va_Qi (fun (r : Int32) (u : ms_S) => u = fb_S (fb_O M but Pn).2 Dn (2 ^ Dn) (fb_O M but Pn).1 ∧ r = (fb_S (fb_O M but Pn).2 Dn (2 ^ Dn) (fb_O M but Pn).1) 5 0) (fun u t => (ms_P D ad cA) u t.heap) (ct_A (ms_A ad) sz)) args s 0 0 (ct_A (ms_A ad) sz)) (ms_P D ad cA (fb_I M1 s9 n k)) (ct_A (ms_A ad) sz) 87 [(0, .ref (ad 0)), (1, .int but), (2, .int (nI s9)), (3, .int (nI n)), (4, .int (nI k))] [] := by
    intro M1 mn s9 n q hs9 hs14 hnm hmn hq h21' h25' eq6 cont nn
    induction nn with
    | zero => intro k h1 h2; exact absurd h2 (by omega)
    | succ nn ih =>
      intro k hk hn9
      refine aw_iload C d_Mo_findBest_87 (j := 4) rfl ?_
      refine aw_aload_n C d_Mo_findBest_89 rfl (j := 0) rfl ?_
      refine gm_desks (v := nI Dn) C hK (by rw [fb_In _ _ _ _ _ (by decide)]; exact h21') d_Mo_findBest_90 ?_
      refine aw_icmp_ge (tgt := 209) C d_Mo_findBest_93 (by decide) (fun c_93 => ?_) (fun c_93 => ?_)
      · have hkN : k = Dn := by have := (nI_leI (by omega) (by omega)).mp c_93; omega
        rw [hkN]
        exact aw_lv [0, 1, 2] rfl cont
      · have hlt : k < Dn := Nat.lt_of_not_le (fun h => c_93 (nI_le h (by omega)))
        have hk31 : 2 ^ k < 2 ^ 31 := Nat.pow_lt_pow_right (by omega) (by omega)
        refine aw_iload_n C d_Mo_findBest_96 rfl (j := 3) rfl ?_
        refine aw_aload_n C d_Mo_findBest_97 rfl (j := 0) rfl ?_
        refine gm_many (v := nI mn) C hK (by rw [fb_In _ _ _ _ _ (by decide)]; exact h25') d_Mo_findBest_98 ?_
        refine aw_icmp_ge (tgt := 209) C d_Mo_findBest_101 (by decide) (fun c_101 => ?_) (fun c_101 => ?_)
        · exact absurd c_101 (nI_ge (by omega) (by omega))
        · refine aw_iconst (v := 1) C d_Mo_findBest_104 (by decide) ?_
          refine aw_iload C d_Mo_findBest_105 (j := 4) rfl ?_
          refine aw_ishl C d_Mo_findBest_107 ?_
          refine aw_topi (fun z_107 hz_107 => ?_)
          obtain rfl : z_107 = nI (2 ^ k) := by rw [hz_107]; exact bx_shl k (by omega)
          refine aw_istore (i := 5) (lv' := [(5, .int (nI (2 ^ k))), (0, .ref (ad 0)), (1, .int but), (2, .int (nI s9)), (3, .int (nI n)), (4, .int (nI k))]) C d_Mo_findBest_108 (by decide) rfl ?_
          refine aw_aload_n C d_Mo_findBest_110 rfl (j := 1) rfl ?_
          refine gm_order C hK d_Mo_findBest_111 ?_
          refine aw_iload_n C d_Mo_findBest_114 rfl (j := 4) rfl ?_
          refine lm_6 (v := nI q) C hK n rfl (by omega) (by rw [fb_In _ _ _ _ _ (by decide)]; exact eq6) d_Mo_findBest_115 ?_
          refine aw_istore (i := 6) (lv' := [(6, .int (nI q)), (5, .int (nI (2 ^ k))), (0, .ref (ad 0)), (1, .int but), (2, .int (nI s9)), (3, .int (nI n)), (4, .int (nI k))]) C d_Mo_findBest_116 (by decide) rfl ?_
          refine aw_iload_n C d_Mo_findBest_118 rfl (j := 4) rfl ?_
          refine aw_iload C d_Mo_findBest_119 (j := 1) rfl ?_
          refine aw_iand C d_Mo_findBest_121 ?_
          refine aw_topi (fun z_121 hz_121 => ?_)
          refine aw_if_ne (tgt := 203) C d_Mo_findBest_122 (by decide) (fun c_122 => ?_) (fun c_122 => ?_)
          · have h122 : ¬ s9 &&& 2 ^ k = 0 := fun h => c_122 (by rw [hz_121, bx_and _ _ (by omega) hk31, h]; rfl)
            refine aw_iinc (i := 4) (v := (nI (k + 1))) (lv' := [(4, .int (nI (k + 1))), (6, .int (nI q)), (5, .int (nI (2 ^ k))), (0, .ref (ad 0)), (1, .int but), (2, .int (nI s9)), (3, .int (nI n))]) C d_Mo_findBest_203 (j := 6) rfl (nI_1 k) (by decide) rfl ?_
            refine aw_goto (tgt := 87) C d_Mo_findBest_206 (by decide) ?_
            have e9 : fb_I M1 s9 n (k + 1) = fb_I M1 s9 n k := by
              show fb_step (fb_I M1 s9 n k) s9 n k = _
              unfold fb_step
              rw [if_neg h122]
            rw [← e9]
            exact aw_lv [3, 4, 5, 6, 0] rfl (ih (k + 1) (by omega) (by omega))
          · have h122 : s9 &&& 2 ^ k = 0 := by
              rw [hz_121, bx_and _ _ (by omega) hk31] at c_122
              have h9 : s9 &&& 2 ^ k < 2 ^ 31 := Nat.lt_of_le_of_lt Nat.and_le_left (by omega)
              exact (nI_eq (b := 0) h9 (by omega)).mp c_122
            have hsum := bx_lt hs9 hlt h122
            have hsum14 : s9 + 2 ^ k < 16384 := Nat.lt_of_lt_of_le hsum (Nat.pow_le_pow_right (by omega) hDn)
            refine aw_aload_n C d_Mo_findBest_125 rfl (j := 2) rfl ?_
            refine gm_barred C hK d_Mo_findBest_126 ?_
            refine aw_bipush (v := 14) C d_Mo_findBest_129 (by decide) ?_
            refine aw_iload C d_Mo_findBest_131 (j := 0) rfl ?_
            refine aw_imul C d_Mo_findBest_133 ?_
            refine aw_topi (fun z_133 hz_133 => ?_)
            refine aw_iload C d_Mo_findBest_134 (j := 6) rfl ?_
            refine aw_iadd C d_Mo_findBest_136 ?_
            refine aw_topi (fun z_136 hz_136 => ?_)
            refine lm_2 (v := (fb_I M1 s9 n k) 2 (14 * q + k)) C hK (14 * q + k) (by rw [hz_136, hz_133, show (14 : Int32) = nI 14 from rfl, pk_mul, nI_add]) (by omega) rfl d_Mo_findBest_137 ?_
            refine aw_if_ne (tgt := 203) C d_Mo_findBest_138 (by decide) (fun c_138 => ?_) (fun c_138 => ?_)
            · refine aw_iinc (i := 4) (v := (nI (k + 1))) (lv' := [(4, .int (nI (k + 1))), (6, .int (nI q)), (5, .int (nI (2 ^ k))), (0, .ref (ad 0)), (1, .int but), (2, .int (nI s9)), (3, .int (nI n))]) C d_Mo_findBest_203 (j := 6) rfl (nI_1 k) (by decide) rfl ?_
              refine aw_goto (tgt := 87) C d_Mo_findBest_206 (by decide) ?_
              have e9 : fb_I M1 s9 n (k + 1) = fb_I M1 s9 n k := by
                show fb_step (fb_I M1 s9 n k) s9 n k = _
                unfold fb_step
                rw [if_pos h122, show (fb_I M1 s9 n k 6 n).toNatClampNeg = q by rw [fb_In _ _ _ _ _ (by decide), eq6, nI_clamp (by omega)], if_neg c_138]
              rw [← e9]
              exact aw_lv [3, 4, 5, 6, 0] rfl (ih (k + 1) (by omega) (by omega))
            · refine aw_aload_n C d_Mo_findBest_141 rfl (j := 2) rfl ?_
              refine gm_best C hK d_Mo_findBest_142 ?_
              refine aw_iload_n C d_Mo_findBest_145 rfl (j := 4) rfl ?_
              refine aw_iload C d_Mo_findBest_146 (j := 1) rfl ?_
              refine aw_iadd C d_Mo_findBest_148 ?_
              refine aw_topi (fun z_148 hz_148 => ?_)
              refine lm_5 (v := (fb_I M1 s9 n k) 5 (s9 + 2 ^ k)) C hK (s9 + 2 ^ k) (by rw [hz_148]; exact nI_add _ _) hsum14 rfl d_Mo_findBest_149 ?_
              refine aw_ldc C ki_Mo_m1000000000 d_Mo_findBest_150 ?_
              refine aw_icmp_le (tgt := 203) C d_Mo_findBest_152 (by decide) (fun c_152 => ?_) (fun c_152 => ?_)
              · refine aw_iinc (i := 4) (v := (nI (k + 1))) (lv' := [(4, .int (nI (k + 1))), (6, .int (nI q)), (5, .int (nI (2 ^ k))), (0, .ref (ad 0)), (1, .int but), (2, .int (nI s9)), (3, .int (nI n))]) C d_Mo_findBest_203 (j := 6) rfl (nI_1 k) (by decide) rfl ?_
                refine aw_goto (tgt := 87) C d_Mo_findBest_206 (by decide) ?_
                have e9 : fb_I M1 s9 n (k + 1) = fb_I M1 s9 n k := by
                  show fb_step (fb_I M1 s9 n k) s9 n k = _
                  unfold fb_step
                  rw [if_pos h122, show (fb_I M1 s9 n k 6 n).toNatClampNeg = q by rw [fb_In _ _ _ _ _ (by decide), eq6, nI_clamp (by omega)], if_pos c_138, if_pos c_152]
                rw [← e9]
                exact aw_lv [3, 4, 5, 6, 0] rfl (ih (k + 1) (by omega) (by omega))
              · refine aw_aload_n C d_Mo_findBest_155 rfl (j := 2) rfl ?_
                refine aw_iload C d_Mo_findBest_156 (j := 0) rfl ?_
                refine aw_iload C d_Mo_findBest_158 (j := 6) rfl ?_
                refine aw_callVi (P9 := fun r u => ms_P D ad cA u) [.int (nI q), .int (nI k)] C hK (c_Mo_value l D ad cA (fb_I M1 s9 n k) q k hq (by omega)) (cw_Mo_Mo_value C.2.2.2.2 rfl rfl (by decide)) rfl (fun H h => aw_recv hK rfl (h 0 (by decide))) (fun H h => h) (fun q h => Or.inl h) (fun q h => Or.inr (by rw [← hsz]; exact h)) rfl (Nat.le_of_ble_eq_true rfl) d_Mo_findBest_160 (by decide) (fun H H1 r u _ _ hB _ _ => hB) ?_
                rintro r u ⟨rfl, rfl⟩
                refine aw_aload_n C d_Mo_findBest_163 rfl (j := 2) rfl ?_
                refine gm_best C hK d_Mo_findBest_164 ?_
                refine aw_iload_n C d_Mo_findBest_167 rfl (j := 4) rfl ?_
                refine aw_iload C d_Mo_findBest_168 (j := 1) rfl ?_
                refine aw_iadd C d_Mo_findBest_170 ?_
                refine aw_topi (fun z_170 hz_170 => ?_)
                refine lm_5 (v := (fb_I M1 s9 n k) 5 (s9 + 2 ^ k)) C hK (s9 + 2 ^ k) (by rw [hz_170]; exact nI_add _ _) hsum14 rfl d_Mo_findBest_171 ?_
                refine aw_iadd C d_Mo_findBest_172 ?_
                refine aw_istore (i := 7) (lv' := [(7, .int (((mo_val (fb_I M1 s9 n k) q k)) + (((fb_I M1 s9 n k) 5 (s9 + 2 ^ k))))), (6, .int (nI q)), (5, .int (nI (2 ^ k))), (0, .ref (ad 0)), (1, .int but), (2, .int (nI s9)), (3, .int (nI n)), (4, .int (nI k))]) C d_Mo_findBest_173 (by decide) rfl ?_
                refine aw_aload_n C d_Mo_findBest_175 rfl (j := 3) rfl ?_
                refine gm_best C hK d_Mo_findBest_176 ?_
                refine aw_iload_n C d_Mo_findBest_179 rfl (j := 5) rfl ?_
                refine aw_iload C d_Mo_findBest_180 (j := 0) rfl ?_
                refine aw_aload_n C d_Mo_findBest_182 rfl (j := 3) rfl ?_
                refine gm_best C hK d_Mo_findBest_183 ?_
                refine aw_iload_n C d_Mo_findBest_186 rfl (j := 5) rfl ?_
                refine lm_5 (v := (fb_I M1 s9 n k) 5 s9) C hK s9 rfl (by omega) rfl d_Mo_findBest_187 ?_
                refine aw_icmp_le (tgt := 196) C d_Mo_findBest_188 (by decide) (fun c_188 => ?_) (fun c_188 => ?_)
                · refine aw_aload_n C d_Mo_findBest_196 rfl (j := 3) rfl ?_
                  refine gm_best C hK d_Mo_findBest_197 ?_
                  refine aw_iload_n C d_Mo_findBest_200 rfl (j := 5) rfl ?_
                  refine lm_5 (v := (fb_I M1 s9 n k) 5 s9) C hK s9 rfl (by omega) rfl d_Mo_findBest_201 ?_
                  refine sm_5 (y := ((fb_I M1 s9 n k) 5 s9)) C hK hI  s9 rfl (by omega) d_Mo_findBest_202 ?_
                  refine aw_iinc (i := 4) (v := (nI (k + 1))) (lv' := [(4, .int (nI (k + 1))), (7, .int (((mo_val (fb_I M1 s9 n k) q k)) + (((fb_I M1 s9 n k) 5 (s9 + 2 ^ k))))), (6, .int (nI q)), (5, .int (nI (2 ^ k))), (0, .ref (ad 0)), (1, .int but), (2, .int (nI s9)), (3, .int (nI n))]) C d_Mo_findBest_203 (j := 7) rfl (nI_1 k) (by decide) rfl ?_
                  refine aw_goto (tgt := 87) C d_Mo_findBest_206 (by decide) ?_
                  have e9 : fb_I M1 s9 n (k + 1) = ms_w (fb_I M1 s9 n k) 5 s9 (((fb_I M1 s9 n k) 5 s9)) := by
                    show fb_step (fb_I M1 s9 n k) s9 n k = _
                    unfold fb_step
                    rw [if_pos h122, show (fb_I M1 s9 n k 6 n).toNatClampNeg = q by rw [fb_In _ _ _ _ _ (by decide), eq6, nI_clamp (by omega)], if_pos c_138, if_neg c_152, if_pos c_188]
                  rw [← e9]
                  exact aw_lv [4, 5, 6, 7, 0] rfl (ih (k + 1) (by omega) (by omega))
                · refine aw_iload C d_Mo_findBest_191 (j := 0) rfl ?_
                  refine aw_goto (tgt := 202) C d_Mo_findBest_193 (by decide) ?_
                  refine sm_5 (y := (((mo_val (fb_I M1 s9 n k) q k)) + (((fb_I M1 s9 n k) 5 (s9 + 2 ^ k))))) C hK hI  s9 rfl (by omega) d_Mo_findBest_202 ?_
                  refine aw_iinc (i := 4) (v := (nI (k + 1))) (lv' := [(4, .int (nI (k + 1))), (7, .int (((mo_val (fb_I M1 s9 n k) q k)) + (((fb_I M1 s9 n k) 5 (s9 + 2 ^ k))))), (6, .int (nI q)), (5, .int (nI (2 ^ k))), (0, .ref (ad 0)), (1, .int but), (2, .int (nI s9)), (3, .int (nI n))]) C d_Mo_findBest_203 (j := 7) rfl (nI_1 k) (by decide) rfl ?_
                  refine aw_goto (tgt := 87) C d_Mo_findBest_206 (by decide) ?_
                  have e9 : fb_I M1 s9 n (k + 1) = ms_w (fb_I M1 s9 n k) 5 s9 ((((mo_val (fb_I M1 s9 n k) q k)) + (((fb_I M1 s9 n k) 5 (s9 + 2 ^ k))))) := by
                    show fb_step (fb_I M1 s9 n k) s9 n k = _
                    unfold fb_step
                    rw [if_pos h122, show (fb_I M1 s9 n k 6 n).toNatClampNeg = q by rw [fb_In _ _ _ _ _ (by decide), eq6, nI_clamp (by omega)], if_pos c_138, if_neg c_152, if_neg c_188]
                  rw [← e9]
                  exact aw_lv [4, 5, 6, 7, 0] rfl (ih (k + 1) (by omega) (by omega))
  have lp2 : ∀ (mn : Nat), mn ≤ 10 → ∀ (t : Nat) (M' : ms_S), t ≤ 2 ^ Dn → M' 21 0 = nI Dn → M' 25 0 = nI mn → (∀ j, j < mn → ∃ q, q < 10 ∧ M' 6 j = nI q) → fb_S mn Dn t M' = fb_S (fb_O M but Pn).2 Dn (2 ^ Dn) (fb_O M but Pn).1 → AW p l e ({ frames := 2, cells := 0, slots := 0, locals := 44 } : Room) s m args below meth c 8 0 0 (MQ below (va_Qi (fun (r : Int32) (u : ms_S) => u = fb_S (fb_O M but Pn).2 Dn (2 ^ Dn) (fb_O M but Pn).1 ∧ r = (fb_S (fb_O M but Pn).2 Dn (2 ^ Dn) (fb_O M but Pn).1) 5 0) (fun u t => (ms_P D ad cA) u t.heap) (ct_A (ms_A ad) sz)) args s 0 0 (ct_A (ms_A ad) sz)) (ms_P D ad cA (M')) (ct_A (ms_A ad) sz) 55 [(0, .ref (ad 0)), (1, .int but), (2, .int (nI t - 1))] [] := by
    have h2D : 2 ^ Dn ≤ 16384 := Nat.pow_le_pow_right (n := 2) (by omega) hDn
    intro mn hmn t
    induction t with
    | zero =>
      intro M' ht h21' h25' hM6 hR
      refine aw_iload_n C d_Mo_findBest_55 rfl (j := 2) rfl ?_
      refine aw_if_lt (tgt := 215) C d_Mo_findBest_56 (by decide) (fun c_56 => ?_) (fun c_56 => ?_)
      · refine aw_aload_n C d_Mo_findBest_215 rfl (j := 0) rfl ?_
        refine gm_best C hK d_Mo_findBest_216 ?_
        refine aw_iconst (v := 0) C d_Mo_findBest_219 (by decide) ?_
        refine lm_5 (v := (M') 5 0) C hK 0 rfl (by decide) rfl d_Mo_findBest_220 ?_
        exact aw_iret C hr hlk _ ⟨by rw [← hR]; rfl, by rw [← hR]; rfl⟩ (fun H h => h) d_Mo_findBest_221
      · exact absurd (by decide) c_56
    | succ s9 ih =>
      intro M' ht h21' h25' hM6 hR
      rw [nI_pred]
      refine aw_iload_n C d_Mo_findBest_55 rfl (j := 2) rfl ?_
      refine aw_if_lt (tgt := 215) C d_Mo_findBest_56 (by decide) (fun c_56 => ?_) (fun c_56 => ?_)
      · exact absurd c_56 (nI_pos (by omega))
      · refine aw_iload_n C d_Mo_findBest_59 rfl (j := 2) rfl ?_
        refine aw_callSi (Cn := "") (P9 := fun r u => ms_P D ad cA (M')) [.int (nI s9)] C hK (c_Mo_bits l D cA (ms_A ad) (ms_P D ad cA M') s9 (by omega)) (cw_Mo_Mo_bits C.2.2.2.2 rfl rfl (by decide)) rfl (fun H h => h) (fun q h => Or.inl h) (fun q h => Or.inr (by rw [← hsz]; exact h)) rfl (Nat.le_of_ble_eq_true rfl) d_Mo_findBest_60 (by decide) (fun H H1 r u _ _ hB _ _ => hB) ?_
        rintro r u rfl
        refine aw_istore_n (i := 3) (lv' := [(3, .int (nI (bt_L 31 s9))), (0, .ref (ad 0)), (1, .int but), (2, .int (nI s9))]) C d_Mo_findBest_63 rfl (by decide) rfl ?_
        refine aw_aload_n C d_Mo_findBest_64 rfl (j := 1) rfl ?_
        refine gm_best C hK d_Mo_findBest_65 ?_
        refine aw_iload_n C d_Mo_findBest_68 rfl (j := 3) rfl ?_
        refine aw_iload_n C d_Mo_findBest_69 rfl (j := 0) rfl ?_
        refine aw_aload_n C d_Mo_findBest_70 rfl (j := 1) rfl ?_
        refine gm_many (v := nI mn) C hK h25' d_Mo_findBest_71 ?_
        refine aw_icmp_ne (tgt := 81) C d_Mo_findBest_74 (by decide) (fun c_74 => ?_) (fun c_74 => ?_)
        · refine aw_ldc C ki_Mo_m1000000000 d_Mo_findBest_81 ?_
          refine sm_5 (y := (-1000000000)) C hK hI  s9 rfl (by omega) d_Mo_findBest_83 ?_
          refine aw_iconst (v := 0) C d_Mo_findBest_84 (by decide) ?_
          refine aw_istore (i := 4) (lv' := [(4, .int 0), (3, .int (nI (bt_L 31 s9))), (0, .ref (ad 0)), (1, .int but), (2, .int (nI s9))]) C d_Mo_findBest_85 (by decide) rfl ?_
          have e8 : fb_1 M' mn s9 = ms_w (M') 5 s9 ((-1000000000)) := by unfold fb_1; rw [if_neg (fun h => c_74 (by rw [h]))]
          rw [← e8]
          by_cases hnm : bt_L 31 s9 < mn
          · obtain ⟨q, hq, eq6⟩ := hM6 (bt_L 31 s9) hnm
            refine aw_lv [2, 3, 4, 1, 0] rfl (lp3 (fb_1 M' mn s9) mn s9 (bt_L 31 s9) q (by omega) (by omega) hnm hmn (by omega) (by rw [fb_1n _ _ _ _ _ (by decide)]; exact h21') (by rw [fb_1n _ _ _ _ _ (by decide)]; exact h25') (by rw [fb_1n _ _ _ _ _ (by decide)]; exact eq6) ?_ (Dn + 1) 0 (by omega) (by omega))
            rw [show fb_I (fb_1 M' mn s9) s9 (bt_L 31 s9) Dn = fb_D M' mn Dn s9 from (if_pos hnm).symm]
            refine aw_iinc (i := 2) (v := (nI s9 - 1)) (lv' := [(2, .int (nI s9 - 1)), (0, .ref (ad 0)), (1, .int but)]) C d_Mo_findBest_209 (j := 2) rfl (nI_dec _) (by decide) rfl ?_
            refine aw_goto (tgt := 55) C d_Mo_findBest_212 (by decide) ?_
            exact aw_lv [1, 2, 0] rfl (ih (fb_D M' mn Dn s9) (by omega) (by rw [fb_Dn _ _ _ _ _ _ (by decide)]; exact h21') (by rw [fb_Dn _ _ _ _ _ _ (by decide)]; exact h25') (fun j hj => by rw [fb_Dn _ _ _ _ _ _ (by decide)]; exact hM6 j hj) hR)
          · refine aw_iload C d_Mo_findBest_87 (j := 0) rfl ?_
            refine aw_aload_n C d_Mo_findBest_89 rfl (j := 2) rfl ?_
            refine gm_desks (v := nI Dn) C hK (by rw [fb_1n _ _ _ _ _ (by decide)]; exact h21') d_Mo_findBest_90 ?_
            refine aw_icmp_ge (tgt := 209) C d_Mo_findBest_93 (by decide) (fun c_93 => ?_) (fun c_93 => ?_)
            · rw [show fb_1 M' mn s9 = fb_D M' mn Dn s9 from (if_neg hnm).symm]
              refine aw_iinc (i := 2) (v := (nI s9 - 1)) (lv' := [(2, .int (nI s9 - 1)), (4, .int 0), (3, .int (nI (bt_L 31 s9))), (0, .ref (ad 0)), (1, .int but)]) C d_Mo_findBest_209 (j := 4) rfl (nI_dec _) (by decide) rfl ?_
              refine aw_goto (tgt := 55) C d_Mo_findBest_212 (by decide) ?_
              exact aw_lv [3, 4, 0] rfl (ih (fb_D M' mn Dn s9) (by omega) (by rw [fb_Dn _ _ _ _ _ _ (by decide)]; exact h21') (by rw [fb_Dn _ _ _ _ _ _ (by decide)]; exact h25') (fun j hj => by rw [fb_Dn _ _ _ _ _ _ (by decide)]; exact hM6 j hj) hR)
            · refine aw_iload_n C d_Mo_findBest_96 rfl (j := 1) rfl ?_
              refine aw_aload_n C d_Mo_findBest_97 rfl (j := 2) rfl ?_
              refine gm_many (v := nI mn) C hK (by rw [fb_1n _ _ _ _ _ (by decide)]; exact h25') d_Mo_findBest_98 ?_
              refine aw_icmp_ge (tgt := 209) C d_Mo_findBest_101 (by decide) (fun c_101 => ?_) (fun c_101 => ?_)
              · rw [show fb_1 M' mn s9 = fb_D M' mn Dn s9 from (if_neg hnm).symm]
                refine aw_iinc (i := 2) (v := (nI s9 - 1)) (lv' := [(2, .int (nI s9 - 1)), (4, .int 0), (3, .int (nI (bt_L 31 s9))), (0, .ref (ad 0)), (1, .int but)]) C d_Mo_findBest_209 (j := 4) rfl (nI_dec _) (by decide) rfl ?_
                refine aw_goto (tgt := 55) C d_Mo_findBest_212 (by decide) ?_
                exact aw_lv [3, 4, 0] rfl (ih (fb_D M' mn Dn s9) (by omega) (by rw [fb_Dn _ _ _ _ _ _ (by decide)]; exact h21') (by rw [fb_Dn _ _ _ _ _ _ (by decide)]; exact h25') (fun j hj => by rw [fb_Dn _ _ _ _ _ _ (by decide)]; exact hM6 j hj) hR)
              · exact absurd (nI_le (by omega) (by have := bt_le 31 s9; omega)) c_101
        · refine aw_iconst (v := 0) C d_Mo_findBest_77 (by decide) ?_
          refine aw_goto (tgt := 83) C d_Mo_findBest_78 (by decide) ?_
          refine sm_5 (y := 0) C hK hI  s9 rfl (by omega) d_Mo_findBest_83 ?_
          refine aw_iconst (v := 0) C d_Mo_findBest_84 (by decide) ?_
          refine aw_istore (i := 4) (lv' := [(4, .int 0), (3, .int (nI (bt_L 31 s9))), (0, .ref (ad 0)), (1, .int but), (2, .int (nI s9))]) C d_Mo_findBest_85 (by decide) rfl ?_
          have hbm : bt_L 31 s9 = mn := (nI_eq (by have := bt_le 31 s9; omega) (by omega)).mp c_74
          have e8 : fb_1 M' mn s9 = ms_w (M') 5 s9 0 := by unfold fb_1; rw [if_pos hbm]
          rw [← e8]
          by_cases hnm : bt_L 31 s9 < mn
          · obtain ⟨q, hq, eq6⟩ := hM6 (bt_L 31 s9) hnm
            refine aw_lv [2, 3, 4, 1, 0] rfl (lp3 (fb_1 M' mn s9) mn s9 (bt_L 31 s9) q (by omega) (by omega) hnm hmn (by omega) (by rw [fb_1n _ _ _ _ _ (by decide)]; exact h21') (by rw [fb_1n _ _ _ _ _ (by decide)]; exact h25') (by rw [fb_1n _ _ _ _ _ (by decide)]; exact eq6) ?_ (Dn + 1) 0 (by omega) (by omega))
            rw [show fb_I (fb_1 M' mn s9) s9 (bt_L 31 s9) Dn = fb_D M' mn Dn s9 from (if_pos hnm).symm]
            refine aw_iinc (i := 2) (v := (nI s9 - 1)) (lv' := [(2, .int (nI s9 - 1)), (0, .ref (ad 0)), (1, .int but)]) C d_Mo_findBest_209 (j := 2) rfl (nI_dec _) (by decide) rfl ?_
            refine aw_goto (tgt := 55) C d_Mo_findBest_212 (by decide) ?_
            exact aw_lv [1, 2, 0] rfl (ih (fb_D M' mn Dn s9) (by omega) (by rw [fb_Dn _ _ _ _ _ _ (by decide)]; exact h21') (by rw [fb_Dn _ _ _ _ _ _ (by decide)]; exact h25') (fun j hj => by rw [fb_Dn _ _ _ _ _ _ (by decide)]; exact hM6 j hj) hR)
          · refine aw_iload C d_Mo_findBest_87 (j := 0) rfl ?_
            refine aw_aload_n C d_Mo_findBest_89 rfl (j := 2) rfl ?_
            refine gm_desks (v := nI Dn) C hK (by rw [fb_1n _ _ _ _ _ (by decide)]; exact h21') d_Mo_findBest_90 ?_
            refine aw_icmp_ge (tgt := 209) C d_Mo_findBest_93 (by decide) (fun c_93 => ?_) (fun c_93 => ?_)
            · rw [show fb_1 M' mn s9 = fb_D M' mn Dn s9 from (if_neg hnm).symm]
              refine aw_iinc (i := 2) (v := (nI s9 - 1)) (lv' := [(2, .int (nI s9 - 1)), (4, .int 0), (3, .int (nI (bt_L 31 s9))), (0, .ref (ad 0)), (1, .int but)]) C d_Mo_findBest_209 (j := 4) rfl (nI_dec _) (by decide) rfl ?_
              refine aw_goto (tgt := 55) C d_Mo_findBest_212 (by decide) ?_
              exact aw_lv [3, 4, 0] rfl (ih (fb_D M' mn Dn s9) (by omega) (by rw [fb_Dn _ _ _ _ _ _ (by decide)]; exact h21') (by rw [fb_Dn _ _ _ _ _ _ (by decide)]; exact h25') (fun j hj => by rw [fb_Dn _ _ _ _ _ _ (by decide)]; exact hM6 j hj) hR)
            · refine aw_iload_n C d_Mo_findBest_96 rfl (j := 1) rfl ?_
              refine aw_aload_n C d_Mo_findBest_97 rfl (j := 2) rfl ?_
              refine gm_many (v := nI mn) C hK (by rw [fb_1n _ _ _ _ _ (by decide)]; exact h25') d_Mo_findBest_98 ?_
              refine aw_icmp_ge (tgt := 209) C d_Mo_findBest_101 (by decide) (fun c_101 => ?_) (fun c_101 => ?_)
              · rw [show fb_1 M' mn s9 = fb_D M' mn Dn s9 from (if_neg hnm).symm]
                refine aw_iinc (i := 2) (v := (nI s9 - 1)) (lv' := [(2, .int (nI s9 - 1)), (4, .int 0), (3, .int (nI (bt_L 31 s9))), (0, .ref (ad 0)), (1, .int but)]) C d_Mo_findBest_209 (j := 4) rfl (nI_dec _) (by decide) rfl ?_
                refine aw_goto (tgt := 55) C d_Mo_findBest_212 (by decide) ?_
                exact aw_lv [3, 4, 0] rfl (ih (fb_D M' mn Dn s9) (by omega) (by rw [fb_Dn _ _ _ _ _ _ (by decide)]; exact h21') (by rw [fb_Dn _ _ _ _ _ _ (by decide)]; exact h25') (fun j hj => by rw [fb_Dn _ _ _ _ _ _ (by decide)]; exact hM6 j hj) hR)
              · exact absurd (nI_le (by omega) (by have := bt_le 31 s9; omega)) c_101
  have lp : ∀ (n k : Nat) , k ≤ Pn → Pn + 1 ≤ k + n → AW p l e ({ frames := 2, cells := 0, slots := 0, locals := 44 } : Room) s m args below meth c 8 0 0 (MQ below (va_Qi (fun (r : Int32) (u : ms_S) => u = fb_S (fb_O M but Pn).2 Dn (2 ^ Dn) (fb_O M but Pn).1 ∧ r = (fb_S (fb_O M but Pn).2 Dn (2 ^ Dn) (fb_O M but Pn).1) 5 0) (fun u t => (ms_P D ad cA) u t.heap) (ct_A (ms_A ad) sz)) args s 0 0 (ct_A (ms_A ad) sz)) (ms_P D ad cA ((fb_O M but k).1)) (ct_A (ms_A ad) sz) 7 [(0, .ref (ad 0)), (1, .int but), (2, .int (nI k))] [] := by
    intro n
    induction n with
    | zero => intro k h1 h2; exact absurd h2 (by omega)
    | succ n ih =>
      intro k hk hn
      refine aw_iload_n C d_Mo_findBest_7 rfl (j := 2) rfl ?_
      refine aw_aload_n C d_Mo_findBest_8 rfl (j := 0) rfl ?_
      refine gm_persons (v := ((fb_O M but k).1) 22 0) C hK rfl d_Mo_findBest_9 ?_
      refine aw_icmp_ge (tgt := 46) C d_Mo_findBest_12 (by decide) (fun c_12 => ?_) (fun c_12 => ?_)
      · have hkN : Pn = k := by rw [fb_On _ _ _ _ (by decide) (by decide), h22] at c_12; have := (nI_leI (by omega) (by omega)).mp c_12; omega
        subst hkN
        refine aw_iconst (v := 1) C d_Mo_findBest_46 (by decide) ?_
        refine aw_aload_n C d_Mo_findBest_47 rfl (j := 0) rfl ?_
        refine gm_desks (v := nI Dn) C hK (by rw [fb_On _ _ _ _ (by decide) (by decide)]; exact h21) d_Mo_findBest_48 ?_
        refine aw_ishl C d_Mo_findBest_51 ?_
        refine aw_topi (fun z_51 hz_51 => ?_)
        refine aw_iconst (v := 1) C d_Mo_findBest_52 (by decide) ?_
        refine aw_isub C d_Mo_findBest_53 ?_
        refine aw_topi (fun z_53 hz_53 => ?_)
        refine aw_istore_n (i := 2) (lv' := [(2, .int z_53), (0, .ref (ad 0)), (1, .int but)]) C d_Mo_findBest_54 rfl (by decide) rfl ?_
        obtain rfl : z_53 = nI (2 ^ Dn) - 1 := by
          rw [hz_53, hz_51]
          congr 1
          exact bx_shl' Dn (by omega)
        exact aw_lv [1, 2, 0] rfl (lp2 (fb_O M but Pn).2 (by have := fb_Ole M but Pn; omega) (2 ^ Dn) (fb_O M but Pn).1 (Nat.le_refl _) (by rw [fb_On _ _ _ _ (by decide) (by decide)]; exact h21) (fb_O25 M but Pn) (fun j hj => by obtain ⟨q, h1, h2⟩ := fb_O6 M but Pn j hj; exact ⟨q, by omega, h2⟩) rfl)
      · have hlt : k < Pn := by rw [fb_On _ _ _ _ (by decide) (by decide), h22] at c_12; exact Nat.lt_of_not_le (fun h => c_12 (nI_le h (by omega)))
        refine aw_iload_n C d_Mo_findBest_15 rfl (j := 2) rfl ?_
        refine aw_iload_n C d_Mo_findBest_16 rfl (j := 1) rfl ?_
        refine aw_icmp_eq (tgt := 40) C d_Mo_findBest_17 (by decide) (fun c_17 => ?_) (fun c_17 => ?_)
        · refine aw_iinc (i := 2) (v := (nI (k + 1))) (lv' := [(2, .int (nI (k + 1))), (0, .ref (ad 0)), (1, .int but)]) C d_Mo_findBest_40 (j := 2) rfl (nI_1 k) (by decide) rfl ?_
          refine aw_goto (tgt := 7) C d_Mo_findBest_43 (by decide) ?_
          have e9 : (fb_O M but (k + 1)).1 = (fb_O M but k).1 := by simp only [fb_O]; rw [if_pos c_17]
          rw [← e9]
          exact aw_lv [1, 2, 0] rfl (ih (k + 1) (by omega) (by omega))
        · refine aw_aload_n C d_Mo_findBest_20 rfl (j := 0) rfl ?_
          refine gm_order C hK d_Mo_findBest_21 ?_
          refine aw_aload_n C d_Mo_findBest_24 rfl (j := 0) rfl ?_
          refine gm_many (v := nI (fb_O M but k).2) C hK (fb_O25 M but k) d_Mo_findBest_25 ?_
          refine aw_iload_n C d_Mo_findBest_28 rfl (j := 2) rfl ?_
          refine sm_6 (y := (nI k)) C hK hI  ((fb_O M but k).2) rfl (by have := fb_Ole M but k; omega) d_Mo_findBest_29 ?_
          refine aw_aload_n C d_Mo_findBest_30 rfl (j := 0) rfl ?_
          refine aw_dup C d_Mo_findBest_31 rfl ?_
          refine gm_many (v := nI (fb_O M but k).2) C hK (fb_O25 M but k) d_Mo_findBest_32 ?_
          refine aw_iconst (v := 1) C d_Mo_findBest_35 (by decide) ?_
          refine aw_iadd C d_Mo_findBest_36 ?_
          refine aw_topi (fun z_36 hz_36 => ?_)
          obtain rfl : z_36 = nI ((fb_O M but k).2 + 1) := by rw [hz_36]; exact nI_1 _
          refine pm_many (x := (nI ((fb_O M but k).2 + 1))) C hK hI  d_Mo_findBest_37 ?_
          refine aw_iinc (i := 2) (v := (nI (k + 1))) (lv' := [(2, .int (nI (k + 1))), (0, .ref (ad 0)), (1, .int but)]) C d_Mo_findBest_40 (j := 2) rfl (nI_1 k) (by decide) rfl ?_
          refine aw_goto (tgt := 7) C d_Mo_findBest_43 (by decide) ?_
          have e9 : (fb_O M but (k + 1)).1 = ms_w (ms_w ((fb_O M but k).1) 6 ((fb_O M but k).2) ((nI k))) 25 0 ((nI ((fb_O M but k).2 + 1))) := by simp only [fb_O]; rw [if_neg c_17]
          rw [← e9]
          exact aw_lv [1, 2, 0] rfl (ih (k + 1) (by omega) (by omega))
  refine aw_lv (lv' := [(0, .ref (ad 0)), (1, .int but)]) [0, 1] rfl ?_
  refine aw_aload_n C d_Mo_findBest_0 rfl (j := 0) rfl ?_
  refine aw_iconst (v := 0) C d_Mo_findBest_1 (by decide) ?_
  refine pm_many (x := 0) C hK hI  d_Mo_findBest_2 ?_
  refine aw_iconst (v := 0) C d_Mo_findBest_5 (by decide) ?_
  refine aw_istore_n (i := 2) (lv' := [(2, .int 0), (0, .ref (ad 0)), (1, .int but)]) C d_Mo_findBest_6 rfl (by decide) rfl ?_
  exact aw_lv [1, 2, 0] rfl (lp (Pn + 1) 0 (by omega) (by omega))
end
section
theorem bx_cnt : ∀ k, k < 14 → ((nI k &&& 31).toBitVec.smod 32).toNat = k := by decide +kernel
theorem bx_bit {s k : Nat} (hs : s < 2 ^ 31) (hk : k < 14) : (nI s >>> (nI k &&& 31)) &&& 1 = nI (s / 2 ^ k % 2) := by
  have h1 : s / 2 ^ k < 2 ^ 32 := Nat.lt_of_le_of_lt (Nat.div_le_self _ _) (by omega)
  rw [pk_shrN hs (nI k &&& 31) k (bx_cnt k hk), pk_andN h1 1 (by decide)]
theorem bx_lt2 {s k D : Nat} (hs : s < 2 ^ D) (hk : k < D) (h : ¬ s / 2 ^ k % 2 = 1) : s + 2 ^ k < 2 ^ D := by
  refine bx_lt hs hk ?_
  have h1 : s.testBit k = false := by rw [Nat.testBit_eq_decide_div_mod_eq]; simpa using h
  apply Nat.eq_of_testBit_eq
  intro i
  rw [Nat.testBit_and, Nat.testBit_two_pow, Nat.zero_testBit]
  by_cases hi : k = i
  · rw [← hi, h1]; rfl
  · simp [hi]
/-- the first desk that a best seating gives a person -/
def se_d (M : ms_S) (s p : Nat) : Nat → Nat → Nat
  | 0, k => k
  | n + 1, k => if s / 2 ^ k % 2 = 1 then se_d M s p n (k + 1) else (if M 2 (14 * p + k) = 0 then (if M 5 (s + 2 ^ k) = -1000000000 then se_d M s p n (k + 1) else (if mo_val M p k + M 5 (s + 2 ^ k) = M 5 s then k else se_d M s p n (k + 1))) else se_d M s p n (k + 1))
def se_T (M : ms_S) (s p : Nat) : Nat → Nat → Prop
  | 0, _ => False
  | n + 1, k => (s / 2 ^ k % 2 = 1 → se_T M s p n (k + 1)) ∧ (¬ M 2 (14 * p + k) = 0 → se_T M s p n (k + 1)) ∧ (M 5 (s + 2 ^ k) = -1000000000 → se_T M s p n (k + 1)) ∧ (¬ mo_val M p k + M 5 (s + 2 ^ k) = M 5 s → se_T M s p n (k + 1))
def so_L (Dn : Nat) : Nat → Nat → Nat → ms_S → ms_S
  | 0, _, _, M => M
  | n + 1, p, s, M => so_L Dn n (p + 1) (s + 2 ^ (se_d M s p Dn 0)) (ms_w M 4 p (nI (se_d M s p Dn 0)))
def so_T (Dn : Nat) : Nat → Nat → Nat → ms_S → Prop
  | 0, _, _, _ => True
  | n + 1, p, s, M => se_T M s p Dn 0 ∧ so_T Dn n (p + 1) (s + 2 ^ (se_d M s p Dn 0)) (ms_w M 4 p (nI (se_d M s p Dn 0)))
theorem so_n (Dn t i : Nat) (h : t ≠ 4) : ∀ n p s M, so_L Dn n p s M t i = M t i
  | 0, _, _, _ => rfl
  | n + 1, p, s, M => by
    show so_L Dn n (p + 1) _ _ t i = _
    rw [so_n Dn t i h n]
    exact ms_w_n (fun q => h q.1)
def se_B (M : ms_S) (Pn Dn : Nat) : ms_S := fb_S (fb_O (ms_w M 20 0 0) (-1) Pn).2 Dn (2 ^ Dn) (fb_O (ms_w M 20 0 0) (-1) Pn).1
def se_1 (M : ms_S) (Pn Dn : Nat) : ms_S := ms_w (ms_w (se_B M Pn Dn) 23 0 1) 24 0 (mo_wi (se_B M Pn Dn 5 0))
def se_2 (M : ms_S) (Pn Dn : Nat) : ms_S := so_L Dn Pn 0 0 (se_1 M Pn Dn)
def se_3 (M : ms_S) (Pn Dn n0 : Nat) : ms_S := mwl Pn Dn n0 0 (mwk_F (se_2 M Pn Dn) Pn)
theorem fb_Sn (mn Dn t i : Nat) (h : t ≠ 5) : ∀ s M, fb_S mn Dn s M t i = M t i
  | 0, _ => rfl
  | s + 1, M => (fb_Sn mn Dn t i h s _).trans (fb_Dn M mn Dn s t i h)
theorem se_Bn (M : ms_S) (Pn Dn t i : Nat) (h5 : t ≠ 5) (h6 : t ≠ 6) (h25 : t ≠ 25) (h20 : t ≠ 20) : se_B M Pn Dn t i = M t i := by
  unfold se_B
  rw [fb_Sn _ _ _ _ h5, fb_On _ _ _ _ h6 h25]
  exact ms_w_n (fun q => h20 q.1)
theorem se_1n (M : ms_S) (Pn Dn t i : Nat) (h5 : t ≠ 5) (h6 : t ≠ 6) (h25 : t ≠ 25) (h20 : t ≠ 20) (h23 : t ≠ 23) (h24 : t ≠ 24) : se_1 M Pn Dn t i = M t i := by
  unfold se_1
  rw [ms_w_n (fun q => h24 q.1), ms_w_n (fun q => h23 q.1)]
  exact se_Bn M Pn Dn t i h5 h6 h25 h20
theorem se_2n (M : ms_S) (Pn Dn t i : Nat) (h5 : t ≠ 5) (h6 : t ≠ 6) (h25 : t ≠ 25) (h20 : t ≠ 20) (h23 : t ≠ 23) (h24 : t ≠ 24) (h4 : t ≠ 4) : se_2 M Pn Dn t i = M t i := by
  unfold se_2
  rw [so_n _ _ _ h4]
  exact se_1n M Pn Dn t i h5 h6 h25 h20 h23 h24
set_option maxHeartbeats 4000000 in
set_option maxRecDepth 100000 in
theorem c_Mo_seat (l : Launch) (D : va_G) (ad : Nat → Nat) (cA : Nat → ClassId) (M : ms_S) (Pn Dn n0 : Nat) (hI : ms_I ad) (hPn : Pn ≤ 10) (hDn : Dn ≤ 14) (h22 : M 22 0 = nI Pn) (h21 : M 21 0 = nI Dn) (hn0 : n0 ≤ 199) (hT : ¬ se_B M Pn Dn 5 0 ≤ -1000000000 → so_T Dn Pn 0 0 (se_1 M Pn Dn) ∧ mwT Pn Dn n0 0 (mwk_F (se_2 M Pn Dn) Pn)) : Ct_i l y_Mo_seat b_Mo_seat 5 (some .int) ({ frames := 3, cells := 0, slots := 0, locals := 71 } : Room) 0 0 D (ds_ty cA) (ms_A ad) [.ref (ad 0)] (ms_P D ad cA M) (fun (r : Int32) (u : ms_S) => (se_B M Pn Dn 5 0 ≤ -1000000000 ∧ u = ms_w (se_B M Pn Dn) 23 0 0 ∧ r = -1) ∨ (¬ se_B M Pn Dn 5 0 ≤ -1000000000 ∧ u = se_3 M Pn Dn n0 ∧ r = u 24 0)) (ms_P D ad cA) := by
  intro sz
  refine ct_of (by decide) (Nat.le_of_ble_eq_true rfl) ?_
  intro p e s m args below meth c hsz C hr hlk hnm hK
  have lp3 : ∀ (M' : ms_S) (s9 p9 : Nat), s9 < 2 ^ Dn → s9 < 16384 → p9 < 10 → (∀ d9 : Nat, se_d M' s9 p9 Dn 0 = d9 → d9 < Dn → ¬ s9 / 2 ^ d9 % 2 = 1 → AW p l e ({ frames := 3, cells := 0, slots := 0, locals := 71 } : Room) s m args below meth c 5 0 0 (MQ below (va_Qi (fun (r : Int32) (u : ms_S) => (se_B M Pn Dn 5 0 ≤ -1000000000 ∧ u = ms_w (se_B M Pn Dn) 23 0 0 ∧ r = -1) ∨ (¬ se_B M Pn Dn 5 0 ≤ -1000000000 ∧ u = se_3 M Pn Dn n0 ∧ r = u 24 0)) (fun u t => (ms_P D ad cA) u t.heap) (ct_A (ms_A ad) sz)) args s 0 0 (ct_A (ms_A ad) sz)) (ms_P D ad cA (M')) (ct_A (ms_A ad) sz) 133 [(0, .ref (ad 0)), (1, .int (se_B M Pn Dn 5 0)), (2, .int (nI s9)), (3, .int (nI p9)), (4, .int (nI d9))] []) → ∀ (n k : Nat), k + n = Dn → se_T M' s9 p9 n k → se_d M' s9 p9 n k = se_d M' s9 p9 Dn 0 → AW p l e ({ frames := 3, cells := 0, slots := 0, locals := 71 } : Room) s m args below meth c 5 0 0 (MQ below (va_Qi (fun (r : Int32) (u : ms_S) => (se_B M Pn Dn 5 0 ≤ -1000000000 ∧ u = ms_w (se_B M Pn Dn) 23 0 0 ∧ r = -1) ∨ (¬ se_B M Pn Dn 5 0 ≤ -1000000000 ∧ u = se_3 M Pn Dn n0 ∧ r = u 24 0)) (fun u t => (ms_P D ad cA) u t.heap) (ct_A (ms_A ad) sz)) args s 0 0 (ct_A (ms_A ad) sz)) (ms_P D ad cA (M')) (ct_A (ms_A ad) sz) 58 [(0, .ref (ad 0)), (1, .int (se_B M Pn Dn 5 0)), (2, .int (nI s9)), (3, .int (nI p9)), (4, .int (nI k))] [] := by
    intro M' s9 p9 hs9 hs14 hp9 cont n
    induction n with
    | zero => intro k _ hT3 _; exact hT3.elim
    | succ n ih =>
      intro k hkn hT3 hR3
      have hkD : k < Dn := by omega
      refine aw_iload_n C d_Mo_seat_58 rfl (j := 2) rfl ?_
      refine aw_iload C d_Mo_seat_59 (j := 4) rfl ?_
      refine aw_ishr C d_Mo_seat_61 ?_
      refine aw_topi (fun z_61 hz_61 => ?_)
      refine aw_iconst (v := 1) C d_Mo_seat_62 (by decide) ?_
      refine aw_iand C d_Mo_seat_63 ?_
      refine aw_topi (fun z_63 hz_63 => ?_)
      refine aw_iconst (v := 1) C d_Mo_seat_64 (by decide) ?_
      refine aw_icmp_eq (tgt := 127) C d_Mo_seat_65 (by decide) (fun c_65 => ?_) (fun c_65 => ?_)
      · have hb65 : s9 / 2 ^ k % 2 = 1 := by
          rw [hz_63, hz_61, bx_bit (by omega) (by omega)] at c_65
          exact (nI_eq (b := 1) (by omega) (by omega)).mp c_65
        refine aw_iinc (i := 4) (v := (nI (k + 1))) (lv' := [(4, .int (nI (k + 1))), (0, .ref (ad 0)), (1, .int (se_B M Pn Dn 5 0)), (2, .int (nI s9)), (3, .int (nI p9))]) C d_Mo_seat_127 (j := 4) rfl (nI_1 k) (by decide) rfl ?_
        refine aw_goto (tgt := 58) C d_Mo_seat_130 (by decide) ?_
        exact aw_lv [1, 2, 3, 4, 0] rfl (ih (k + 1) (by omega) (hT3.1 hb65) (by rw [← hR3]; simp only [se_d]; rw [if_pos hb65]))
      · have hb65 : ¬ s9 / 2 ^ k % 2 = 1 := fun h => c_65 (by rw [hz_63, hz_61, bx_bit (by omega) (by omega), h]; rfl)
        have hsum := bx_lt2 hs9 hkD hb65
        have hsum14 : s9 + 2 ^ k < 16384 := Nat.lt_of_lt_of_le hsum (Nat.pow_le_pow_right (by omega) hDn)
        have e2k := bx_shl k (by omega)
        refine aw_aload_n C d_Mo_seat_68 rfl (j := 0) rfl ?_
        refine gm_barred C hK d_Mo_seat_69 ?_
        refine aw_bipush (v := 14) C d_Mo_seat_72 (by decide) ?_
        refine aw_iload_n C d_Mo_seat_74 rfl (j := 3) rfl ?_
        refine aw_imul C d_Mo_seat_75 ?_
        refine aw_topi (fun z_75 hz_75 => ?_)
        refine aw_iload C d_Mo_seat_76 (j := 4) rfl ?_
        refine aw_iadd C d_Mo_seat_78 ?_
        refine aw_topi (fun z_78 hz_78 => ?_)
        refine lm_2 (v := (M') 2 (14 * p9 + k)) C hK (14 * p9 + k) (by rw [hz_78, hz_75, show (14 : Int32) = nI 14 from rfl, pk_mul, nI_add]) (by omega) rfl d_Mo_seat_79 ?_
        refine aw_if_ne (tgt := 127) C d_Mo_seat_80 (by decide) (fun c_80 => ?_) (fun c_80 => ?_)
        · refine aw_iinc (i := 4) (v := (nI (k + 1))) (lv' := [(4, .int (nI (k + 1))), (0, .ref (ad 0)), (1, .int (se_B M Pn Dn 5 0)), (2, .int (nI s9)), (3, .int (nI p9))]) C d_Mo_seat_127 (j := 4) rfl (nI_1 k) (by decide) rfl ?_
          refine aw_goto (tgt := 58) C d_Mo_seat_130 (by decide) ?_
          exact aw_lv [1, 2, 3, 4, 0] rfl (ih (k + 1) (by omega) (hT3.2.1 c_80) (by rw [← hR3]; simp only [se_d]; rw [if_neg hb65, if_neg c_80]))
        · refine aw_aload_n C d_Mo_seat_83 rfl (j := 0) rfl ?_
          refine gm_best C hK d_Mo_seat_84 ?_
          refine aw_iload_n C d_Mo_seat_87 rfl (j := 2) rfl ?_
          refine aw_iconst (v := 1) C d_Mo_seat_88 (by decide) ?_
          refine aw_iload C d_Mo_seat_89 (j := 4) rfl ?_
          refine aw_ishl C d_Mo_seat_91 ?_
          refine aw_topi (fun z_91 hz_91 => ?_)
          refine aw_iadd C d_Mo_seat_92 ?_
          refine aw_topi (fun z_92 hz_92 => ?_)
          refine lm_5 (v := (M') 5 (s9 + 2 ^ k)) C hK (s9 + 2 ^ k) (by rw [hz_92, hz_91, e2k]; exact nI_add _ _) hsum14 rfl d_Mo_seat_93 ?_
          refine aw_ldc C ki_Mo_m1000000000 d_Mo_seat_94 ?_
          refine aw_icmp_eq (tgt := 127) C d_Mo_seat_96 (by decide) (fun c_96 => ?_) (fun c_96 => ?_)
          · refine aw_iinc (i := 4) (v := (nI (k + 1))) (lv' := [(4, .int (nI (k + 1))), (0, .ref (ad 0)), (1, .int (se_B M Pn Dn 5 0)), (2, .int (nI s9)), (3, .int (nI p9))]) C d_Mo_seat_127 (j := 4) rfl (nI_1 k) (by decide) rfl ?_
            refine aw_goto (tgt := 58) C d_Mo_seat_130 (by decide) ?_
            exact aw_lv [1, 2, 3, 4, 0] rfl (ih (k + 1) (by omega) (hT3.2.2.1 c_96) (by rw [← hR3]; simp only [se_d]; rw [if_neg hb65, if_pos c_80, if_pos c_96]))
          · refine aw_aload_n C d_Mo_seat_99 rfl (j := 0) rfl ?_
            refine aw_iload_n C d_Mo_seat_100 rfl (j := 3) rfl ?_
            refine aw_iload C d_Mo_seat_101 (j := 4) rfl ?_
            refine aw_callVi (P9 := fun r u => ms_P D ad cA u) [.int (nI p9), .int (nI k)] C hK (c_Mo_value l D ad cA M' p9 k (by omega) (by omega)) (cw_Mo_Mo_value C.2.2.2.2 rfl rfl (by decide)) rfl (fun H h => aw_recv hK rfl (h 0 (by decide))) (fun H h => h) (fun q h => Or.inl h) (fun q h => Or.inr (by rw [← hsz]; exact h)) rfl (Nat.le_of_ble_eq_true rfl) d_Mo_seat_103 (by decide) (fun H H1 r u _ _ hB _ _ => hB) ?_
            rintro r u ⟨rfl, rfl⟩
            refine aw_aload_n C d_Mo_seat_106 rfl (j := 0) rfl ?_
            refine gm_best C hK d_Mo_seat_107 ?_
            refine aw_iload_n C d_Mo_seat_110 rfl (j := 2) rfl ?_
            refine aw_iconst (v := 1) C d_Mo_seat_111 (by decide) ?_
            refine aw_iload C d_Mo_seat_112 (j := 4) rfl ?_
            refine aw_ishl C d_Mo_seat_114 ?_
            refine aw_topi (fun z_114 hz_114 => ?_)
            refine aw_iadd C d_Mo_seat_115 ?_
            refine aw_topi (fun z_115 hz_115 => ?_)
            refine lm_5 (v := (M') 5 (s9 + 2 ^ k)) C hK (s9 + 2 ^ k) (by rw [hz_115, hz_114, e2k]; exact nI_add _ _) hsum14 rfl d_Mo_seat_116 ?_
            refine aw_iadd C d_Mo_seat_117 ?_
            refine aw_aload_n C d_Mo_seat_118 rfl (j := 0) rfl ?_
            refine gm_best C hK d_Mo_seat_119 ?_
            refine aw_iload_n C d_Mo_seat_122 rfl (j := 2) rfl ?_
            refine lm_5 (v := (M') 5 s9) C hK s9 rfl (by omega) rfl d_Mo_seat_123 ?_
            refine aw_icmp_eq (tgt := 133) C d_Mo_seat_124 (by decide) (fun c_124 => ?_) (fun c_124 => ?_)
            · exact aw_lv [0, 1, 2, 3, 4] rfl (cont k (by rw [← hR3]; simp only [se_d]; rw [if_neg hb65, if_pos c_80, if_neg c_96, if_pos c_124]) hkD hb65)
            · refine aw_iinc (i := 4) (v := (nI (k + 1))) (lv' := [(4, .int (nI (k + 1))), (0, .ref (ad 0)), (1, .int (se_B M Pn Dn 5 0)), (2, .int (nI s9)), (3, .int (nI p9))]) C d_Mo_seat_127 (j := 4) rfl (nI_1 k) (by decide) rfl ?_
              refine aw_goto (tgt := 58) C d_Mo_seat_130 (by decide) ?_
              exact aw_lv [1, 2, 3, 4, 0] rfl (ih (k + 1) (by omega) (hT3.2.2.2 c_124) (by rw [← hR3]; simp only [se_d]; rw [if_neg hb65, if_pos c_80, if_neg c_96, if_neg c_124]))
  have h2D : 2 ^ Dn ≤ 16384 := Nat.pow_le_pow_right (n := 2) (by omega) hDn
  have lp2 : ¬ se_B M Pn Dn 5 0 ≤ -1000000000 → ∀ (n p9 s9 : Nat) (M' : ms_S), p9 + n = Pn → s9 < 2 ^ Dn → M' 22 0 = nI Pn → so_T Dn n p9 s9 M' → so_L Dn n p9 s9 M' = se_2 M Pn Dn → AW p l e ({ frames := 3, cells := 0, slots := 0, locals := 71 } : Room) s m args below meth c 5 0 0 (MQ below (va_Qi (fun (r : Int32) (u : ms_S) => (se_B M Pn Dn 5 0 ≤ -1000000000 ∧ u = ms_w (se_B M Pn Dn) 23 0 0 ∧ r = -1) ∨ (¬ se_B M Pn Dn 5 0 ≤ -1000000000 ∧ u = se_3 M Pn Dn n0 ∧ r = u 24 0)) (fun u t => (ms_P D ad cA) u t.heap) (ct_A (ms_A ad) sz)) args s 0 0 (ct_A (ms_A ad) sz)) (ms_P D ad cA (M')) (ct_A (ms_A ad) sz) 47 [(0, .ref (ad 0)), (1, .int (se_B M Pn Dn 5 0)), (2, .int (nI s9)), (3, .int (nI p9))] [] := by
    intro hv n
    induction n with
    | zero =>
      intro p9 s9 M' hpn hs9 h22' hT2 hR
      refine aw_iload_n C d_Mo_seat_47 rfl (j := 3) rfl ?_
      refine aw_aload_n C d_Mo_seat_48 rfl (j := 0) rfl ?_
      refine gm_persons (v := nI Pn) C hK h22' d_Mo_seat_49 ?_
      refine aw_icmp_ge (tgt := 154) C d_Mo_seat_52 (by decide) (fun c_52 => ?_) (fun c_52 => ?_)
      · refine aw_aload_n C d_Mo_seat_154 rfl (j := 0) rfl ?_
        rw [show M' = se_2 M Pn Dn from hR]
        refine aw_callVv (P9 := fun u => ms_P D ad cA u) [] C hK (c_Mo_walk l D ad cA (se_2 M Pn Dn) Pn Dn n0 hI hPn hDn (by rw [se_2n _ _ _ _ _ (by decide) (by decide) (by decide) (by decide) (by decide) (by decide) (by decide)]; exact h22) (by rw [se_2n _ _ _ _ _ (by decide) (by decide) (by decide) (by decide) (by decide) (by decide) (by decide)]; exact h21) hn0 (hT hv).2) (cw_Mo_Mo_walk C.2.2.2.2 rfl rfl (by decide)) rfl (fun H h => aw_recv hK rfl (h 0 (by decide))) (fun H h => h) (fun q h => Or.inl h) (fun q h => Or.inr (by rw [← hsz]; exact h)) rfl (Nat.le_of_ble_eq_true rfl) d_Mo_seat_155 (by decide) (fun H H1 u _ _ hB _ _ => hB) ?_
        rintro u rfl
        show AW p l e _ s m args below meth c _ _ _ _ (ms_P D ad cA (se_3 M Pn Dn n0)) _ _ _ _
        refine aw_aload_n C d_Mo_seat_158 rfl (j := 0) rfl ?_
        refine gm_worth (v := (se_3 M Pn Dn n0) 24 0) C hK rfl d_Mo_seat_159 ?_
        exact aw_iret C hr hlk _ (Or.inr ⟨hv, rfl, rfl⟩) (fun H h => h) d_Mo_seat_162
      · exact absurd (nI_le (by omega) (by omega)) c_52
    | succ n ih =>
      intro p9 s9 M' hpn hs9 h22' hT2 hR
      refine aw_iload_n C d_Mo_seat_47 rfl (j := 3) rfl ?_
      refine aw_aload_n C d_Mo_seat_48 rfl (j := 0) rfl ?_
      refine gm_persons (v := nI Pn) C hK h22' d_Mo_seat_49 ?_
      refine aw_icmp_ge (tgt := 154) C d_Mo_seat_52 (by decide) (fun c_52 => ?_) (fun c_52 => ?_)
      · exact absurd c_52 (nI_ge (by omega) (by omega))
      · refine aw_iconst (v := 0) C d_Mo_seat_55 (by decide) ?_
        refine aw_istore (i := 4) (lv' := [(4, .int 0), (0, .ref (ad 0)), (1, .int (se_B M Pn Dn 5 0)), (2, .int (nI s9)), (3, .int (nI p9))]) C d_Mo_seat_56 (by decide) rfl ?_
        refine aw_lv [1, 2, 3, 4, 0] rfl (lp3 M' s9 p9 hs9 (by omega) (by omega) ?_ Dn 0 (by omega) hT2.1 rfl)
        intro d9 hd9 hdD hdb
        have hsum := bx_lt2 hs9 hdD hdb
        refine aw_aload_n C d_Mo_seat_133 rfl (j := 0) rfl ?_
        refine gm_seats C hK d_Mo_seat_134 ?_
        refine aw_iload_n C d_Mo_seat_137 rfl (j := 3) rfl ?_
        refine aw_iload C d_Mo_seat_138 (j := 4) rfl ?_
        refine sm_4 (y := (nI d9)) C hK hI  p9 rfl (by omega) d_Mo_seat_140 ?_
        refine aw_iload_n C d_Mo_seat_141 rfl (j := 2) rfl ?_
        refine aw_iconst (v := 1) C d_Mo_seat_142 (by decide) ?_
        refine aw_iload C d_Mo_seat_143 (j := 4) rfl ?_
        refine aw_ishl C d_Mo_seat_145 ?_
        refine aw_topi (fun z_145 hz_145 => ?_)
        refine aw_iadd C d_Mo_seat_146 ?_
        refine aw_topi (fun z_146 hz_146 => ?_)
        obtain rfl : z_146 = nI (s9 + 2 ^ d9) := by rw [hz_146, hz_145, bx_shl d9 (by omega)]; exact nI_add _ _
        refine aw_istore_n (i := 2) (lv' := [(2, .int (nI (s9 + 2 ^ d9))), (0, .ref (ad 0)), (1, .int (se_B M Pn Dn 5 0)), (3, .int (nI p9)), (4, .int (nI d9))]) C d_Mo_seat_147 rfl (by decide) rfl ?_
        refine aw_iinc (i := 3) (v := (nI (p9 + 1))) (lv' := [(3, .int (nI (p9 + 1))), (2, .int (nI (s9 + 2 ^ d9))), (0, .ref (ad 0)), (1, .int (se_B M Pn Dn 5 0)), (4, .int (nI d9))]) C d_Mo_seat_148 (j := 3) rfl (nI_1 p9) (by decide) rfl ?_
        refine aw_goto (tgt := 47) C d_Mo_seat_151 (by decide) ?_
        exact aw_lv [2, 3, 1, 0] rfl (ih (p9 + 1) (s9 + 2 ^ d9) (ms_w (M') 4 p9 ((nI d9))) (by omega) hsum h22' (by have h9 := hT2.2; rw [hd9] at h9; exact h9) (by rw [← hR]; show _ = so_L Dn n (p9 + 1) (s9 + 2 ^ (se_d M' s9 p9 Dn 0)) (ms_w M' 4 p9 (nI (se_d M' s9 p9 Dn 0))); rw [hd9]))
  refine aw_lv (lv' := [(0, .ref (ad 0))]) [0] rfl ?_
  refine aw_aload_n C d_Mo_seat_0 rfl (j := 0) rfl ?_
  refine aw_iconst (v := 0) C d_Mo_seat_1 (by decide) ?_
  refine pm_thrown (x := 0) C hK hI  d_Mo_seat_2 ?_
  refine aw_aload_n C d_Mo_seat_5 rfl (j := 0) rfl ?_
  refine aw_iconst (v := (-1)) C d_Mo_seat_6 (by decide) ?_
  refine aw_callVi (P9 := fun r u => ms_P D ad cA u) [.int (-1)] C hK (c_Mo_findBest l D ad cA (ms_w M 20 0 0) Pn Dn (-1) hI hPn hDn h22 h21) (cw_Mo_Mo_findBest C.2.2.2.2 rfl rfl (by decide)) rfl (fun H h => aw_recv hK rfl (h 0 (by decide))) (fun H h => h) (fun q h => Or.inl h) (fun q h => Or.inr (by rw [← hsz]; exact h)) rfl (Nat.le_of_ble_eq_true rfl) d_Mo_seat_7 (by decide) (fun H H1 r u _ _ hB _ _ => hB) ?_
  rintro r u ⟨rfl, rfl⟩
  show AW p l e _ s m args below meth c _ _ _ _ (ms_P D ad cA (se_B M Pn Dn)) _ _ _ (Value.int (se_B M Pn Dn 5 0) :: _)
  refine aw_istore_n (i := 1) (lv' := [(1, .int (se_B M Pn Dn 5 0)), (0, .ref (ad 0))]) C d_Mo_seat_10 rfl (by decide) rfl ?_
  refine aw_aload_n C d_Mo_seat_11 rfl (j := 1) rfl ?_
  refine aw_iload_n C d_Mo_seat_12 rfl (j := 0) rfl ?_
  refine aw_ldc C ki_Mo_m1000000000 d_Mo_seat_13 ?_
  refine aw_icmp_le (tgt := 22) C d_Mo_seat_15 (by decide) (fun c_15 => ?_) (fun c_15 => ?_)
  · refine aw_iconst (v := 0) C d_Mo_seat_22 (by decide) ?_
    refine pm_made (x := 0) C hK hI (Or.inl rfl) d_Mo_seat_23 ?_
    refine aw_aload_n C d_Mo_seat_26 rfl (j := 1) rfl ?_
    refine gm_made (v := 0) C hK rfl d_Mo_seat_27 ?_
    refine aw_if_ne (tgt := 35) C d_Mo_seat_30 (by decide) (fun h => absurd h (by decide)) (fun _ => ?_)
    refine aw_iconst (v := (-1)) C d_Mo_seat_33 (by decide) ?_
    exact aw_iret C hr hlk _ (Or.inl ⟨c_15, rfl, rfl⟩) (fun H h => h) d_Mo_seat_34
  · refine aw_iconst (v := 1) C d_Mo_seat_18 (by decide) ?_
    refine aw_goto (tgt := 23) C d_Mo_seat_19 (by decide) ?_
    refine pm_made (x := 1) C hK hI (Or.inr rfl) d_Mo_seat_23 ?_
    refine aw_aload_n C d_Mo_seat_26 rfl (j := 1) rfl ?_
    refine gm_made (v := 1) C hK rfl d_Mo_seat_27 ?_
    refine aw_if_ne (tgt := 35) C d_Mo_seat_30 (by decide) (fun _ => ?_) (fun h => absurd h (by decide))
    refine aw_aload_n C d_Mo_seat_35 rfl (j := 1) rfl ?_
    refine aw_iload_n C d_Mo_seat_36 rfl (j := 0) rfl ?_
    refine aw_callSi (Cn := "") (P9 := fun r u => ms_P D ad cA (ms_w (se_B M Pn Dn) 23 0 1)) [.int (se_B M Pn Dn 5 0)] C hK (c_Mo_worthIn l D cA (ms_A ad) (ms_P D ad cA (ms_w (se_B M Pn Dn) 23 0 1)) (se_B M Pn Dn 5 0)) (cw_Mo_Mo_worthIn C.2.2.2.2 rfl rfl (by decide)) rfl (fun H h => h) (fun q h => Or.inl h) (fun q h => Or.inr (by rw [← hsz]; exact h)) rfl (Nat.le_of_ble_eq_true rfl) d_Mo_seat_37 (by decide) (fun H H1 r u _ _ hB _ _ => hB) ?_
    rintro r u rfl
    refine pm_worth (x := (mo_wi (se_B M Pn Dn 5 0))) C hK hI  d_Mo_seat_40 ?_
    refine aw_iconst (v := 0) C d_Mo_seat_43 (by decide) ?_
    refine aw_istore_n (i := 2) (lv' := [(2, .int 0), (1, .int (se_B M Pn Dn 5 0)), (0, .ref (ad 0))]) C d_Mo_seat_44 rfl (by decide) rfl ?_
    refine aw_iconst (v := 0) C d_Mo_seat_45 (by decide) ?_
    refine aw_istore_n (i := 3) (lv' := [(3, .int 0), (2, .int 0), (1, .int (se_B M Pn Dn 5 0)), (0, .ref (ad 0))]) C d_Mo_seat_46 rfl (by decide) rfl ?_
    exact aw_lv [3, 2, 1, 0] rfl (lp2 c_15 Pn 0 0 (se_1 M Pn Dn) (by omega) (Nat.pow_pos (by omega)) (by rw [se_1n _ _ _ _ _ (by decide) (by decide) (by decide) (by decide) (by decide) (by decide)]; exact h22) (hT c_15).1 rfl)
end
