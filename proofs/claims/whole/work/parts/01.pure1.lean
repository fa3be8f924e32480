/-! PURE: sums of integers over 0 .. n-1 -/
def sm_S (f : Nat → Int) : Nat → Int
  | 0 => 0
  | n + 1 => sm_S f n + f n
theorem sm_congr {f g : Nat → Int} : ∀ {n : Nat}, (∀ i, i < n → f i = g i) → sm_S f n = sm_S g n := by
  intro n
  induction n with
  | zero => intro _; rfl
  | succ n ih =>
    intro h
    show sm_S f n + f n = sm_S g n + g n
    rw [ih (fun i hi => h i (by omega)), h n (by omega)]
theorem sm_le {f g : Nat → Int} : ∀ {n : Nat}, (∀ i, i < n → f i ≤ g i) → sm_S f n ≤ sm_S g n := by
  intro n
  induction n with
  | zero => intro _; exact Int.le_refl _
  | succ n ih =>
    intro h
    show sm_S f n + f n ≤ sm_S g n + g n
    have h1 := ih (fun i hi => h i (by omega))
    have h2 := h n (by omega)
    omega
theorem sm_add (f g : Nat → Int) : ∀ n : Nat, sm_S (fun i => f i + g i) n = sm_S f n + sm_S g n := by
  intro n
  induction n with
  | zero => rfl
  | succ n ih =>
    show sm_S (fun i => f i + g i) n + (f n + g n) = (sm_S f n + f n) + (sm_S g n + g n)
    rw [ih]; omega
theorem sm_sub (f g : Nat → Int) : ∀ n : Nat, sm_S (fun i => f i - g i) n = sm_S f n - sm_S g n := by
  intro n
  induction n with
  | zero => rfl
  | succ n ih =>
    show sm_S (fun i => f i - g i) n + (f n - g n) = (sm_S f n + f n) - (sm_S g n + g n)
    rw [ih]; omega
theorem sm_mul (k : Int) (f : Nat → Int) : ∀ n : Nat, sm_S (fun i => k * f i) n = k * sm_S f n := by
  intro n
  induction n with
  | zero => exact (Int.mul_zero k).symm
  | succ n ih =>
    show sm_S (fun i => k * f i) n + k * f n = k * (sm_S f n + f n)
    rw [ih, Int.mul_add]
theorem sm_zero {f : Nat → Int} : ∀ {n : Nat}, (∀ i, i < n → f i = 0) → sm_S f n = 0 := by
  intro n
  induction n with
  | zero => intro _; rfl
  | succ n ih =>
    intro h
    show sm_S f n + f n = 0
    rw [ih (fun i hi => h i (by omega)), h n (by omega)]; rfl
theorem sm_single {f : Nat → Int} {k : Nat} : ∀ {n : Nat}, k < n → (∀ i, i < n → i ≠ k → f i = 0) → sm_S f n = f k := by
  intro n
  induction n with
  | zero => intro h _; exact absurd h (by omega)
  | succ n ih =>
    intro hk h
    show sm_S f n + f n = f k
    by_cases hkn : k = n
    · subst hkn
      rw [sm_zero (fun i hi => h i (by omega) (by omega))]; omega
    · rw [ih (by omega) (fun i hi hne => h i (by omega) hne), h n (by omega) (fun q => hkn q.symm)]; omega
theorem sm_nonneg {f : Nat → Int} {n : Nat} (h : ∀ i, i < n → 0 ≤ f i) : 0 ≤ sm_S f n := by
  have h1 := sm_le (f := fun _ => 0) (g := f) (n := n) h
  rw [sm_zero (f := fun _ => 0) (fun _ _ => rfl)] at h1
  exact h1
theorem sm_swap (f : Nat → Nat → Int) (m : Nat) : ∀ n : Nat, sm_S (fun i => sm_S (fun j => f i j) m) n = sm_S (fun j => sm_S (fun i => f i j) n) m := by
  intro n
  induction n with
  | zero => exact (sm_zero (fun _ _ => rfl)).symm
  | succ n ih =>
    show sm_S (fun i => sm_S (fun j => f i j) m) n + sm_S (fun j => f n j) m = sm_S (fun j => sm_S (fun i => f i j) n + f n j) m
    rw [ih, sm_add]
/-- a value where a proposition holds, else 0 -/
noncomputable def sm_c (P : Prop) (x : Int) : Int := @ite Int P (Classical.propDecidable P) x 0
theorem sm_ct {P : Prop} {x : Int} (h : P) : sm_c P x = x := by unfold sm_c; exact if_pos h
theorem sm_cf {P : Prop} {x : Int} (h : ¬ P) : sm_c P x = 0 := by unfold sm_c; exact if_neg h
theorem sm_ce {P Q : Prop} {x y : Int} (h : P ↔ Q) (hx : P → x = y) : sm_c P x = sm_c Q y := by
  by_cases hP : P
  · rw [sm_ct hP, sm_ct (h.mp hP), hx hP]
  · rw [sm_cf hP, sm_cf (fun q => hP (h.mpr q))]
theorem sm_cle {P : Prop} {x y : Int} (hx : P → x ≤ y) : sm_c P x ≤ sm_c P y := by
  by_cases hP : P
  · rw [sm_ct hP, sm_ct hP]; exact hx hP
  · rw [sm_cf hP, sm_cf hP]; exact Int.le_refl _
theorem sm_cadd {P : Prop} {x y : Int} : sm_c P (x + y) = sm_c P x + sm_c P y := by
  by_cases hP : P
  · rw [sm_ct hP, sm_ct hP, sm_ct hP]
  · rw [sm_cf hP, sm_cf hP, sm_cf hP]; rfl
/-- an assignment: every member gets an allowed place below D, no two the same -/
def as_ok (N D : Nat) (M : Nat → Prop) (al : Nat → Nat → Prop) (g : Nat → Nat) : Prop :=
  (∀ p, p < N → M p → g p < D ∧ al p (g p)) ∧ (∀ p q, p < N → q < N → M p → M q → g p = g q → p = q)
noncomputable def as_T (N : Nat) (M : Nat → Prop) (c : Nat → Nat → Int) (g : Nat → Nat) : Int := sm_S (fun p => sm_c (M p) (c p (g p))) N
/-- numbers at most 0: what an assignment picks of them is no less than all of them -/
theorem as_image {N D : Nat} {M : Nat → Prop} {g : Nat → Nat} {v : Nat → Int} (hg : ∀ p, p < N → M p → g p < D) (hinj : ∀ p q, p < N → q < N → M p → M q → g p = g q → p = q) (hv : ∀ d, d < D → v d ≤ 0) :
    sm_S v D ≤ sm_S (fun p => sm_c (M p) (v (g p))) N := by
  have e1 : sm_S (fun p => sm_c (M p) (v (g p))) N = sm_S (fun p => sm_S (fun d => sm_c (M p ∧ g p = d) (v d)) D) N := by
    refine sm_congr (fun p hp => ?_)
    by_cases hM : M p
    · rw [sm_single (f := fun d => sm_c (M p ∧ g p = d) (v d)) (hg p hp hM) (fun d _ hne => sm_cf (fun q => hne q.2.symm))]
      rw [sm_ct hM, sm_ct ⟨hM, rfl⟩]
    · rw [sm_cf hM, sm_zero (fun d _ => sm_cf (fun q => hM q.1))]
  rw [e1, sm_swap]
  refine sm_le (fun d hd => ?_)
  by_cases hex : ∃ p, p < N ∧ M p ∧ g p = d
  · obtain ⟨p, hp, hM, hgp⟩ := hex
    rw [sm_single (f := fun p => sm_c (M p ∧ g p = d) (v d)) hp (fun p' hp' hne => sm_cf (fun q => hne (hinj p' p hp' hp q.1 hM (q.2.trans hgp.symm))))]
    rw [sm_ct ⟨hM, hgp⟩]
    exact Int.le_refl _
  · rw [sm_zero (fun p hp => sm_cf (fun q => hex ⟨p, hp, q.1, q.2⟩))]
    exact hv d hd
/-- equality, where what isn't picked is 0 -/
theorem as_imageE {N D : Nat} {M : Nat → Prop} {g : Nat → Nat} {v : Nat → Int} (hg : ∀ p, p < N → M p → g p < D) (hinj : ∀ p q, p < N → q < N → M p → M q → g p = g q → p = q) (hv : ∀ d, d < D → (∀ p, p < N → M p → g p ≠ d) → v d = 0) :
    sm_S v D = sm_S (fun p => sm_c (M p) (v (g p))) N := by
  have e1 : sm_S (fun p => sm_c (M p) (v (g p))) N = sm_S (fun p => sm_S (fun d => sm_c (M p ∧ g p = d) (v d)) D) N := by
    refine sm_congr (fun p hp => ?_)
    by_cases hM : M p
    · rw [sm_single (f := fun d => sm_c (M p ∧ g p = d) (v d)) (hg p hp hM) (fun d _ hne => sm_cf (fun q => hne q.2.symm))]
      rw [sm_ct hM, sm_ct ⟨hM, rfl⟩]
    · rw [sm_cf hM, sm_zero (fun d _ => sm_cf (fun q => hM q.1))]
  rw [e1, sm_swap]
  refine sm_congr (fun d hd => ?_)
  by_cases hex : ∃ p, p < N ∧ M p ∧ g p = d
  · obtain ⟨p, hp, hM, hgp⟩ := hex
    rw [sm_single (f := fun p => sm_c (M p ∧ g p = d) (v d)) hp (fun p' hp' hne => sm_cf (fun q => hne (hinj p' p hp' hp q.1 hM (q.2.trans hgp.symm))))]
    rw [sm_ct ⟨hM, hgp⟩]
  · rw [sm_zero (fun p hp => sm_cf (fun q => hex ⟨p, hp, q.1, q.2⟩))]
    exact hv d hd (fun p hp hM hgp => hex ⟨p, hp, hM, hgp⟩)
/-- counting: an injection from the members A (below N) into B (below D) -/
theorem as_count {N D : Nat} {A B : Nat → Prop} {g : Nat → Nat} (hg : ∀ p, p < N → A p → g p < D ∧ B (g p)) (hinj : ∀ p q, p < N → q < N → A p → A q → g p = g q → p = q) :
    sm_S (fun p => sm_c (A p) 1) N ≤ sm_S (fun d => sm_c (B d) 1) D := by
  have h := as_image (N := N) (D := D) (M := A) (g := g) (v := fun d => - sm_c (B d) 1) (fun p hp hA => (hg p hp hA).1) hinj (fun d _ => by
    by_cases hB : B d
    · rw [sm_ct hB]; omega
    · rw [sm_cf hB]; omega)
  have e1 : sm_S (fun d => - sm_c (B d) 1) D = - sm_S (fun d => sm_c (B d) 1) D := by
    have := sm_sub (fun _ => 0) (fun d => sm_c (B d) 1) D
    rw [sm_zero (f := fun _ => 0) (fun _ _ => rfl)] at this
    rw [← Int.zero_sub, ← this]
    exact sm_congr (fun i _ => (Int.zero_sub _).symm)
  have e2 : sm_S (fun p => sm_c (A p) (- sm_c (B (g p)) 1)) N = - sm_S (fun p => sm_c (A p) 1) N := by
    have := sm_sub (fun _ => 0) (fun p => sm_c (A p) 1) N
    rw [sm_zero (f := fun _ => 0) (fun _ _ => rfl)] at this
    rw [← Int.zero_sub, ← this]
    refine sm_congr (fun p hp => ?_)
    by_cases hA : A p
    · rw [sm_ct hA, sm_ct hA, sm_ct (hg p hp hA).2]; rfl
    · rw [sm_cf hA, sm_cf hA]; rfl
  rw [e1, e2] at h
  omega
/-- LP duality: no assignment costs less than a feasible dual; a tight one costs just that -/
theorem as_dual {N D : Nat} {M : Nat → Prop} {al : Nat → Nat → Prop} {c : Nat → Nat → Int} {u v : Nat → Int} {g : Nat → Nat} (hg : as_ok N D M al g) (hv : ∀ d, d < D → v d ≤ 0)
    (hf : ∀ p d, p < N → M p → d < D → al p d → u p + v d ≤ c p d) : sm_S (fun p => sm_c (M p) (u p)) N + sm_S v D ≤ as_T N M c g := by
  have h1 := as_image (fun p hp hM => (hg.1 p hp hM).1) hg.2 hv
  have h2 : sm_S (fun p => sm_c (M p) (u p) + sm_c (M p) (v (g p))) N ≤ as_T N M c g := by
    refine sm_le (fun p hp => ?_)
    rw [← sm_cadd]
    exact sm_cle (fun hM => hf p (g p) hp hM (hg.1 p hp hM).1 (hg.1 p hp hM).2)
  rw [sm_add] at h2
  omega
theorem as_tight {N D : Nat} {M : Nat → Prop} {al : Nat → Nat → Prop} {c : Nat → Nat → Int} {u v : Nat → Int} {g : Nat → Nat} (hg : as_ok N D M al g) (hz : ∀ d, d < D → (∀ p, p < N → M p → g p ≠ d) → v d = 0)
    (ht : ∀ p, p < N → M p → u p + v (g p) = c p (g p)) : sm_S (fun p => sm_c (M p) (u p)) N + sm_S v D = as_T N M c g := by
  rw [as_imageE (fun p hp hM => (hg.1 p hp hM).1) hg.2 hz, ← sm_add]
  refine sm_congr (fun p hp => ?_)
  rw [← sm_cadd]
  exact sm_ce Iff.rfl (fun hM => ht p hp hM)
