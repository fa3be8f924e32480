section
/-! PURE: sums of integers over 0 .. n-1 -/
def sm_S (f : Nat → Int) : Nat → Int
  | 0 => 0
  | n + 1 => sm_S f n + f n
theorem sm_congr {f g : Nat → Int} : ∀ {n : Nat}, (∀ i, i < n → f i = g i) → sm_S f n = sm_S g n := by
  intro n
  induction n with
  | zero => intro _; rfl
  | succ n ih =>
    intro h
    show sm_S f n + f n = sm_S g n + g n
    rw [ih (fun i hi => h i (by omega)), h n (by omega)]
theorem sm_le {f g : Nat → Int} : ∀ {n : Nat}, (∀ i, i < n → f i ≤ g i) → sm_S f n ≤ sm_S g n := by
  intro n
  induction n with
  | zero => intro _; exact Int.le_refl _
  | succ n ih =>
    intro h
    show sm_S f n + f n ≤ sm_S g n + g n
    have h1 := ih (fun i hi => h i (by omega))
    have h2 := h n (by omega)
    omega
theorem sm_add (f g : Nat → Int) : ∀ n : Nat, sm_S (fun i => f i + g i) n = sm_S f n + sm_S g n := by
  intro n
  induction n with
  | zero => rfl
  | succ n ih =>
    show sm_S (fun i => f i + g i) n + (f n + g n) = (sm_S f n + f n) + (sm_S g n + g n)
    rw [ih]; omega
theorem sm_sub (f g : Nat → Int) : ∀ n : Nat, sm_S (fun i => f i - g i) n = sm_S f n - sm_S g n := by
  intro n
  induction n with
  | zero => rfl
  | succ n ih =>
    show sm_S (fun i => f i - g i) n + (f n - g n) = (sm_S f n + f n) - (sm_S g n + g n)
    rw [ih]; omega
theorem sm_mul (k : Int) (f : Nat → Int) : ∀ n : Nat, sm_S (fun i => k * f i) n = k * sm_S f n := by
  intro n
  induction n with
  | zero => exact (Int.mul_zero k).symm
  | succ n ih =>
    show sm_S (fun i => k * f i) n + k * f n = k * (sm_S f n + f n)
    rw [ih, Int.mul_add]
theorem sm_zero {f : Nat → Int} : ∀ {n : Nat}, (∀ i, i < n → f i = 0) → sm_S f n = 0 := by
  intro n
  induction n with
  | zero => intro _; rfl
  | succ n ih =>
    intro h
    show sm_S f n + f n = 0
    rw [ih (fun i hi => h i (by omega)), h n (by omega)]; rfl
theorem sm_single {f : Nat → Int} {k : Nat} : ∀ {n : Nat}, k < n → (∀ i, i < n → i ≠ k → f i = 0) → sm_S f n = f k := by
  intro n
  induction n with
  | zero => intro h _; exact absurd h (by omega)
  | succ n ih =>
    intro hk h
    show sm_S f n + f n = f k
    by_cases hkn : k = n
    · subst hkn
      rw [sm_zero (fun i hi => h i (by omega) (by omega))]; omega
    · rw [ih (by omega) (fun i hi hne => h i (by omega) hne), h n (by omega) (fun q => hkn q.symm)]; omega
theorem sm_nonneg {f : Nat → Int} {n : Nat} (h : ∀ i, i < n → 0 ≤ f i) : 0 ≤ sm_S f n := by
  have h1 := sm_le (f := fun _ => 0) (g := f) (n := n) h
  rw [sm_zero (f := fun _ => 0) (fun _ _ => rfl)] at h1
  exact h1
theorem sm_swap (f : Nat → Nat → Int) (m : Nat) : ∀ n : Nat, sm_S (fun i => sm_S (fun j => f i j) m) n = sm_S (fun j => sm_S (fun i => f i j) n) m := by
  intro n
  induction n with
  | zero => exact (sm_zero (fun _ _ => rfl)).symm
  | succ n ih =>
    show sm_S (fun i => sm_S (fun j => f i j) m) n + sm_S (fun j => f n j) m = sm_S (fun j => sm_S (fun i => f i j) n + f n j) m
    rw [ih, sm_add]
/-- a value where a proposition holds, else 0 -/
noncomputable def sm_c (P : Prop) (x : Int) : Int := @ite Int P (Classical.propDecidable P) x 0
theorem sm_ct {P : Prop} {x : Int} (h : P) : sm_c P x = x := by unfold sm_c; exact if_pos h
theorem sm_cf {P : Prop} {x : Int} (h : ¬ P) : sm_c P x = 0 := by unfold sm_c; exact if_neg h
theorem sm_ce {P Q : Prop} {x y : Int} (h : P ↔ Q) (hx : P → x = y) : sm_c P x = sm_c Q y := by
  by_cases hP : P
  · rw [sm_ct hP, sm_ct (h.mp hP), hx hP]
  · rw [sm_cf hP, sm_cf (fun q => hP (h.mpr q))]
theorem sm_cle {P : Prop} {x y : Int} (hx : P → x ≤ y) : sm_c P x ≤ sm_c P y := by
  by_cases hP : P
  · rw [sm_ct hP, sm_ct hP]; exact hx hP
  · rw [sm_cf hP, sm_cf hP]; exact Int.le_refl _
theorem sm_cadd {P : Prop} {x y : Int} : sm_c P (x + y) = sm_c P x + sm_c P y := by
  by_cases hP : P
  · rw [sm_ct hP, sm_ct hP, sm_ct hP]
  · rw [sm_cf hP, sm_cf hP, sm_cf hP]; rfl
/-- an assignment: every member gets an allowed place below D, no two the same -/
def as_ok (N D : Nat) (M : Nat → Prop) (al : Nat → Nat → Prop) (g : Nat → Nat) : Prop :=
  (∀ p, p < N → M p → g p < D ∧ al p (g p)) ∧ (∀ p q, p < N → q < N → M p → M q → g p = g q → p = q)
noncomputable def as_T (N : Nat) (M : Nat → Prop) (c : Nat → Nat → Int) (g : Nat → Nat) : Int := sm_S (fun p => sm_c (M p) (c p (g p))) N
/-- numbers at most 0: what an assignment picks of them is no less than all of them -/
theorem as_image {N D : Nat} {M : Nat → Prop} {g : Nat → Nat} {v : Nat → Int} (hg : ∀ p, p < N → M p → g p < D) (hinj : ∀ p q, p < N → q < N → M p → M q → g p = g q → p = q) (hv : ∀ d, d < D → v d ≤ 0) :
    sm_S v D ≤ sm_S (fun p => sm_c (M p) (v (g p))) N := by
  have e1 : sm_S (fun p => sm_c (M p) (v (g p))) N = sm_S (fun p => sm_S (fun d => sm_c (M p ∧ g p = d) (v d)) D) N := by
    refine sm_congr (fun p hp => ?_)
    by_cases hM : M p
    · rw [sm_single (f := fun d => sm_c (M p ∧ g p = d) (v d)) (hg p hp hM) (fun d _ hne => sm_cf (fun q => hne q.2.symm))]
      rw [sm_ct hM, sm_ct ⟨hM, rfl⟩]
    · rw [sm_cf hM, sm_zero (fun d _ => sm_cf (fun q => hM q.1))]
  rw [e1, sm_swap]
  refine sm_le (fun d hd => ?_)
  by_cases hex : ∃ p, p < N ∧ M p ∧ g p = d
  · obtain ⟨p, hp, hM, hgp⟩ := hex
    rw [sm_single (f := fun p => sm_c (M p ∧ g p = d) (v d)) hp (fun p' hp' hne => sm_cf (fun q => hne (hinj p' p hp' hp q.1 hM (q.2.trans hgp.symm))))]
    rw [sm_ct ⟨hM, hgp⟩]
    exact Int.le_refl _
  · rw [sm_zero (fun p hp => sm_cf (fun q => hex ⟨p, hp, q.1, q.2⟩))]
    exact hv d hd
/-- equality, where what isn't picked is 0 -/
theorem as_imageE {N D : Nat} {M : Nat → Prop} {g : Nat → Nat} {v : Nat → Int} (hg : ∀ p, p < N → M p → g p < D) (hinj : ∀ p q, p < N → q < N → M p → M q → g p = g q → p = q) (hv : ∀ d, d < D → (∀ p, p < N → M p → g p ≠ d) → v d = 0) :
    sm_S v D = sm_S (fun p => sm_c (M p) (v (g p))) N := by
  have e1 : sm_S (fun p => sm_c (M p) (v (g p))) N = sm_S (fun p => sm_S (fun d => sm_c (M p ∧ g p = d) (v d)) D) N := by
    refine sm_congr (fun p hp => ?_)
    by_cases hM : M p
    · rw [sm_single (f := fun d => sm_c (M p ∧ g p = d) (v d)) (hg p hp hM) (fun d _ hne => sm_cf (fun q => hne q.2.symm))]
      rw [sm_ct hM, sm_ct ⟨hM, rfl⟩]
    · rw [sm_cf hM, sm_zero (fun d _ => sm_cf (fun q => hM q.1))]
  rw [e1, sm_swap]
  refine sm_congr (fun d hd => ?_)
  by_cases hex : ∃ p, p < N ∧ M p ∧ g p = d
  · obtain ⟨p, hp, hM, hgp⟩ := hex
    rw [sm_single (f := fun p => sm_c (M p ∧ g p = d) (v d)) hp (fun p' hp' hne => sm_cf (fun q => hne (hinj p' p hp' hp q.1 hM (q.2.trans hgp.symm))))]
    rw [sm_ct ⟨hM, hgp⟩]
  · rw [sm_zero (fun p hp => sm_cf (fun q => hex ⟨p, hp, q.1, q.2⟩))]
    exact hv d hd (fun p hp hM hgp => hex ⟨p, hp, hM, hgp⟩)
/-- counting: an injection from the members A (below N) into B (below D) -/
theorem as_count {N D : Nat} {A B : Nat → Prop} {g : Nat → Nat} (hg : ∀ p, p < N → A p → g p < D ∧ B (g p)) (hinj : ∀ p q, p < N → q < N → A p → A q → g p = g q → p = q) :
    sm_S (fun p => sm_c (A p) 1) N ≤ sm_S (fun d => sm_c (B d) 1) D := by
  have h := as_image (N := N) (D := D) (M := A) (g := g) (v := fun d => - sm_c (B d) 1) (fun p hp hA => (hg p hp hA).1) hinj (fun d _ => by
    by_cases hB : B d
    · rw [sm_ct hB]; omega
    · rw [sm_cf hB]; omega)
  have e1 : sm_S (fun d => - sm_c (B d) 1) D = - sm_S (fun d => sm_c (B d) 1) D := by
    have := sm_sub (fun _ => 0) (fun d => sm_c (B d) 1) D
    rw [sm_zero (f := fun _ => 0) (fun _ _ => rfl)] at this
    rw [← Int.zero_sub, ← this]
    exact sm_congr (fun i _ => (Int.zero_sub _).symm)
  have e2 : sm_S (fun p => sm_c (A p) (- sm_c (B (g p)) 1)) N = - sm_S (fun p => sm_c (A p) 1) N := by
    have := sm_sub (fun _ => 0) (fun p => sm_c (A p) 1) N
    rw [sm_zero (f := fun _ => 0) (fun _ _ => rfl)] at this
    rw [← Int.zero_sub, ← this]
    refine sm_congr (fun p hp => ?_)
    by_cases hA : A p
    · rw [sm_ct hA, sm_ct hA, sm_ct (hg p hp hA).2]; rfl
    · rw [sm_cf hA, sm_cf hA]; rfl
  rw [e1, e2] at h
  omega
/-- LP duality: no assignment costs less than a feasible dual; a tight one costs just that -/
theorem as_dual {N D : Nat} {M : Nat → Prop} {al : Nat → Nat → Prop} {c : Nat → Nat → Int} {u v : Nat → Int} {g : Nat → Nat} (hg : as_ok N D M al g) (hv : ∀ d, d < D → v d ≤ 0)
    (hf : ∀ p d, p < N → M p → d < D → al p d → u p + v d ≤ c p d) : sm_S (fun p => sm_c (M p) (u p)) N + sm_S v D ≤ as_T N M c g := by
  have h1 := as_image (fun p hp hM => (hg.1 p hp hM).1) hg.2 hv
  have h2 : sm_S (fun p => sm_c (M p) (u p) + sm_c (M p) (v (g p))) N ≤ as_T N M c g := by
    refine sm_le (fun p hp => ?_)
    rw [← sm_cadd]
    exact sm_cle (fun hM => hf p (g p) hp hM (hg.1 p hp hM).1 (hg.1 p hp hM).2)
  rw [sm_add] at h2
  omega
theorem as_tight {N D : Nat} {M : Nat → Prop} {al : Nat → Nat → Prop} {c : Nat → Nat → Int} {u v : Nat → Int} {g : Nat → Nat} (hg : as_ok N D M al g) (hz : ∀ d, d < D → (∀ p, p < N → M p → g p ≠ d) → v d = 0)
    (ht : ∀ p, p < N → M p → u p + v (g p) = c p (g p)) : sm_S (fun p => sm_c (M p) (u p)) N + sm_S v D = as_T N M c g := by
  rw [as_imageE (fun p hp hM => (hg.1 p hp hM).1) hg.2 hz, ← sm_add]
  refine sm_congr (fun p hp => ?_)
  rw [← sm_cadd]
  exact sm_ce Iff.rfl (fun hM => ht p hp hM)
end
section
/-! PURE: the Hungarian method: members M are seated by 'sit' (place -> person), prices u (persons), v (places) -/
/-- every seated one is a member, allowed there, its edge tight; every member sits; nobody twice -/
def hu_M (N D : Nat) (c : Nat → Nat → Int) (al : Nat → Nat → Prop) (M : Nat → Prop) (sit : Nat → Option Nat) (u v : Nat → Int) : Prop :=
  (∀ d p, d < D → sit d = some p → p < N ∧ M p ∧ al p d ∧ u p + v d = c p d) ∧
  (∀ p, p < N → M p → ∃ d, d < D ∧ sit d = some p) ∧
  (∀ d d' p, d < D → d' < D → sit d = some p → sit d' = some p → d = d')
/-- between two persons -/
def hu_I (N D : Nat) (c : Nat → Nat → Int) (al : Nat → Nat → Prop) (C : Int) (M : Nat → Prop) (sit : Nat → Option Nat) (u v : Nat → Int) : Prop :=
  hu_M N D c al M sit u v ∧
  (∀ d, d < D → -(32 * C) ≤ v d ∧ v d ≤ 0 ∧ (sit d = none → v d = 0)) ∧
  (∀ p d, p < N → M p → d < D → al p d → u p + v d ≤ c p d)
/-- the tree: the newcomer, and who sits at a reached place -/
def hs_T (D : Nat) (q : Nat) (sit : Nat → Option Nat) (rc : Nat → Prop) (p : Nat) : Prop := p = q ∨ ∃ d, d < D ∧ rc d ∧ sit d = some p
/-- how a place hangs on the tree, by a tight edge -/
def hs_C (c : Nat → Nat → Int) (al : Nat → Nat → Prop) (q : Nat) (sit : Nat → Option Nat) (u v : Nat → Int) (bef : Nat → Option Nat) (rc : Nat → Prop) (rk : Nat → Nat) (d k : Nat) : Prop :=
  (bef d = none ∧ al q d ∧ u q + v d = c q d) ∨ (∃ d' p', bef d = some d' ∧ rc d' ∧ rk d' < k ∧ sit d' = some p' ∧ al p' d ∧ u p' + v d = c p' d)
/-- the nearest edge so far to a place that isn't reached -/
def hs_E (c : Nat → Nat → Int) (al : Nat → Nat → Prop) (q : Nat) (sit : Nat → Option Nat) (u v dist : Nat → Int) (bef : Nat → Option Nat) (rc : Nat → Prop) (F : Int) (Lk : Nat → Prop) (d : Nat) : Prop :=
  (dist d = F ∧ ∀ p, Lk p → ¬ al p d) ∨
  (dist d < F ∧ 0 ≤ dist d ∧ (∀ p, Lk p → al p d → dist d ≤ c p d - u p - v d) ∧
    ((bef d = none ∧ Lk q ∧ al q d ∧ dist d = c q d - u q - v d) ∨ ∃ d' p', bef d = some d' ∧ rc d' ∧ sit d' = some p' ∧ Lk p' ∧ al p' d ∧ dist d = c p' d - u p' - v d))
/-- inside the search for the newcomer q: n places are reached, Lk: those from whom it was looked -/
def hs_I (N D : Nat) (c : Nat → Nat → Int) (al : Nat → Nat → Prop) (C : Int) (M : Nat → Prop) (q : Nat) (sit : Nat → Option Nat) (F : Int) (u v dist : Nat → Int) (bef : Nat → Option Nat) (rc : Nat → Prop) (rk : Nat → Nat) (n : Nat) (Lk : Nat → Prop) : Prop :=
  hu_M N D c al M sit u v ∧
  (∀ p d, p < N → (M p ∨ p = q) → d < D → al p d → u p + v d ≤ c p d) ∧
  (∀ d, d < D → v d ≤ 0 ∧ (sit d = none → v d = 0 ∧ ¬ rc d) ∧ (¬ rc d → -(32 * C) ≤ v d)) ∧
  (∀ d, rc d → d < D ∧ rk d < n ∧ hs_C c al q sit u v bef rc rk d (rk d)) ∧
  (∀ d, d < D → ¬ rc d → hs_E c al q sit u v dist bef rc F Lk d) ∧
  (∀ p, Lk p → p < N ∧ hs_T D q sit rc p) ∧
  (0 ≤ u q ∧ u q ≤ 48 * C)
/-- by the chain: the price of a reached place beside the newcomer's -/
theorem hs_price {N D : Nat} {c : Nat → Nat → Int} {al : Nat → Nat → Prop} {C : Int} {M : Nat → Prop} {q : Nat} {sit : Nat → Option Nat} {u v : Nat → Int} {bef : Nat → Option Nat} {rc : Nat → Prop} {rk : Nat → Nat}
    (hq : q < N) (hc : ∀ p d, p < N → d < D → 0 ≤ c p d ∧ c p d ≤ C) (hM : hu_M N D c al M sit u v) (hC : ∀ d, rc d → d < D ∧ hs_C c al q sit u v bef rc rk d (rk d)) :
    ∀ (k d : Nat), d < D → hs_C c al q sit u v bef rc rk d k → -(u q) - k * C ≤ v d ∧ v d ≤ (k + 1) * C - u q := by
  intro k
  induction k using Nat.strongRecOn with
  | _ k ih =>
    intro d hd hch
    have hCn : 0 ≤ C := by
      have := hc q d hq hd
      omega
    have hkC : 0 ≤ (k : Int) * C := Int.mul_nonneg (by omega) hCn
    rcases hch with ⟨-, -, ht⟩ | ⟨d', p', -, hr, hlt, hs, -, ht⟩
    · have h1 := hc q d hq hd
      have e : ((k : Int) + 1) * C = k * C + C := by rw [Int.add_mul, Int.one_mul]
      omega
    · obtain ⟨hd', hch'⟩ := hC d' hr
      have h2 := ih (rk d') hlt d' hd' hch'
      obtain ⟨hp', -, -, ht'⟩ := hM.1 d' p' hd' hs
      have h3 := hc p' d hp' hd
      have h4 := hc p' d' hp' hd'
      have h5 : ((rk d' : Int) + 1) * C ≤ k * C := Int.mul_le_mul_of_nonneg_right (by omega) hCn
      have e1 : ((rk d' : Int) + 1) * C = rk d' * C + C := by rw [Int.add_mul, Int.one_mul]
      have e : ((k : Int) + 1) * C = k * C + C := by rw [Int.add_mul, Int.one_mul]
      omega
/-- the search begins -/
theorem hs_start {N D : Nat} {c : Nat → Nat → Int} {al : Nat → Nat → Prop} {C F : Int} {M : Nat → Prop} {q : Nat} {sit : Nat → Option Nat} {u u' v dist : Nat → Int} {bef : Nat → Option Nat} {rc : Nat → Prop} {rk : Nat → Nat}
    (hq : q < N) (hqM : ¬ M q) (hC0 : 0 ≤ C) (hc : ∀ p d, p < N → d < D → 0 ≤ c p d ∧ c p d ≤ C) (h : hu_I N D c al C M sit u v) (hu : ∀ p, p ≠ q → u' p = u p) (hu0 : u' q = 0) (hd : ∀ d, d < D → dist d = F) (hr : ∀ d, ¬ rc d) :
    hs_I N D c al C M q sit F u' v dist bef rc rk 0 (fun _ => False) := by
  obtain ⟨⟨h1, h2, h3⟩, h4, h5⟩ := h
  have hne : ∀ p, M p → p ≠ q := fun p hp e => hqM (e ▸ hp)
  refine ⟨⟨fun d p hd hs => ?_, h2, h3⟩, fun p d hp hM hd' ha => ?_, fun d hd' => ⟨(h4 d hd').2.1, fun hs => ⟨(h4 d hd').2.2 hs, hr d⟩, fun _ => (h4 d hd').1⟩, fun d hr' => absurd hr' (hr d), fun d hd' _ => Or.inl ⟨hd d hd', fun p hp => absurd hp id⟩, fun p hp => absurd hp id, ?_⟩
  · obtain ⟨a, b, e, f⟩ := h1 d p hd hs
    exact ⟨a, b, e, by rw [hu p (hne p b)]; exact f⟩
  · rcases hM with hM | rfl
    · rw [hu p (hne p hM)]; exact h5 p d hp hM hd' ha
    · rw [hu0]
      have := (h4 d hd').2.1
      have := (hc p d hp hd').1
      omega
  · rw [hu0]; omega
/-- it was looked from x, who is in the tree -/
theorem hs_look {N D : Nat} {c : Nat → Nat → Int} {al : Nat → Nat → Prop} {C F : Int} {M : Nat → Prop} {q : Nat} {sit : Nat → Option Nat} {u v dist dist' : Nat → Int} {bef bef' : Nat → Option Nat} {rc : Nat → Prop} {rk : Nat → Nat} {n : Nat} {Lk : Nat → Prop} {x : Nat} {fr : Option Nat}
    (h : hs_I N D c al C M q sit F u v dist bef rc rk n Lk) (hx : x < N) (hxM : M x ∨ x = q) (hfr : (x = q ∧ fr = none) ∨ ∃ d', fr = some d' ∧ d' < D ∧ rc d' ∧ sit d' = some x)
    (hF : ∀ d, d < D → al x d → c x d - u x - v d < F)
    (hn : ∀ d, d < D → ¬ rc d → al x d → c x d - u x - v d < dist d → dist' d = c x d - u x - v d ∧ bef' d = fr)
    (ho : ∀ d, d < D → (rc d ∨ ¬ al x d ∨ ¬ c x d - u x - v d < dist d) → dist' d = dist d ∧ bef' d = bef d) :
    hs_I N D c al C M q sit F u v dist' bef' rc rk n (fun p => Lk p ∨ p = x) := by
  obtain ⟨h1, h2, h3, h4, h5, h6, h7⟩ := h
  refine ⟨h1, h2, h3, fun d hr => ?_, fun d hd hr => ?_, fun p hp => ?_, h7⟩
  · obtain ⟨hd, hk, hch⟩ := h4 d hr
    refine ⟨hd, hk, ?_⟩
    unfold hs_C
    rw [(ho d hd (Or.inl hr)).2]
    exact hch
  · by_cases ha : al x d
    · by_cases hlt : c x d - u x - v d < dist d
      · obtain ⟨e1, e2⟩ := hn d hd hr ha hlt
        refine Or.inr ⟨by rw [e1]; exact hF d hd ha, by rw [e1]; have := h2 x d hx hxM hd ha; omega, fun p hp hap => ?_, ?_⟩
        · rw [e1]
          rcases hp with hp | rfl
          · rcases h5 d hd hr with ⟨-, hno⟩ | ⟨-, -, hmin, -⟩
            · exact absurd hap (hno p hp)
            · have := hmin p hp hap; omega
          · exact Int.le_refl _
        · rcases hfr with ⟨rfl, rfl⟩ | ⟨d', rfl, hd', hr', hs'⟩
          · exact Or.inl ⟨e2, Or.inr rfl, ha, e1⟩
          · exact Or.inr ⟨d', x, e2, hr', hs', Or.inr rfl, ha, e1⟩
      · obtain ⟨e1, e2⟩ := ho d hd (Or.inr (Or.inr hlt))
        rcases h5 d hd hr with ⟨hf, hno⟩ | ⟨ha1, ha2, hmin, hb⟩
        · exfalso
          have := hF d hd ha
          omega
        · refine Or.inr ⟨by rw [e1]; exact ha1, by rw [e1]; exact ha2, fun p hp hap => ?_, ?_⟩
          · rw [e1]
            rcases hp with hp | rfl
            · exact hmin p hp hap
            · omega
          · rw [e1, e2]
            rcases hb with ⟨b1, b2, b3, b4⟩ | ⟨d', p', b1, b2, b3, b4, b5, b6⟩
            · exact Or.inl ⟨b1, Or.inl b2, b3, b4⟩
            · exact Or.inr ⟨d', p', b1, b2, b3, Or.inl b4, b5, b6⟩
    · obtain ⟨e1, e2⟩ := ho d hd (Or.inr (Or.inl ha))
      rcases h5 d hd hr with ⟨hf, hno⟩ | ⟨ha1, ha2, hmin, hb⟩
      · refine Or.inl ⟨by rw [e1]; exact hf, fun p hp => ?_⟩
        rcases hp with hp | rfl
        · exact hno p hp
        · exact ha
      · refine Or.inr ⟨by rw [e1]; exact ha1, by rw [e1]; exact ha2, fun p hp hap => ?_, ?_⟩
        · rw [e1]
          rcases hp with hp | rfl
          · exact hmin p hp hap
          · exact absurd hap ha
        · rw [e1, e2]
          rcases hb with ⟨b1, b2, b3, b4⟩ | ⟨d', p', b1, b2, b3, b4, b5, b6⟩
          · exact Or.inl ⟨b1, Or.inl b2, b3, b4⟩
          · exact Or.inr ⟨d', p', b1, b2, b3, Or.inl b4, b5, b6⟩
  · rcases hp with hp | rfl
    · exact h6 p hp
    · refine ⟨hx, ?_⟩
      rcases hfr with ⟨rfl, -⟩ | ⟨d', -, hd', hr', hs'⟩
      · exact Or.inl rfl
      · exact Or.inr ⟨d', hd', hr', hs'⟩
/-- the reached places are as many as the tree's persons less one: no assignment where the tree's persons have only reached places -/
theorem hs_none {N D : Nat} {c : Nat → Nat → Int} {al : Nat → Nat → Prop} {M : Nat → Prop} {q : Nat} {sit : Nat → Option Nat} {u v : Nat → Int} {rc : Nat → Prop}
    (hM : hu_M N D c al M sit u v) (hq : q < N) (hqM : ¬ M q) (hrd : ∀ d, rc d → d < D ∧ sit d ≠ none) (hno : ∀ p d, p < N → hs_T D q sit rc p → d < D → al p d → rc d) (g : Nat → Nat) : ¬ as_ok N D (fun p => M p ∨ p = q) al g := by
  intro hg
  obtain ⟨h1, h2, h3⟩ := hM
  have hT : ∀ p, p < N → hs_T D q sit rc p → M p ∨ p = q := by
    intro p _ ht
    rcases ht with rfl | ⟨d, hd, -, hs⟩
    · exact Or.inr rfl
    · exact Or.inl (h1 d p hd hs).2.1
  have k1 := as_count (N := N) (D := D) (A := hs_T D q sit rc) (B := rc) (g := g) (fun p hp ht => by
      obtain ⟨a, b⟩ := hg.1 p hp (hT p hp ht)
      exact ⟨a, hno p (g p) hp ht a b⟩) (fun p p' hp hp' ht ht' e => hg.2 p p' hp hp' (hT p hp ht) (hT p' hp' ht') e)
  have k2 := as_count (N := D) (D := N) (A := rc) (B := fun p => hs_T D q sit rc p ∧ p ≠ q) (g := fun d => (sit d).getD 0) (fun d hd hr => by
      obtain ⟨p, hs⟩ : ∃ p, sit d = some p := by
        cases hs : sit d with
        | none => exact absurd hs (hrd d hr).2
        | some p => exact ⟨p, rfl⟩
      obtain ⟨a, b, -, -⟩ := h1 d p hd hs
      show (sit d).getD 0 < N ∧ _
      rw [hs]
      exact ⟨a, Or.inr ⟨d, hd, hr, hs⟩, fun e => hqM (e ▸ b)⟩) (fun d d' hd hd' hr hr' e => by
      cases hs : sit d with
      | none => exact absurd hs (hrd d hr).2
      | some p =>
        cases hs' : sit d' with
        | none => exact absurd hs' (hrd d' hr').2
        | some p' =>
          have e : (sit d).getD 0 = (sit d').getD 0 := e
          rw [hs, hs'] at e
          have e : p = p' := e
          subst e
          exact h3 d d' p hd hd' hs hs')
  have k3 : sm_S (fun p => sm_c (hs_T D q sit rc p) 1) N = sm_S (fun p => sm_c (hs_T D q sit rc p ∧ p ≠ q) 1) N + 1 := by
    have e : sm_S (fun p => sm_c (p = q) 1) N = 1 := by
      rw [sm_single (f := fun p => sm_c (p = q) 1) hq (fun i _ hne => sm_cf hne), sm_ct rfl]
    have e2 := sm_add (fun p => sm_c (hs_T D q sit rc p ∧ p ≠ q) 1) (fun p => sm_c (p = q) 1) N
    have e3 : sm_S (fun p => sm_c (hs_T D q sit rc p) 1) N = sm_S (fun p => sm_c (hs_T D q sit rc p ∧ p ≠ q) 1 + sm_c (p = q) 1) N := by
      refine sm_congr (fun p _ => ?_)
      by_cases hpq : p = q
      · rw [sm_ct (P := hs_T D q sit rc p) (Or.inl hpq), sm_cf (P := hs_T D q sit rc p ∧ p ≠ q) (fun z => z.2 hpq), sm_ct hpq]; rfl
      · rw [sm_cf (P := p = q) hpq, sm_ce (P := hs_T D q sit rc p) (Q := hs_T D q sit rc p ∧ p ≠ q) ⟨fun z => ⟨z, hpq⟩, fun z => z.1⟩ (fun _ => rfl)]; omega
    rw [e3, e2, e]
  omega
end
section
/-- what the shift of the prices by the least distance gives: prices, and how the nearest place hangs on the tree -/
def hs_J (N D : Nat) (c : Nat → Nat → Int) (al : Nat → Nat → Prop) (C : Int) (M : Nat → Prop) (q : Nat) (sit : Nat → Option Nat) (F : Int) (u v dist : Nat → Int) (bef : Nat → Option Nat) (rc : Nat → Prop) (rk : Nat → Nat) (n : Nat) (Lk : Nat → Prop) (d0 : Nat) : Prop :=
  hs_I N D c al C M q sit F u v dist bef rc rk n Lk ∧ hs_C c al q sit u v bef rc rk d0 n
theorem hs_shift {N D : Nat} {c : Nat → Nat → Int} {al : Nat → Nat → Prop} {C F : Int} {M : Nat → Prop} {q : Nat} {sit : Nat → Option Nat} {u v dist u' v' dist' : Nat → Int} {bef : Nat → Option Nat} {rc : Nat → Prop} {rk : Nat → Nat} {n : Nat} {Lk : Nat → Prop} {d0 : Nat}
    (hq : q < N) (hqM : ¬ M q) (hc : ∀ p d, p < N → d < D → 0 ≤ c p d ∧ c p d ≤ C) (hn14 : n ≤ 13)
    (h : hs_I N D c al C M q sit F u v dist bef rc rk n Lk) (hall : ∀ p, p < N → hs_T D q sit rc p → Lk p) (hd0 : d0 < D) (hr0 : ¬ rc d0) (hf0 : dist d0 < F) (hmin : ∀ d, d < D → ¬ rc d → dist d < F → dist d0 ≤ dist d)
    (hu1 : ∀ p, p < N → hs_T D q sit rc p → u' p = u p + dist d0) (hu2 : ∀ p, p < N → ¬ hs_T D q sit rc p → u' p = u p)
    (hv1 : ∀ d, d < D → rc d → v' d = v d - dist d0) (hv2 : ∀ d, d < D → ¬ rc d → v' d = v d)
    (hd1 : ∀ d, d < D → ¬ rc d → dist d < F → dist' d = dist d - dist d0) (hd2 : ∀ d, d < D → ¬ rc d → ¬ dist d < F → dist' d = dist d) :
    hs_J N D c al C M q sit F u' v' dist' bef rc rk n Lk d0 := by
  obtain ⟨⟨h1, h1b, h1c⟩, h2, h3, h4, h5, h6, h7⟩ := h
  have hby : 0 ≤ dist d0 := by
    rcases h5 d0 hd0 hr0 with ⟨e, -⟩ | ⟨-, e, -⟩
    · omega
    · exact e
  have hTq : hs_T D q sit rc q := Or.inl rfl
  have huq := hu1 q hq hTq
  have hTs : ∀ d p, d < D → sit d = some p → (hs_T D q sit rc p ↔ rc d) := by
    intro d p hd hs
    constructor
    · rintro (rfl | ⟨d1, hd1', hr1, hs1⟩)
      · exact absurd (h1 d p hd hs).2.1 hqM
      · exact h1c d1 d p hd1' hd hs1 hs ▸ hr1
    · exact fun hr => Or.inr ⟨d, hd, hr, hs⟩
  have hM' : hu_M N D c al M sit u' v' := by
    refine ⟨fun d p hd hs => ?_, h1b, h1c⟩
    obtain ⟨a1, a2, a3, a4⟩ := h1 d p hd hs
    refine ⟨a1, a2, a3, ?_⟩
    by_cases hr : rc d
    · rw [hu1 p a1 ((hTs d p hd hs).mpr hr), hv1 d hd hr]; omega
    · rw [hu2 p a1 (fun t => hr ((hTs d p hd hs).mp t)), hv2 d hd hr]; exact a4
  have hch : ∀ d k, d < D → rc d → hs_C c al q sit u v bef rc rk d k → hs_C c al q sit u' v' bef rc rk d k := by
    intro d k hd hr hch
    rcases hch with ⟨b1, b2, b3⟩ | ⟨d', p', b1, b2, b3, b4, b5, b6⟩
    · exact Or.inl ⟨b1, b2, by rw [huq, hv1 d hd hr]; omega⟩
    · have hd' := (h4 d' b2).1
      have hp' := (h1 d' p' hd' b4).1
      exact Or.inr ⟨d', p', b1, b2, b3, b4, b5, by rw [hu1 p' hp' ((hTs d' p' hd' b4).mpr b2), hv1 d hd hr]; omega⟩
  have hch0 : hs_C c al q sit u' v' bef rc rk d0 n := by
    rcases h5 d0 hd0 hr0 with ⟨e, -⟩ | ⟨-, -, -, hb⟩
    · omega
    · rcases hb with ⟨b1, -, b3, b4⟩ | ⟨d', p', b1, b2, b3, b4, b5, b6⟩
      · exact Or.inl ⟨b1, b3, by rw [huq, hv2 d0 hd0 hr0]; omega⟩
      · have hd' := h4 d' b2
        have hp' := (h1 d' p' hd'.1 b3).1
        exact Or.inr ⟨d', p', b1, b2, hd'.2.1, b3, b5, by rw [hu1 p' hp' ((hTs d' p' hd'.1 b3).mpr b2), hv2 d0 hd0 hr0]; omega⟩
  have hCn : 0 ≤ C := by
    have := hc q d0 hq hd0
    omega
  have hpr := hs_price (k := n) hq hc hM' (fun d hr => ⟨(h4 d hr).1, hch d (rk d) (h4 d hr).1 hr (h4 d hr).2.2⟩) d0 hd0 hch0
  have hub : u' q ≤ 48 * C := by
    have e1 : ((n : Int) + 1) * C ≤ 14 * C := Int.mul_le_mul_of_nonneg_right (by omega) hCn
    have e2 := (h3 d0 hd0).2.2 hr0
    rw [hv2 d0 hd0 hr0] at hpr
    omega
  refine ⟨⟨hM', fun p d hp hM hd ha => ?_, fun d hd => ?_, fun d hr => ⟨(h4 d hr).1, (h4 d hr).2.1, hch d _ (h4 d hr).1 hr (h4 d hr).2.2⟩, fun d hd hr => ?_, h6, ⟨by rw [huq]; omega, hub⟩⟩, hch0⟩
  · have h2' := h2 p d hp hM hd ha
    by_cases ht : hs_T D q sit rc p
    · rw [hu1 p hp ht]
      by_cases hr : rc d
      · rw [hv1 d hd hr]; omega
      · rw [hv2 d hd hr]
        rcases h5 d hd hr with ⟨-, hno⟩ | ⟨hlt, -, hm, -⟩
        · exact absurd ha (hno p (hall p hp ht))
        · have := hm p (hall p hp ht) ha
          have := hmin d hd hr hlt
          omega
    · rw [hu2 p hp ht]
      by_cases hr : rc d
      · rw [hv1 d hd hr]; omega
      · rw [hv2 d hd hr]; exact h2'
  · obtain ⟨a1, a2, a3⟩ := h3 d hd
    by_cases hr : rc d
    · rw [hv1 d hd hr]
      exact ⟨by omega, fun hs => absurd hr (a2 hs).2, fun z => absurd hr z⟩
    · rw [hv2 d hd hr]
      exact ⟨a1, a2, a3⟩
  · rcases h5 d hd hr with ⟨e, hno⟩ | ⟨hlt, h0, hm, hb⟩
    · exact Or.inl ⟨by rw [hd2 d hd hr (by omega)]; exact e, hno⟩
    · have e := hd1 d hd hr hlt
      have hmd := hmin d hd hr hlt
      refine Or.inr ⟨by omega, by omega, fun p hp hap => ?_, ?_⟩
      · have := hm p hp hap
        rw [hu1 p (h6 p hp).1 (h6 p hp).2, hv2 d hd hr]; omega
      · rcases hb with ⟨b1, b2, b3, b4⟩ | ⟨d', p', b1, b2, b3, b4, b5, b6⟩
        · exact Or.inl ⟨b1, b2, b3, by rw [huq, hv2 d hd hr]; omega⟩
        · exact Or.inr ⟨d', p', b1, b2, b3, b4, b5, by rw [hu1 p' (h6 p' b4).1 (h6 p' b4).2, hv2 d hd hr]; omega⟩
/-- the nearest place is taken: it is reached, the search goes on from its sitter -/
theorem hs_reach {N D : Nat} {c : Nat → Nat → Int} {al : Nat → Nat → Prop} {C F : Int} {M : Nat → Prop} {q : Nat} {sit : Nat → Option Nat} {u v dist : Nat → Int} {bef : Nat → Option Nat} {rc rc' : Nat → Prop} {rk : Nat → Nat} {n : Nat} {Lk : Nat → Prop} {d0 p0 : Nat}
    (h : hs_J N D c al C M q sit F u v dist bef rc rk n Lk d0) (hd0 : d0 < D) (hr0 : ¬ rc d0) (hs0 : sit d0 = some p0) (hrc : ∀ d, rc' d ↔ rc d ∨ d = d0) :
    hs_I N D c al C M q sit F u v dist bef rc' (fun d => if d = d0 then n else rk d) (n + 1) Lk := by
  obtain ⟨⟨h1, h2, h3, h4, h5, h6, h7⟩, h8⟩ := h
  have hne : ∀ d, rc d → d ≠ d0 := fun d hr e => hr0 (e ▸ hr)
  have hup : ∀ d k, hs_C c al q sit u v bef rc rk d k → hs_C c al q sit u v bef rc' (fun d => if d = d0 then n else rk d) d k := by
    intro d k hch
    rcases hch with b | ⟨d', p', b1, b2, b3, b4⟩
    · exact Or.inl b
    · exact Or.inr ⟨d', p', b1, (hrc d').mpr (Or.inl b2), by show (if d' = d0 then n else rk d') < k; rw [if_neg (hne d' b2)]; exact b3, b4⟩
  refine ⟨h1, h2, fun d hd => ⟨(h3 d hd).1, fun hs => ⟨((h3 d hd).2.1 hs).1, fun hr => ?_⟩, fun hr => (h3 d hd).2.2 (fun z => hr ((hrc d).mpr (Or.inl z)))⟩, fun d hr => ?_, fun d hd hr => ?_, fun p hp => ⟨(h6 p hp).1, ?_⟩, h7⟩
  · rcases (hrc d).mp hr with hr | rfl
    · exact ((h3 d hd).2.1 hs).2 hr
    · rw [hs0] at hs; cases hs
  · rcases (hrc d).mp hr with hr | rfl
    · obtain ⟨a1, a2, a3⟩ := h4 d hr
      refine ⟨a1, ?_, ?_⟩
      · show (if d = d0 then n else rk d) < n + 1
        rw [if_neg (hne d hr)]; omega
      · show hs_C c al q sit u v bef rc' (fun d => if d = d0 then n else rk d) d (if d = d0 then n else rk d)
        rw [if_neg (hne d hr)]
        exact hup d _ a3
    · refine ⟨hd0, ?_, ?_⟩
      · show (if d = d then n else rk d) < n + 1
        rw [if_pos rfl]; omega
      · show hs_C c al q sit u v bef rc' (fun e => if e = d then n else rk e) d (if d = d then n else rk d)
        rw [if_pos rfl]
        exact hup d n h8
  · have hr' : ¬ rc d := fun z => hr ((hrc d).mpr (Or.inl z))
    rcases h5 d hd hr' with a | ⟨a1, a2, a3, a4⟩
    · exact Or.inl a
    · refine Or.inr ⟨a1, a2, a3, ?_⟩
      rcases a4 with b | ⟨d', p', b1, b2, b3⟩
      · exact Or.inl b
      · exact Or.inr ⟨d', p', b1, (hrc d').mpr (Or.inl b2), b3⟩
  · rcases (h6 p hp).2 with e | ⟨d, hd, hr, hs⟩
    · exact Or.inl e
    · exact Or.inr ⟨d, hd, (hrc d).mpr (Or.inl hr), hs⟩
/-- handing on along the chain: all but place d are seated well; the places of lesser rank are as they were -/
def hk_I (N D : Nat) (c : Nat → Nat → Int) (al : Nat → Nat → Prop) (M : Nat → Prop) (sit : Nat → Option Nat) (u v : Nat → Int) (rc : Nat → Prop) (rk : Nat → Nat) (cur : Nat → Option Nat) (d k : Nat) : Prop :=
  (∀ e p, e < D → e ≠ d → cur e = some p → p < N ∧ M p ∧ al p e ∧ u p + v e = c p e) ∧
  (∀ p, p < N → M p → ∃ e, e < D ∧ e ≠ d ∧ cur e = some p) ∧
  (∀ e e' p, e < D → e' < D → e ≠ d → e' ≠ d → cur e = some p → cur e' = some p → e = e') ∧
  (∀ e, rc e → rk e < k → cur e = sit e) ∧
  (∀ e, e < D → e ≠ d → cur e = none → v e = 0) ∧
  (rc d → rk d = k) ∧ d < D
theorem hk_start {N D : Nat} {c : Nat → Nat → Int} {al : Nat → Nat → Prop} {M : Nat → Prop} {sit : Nat → Option Nat} {u v : Nat → Int} {rc : Nat → Prop} {rk : Nat → Nat} {d0 n : Nat}
    (hM : hu_M N D c al M sit u v) (hz : ∀ d, d < D → sit d = none → v d = 0) (hd0 : d0 < D) (hr0 : ¬ rc d0) (hs0 : sit d0 = none) : hk_I N D c al M sit u v rc rk sit d0 n := by
  obtain ⟨h1, h2, h3⟩ := hM
  refine ⟨fun e p he _ hs => h1 e p he hs, fun p hp hMp => ?_, fun e e' p he he' _ _ hs hs' => h3 e e' p he he' hs hs', fun e _ _ => rfl, fun e he _ hs => hz e he hs, fun hr => absurd hr hr0, hd0⟩
  obtain ⟨e, he, hs⟩ := h2 p hp hMp
  exact ⟨e, he, (fun z => by rw [z, hs0] at hs; cases hs), hs⟩
theorem hk_step {N D : Nat} {c : Nat → Nat → Int} {al : Nat → Nat → Prop} {M : Nat → Prop} {sit : Nat → Option Nat} {u v : Nat → Int} {rc : Nat → Prop} {rk : Nat → Nat} {cur cur' : Nat → Option Nat} {d k d' p' : Nat}
    (hM : hu_M N D c al M sit u v) (h : hk_I N D c al M sit u v rc rk cur d k) (hrd : rc d' → d' < D) (hr : rc d') (hk : rk d' < k) (hs : sit d' = some p') (ha : al p' d) (ht : u p' + v d = c p' d)
    (hc1 : cur' d = some p') (hc2 : ∀ e, e ≠ d → cur' e = cur e) : hk_I N D c al M sit u v rc rk cur' d' (rk d') ∧ cur d' = some p' ∧ d' ≠ d := by
  obtain ⟨h1, h2, h3, h4, h5, h6, h7⟩ := h
  have hd' := hrd hr
  have hne : d' ≠ d := by
    intro e
    subst e
    have := h6 hr
    omega
  have hcd : cur d' = some p' := (h4 d' hr hk).trans hs
  have hmp := hM.1 d' p' hd' hs
  refine ⟨⟨fun e p he hne' hc => ?_, fun p hp hMp => ?_, fun e e' p he he' hn hn' hc hc' => ?_, fun e hre hke => ?_, fun e he hn hc => ?_, fun _ => rfl, hd'⟩, hcd, hne⟩
  · by_cases hed : e = d
    · subst hed
      rw [hc1] at hc
      cases hc
      exact ⟨hmp.1, hmp.2.1, ha, ht⟩
    · rw [hc2 e hed] at hc
      exact h1 e p he hed hc
  · obtain ⟨e, he, hne', hc⟩ := h2 p hp hMp
    by_cases hed : e = d'
    · subst hed
      rw [hcd] at hc
      cases hc
      exact ⟨d, h7, fun z => hne z.symm, hc1⟩
    · exact ⟨e, he, hed, by rw [hc2 e hne']; exact hc⟩
  · by_cases hed : e = d
    · by_cases hed' : e' = d
      · rw [hed, hed']
      · exfalso
        subst hed
        rw [hc1] at hc
        cases hc
        rw [hc2 e' hed'] at hc'
        exact hn' (h3 e' d' p' he' hd' hed' hne hc' hcd)
    · rw [hc2 e hed] at hc
      by_cases hed' : e' = d
      · exfalso
        subst hed'
        rw [hc1] at hc'
        cases hc'
        exact hn (h3 e d' p' he hd' hed hne hc hcd)
      · rw [hc2 e' hed'] at hc'
        exact h3 e e' p he he' hed hed' hc hc'
  · have hed : e ≠ d := by
      intro z
      subst z
      have := h6 hre
      omega
    rw [hc2 e hed]
    exact h4 e hre (by omega)
  · have hed : e ≠ d := by
      intro z
      subst z
      rw [hc1] at hc
      cases hc
    rw [hc2 e hed] at hc
    exact h5 e he hed hc
theorem hk_end {N D : Nat} {c : Nat → Nat → Int} {al : Nat → Nat → Prop} {M : Nat → Prop} {q : Nat} {sit : Nat → Option Nat} {u v : Nat → Int} {rc : Nat → Prop} {rk : Nat → Nat} {cur cur' : Nat → Option Nat} {d k : Nat}
    (hq : q < N) (hqM : ¬ M q) (h : hk_I N D c al M sit u v rc rk cur d k) (ha : al q d) (ht : u q + v d = c q d)
    (hc1 : cur' d = some q) (hc2 : ∀ e, e ≠ d → cur' e = cur e) : hu_M N D c al (fun p => M p ∨ p = q) cur' u v ∧ ∀ e, e < D → cur' e = none → v e = 0 := by
  obtain ⟨h1, h2, h3, h4, h5, h6, h7⟩ := h
  refine ⟨⟨fun e p he hc => ?_, fun p hp hMp => ?_, fun e e' p he he' hc hc' => ?_⟩, fun e he hc => ?_⟩
  · by_cases hed : e = d
    · subst hed
      rw [hc1] at hc
      cases hc
      exact ⟨hq, Or.inr rfl, ha, ht⟩
    · rw [hc2 e hed] at hc
      obtain ⟨a1, a2, a3, a4⟩ := h1 e p he hed hc
      exact ⟨a1, Or.inl a2, a3, a4⟩
  · rcases hMp with hMp | rfl
    · obtain ⟨e, he, hne, hc⟩ := h2 p hp hMp
      exact ⟨e, he, by rw [hc2 e hne]; exact hc⟩
    · exact ⟨d, h7, hc1⟩
  · by_cases hed : e = d
    · by_cases hed' : e' = d
      · rw [hed, hed']
      · exfalso
        subst hed
        rw [hc1] at hc
        cases hc
        rw [hc2 e' hed'] at hc'
        exact hqM (h1 e' q he' hed' hc').2.1
    · rw [hc2 e hed] at hc
      by_cases hed' : e' = d
      · exfalso
        subst hed'
        rw [hc1] at hc'
        cases hc'
        exact hqM (h1 e q he hed hc).2.1
      · rw [hc2 e' hed'] at hc'
        exact h3 e e' p he he' hed hed' hc hc'
  · have hed : e ≠ d := by
      intro z
      subst z
      rw [hc1] at hc
      cases hc
    rw [hc2 e hed] at hc
    exact h5 e he hed hc
/-- the nearest place is free: behind the handing on the members are one more -/
theorem hs_done {N D : Nat} {c : Nat → Nat → Int} {al : Nat → Nat → Prop} {C F : Int} {M : Nat → Prop} {q : Nat} {sit sit' : Nat → Option Nat} {u v dist : Nat → Int} {bef : Nat → Option Nat} {rc : Nat → Prop} {rk : Nat → Nat} {n : Nat} {Lk : Nat → Prop} {d0 : Nat}
    (hq : q < N) (hc : ∀ p d, p < N → d < D → 0 ≤ c p d ∧ c p d ≤ C) (hn14 : n ≤ 13) (h : hs_J N D c al C M q sit F u v dist bef rc rk n Lk d0) (hd0 : d0 < D) (hs0 : sit d0 = none)
    (hM' : hu_M N D c al (fun p => M p ∨ p = q) sit' u v) (hz : ∀ e, e < D → sit' e = none → v e = 0) : hu_I N D c al C (fun p => M p ∨ p = q) sit' u v := by
  obtain ⟨⟨h1, h2, h3, h4, h5, h6, h7⟩, h8⟩ := h
  have hCn : 0 ≤ C := by
    have := hc q d0 hq hd0
    omega
  have hpr := hs_price hq hc h1 (fun d hr => ⟨(h4 d hr).1, (h4 d hr).2.2⟩)
  have hp0 := hpr n d0 hd0 h8
  have hv0 := ((h3 d0 hd0).2.1 hs0).1
  have e1 : ((n : Int) + 1) * C ≤ 14 * C := Int.mul_le_mul_of_nonneg_right (by omega) hCn
  refine ⟨hM', fun d hd => ⟨?_, (h3 d hd).1, hz d hd⟩, fun p d hp hMp hd ha => h2 p d hp hMp hd ha⟩
  by_cases hr : rc d
  · have hk := (h4 d hr).2.1
    have := hpr (rk d) d hd (h4 d hr).2.2
    have e2 : ((rk d : Int)) * C ≤ 13 * C := Int.mul_le_mul_of_nonneg_right (by omega) hCn
    omega
  · exact (h3 d hd).2.2 hr
end
section
-- ===== PART A: goes FIRST, ahead of the names: the tables' words, and 'selects' of the private methods out of them =====
/-- a private method of a class that the tables say can be made, by its rows of tables_1 -/
def lw_okq (q : MethodName × Nat) : Prop := (q.1.cls ≠ "java/lang/invoke/MethodHandle" ∧ q.1.cls ≠ "java/lang/invoke/VarHandle") ∧ Cond.instantiable q.1.cls q.2 ∈ tables_1 ∧ Cond.privateMethod q.1 ∈ tables_1 ∧ Cond.instanceMethod q.1 ∈ tables_1
theorem lw_p0 : lw_okq (⟨"DeskMoves$Matcher", "clearSpots", "(I)V"⟩, 2) := ⟨⟨by decide +kernel, by decide +kernel⟩, List.mem_of_getElem? (i := 26) (by decide +kernel), List.mem_of_getElem? (i := 195) (by decide +kernel), List.mem_of_getElem? (i := 196) (by decide +kernel)⟩
theorem lw_p1 : lw_okq (⟨"DeskMoves$Matcher", "addPerson", "(LDeskMoves$Person;)Z"⟩, 2) := ⟨⟨by decide +kernel, by decide +kernel⟩, List.mem_of_getElem? (i := 26) (by decide +kernel), List.mem_of_getElem? (i := 202) (by decide +kernel), List.mem_of_getElem? (i := 203) (by decide +kernel)⟩
theorem lw_p2 : lw_okq (⟨"DeskMoves$Matcher", "startSearch", "()V"⟩, 2) := ⟨⟨by decide +kernel, by decide +kernel⟩, List.mem_of_getElem? (i := 26) (by decide +kernel), List.mem_of_getElem? (i := 206) (by decide +kernel), List.mem_of_getElem? (i := 207) (by decide +kernel)⟩
theorem lw_p3 : lw_okq (⟨"DeskMoves$Matcher", "lookFrom", "(LDeskMoves$Person;LDeskMoves$Spot;)V"⟩, 2) := ⟨⟨by decide +kernel, by decide +kernel⟩, List.mem_of_getElem? (i := 26) (by decide +kernel), List.mem_of_getElem? (i := 211) (by decide +kernel), List.mem_of_getElem? (i := 212) (by decide +kernel)⟩
theorem lw_p4 : lw_okq (⟨"DeskMoves$Matcher", "nearestSpot", "()LDeskMoves$Spot;"⟩, 2) := ⟨⟨by decide +kernel, by decide +kernel⟩, List.mem_of_getElem? (i := 26) (by decide +kernel), List.mem_of_getElem? (i := 225) (by decide +kernel), List.mem_of_getElem? (i := 226) (by decide +kernel)⟩
theorem lw_p5 : lw_okq (⟨"DeskMoves$Matcher", "shiftPrices", "(LDeskMoves$Person;J)V"⟩, 2) := ⟨⟨by decide +kernel, by decide +kernel⟩, List.mem_of_getElem? (i := 26) (by decide +kernel), List.mem_of_getElem? (i := 229) (by decide +kernel), List.mem_of_getElem? (i := 230) (by decide +kernel)⟩
theorem lw_p6 : lw_okq (⟨"DeskMoves$Matcher", "handOn", "(LDeskMoves$Spot;LDeskMoves$Person;)V"⟩, 2) := ⟨⟨by decide +kernel, by decide +kernel⟩, List.mem_of_getElem? (i := 26) (by decide +kernel), List.mem_of_getElem? (i := 233) (by decide +kernel), List.mem_of_getElem? (i := 234) (by decide +kernel)⟩
theorem lw_p7 : lw_okq (⟨"DeskMoves$Matcher", "worthOfSpots", "()I"⟩, 2) := ⟨⟨by decide +kernel, by decide +kernel⟩, List.mem_of_getElem? (i := 26) (by decide +kernel), List.mem_of_getElem? (i := 237) (by decide +kernel), List.mem_of_getElem? (i := 238) (by decide +kernel)⟩
theorem lw_p8 : lw_okq (⟨"DeskMoves$Walk", "sitAtOldDesks", "([LDeskMoves$Person;I)V"⟩, 6) := ⟨⟨by decide +kernel, by decide +kernel⟩, List.mem_of_getElem? (i := 62) (by decide +kernel), List.mem_of_getElem? (i := 249) (by decide +kernel), List.mem_of_getElem? (i := 250) (by decide +kernel)⟩
theorem lw_p9 : lw_okq (⟨"DeskMoves$Walk", "firstWhoCanGoHome", "([LDeskMoves$Person;I)LDeskMoves$Person;"⟩, 6) := ⟨⟨by decide +kernel, by decide +kernel⟩, List.mem_of_getElem? (i := 62) (by decide +kernel), List.mem_of_getElem? (i := 253) (by decide +kernel), List.mem_of_getElem? (i := 254) (by decide +kernel)⟩
theorem lw_p10 : lw_okq (⟨"DeskMoves$Walk", "isFree", "(I)Z"⟩, 6) := ⟨⟨by decide +kernel, by decide +kernel⟩, List.mem_of_getElem? (i := 62) (by decide +kernel), List.mem_of_getElem? (i := 257) (by decide +kernel), List.mem_of_getElem? (i := 258) (by decide +kernel)⟩
theorem lw_p11 : lw_okq (⟨"DeskMoves$Walk", "go", "(LDeskMoves$Person;I)V"⟩, 6) := ⟨⟨by decide +kernel, by decide +kernel⟩, List.mem_of_getElem? (i := 62) (by decide +kernel), List.mem_of_getElem? (i := 261) (by decide +kernel), List.mem_of_getElem? (i := 262) (by decide +kernel)⟩
theorem lw_p12 : lw_okq (⟨"DeskMoves$Walk", "firstNotHome", "([LDeskMoves$Person;I)LDeskMoves$Person;"⟩, 6) := ⟨⟨by decide +kernel, by decide +kernel⟩, List.mem_of_getElem? (i := 62) (by decide +kernel), List.mem_of_getElem? (i := 265) (by decide +kernel), List.mem_of_getElem? (i := 266) (by decide +kernel)⟩
theorem lw_p13 : lw_okq (⟨"DeskMoves$Walk", "firstFreeDesk", "(I)I"⟩, 6) := ⟨⟨by decide +kernel, by decide +kernel⟩, List.mem_of_getElem? (i := 62) (by decide +kernel), List.mem_of_getElem? (i := 269) (by decide +kernel), List.mem_of_getElem? (i := 270) (by decide +kernel)⟩
theorem lw_p14 : lw_okq (⟨"java/lang/Throwable", "fillInStackTrace", "(I)Ljava/lang/Throwable;"⟩, 6) := ⟨⟨by decide +kernel, by decide +kernel⟩, List.mem_of_getElem? (i := 331) (by decide +kernel), List.mem_of_getElem? (i := 329) (by decide +kernel), List.mem_of_getElem? (i := 330) (by decide +kernel)⟩
theorem lw_p15 : lw_okq (⟨"DeskMoves", "checkPerson", "(I)V"⟩, 11) := ⟨⟨by decide +kernel, by decide +kernel⟩, List.mem_of_getElem? (i := 16) (by decide +kernel), List.mem_of_getElem? (i := 377) (by decide +kernel), List.mem_of_getElem? (i := 378) (by decide +kernel)⟩
def lw_privs_1 : List (MethodName × Nat) := [(⟨"DeskMoves$Matcher", "clearSpots", "(I)V"⟩, 2), (⟨"DeskMoves$Matcher", "addPerson", "(LDeskMoves$Person;)Z"⟩, 2), (⟨"DeskMoves$Matcher", "startSearch", "()V"⟩, 2), (⟨"DeskMoves$Matcher", "lookFrom", "(LDeskMoves$Person;LDeskMoves$Spot;)V"⟩, 2), (⟨"DeskMoves$Matcher", "nearestSpot", "()LDeskMoves$Spot;"⟩, 2), (⟨"DeskMoves$Matcher", "shiftPrices", "(LDeskMoves$Person;J)V"⟩, 2), (⟨"DeskMoves$Matcher", "handOn", "(LDeskMoves$Spot;LDeskMoves$Person;)V"⟩, 2), (⟨"DeskMoves$Matcher", "worthOfSpots", "()I"⟩, 2), (⟨"DeskMoves$Walk", "sitAtOldDesks", "([LDeskMoves$Person;I)V"⟩, 6), (⟨"DeskMoves$Walk", "firstWhoCanGoHome", "([LDeskMoves$Person;I)LDeskMoves$Person;"⟩, 6), (⟨"DeskMoves$Walk", "isFree", "(I)Z"⟩, 6), (⟨"DeskMoves$Walk", "go", "(LDeskMoves$Person;I)V"⟩, 6), (⟨"DeskMoves$Walk", "firstNotHome", "([LDeskMoves$Person;I)LDeskMoves$Person;"⟩, 6), (⟨"DeskMoves$Walk", "firstFreeDesk", "(I)I"⟩, 6), (⟨"java/lang/Throwable", "fillInStackTrace", "(I)Ljava/lang/Throwable;"⟩, 6), (⟨"DeskMoves", "checkPerson", "(I)V"⟩, 11)]
theorem lw_r1 : ∀ q ∈ lw_privs_1, lw_okq q := List.forall_mem_cons.mpr ⟨lw_p0, List.forall_mem_cons.mpr ⟨lw_p1, List.forall_mem_cons.mpr ⟨lw_p2, List.forall_mem_cons.mpr ⟨lw_p3, List.forall_mem_cons.mpr ⟨lw_p4, List.forall_mem_cons.mpr ⟨lw_p5, List.forall_mem_cons.mpr ⟨lw_p6, List.forall_mem_cons.mpr ⟨lw_p7, List.forall_mem_cons.mpr ⟨lw_p8, List.forall_mem_cons.mpr ⟨lw_p9, List.forall_mem_cons.mpr ⟨lw_p10, List.forall_mem_cons.mpr ⟨lw_p11, List.forall_mem_cons.mpr ⟨lw_p12, List.forall_mem_cons.mpr ⟨lw_p13, List.forall_mem_cons.mpr ⟨lw_p14, List.forall_mem_cons.mpr ⟨lw_p15, fun _ h => absurd h List.not_mem_nil⟩⟩⟩⟩⟩⟩⟩⟩⟩⟩⟩⟩⟩⟩⟩⟩
theorem lw_p16 : lw_okq (⟨"DeskMoves", "checkDesk", "(I)V"⟩, 11) := ⟨⟨by decide +kernel, by decide +kernel⟩, List.mem_of_getElem? (i := 16) (by decide +kernel), List.mem_of_getElem? (i := 397) (by decide +kernel), List.mem_of_getElem? (i := 398) (by decide +kernel)⟩
theorem lw_p17 : lw_okq (⟨"DeskMoves", "checkNobodyElseHas", "(II)V"⟩, 11) := ⟨⟨by decide +kernel, by decide +kernel⟩, List.mem_of_getElem? (i := 16) (by decide +kernel), List.mem_of_getElem? (i := 417) (by decide +kernel), List.mem_of_getElem? (i := 418) (by decide +kernel)⟩
theorem lw_p18 : lw_okq (⟨"DeskMoves", "checkSeatingMade", "()V"⟩, 11) := ⟨⟨by decide +kernel, by decide +kernel⟩, List.mem_of_getElem? (i := 16) (by decide +kernel), List.mem_of_getElem? (i := 436) (by decide +kernel), List.mem_of_getElem? (i := 437) (by decide +kernel)⟩
theorem lw_p19 : lw_okq (⟨"DeskMoves", "bestRoom", "(III)LDeskMoves$Room;"⟩, 11) := ⟨⟨by decide +kernel, by decide +kernel⟩, List.mem_of_getElem? (i := 16) (by decide +kernel), List.mem_of_getElem? (i := 483) (by decide +kernel), List.mem_of_getElem? (i := 484) (by decide +kernel)⟩
theorem lw_p20 : lw_okq (⟨"DeskMoves", "bookingNumbered", "(I)LDeskMoves$Booking;"⟩, 11) := ⟨⟨by decide +kernel, by decide +kernel⟩, List.mem_of_getElem? (i := 16) (by decide +kernel), List.mem_of_getElem? (i := 531) (by decide +kernel), List.mem_of_getElem? (i := 532) (by decide +kernel)⟩
theorem lw_p21 : lw_okq (⟨"DeskMoves", "checkRoom", "(I)V"⟩, 11) := ⟨⟨by decide +kernel, by decide +kernel⟩, List.mem_of_getElem? (i := 16) (by decide +kernel), List.mem_of_getElem? (i := 554) (by decide +kernel), List.mem_of_getElem? (i := 555) (by decide +kernel)⟩
theorem lw_p22 : lw_okq (⟨"DeskMoves", "checkMinute", "(I)V"⟩, 11) := ⟨⟨by decide +kernel, by decide +kernel⟩, List.mem_of_getElem? (i := 16) (by decide +kernel), List.mem_of_getElem? (i := 559) (by decide +kernel), List.mem_of_getElem? (i := 560) (by decide +kernel)⟩
theorem lw_p23 : lw_okq (⟨"DeskMovesModel", "isPerson", "(I)Z"⟩, 24) := ⟨⟨by decide +kernel, by decide +kernel⟩, List.mem_of_getElem? (i := 576) (by decide +kernel), List.mem_of_getElem? (i := 671) (by decide +kernel), List.mem_of_getElem? (i := 672) (by decide +kernel)⟩
theorem lw_p24 : lw_okq (⟨"DeskMovesModel", "isDesk", "(I)Z"⟩, 24) := ⟨⟨by decide +kernel, by decide +kernel⟩, List.mem_of_getElem? (i := 576) (by decide +kernel), List.mem_of_getElem? (i := 678) (by decide +kernel), List.mem_of_getElem? (i := 679) (by decide +kernel)⟩
theorem lw_p25 : lw_okq (⟨"DeskMovesModel", "findBest", "(I)I"⟩, 24) := ⟨⟨by decide +kernel, by decide +kernel⟩, List.mem_of_getElem? (i := 576) (by decide +kernel), List.mem_of_getElem? (i := 694) (by decide +kernel), List.mem_of_getElem? (i := 695) (by decide +kernel)⟩
theorem lw_p26 : lw_okq (⟨"DeskMovesModel", "value", "(II)I"⟩, 24) := ⟨⟨by decide +kernel, by decide +kernel⟩, List.mem_of_getElem? (i := 576) (by decide +kernel), List.mem_of_getElem? (i := 702) (by decide +kernel), List.mem_of_getElem? (i := 703) (by decide +kernel)⟩
theorem lw_p27 : lw_okq (⟨"DeskMovesModel", "isMove", "(II)Z"⟩, 24) := ⟨⟨by decide +kernel, by decide +kernel⟩, List.mem_of_getElem? (i := 576) (by decide +kernel), List.mem_of_getElem? (i := 706) (by decide +kernel), List.mem_of_getElem? (i := 707) (by decide +kernel)⟩
theorem lw_p28 : lw_okq (⟨"DeskMovesModel", "walk", "()V"⟩, 24) := ⟨⟨by decide +kernel, by decide +kernel⟩, List.mem_of_getElem? (i := 576) (by decide +kernel), List.mem_of_getElem? (i := 713) (by decide +kernel), List.mem_of_getElem? (i := 714) (by decide +kernel)⟩
theorem lw_p29 : lw_okq (⟨"DeskMovesModel", "goes", "()Z"⟩, 24) := ⟨⟨by decide +kernel, by decide +kernel⟩, List.mem_of_getElem? (i := 576) (by decide +kernel), List.mem_of_getElem? (i := 717) (by decide +kernel), List.mem_of_getElem? (i := 718) (by decide +kernel)⟩
theorem lw_p30 : lw_okq (⟨"DeskMovesModel", "isFree", "(I)Z"⟩, 24) := ⟨⟨by decide +kernel, by decide +kernel⟩, List.mem_of_getElem? (i := 576) (by decide +kernel), List.mem_of_getElem? (i := 721) (by decide +kernel), List.mem_of_getElem? (i := 722) (by decide +kernel)⟩
theorem lw_p31 : lw_okq (⟨"DeskMovesModel", "go", "(II)V"⟩, 24) := ⟨⟨by decide +kernel, by decide +kernel⟩, List.mem_of_getElem? (i := 576) (by decide +kernel), List.mem_of_getElem? (i := 725) (by decide +kernel), List.mem_of_getElem? (i := 726) (by decide +kernel)⟩
def lw_privs_2 : List (MethodName × Nat) := [(⟨"DeskMoves", "checkDesk", "(I)V"⟩, 11), (⟨"DeskMoves", "checkNobodyElseHas", "(II)V"⟩, 11), (⟨"DeskMoves", "checkSeatingMade", "()V"⟩, 11), (⟨"DeskMoves", "bestRoom", "(III)LDeskMoves$Room;"⟩, 11), (⟨"DeskMoves", "bookingNumbered", "(I)LDeskMoves$Booking;"⟩, 11), (⟨"DeskMoves", "checkRoom", "(I)V"⟩, 11), (⟨"DeskMoves", "checkMinute", "(I)V"⟩, 11), (⟨"DeskMovesModel", "isPerson", "(I)Z"⟩, 24), (⟨"DeskMovesModel", "isDesk", "(I)Z"⟩, 24), (⟨"DeskMovesModel", "findBest", "(I)I"⟩, 24), (⟨"DeskMovesModel", "value", "(II)I"⟩, 24), (⟨"DeskMovesModel", "isMove", "(II)Z"⟩, 24), (⟨"DeskMovesModel", "walk", "()V"⟩, 24), (⟨"DeskMovesModel", "goes", "()Z"⟩, 24), (⟨"DeskMovesModel", "isFree", "(I)Z"⟩, 24), (⟨"DeskMovesModel", "go", "(II)V"⟩, 24)]
theorem lw_r2 : ∀ q ∈ lw_privs_2, lw_okq q := List.forall_mem_cons.mpr ⟨lw_p16, List.forall_mem_cons.mpr ⟨lw_p17, List.forall_mem_cons.mpr ⟨lw_p18, List.forall_mem_cons.mpr ⟨lw_p19, List.forall_mem_cons.mpr ⟨lw_p20, List.forall_mem_cons.mpr ⟨lw_p21, List.forall_mem_cons.mpr ⟨lw_p22, List.forall_mem_cons.mpr ⟨lw_p23, List.forall_mem_cons.mpr ⟨lw_p24, List.forall_mem_cons.mpr ⟨lw_p25, List.forall_mem_cons.mpr ⟨lw_p26, List.forall_mem_cons.mpr ⟨lw_p27, List.forall_mem_cons.mpr ⟨lw_p28, List.forall_mem_cons.mpr ⟨lw_p29, List.forall_mem_cons.mpr ⟨lw_p30, List.forall_mem_cons.mpr ⟨lw_p31, fun _ h => absurd h List.not_mem_nil⟩⟩⟩⟩⟩⟩⟩⟩⟩⟩⟩⟩⟩⟩⟩⟩
theorem lw_p32 : lw_okq (⟨"DeskMovesModel", "meeting", "(III)I"⟩, 24) := ⟨⟨by decide +kernel, by decide +kernel⟩, List.mem_of_getElem? (i := 576) (by decide +kernel), List.mem_of_getElem? (i := 761) (by decide +kernel), List.mem_of_getElem? (i := 762) (by decide +kernel)⟩
theorem lw_p33 : lw_okq (⟨"DeskMovesModel", "isRoom", "(I)Z"⟩, 24) := ⟨⟨by decide +kernel, by decide +kernel⟩, List.mem_of_getElem? (i := 576) (by decide +kernel), List.mem_of_getElem? (i := 777) (by decide +kernel), List.mem_of_getElem? (i := 778) (by decide +kernel)⟩
def lw_privs_3 : List (MethodName × Nat) := [(⟨"DeskMovesModel", "meeting", "(III)I"⟩, 24), (⟨"DeskMovesModel", "isRoom", "(I)Z"⟩, 24)]
theorem lw_r3 : ∀ q ∈ lw_privs_3, lw_okq q := List.forall_mem_cons.mpr ⟨lw_p32, List.forall_mem_cons.mpr ⟨lw_p33, fun _ h => absurd h List.not_mem_nil⟩⟩
def lw_privs : List (MethodName × Nat) := lw_privs_1 ++ (lw_privs_2 ++ (lw_privs_3))
def lw_tbl : List Cond := k2_sels lw_privs ++ tables_1
theorem lw_privs_ok : ∀ q ∈ lw_privs, lw_okq q := by
  show ∀ q ∈ lw_privs_1 ++ (lw_privs_2 ++ (lw_privs_3)), lw_okq q
  exact List.forall_mem_append.mpr ⟨lw_r1, List.forall_mem_append.mpr ⟨lw_r2, lw_r3⟩⟩
def tb_G : List Cond := lw_tbl.filter goodWord
theorem tb_good {w : Cond} (h : w ∈ tb_G) : goodWord w = true := (List.mem_filter.mp h).2
theorem tb_sub {w : Cond} (h : w ∈ tb_G) : w ∈ lw_tbl := (List.mem_filter.mp h).1
theorem tb_in (i : Nat) {w : Cond} (h : lw_tbl[i]? = some w) (g : goodWord w = true) : w ∈ tb_G := List.mem_filter.mpr ⟨List.mem_of_getElem? h, g⟩
theorem tb_GoodIn {y : Cond} (hy : y ∈ tb_G) : GoodIn tb_G (y :: tb_G) := fun w hw => by
  rcases List.mem_cons.mp hw with rfl | h
  · exact ⟨hy, good_of_word (tb_good hy)⟩
  · exact ⟨h, good_of_word (tb_good h)⟩
end
section
def R_Bk : String := "DeskMoves$Booking"
def R_Ma : String := "DeskMoves$Matcher"
def R_Pe : String := "DeskMoves$Person"
def R_Ro : String := "DeskMoves$Room"
def R_Sp : String := "DeskMoves$Spot"
def R_Wa : String := "DeskMoves$Walk"
def R_De : String := "DeskMoves"
def R_Mo : String := "DeskMovesModel"
def R_La : String := "DeskMovesLaw"
def R_Th : String := "java/lang/Throwable"
def R_Ex : String := "java/lang/Exception"
def R_Re : String := "java/lang/RuntimeException"
def R_Is : String := "java/lang/IllegalStateException"
def R_Ia : String := "java/lang/IllegalArgumentException"
def R_Mt : String := "java/lang/Math"
abbrev b_De_init : ByteArray := prog_1_method_1_code
def y_De_init : MethodName := ⟨R_De, "<init>", "()V"⟩
abbrev b_Ma_init : ByteArray := prog_3_method_1_code
def y_Ma_init : MethodName := ⟨R_Ma, "<init>", "()V"⟩
abbrev b_Sp_init : ByteArray := prog_6_method_1_code
def y_Sp_init : MethodName := ⟨R_Sp, "<init>", "()V"⟩
abbrev b_Wa_init : ByteArray := prog_7_method_1_code
def y_Wa_init : MethodName := ⟨R_Wa, "<init>", "()V"⟩
abbrev b_Pe_init : ByteArray := prog_4_method_1_code
def y_Pe_init : MethodName := ⟨R_Pe, "<init>", "(I)V"⟩
abbrev b_Ro_init : ByteArray := prog_5_method_1_code
def y_Ro_init : MethodName := ⟨R_Ro, "<init>", "(I)V"⟩
abbrev b_De_seat : ByteArray := prog_1_method_7_code
def y_De_seat : MethodName := ⟨R_De, "seat", "()I"⟩
abbrev b_Ma_match : ByteArray := prog_3_method_2_code
def y_Ma_match : MethodName := ⟨R_Ma, "match", "([LDeskMoves$Person;III)I"⟩
abbrev b_Ma_clearSpots : ByteArray := prog_3_method_4_code
def y_Ma_clearSpots : MethodName := ⟨R_Ma, "clearSpots", "(I)V"⟩
abbrev b_Mt_min : ByteArray := prog_13_method_69_code
def y_Mt_min : MethodName := ⟨R_Mt, "min", "(II)I"⟩
abbrev b_Ma_addPerson : ByteArray := prog_3_method_6_code
def y_Ma_addPerson : MethodName := ⟨R_Ma, "addPerson", "(LDeskMoves$Person;)Z"⟩
abbrev b_Ma_startSearch : ByteArray := prog_3_method_7_code
def y_Ma_startSearch : MethodName := ⟨R_Ma, "startSearch", "()V"⟩
abbrev b_Ma_lookFrom : ByteArray := prog_3_method_8_code
def y_Ma_lookFrom : MethodName := ⟨R_Ma, "lookFrom", "(LDeskMoves$Person;LDeskMoves$Spot;)V"⟩
abbrev b_Pe_costAt : ByteArray := prog_4_method_3_code
def y_Pe_costAt : MethodName := ⟨R_Pe, "costAt", "(I)J"⟩
abbrev b_Pe_wouldMoveTo : ByteArray := prog_4_method_2_code
def y_Pe_wouldMoveTo : MethodName := ⟨R_Pe, "wouldMoveTo", "(I)Z"⟩
abbrev b_Ma_nearestSpot : ByteArray := prog_3_method_9_code
def y_Ma_nearestSpot : MethodName := ⟨R_Ma, "nearestSpot", "()LDeskMoves$Spot;"⟩
abbrev b_Ma_shiftPrices : ByteArray := prog_3_method_10_code
def y_Ma_shiftPrices : MethodName := ⟨R_Ma, "shiftPrices", "(LDeskMoves$Person;J)V"⟩
abbrev b_Ma_handOn : ByteArray := prog_3_method_11_code
def y_Ma_handOn : MethodName := ⟨R_Ma, "handOn", "(LDeskMoves$Spot;LDeskMoves$Person;)V"⟩
abbrev b_Ma_worthOfSpots : ByteArray := prog_3_method_5_code
def y_Ma_worthOfSpots : MethodName := ⟨R_Ma, "worthOfSpots", "()I"⟩
abbrev b_Ma_tellPersons : ByteArray := prog_3_method_3_code
def y_Ma_tellPersons : MethodName := ⟨R_Ma, "tellPersons", "()V"⟩
abbrev b_Wa_plan : ByteArray := prog_7_method_2_code
def y_Wa_plan : MethodName := ⟨R_Wa, "plan", "([LDeskMoves$Person;II)V"⟩
abbrev b_Wa_sitAtOldDesks : ByteArray := prog_7_method_3_code
def y_Wa_sitAtOldDesks : MethodName := ⟨R_Wa, "sitAtOldDesks", "([LDeskMoves$Person;I)V"⟩
abbrev b_Wa_firstWhoCanGoHome : ByteArray := prog_7_method_4_code
def y_Wa_firstWhoCanGoHome : MethodName := ⟨R_Wa, "firstWhoCanGoHome", "([LDeskMoves$Person;I)LDeskMoves$Person;"⟩
abbrev b_Wa_isFree : ByteArray := prog_7_method_7_code
def y_Wa_isFree : MethodName := ⟨R_Wa, "isFree", "(I)Z"⟩
abbrev b_Wa_go : ByteArray := prog_7_method_8_code
def y_Wa_go : MethodName := ⟨R_Wa, "go", "(LDeskMoves$Person;I)V"⟩
abbrev b_Wa_firstNotHome : ByteArray := prog_7_method_5_code
def y_Wa_firstNotHome : MethodName := ⟨R_Wa, "firstNotHome", "([LDeskMoves$Person;I)LDeskMoves$Person;"⟩
abbrev b_Wa_firstFreeDesk : ByteArray := prog_7_method_6_code
def y_Wa_firstFreeDesk : MethodName := ⟨R_Wa, "firstFreeDesk", "(I)I"⟩
abbrev b_De_moved : ByteArray := prog_1_method_9_code
def y_De_moved : MethodName := ⟨R_De, "moved", "()I"⟩
abbrev b_De_waste : ByteArray := prog_1_method_20_code
def y_De_waste : MethodName := ⟨R_De, "waste", "()I"⟩
abbrev b_Ro_placesLeftOver : ByteArray := prog_5_method_4_code
def y_Ro_placesLeftOver : MethodName := ⟨R_Ro, "placesLeftOver", "()I"⟩
abbrev b_La_desk : ByteArray := method_3_code
def y_La_desk : MethodName := ⟨R_La, "desk", "(LDeskMoves;[J)I"⟩
abbrev b_De_desk : ByteArray := prog_1_method_2_code
def y_De_desk : MethodName := ⟨R_De, "desk", "()I"⟩
abbrev b_Th_init___V : ByteArray := prog_16_method_1_code
def y_Th_init___V : MethodName := ⟨R_Th, "<init>", "()V"⟩
abbrev b_Th_init__Ljava_lang_String__V : ByteArray := prog_16_method_2_code
def y_Th_init__Ljava_lang_String__V : MethodName := ⟨R_Th, "<init>", "(Ljava/lang/String;)V"⟩
abbrev b_Is_init__Ljava_lang_String__V : ByteArray := prog_12_method_2_code
def y_Is_init__Ljava_lang_String__V : MethodName := ⟨R_Is, "<init>", "(Ljava/lang/String;)V"⟩
abbrev b_Re_init__Ljava_lang_String__V : ByteArray := prog_14_method_2_code
def y_Re_init__Ljava_lang_String__V : MethodName := ⟨R_Re, "<init>", "(Ljava/lang/String;)V"⟩
abbrev b_Ex_init__Ljava_lang_String__V : ByteArray := prog_10_method_2_code
def y_Ex_init__Ljava_lang_String__V : MethodName := ⟨R_Ex, "<init>", "(Ljava/lang/String;)V"⟩
abbrev b_La_person : ByteArray := method_4_code
def y_La_person : MethodName := ⟨R_La, "person", "(LDeskMoves;[J)I"⟩
abbrev b_De_person : ByteArray := prog_1_method_3_code
def y_De_person : MethodName := ⟨R_De, "person", "()I"⟩
abbrev b_La_wish : ByteArray := method_5_code
def y_La_wish : MethodName := ⟨R_La, "wish", "(LDeskMoves;III[J)I"⟩
abbrev b_De_wish : ByteArray := prog_1_method_4_code
def y_De_wish : MethodName := ⟨R_De, "wish", "(III)I"⟩
abbrev b_De_checkPerson : ByteArray := prog_1_method_21_code
def y_De_checkPerson : MethodName := ⟨R_De, "checkPerson", "(I)V"⟩
abbrev b_Ia_init__Ljava_lang_String__V : ByteArray := prog_11_method_2_code
def y_Ia_init__Ljava_lang_String__V : MethodName := ⟨R_Ia, "<init>", "(Ljava/lang/String;)V"⟩
abbrev b_De_checkDesk : ByteArray := prog_1_method_22_code
def y_De_checkDesk : MethodName := ⟨R_De, "checkDesk", "(I)V"⟩
abbrev b_La_bar : ByteArray := method_6_code
def y_La_bar : MethodName := ⟨R_La, "bar", "(LDeskMoves;IIZ[J)I"⟩
abbrev b_De_bar : ByteArray := prog_1_method_5_code
def y_De_bar : MethodName := ⟨R_De, "bar", "(IIZ)Z"⟩
abbrev b_La_sits : ByteArray := method_7_code
def y_La_sits : MethodName := ⟨R_La, "sits", "(LDeskMoves;II[J)I"⟩
abbrev b_De_sits : ByteArray := prog_1_method_6_code
def y_De_sits : MethodName := ⟨R_De, "sits", "(II)I"⟩
abbrev b_De_checkNobodyElseHas : ByteArray := prog_1_method_26_code
def y_De_checkNobodyElseHas : MethodName := ⟨R_De, "checkNobodyElseHas", "(II)V"⟩
abbrev b_La_deskOf : ByteArray := method_8_code
def y_La_deskOf : MethodName := ⟨R_La, "deskOf", "(LDeskMoves;I[J)I"⟩
abbrev b_De_deskOf : ByteArray := prog_1_method_8_code
def y_De_deskOf : MethodName := ⟨R_De, "deskOf", "(I)I"⟩
abbrev b_La_steps : ByteArray := method_9_code
def y_La_steps : MethodName := ⟨R_La, "steps", "(LDeskMoves;[J)I"⟩
abbrev b_De_steps : ByteArray := prog_1_method_10_code
def y_De_steps : MethodName := ⟨R_De, "steps", "()I"⟩
abbrev b_De_checkSeatingMade : ByteArray := prog_1_method_25_code
def y_De_checkSeatingMade : MethodName := ⟨R_De, "checkSeatingMade", "()V"⟩
abbrev b_La_step : ByteArray := method_10_code
def y_La_step : MethodName := ⟨R_La, "step", "(LDeskMoves;II[J)I"⟩
abbrev b_De_step : ByteArray := prog_1_method_11_code
def y_De_step : MethodName := ⟨R_De, "step", "(II)I"⟩
abbrev b_La_settle : ByteArray := method_11_code
def y_La_settle : MethodName := ⟨R_La, "settle", "(LDeskMoves;[J)I"⟩
abbrev b_De_settle : ByteArray := prog_1_method_12_code
def y_De_settle : MethodName := ⟨R_De, "settle", "()I"⟩
abbrev b_La_worthOf : ByteArray := method_12_code
def y_La_worthOf : MethodName := ⟨R_La, "worthOf", "(LDeskMoves;I[J)I"⟩
abbrev b_De_worthOf : ByteArray := prog_1_method_13_code
def y_De_worthOf : MethodName := ⟨R_De, "worthOf", "(I)I"⟩
abbrev b_La_room : ByteArray := method_13_code
def y_La_room : MethodName := ⟨R_La, "room", "(LDeskMoves;I[J)I"⟩
abbrev b_De_room : ByteArray := prog_1_method_14_code
def y_De_room : MethodName := ⟨R_De, "room", "(I)I"⟩
abbrev b_La_book : ByteArray := method_14_code
def y_La_book : MethodName := ⟨R_La, "book", "(LDeskMoves;III[J)I"⟩
abbrev b_De_book : ByteArray := prog_1_method_15_code
def y_De_book : MethodName := ⟨R_De, "book", "(III)I"⟩
abbrev b_De_bestRoom : ByteArray := prog_1_method_28_code
def y_De_bestRoom : MethodName := ⟨R_De, "bestRoom", "(III)LDeskMoves$Room;"⟩
abbrev b_Ro_bookingWithin : ByteArray := prog_5_method_2_code
def y_Ro_bookingWithin : MethodName := ⟨R_Ro, "bookingWithin", "(II)LDeskMoves$Booking;"⟩
abbrev b_Bk_init : ByteArray := prog_2_method_1_code
def y_Bk_init : MethodName := ⟨R_Bk, "<init>", "(ILDeskMoves$Room;III)V"⟩
abbrev b_Ro_add : ByteArray := prog_5_method_5_code
def y_Ro_add : MethodName := ⟨R_Ro, "add", "(LDeskMoves$Booking;)V"⟩
abbrev b_La_cancel : ByteArray := method_15_code
def y_La_cancel : MethodName := ⟨R_La, "cancel", "(LDeskMoves;I[J)I"⟩
abbrev b_De_cancel : ByteArray := prog_1_method_16_code
def y_De_cancel : MethodName := ⟨R_De, "cancel", "(I)Z"⟩
abbrev b_De_bookingNumbered : ByteArray := prog_1_method_27_code
def y_De_bookingNumbered : MethodName := ⟨R_De, "bookingNumbered", "(I)LDeskMoves$Booking;"⟩
abbrev b_Ro_remove : ByteArray := prog_5_method_6_code
def y_Ro_remove : MethodName := ⟨R_Ro, "remove", "(LDeskMoves$Booking;)Z"⟩
abbrev b_La_roomOf : ByteArray := method_16_code
def y_La_roomOf : MethodName := ⟨R_La, "roomOf", "(LDeskMoves;I[J)I"⟩
abbrev b_De_roomOf : ByteArray := prog_1_method_17_code
def y_De_roomOf : MethodName := ⟨R_De, "roomOf", "(I)I"⟩
abbrev b_La_inside : ByteArray := method_17_code
def y_La_inside : MethodName := ⟨R_La, "inside", "(LDeskMoves;II[J)I"⟩
abbrev b_De_inside : ByteArray := prog_1_method_18_code
def y_De_inside : MethodName := ⟨R_De, "inside", "(II)I"⟩
abbrev b_De_checkRoom : ByteArray := prog_1_method_23_code
def y_De_checkRoom : MethodName := ⟨R_De, "checkRoom", "(I)V"⟩
abbrev b_De_checkMinute : ByteArray := prog_1_method_24_code
def y_De_checkMinute : MethodName := ⟨R_De, "checkMinute", "(I)V"⟩
abbrev b_La_gap : ByteArray := method_18_code
def y_La_gap : MethodName := ⟨R_La, "gap", "(LDeskMoves;III[J)I"⟩
abbrev b_De_gap : ByteArray := prog_1_method_19_code
def y_De_gap : MethodName := ⟨R_De, "gap", "(III)I"⟩
abbrev b_Ro_firstFree : ByteArray := prog_5_method_3_code
def y_Ro_firstFree : MethodName := ⟨R_Ro, "firstFree", "(II)I"⟩
abbrev b_Mo_init : ByteArray := prog_9_method_1_code
def y_Mo_init : MethodName := ⟨R_Mo, "<init>", "()V"⟩
abbrev b_Mo_thrown : ByteArray := prog_9_method_2_code
def y_Mo_thrown : MethodName := ⟨R_Mo, "thrown", "()I"⟩
abbrev b_Mo_desk : ByteArray := prog_9_method_7_code
def y_Mo_desk : MethodName := ⟨R_Mo, "desk", "()I"⟩
abbrev b_Mo_person : ByteArray := prog_9_method_8_code
def y_Mo_person : MethodName := ⟨R_Mo, "person", "()I"⟩
abbrev b_Mo_wish : ByteArray := prog_9_method_9_code
def y_Mo_wish : MethodName := ⟨R_Mo, "wish", "(III)I"⟩
abbrev b_Mo_isPerson : ByteArray := prog_9_method_4_code
def y_Mo_isPerson : MethodName := ⟨R_Mo, "isPerson", "(I)Z"⟩
abbrev b_Mo_in : ByteArray := prog_9_method_3_code
def y_Mo_in : MethodName := ⟨R_Mo, "in", "(III)Z"⟩
abbrev b_Mo_isDesk : ByteArray := prog_9_method_5_code
def y_Mo_isDesk : MethodName := ⟨R_Mo, "isDesk", "(I)Z"⟩
abbrev b_Mo_bar : ByteArray := prog_9_method_10_code
def y_Mo_bar : MethodName := ⟨R_Mo, "bar", "(IIZ)Z"⟩
abbrev b_Mo_sits : ByteArray := prog_9_method_11_code
def y_Mo_sits : MethodName := ⟨R_Mo, "sits", "(II)I"⟩
abbrev b_Mo_seat : ByteArray := prog_9_method_17_code
def y_Mo_seat : MethodName := ⟨R_Mo, "seat", "()I"⟩
abbrev b_Mo_findBest : ByteArray := prog_9_method_15_code
def y_Mo_findBest : MethodName := ⟨R_Mo, "findBest", "(I)I"⟩
abbrev b_Mo_bits : ByteArray := prog_9_method_12_code
def y_Mo_bits : MethodName := ⟨R_Mo, "bits", "(I)I"⟩
abbrev b_Mo_value : ByteArray := prog_9_method_14_code
def y_Mo_value : MethodName := ⟨R_Mo, "value", "(II)I"⟩
abbrev b_Mo_isMove : ByteArray := prog_9_method_13_code
def y_Mo_isMove : MethodName := ⟨R_Mo, "isMove", "(II)Z"⟩
abbrev b_Mo_worthIn : ByteArray := prog_9_method_16_code
def y_Mo_worthIn : MethodName := ⟨R_Mo, "worthIn", "(I)I"⟩
abbrev b_Mo_walk : ByteArray := prog_9_method_25_code
def y_Mo_walk : MethodName := ⟨R_Mo, "walk", "()V"⟩
abbrev b_Mo_goes : ByteArray := prog_9_method_24_code
def y_Mo_goes : MethodName := ⟨R_Mo, "goes", "()Z"⟩
abbrev b_Mo_isFree : ByteArray := prog_9_method_22_code
def y_Mo_isFree : MethodName := ⟨R_Mo, "isFree", "(I)Z"⟩
abbrev b_Mo_go : ByteArray := prog_9_method_23_code
def y_Mo_go : MethodName := ⟨R_Mo, "go", "(II)V"⟩
abbrev b_Mo_deskOf : ByteArray := prog_9_method_18_code
def y_Mo_deskOf : MethodName := ⟨R_Mo, "deskOf", "(I)I"⟩
abbrev b_Mo_moved : ByteArray := prog_9_method_19_code
def y_Mo_moved : MethodName := ⟨R_Mo, "moved", "()I"⟩
abbrev b_Mo_worthOf : ByteArray := prog_9_method_20_code
def y_Mo_worthOf : MethodName := ⟨R_Mo, "worthOf", "(I)I"⟩
abbrev b_Mo_settle : ByteArray := prog_9_method_21_code
def y_Mo_settle : MethodName := ⟨R_Mo, "settle", "()I"⟩
abbrev b_Mo_steps : ByteArray := prog_9_method_26_code
def y_Mo_steps : MethodName := ⟨R_Mo, "steps", "()I"⟩
abbrev b_Mo_step : ByteArray := prog_9_method_27_code
def y_Mo_step : MethodName := ⟨R_Mo, "step", "(II)I"⟩
abbrev b_Mo_room : ByteArray := prog_9_method_28_code
def y_Mo_room : MethodName := ⟨R_Mo, "room", "(I)I"⟩
abbrev b_Mo_book : ByteArray := prog_9_method_30_code
def y_Mo_book : MethodName := ⟨R_Mo, "book", "(III)I"⟩
abbrev b_Mo_meeting : ByteArray := prog_9_method_29_code
def y_Mo_meeting : MethodName := ⟨R_Mo, "meeting", "(III)I"⟩
abbrev b_Mo_cancel : ByteArray := prog_9_method_31_code
def y_Mo_cancel : MethodName := ⟨R_Mo, "cancel", "(I)Z"⟩
abbrev b_Mo_roomOf : ByteArray := prog_9_method_32_code
def y_Mo_roomOf : MethodName := ⟨R_Mo, "roomOf", "(I)I"⟩
abbrev b_Mo_inside : ByteArray := prog_9_method_33_code
def y_Mo_inside : MethodName := ⟨R_Mo, "inside", "(II)I"⟩
abbrev b_Mo_isRoom : ByteArray := prog_9_method_6_code
def y_Mo_isRoom : MethodName := ⟨R_Mo, "isRoom", "(I)Z"⟩
abbrev b_Mo_gap : ByteArray := prog_9_method_34_code
def y_Mo_gap : MethodName := ⟨R_Mo, "gap", "(III)I"⟩
abbrev b_Mo_waste : ByteArray := prog_9_method_35_code
def y_Mo_waste : MethodName := ⟨R_Mo, "waste", "()I"⟩
theorem ii_La : (.initialized R_La : Cond) ∈ tb_G := tb_in 34 (by decide +kernel) (by decide +kernel)
theorem ii_De : (.initialized R_De : Cond) ∈ tb_G := tb_in 35 (by decide +kernel) (by decide +kernel)
theorem ii_Ma : (.initialized R_Ma : Cond) ∈ tb_G := tb_in 36 (by decide +kernel) (by decide +kernel)
theorem ii_Sp : (.initialized R_Sp : Cond) ∈ tb_G := tb_in 37 (by decide +kernel) (by decide +kernel)
theorem ii_Wa : (.initialized R_Wa : Cond) ∈ tb_G := tb_in 38 (by decide +kernel) (by decide +kernel)
theorem ii_Pe : (.initialized R_Pe : Cond) ∈ tb_G := tb_in 39 (by decide +kernel) (by decide +kernel)
theorem ii_Ro : (.initialized R_Ro : Cond) ∈ tb_G := tb_in 40 (by decide +kernel) (by decide +kernel)
theorem ii_Mo : (.initialized R_Mo : Cond) ∈ tb_G := tb_in 41 (by decide +kernel) (by decide +kernel)
theorem ii_Th : (.initialized R_Th : Cond) ∈ tb_G := tb_in 42 (by decide +kernel) (by decide +kernel)
theorem ii_Ex : (.initialized R_Ex : Cond) ∈ tb_G := tb_in 43 (by decide +kernel) (by decide +kernel)
theorem ii_Re : (.initialized R_Re : Cond) ∈ tb_G := tb_in 44 (by decide +kernel) (by decide +kernel)
theorem ii_Is : (.initialized R_Is : Cond) ∈ tb_G := tb_in 45 (by decide +kernel) (by decide +kernel)
theorem ii_Ia : (.initialized R_Ia : Cond) ∈ tb_G := tb_in 46 (by decide +kernel) (by decide +kernel)
theorem ii_Mt : (.initialized R_Mt : Cond) ∈ tb_G := tb_in 47 (by decide +kernel) (by decide +kernel)
theorem ii_Bk : (.initialized R_Bk : Cond) ∈ tb_G := tb_in 48 (by decide +kernel) (by decide +kernel)
theorem cl_La_De : (.classLink R_La 8 R_De : Cond) ∈ tb_G := tb_in 49 (by decide +kernel) (by decide +kernel)
theorem nn_De : (.instantiable R_De 11 : Cond) ∈ tb_G := tb_in 50 (by decide +kernel) (by decide +kernel)
theorem ml_La_De_init : (.methodLink R_La 67 y_De_init : Cond) ∈ tb_G := tb_in 51 (by decide +kernel) (by decide +kernel)
theorem im_De_init : (.instanceMethod y_De_init : Cond) ∈ tb_G := tb_in 52 (by decide +kernel) (by decide +kernel)
theorem cd_De_init : (.code y_De_init b_De_init 2 none : Cond) ∈ tb_G := tb_in 53 (by decide +kernel) (by decide +kernel)
theorem ml_De_Ob_init : (.methodLink R_De 3 objectInit : Cond) ∈ tb_G := tb_in 54 (by decide +kernel) (by decide +kernel)
theorem im_Ob_init : (.instanceMethod objectInit : Cond) ∈ tb_G := tb_in 55 (by decide +kernel) (by decide +kernel)
theorem cd_Ob_init : (.code objectInit ⟨#[0xb1]⟩ 1 none : Cond) ∈ tb_G := tb_in 56 (by decide +kernel) (by decide +kernel)
theorem cl_De_Pe : (.classLink R_De 9 R_Pe : Cond) ∈ tb_G := tb_in 57 (by decide +kernel) (by decide +kernel)
theorem ao_Pe : (.arrayOver (.object "DeskMoves$Person") : Cond) ∈ lw_tbl := List.mem_of_getElem? (i := 58) (by decide +kernel)
theorem cl_De_Ma : (.classLink R_De 15 R_Ma : Cond) ∈ tb_G := tb_in 59 (by decide +kernel) (by decide +kernel)
theorem nn_Ma : (.instantiable R_Ma 2 : Cond) ∈ tb_G := tb_in 60 (by decide +kernel) (by decide +kernel)
theorem ml_De_Ma_init : (.methodLink R_De 17 y_Ma_init : Cond) ∈ tb_G := tb_in 61 (by decide +kernel) (by decide +kernel)
theorem im_Ma_init : (.instanceMethod y_Ma_init : Cond) ∈ tb_G := tb_in 62 (by decide +kernel) (by decide +kernel)
theorem cd_Ma_init : (.code y_Ma_init b_Ma_init 2 none : Cond) ∈ tb_G := tb_in 63 (by decide +kernel) (by decide +kernel)
theorem ml_Ma_Ob_init : (.methodLink R_Ma 3 objectInit : Cond) ∈ tb_G := tb_in 64 (by decide +kernel) (by decide +kernel)
theorem cl_Ma_Sp : (.classLink R_Ma 9 R_Sp : Cond) ∈ tb_G := tb_in 65 (by decide +kernel) (by decide +kernel)
theorem ao_Sp : (.arrayOver (.object "DeskMoves$Spot") : Cond) ∈ lw_tbl := List.mem_of_getElem? (i := 66) (by decide +kernel)
theorem nn_Sp : (.instantiable R_Sp 5 : Cond) ∈ tb_G := tb_in 67 (by decide +kernel) (by decide +kernel)
theorem ml_Ma_Sp_init : (.methodLink R_Ma 17 y_Sp_init : Cond) ∈ tb_G := tb_in 68 (by decide +kernel) (by decide +kernel)
theorem im_Sp_init : (.instanceMethod y_Sp_init : Cond) ∈ tb_G := tb_in 69 (by decide +kernel) (by decide +kernel)
theorem cd_Sp_init : (.code y_Sp_init b_Sp_init 1 none : Cond) ∈ tb_G := tb_in 70 (by decide +kernel) (by decide +kernel)
theorem ml_Sp_Ob_init : (.methodLink R_Sp 1 objectInit : Cond) ∈ tb_G := tb_in 71 (by decide +kernel) (by decide +kernel)
theorem fl_Ma_Sp_sitter : (.fieldLink R_Ma 34 "DeskMoves$Spot" "sitter" "LDeskMoves$Person;" : Cond) ∈ tb_G := tb_in 72 (by decide +kernel) (by decide +kernel)
theorem fl_Ma_Sp_price : (.fieldLink R_Ma 49 "DeskMoves$Spot" "price" "J" : Cond) ∈ tb_G := tb_in 73 (by decide +kernel) (by decide +kernel)
theorem fl_Ma_Sp_distance : (.fieldLink R_Ma 69 "DeskMoves$Spot" "distance" "J" : Cond) ∈ tb_G := tb_in 74 (by decide +kernel) (by decide +kernel)
theorem fl_Ma_Sp_before : (.fieldLink R_Ma 86 "DeskMoves$Spot" "before" "LDeskMoves$Spot;" : Cond) ∈ tb_G := tb_in 75 (by decide +kernel) (by decide +kernel)
theorem fl_Ma_Sp_reached : (.fieldLink R_Ma 76 "DeskMoves$Spot" "reached" "Z" : Cond) ∈ tb_G := tb_in 76 (by decide +kernel) (by decide +kernel)
theorem fl_Ma_Ma_spots : (.fieldLink R_Ma 11 "DeskMoves$Matcher" "spots" "[LDeskMoves$Spot;" : Cond) ∈ tb_G := tb_in 88 (by decide +kernel) (by decide +kernel)
theorem fl_Ma_Ma_spotCount : (.fieldLink R_Ma 30 "DeskMoves$Matcher" "spotCount" "I" : Cond) ∈ tb_G := tb_in 89 (by decide +kernel) (by decide +kernel)
theorem cl_De_Wa : (.classLink R_De 22 R_Wa : Cond) ∈ tb_G := tb_in 95 (by decide +kernel) (by decide +kernel)
theorem nn_Wa : (.instantiable R_Wa 6 : Cond) ∈ tb_G := tb_in 96 (by decide +kernel) (by decide +kernel)
theorem ml_De_Wa_init : (.methodLink R_De 24 y_Wa_init : Cond) ∈ tb_G := tb_in 97 (by decide +kernel) (by decide +kernel)
theorem im_Wa_init : (.instanceMethod y_Wa_init : Cond) ∈ tb_G := tb_in 98 (by decide +kernel) (by decide +kernel)
theorem cd_Wa_init : (.code y_Wa_init b_Wa_init 1 none : Cond) ∈ tb_G := tb_in 99 (by decide +kernel) (by decide +kernel)
theorem ml_Wa_Ob_init : (.methodLink R_Wa 3 objectInit : Cond) ∈ tb_G := tb_in 100 (by decide +kernel) (by decide +kernel)
theorem fl_Wa_Wa_goers : (.fieldLink R_Wa 9 "DeskMoves$Walk" "goers" "[I" : Cond) ∈ tb_G := tb_in 101 (by decide +kernel) (by decide +kernel)
theorem fl_De_Wa_goers : (.fieldLink R_De 125 "DeskMoves$Walk" "goers" "[I" : Cond) ∈ tb_G := tb_in 102 (by decide +kernel) (by decide +kernel)
theorem fl_Wa_Wa_starts : (.fieldLink R_Wa 15 "DeskMoves$Walk" "starts" "[I" : Cond) ∈ tb_G := tb_in 103 (by decide +kernel) (by decide +kernel)
theorem fl_De_Wa_starts : (.fieldLink R_De 128 "DeskMoves$Walk" "starts" "[I" : Cond) ∈ tb_G := tb_in 104 (by decide +kernel) (by decide +kernel)
theorem fl_Wa_Wa_goals : (.fieldLink R_Wa 18 "DeskMoves$Walk" "goals" "[I" : Cond) ∈ tb_G := tb_in 105 (by decide +kernel) (by decide +kernel)
theorem fl_De_Wa_goals : (.fieldLink R_De 131 "DeskMoves$Walk" "goals" "[I" : Cond) ∈ tb_G := tb_in 106 (by decide +kernel) (by decide +kernel)
theorem fl_Wa_Wa_count : (.fieldLink R_Wa 50 "DeskMoves$Walk" "count" "I" : Cond) ∈ tb_G := tb_in 107 (by decide +kernel) (by decide +kernel)
theorem fl_De_Wa_count : (.fieldLink R_De 118 "DeskMoves$Walk" "count" "I" : Cond) ∈ tb_G := tb_in 108 (by decide +kernel) (by decide +kernel)
theorem fl_Wa_Wa_stuck : (.fieldLink R_Wa 46 "DeskMoves$Walk" "stuck" "Z" : Cond) ∈ tb_G := tb_in 109 (by decide +kernel) (by decide +kernel)
theorem fl_De_Wa_stuck : (.fieldLink R_De 115 "DeskMoves$Walk" "stuck" "Z" : Cond) ∈ tb_G := tb_in 110 (by decide +kernel) (by decide +kernel)
theorem fl_Wa_Wa_taken : (.fieldLink R_Wa 53 "DeskMoves$Walk" "taken" "I" : Cond) ∈ tb_G := tb_in 111 (by decide +kernel) (by decide +kernel)
theorem ac_int : (.arrayClass .int : Cond) ∈ tb_G := tb_in 125 (by decide +kernel) (by decide +kernel)
theorem cl_De_Ro : (.classLink R_De 29 R_Ro : Cond) ∈ tb_G := tb_in 126 (by decide +kernel) (by decide +kernel)
theorem ao_Ro : (.arrayOver (.object "DeskMoves$Room") : Cond) ∈ lw_tbl := List.mem_of_getElem? (i := 127) (by decide +kernel)
theorem cl_De_Bk : (.classLink R_De 35 R_Bk : Cond) ∈ tb_G := tb_in 128 (by decide +kernel) (by decide +kernel)
theorem ao_Bk : (.arrayOver (.object "DeskMoves$Booking") : Cond) ∈ lw_tbl := List.mem_of_getElem? (i := 129) (by decide +kernel)
theorem nn_Pe : (.instantiable R_Pe 7 : Cond) ∈ tb_G := tb_in 130 (by decide +kernel) (by decide +kernel)
theorem ml_De_Pe_init : (.methodLink R_De 41 y_Pe_init : Cond) ∈ tb_G := tb_in 131 (by decide +kernel) (by decide +kernel)
theorem im_Pe_init : (.instanceMethod y_Pe_init : Cond) ∈ tb_G := tb_in 132 (by decide +kernel) (by decide +kernel)
theorem cd_Pe_init : (.code y_Pe_init b_Pe_init 2 none : Cond) ∈ tb_G := tb_in 133 (by decide +kernel) (by decide +kernel)
theorem ml_Pe_Ob_init : (.methodLink R_Pe 3 objectInit : Cond) ∈ tb_G := tb_in 134 (by decide +kernel) (by decide +kernel)
theorem fl_Pe_Pe_number : (.fieldLink R_Pe 29 "DeskMoves$Person" "number" "I" : Cond) ∈ tb_G := tb_in 135 (by decide +kernel) (by decide +kernel)
theorem fl_Wa_Pe_number : (.fieldLink R_Wa 66 "DeskMoves$Person" "number" "I" : Cond) ∈ tb_G := tb_in 136 (by decide +kernel) (by decide +kernel)
theorem fl_Pe_Pe_wishes : (.fieldLink R_Pe 9 "DeskMoves$Person" "wishes" "[I" : Cond) ∈ tb_G := tb_in 137 (by decide +kernel) (by decide +kernel)
theorem fl_De_Pe_wishes : (.fieldLink R_De 76 "DeskMoves$Person" "wishes" "[I" : Cond) ∈ tb_G := tb_in 138 (by decide +kernel) (by decide +kernel)
theorem fl_Ma_Pe_wishes : (.fieldLink R_Ma 53 "DeskMoves$Person" "wishes" "[I" : Cond) ∈ tb_G := tb_in 139 (by decide +kernel) (by decide +kernel)
theorem fl_Pe_Pe_barred : (.fieldLink R_Pe 15 "DeskMoves$Person" "barred" "[Z" : Cond) ∈ tb_G := tb_in 140 (by decide +kernel) (by decide +kernel)
theorem fl_De_Pe_barred : (.fieldLink R_De 80 "DeskMoves$Person" "barred" "[Z" : Cond) ∈ tb_G := tb_in 141 (by decide +kernel) (by decide +kernel)
theorem fl_Ma_Pe_barred : (.fieldLink R_Ma 90 "DeskMoves$Person" "barred" "[Z" : Cond) ∈ tb_G := tb_in 142 (by decide +kernel) (by decide +kernel)
theorem fl_Pe_Pe_oldDesk : (.fieldLink R_Pe 19 "DeskMoves$Person" "oldDesk" "I" : Cond) ∈ tb_G := tb_in 143 (by decide +kernel) (by decide +kernel)
theorem fl_Wa_Pe_oldDesk : (.fieldLink R_Wa 56 "DeskMoves$Person" "oldDesk" "I" : Cond) ∈ tb_G := tb_in 144 (by decide +kernel) (by decide +kernel)
theorem fl_De_Pe_oldDesk : (.fieldLink R_De 88 "DeskMoves$Person" "oldDesk" "I" : Cond) ∈ tb_G := tb_in 145 (by decide +kernel) (by decide +kernel)
theorem fl_Pe_Pe_newDesk : (.fieldLink R_Pe 23 "DeskMoves$Person" "newDesk" "I" : Cond) ∈ tb_G := tb_in 146 (by decide +kernel) (by decide +kernel)
theorem fl_Wa_Pe_newDesk : (.fieldLink R_Wa 29 "DeskMoves$Person" "newDesk" "I" : Cond) ∈ tb_G := tb_in 147 (by decide +kernel) (by decide +kernel)
theorem fl_Ma_Pe_newDesk : (.fieldLink R_Ma 38 "DeskMoves$Person" "newDesk" "I" : Cond) ∈ tb_G := tb_in 148 (by decide +kernel) (by decide +kernel)
theorem fl_De_Pe_newDesk : (.fieldLink R_De 105 "DeskMoves$Person" "newDesk" "I" : Cond) ∈ tb_G := tb_in 149 (by decide +kernel) (by decide +kernel)
theorem fl_Pe_Pe_place : (.fieldLink R_Pe 26 "DeskMoves$Person" "place" "I" : Cond) ∈ tb_G := tb_in 150 (by decide +kernel) (by decide +kernel)
theorem fl_Wa_Pe_place : (.fieldLink R_Wa 59 "DeskMoves$Person" "place" "I" : Cond) ∈ tb_G := tb_in 151 (by decide +kernel) (by decide +kernel)
theorem fl_Ma_Pe_price : (.fieldLink R_Ma 60 "DeskMoves$Person" "price" "J" : Cond) ∈ tb_G := tb_in 152 (by decide +kernel) (by decide +kernel)
theorem ac_boolean : (.arrayClass .boolean : Cond) ∈ tb_G := tb_in 168 (by decide +kernel) (by decide +kernel)
theorem nn_Ro : (.instantiable R_Ro 3 : Cond) ∈ tb_G := tb_in 169 (by decide +kernel) (by decide +kernel)
theorem ml_De_Ro_init : (.methodLink R_De 44 y_Ro_init : Cond) ∈ tb_G := tb_in 170 (by decide +kernel) (by decide +kernel)
theorem im_Ro_init : (.instanceMethod y_Ro_init : Cond) ∈ tb_G := tb_in 171 (by decide +kernel) (by decide +kernel)
theorem cd_Ro_init : (.code y_Ro_init b_Ro_init 2 none : Cond) ∈ tb_G := tb_in 172 (by decide +kernel) (by decide +kernel)
theorem ml_Ro_Ob_init : (.methodLink R_Ro 1 objectInit : Cond) ∈ tb_G := tb_in 173 (by decide +kernel) (by decide +kernel)
theorem fl_Ro_Ro_number : (.fieldLink R_Ro 7 "DeskMoves$Room" "number" "I" : Cond) ∈ tb_G := tb_in 174 (by decide +kernel) (by decide +kernel)
theorem fl_De_Ro_number : (.fieldLink R_De 179 "DeskMoves$Room" "number" "I" : Cond) ∈ tb_G := tb_in 175 (by decide +kernel) (by decide +kernel)
theorem fl_Ro_Ro_places : (.fieldLink R_Ro 28 "DeskMoves$Room" "places" "I" : Cond) ∈ tb_G := tb_in 176 (by decide +kernel) (by decide +kernel)
theorem fl_De_Ro_places : (.fieldLink R_De 141 "DeskMoves$Room" "places" "I" : Cond) ∈ tb_G := tb_in 177 (by decide +kernel) (by decide +kernel)
theorem fl_Ro_Ro_first : (.fieldLink R_Ro 13 "DeskMoves$Room" "first" "LDeskMoves$Booking;" : Cond) ∈ tb_G := tb_in 178 (by decide +kernel) (by decide +kernel)
theorem fl_De_De_persons : (.fieldLink R_De 11 "DeskMoves" "persons" "[LDeskMoves$Person;" : Cond) ∈ tb_G := tb_in 186 (by decide +kernel) (by decide +kernel)
theorem fl_De_De_matcher : (.fieldLink R_De 18 "DeskMoves" "matcher" "LDeskMoves$Matcher;" : Cond) ∈ tb_G := tb_in 187 (by decide +kernel) (by decide +kernel)
theorem fl_De_De_walk : (.fieldLink R_De 25 "DeskMoves" "walk" "LDeskMoves$Walk;" : Cond) ∈ tb_G := tb_in 188 (by decide +kernel) (by decide +kernel)
theorem fl_De_De_rooms : (.fieldLink R_De 31 "DeskMoves" "rooms" "[LDeskMoves$Room;" : Cond) ∈ tb_G := tb_in 189 (by decide +kernel) (by decide +kernel)
theorem fl_De_De_bookings : (.fieldLink R_De 37 "DeskMoves" "bookings" "[LDeskMoves$Booking;" : Cond) ∈ tb_G := tb_in 190 (by decide +kernel) (by decide +kernel)
theorem fl_De_De_deskCount : (.fieldLink R_De 45 "DeskMoves" "deskCount" "I" : Cond) ∈ tb_G := tb_in 191 (by decide +kernel) (by decide +kernel)
theorem fl_De_De_personCount : (.fieldLink R_De 60 "DeskMoves" "personCount" "I" : Cond) ∈ tb_G := tb_in 192 (by decide +kernel) (by decide +kernel)
theorem fl_De_De_roomCount : (.fieldLink R_De 136 "DeskMoves" "roomCount" "I" : Cond) ∈ tb_G := tb_in 193 (by decide +kernel) (by decide +kernel)
theorem fl_De_De_bookingCount : (.fieldLink R_De 148 "DeskMoves" "bookingCount" "I" : Cond) ∈ tb_G := tb_in 194 (by decide +kernel) (by decide +kernel)
theorem fl_De_De_seatingMade : (.fieldLink R_De 56 "DeskMoves" "seatingMade" "Z" : Cond) ∈ tb_G := tb_in 195 (by decide +kernel) (by decide +kernel)
theorem fl_De_De_seatingWorth : (.fieldLink R_De 102 "DeskMoves" "seatingWorth" "I" : Cond) ∈ tb_G := tb_in 196 (by decide +kernel) (by decide +kernel)
theorem ml_La_De_seat : (.methodLink R_La 95 y_De_seat : Cond) ∈ tb_G := tb_in 220 (by decide +kernel) (by decide +kernel)
theorem im_De_seat : (.instanceMethod y_De_seat : Cond) ∈ tb_G := tb_in 221 (by decide +kernel) (by decide +kernel)
theorem cd_De_seat : (.code y_De_seat b_De_seat 2 (some .int) : Cond) ∈ tb_G := tb_in 223 (by decide +kernel) (by decide +kernel)
theorem ml_De_Ma_match : (.methodLink R_De 91 y_Ma_match : Cond) ∈ tb_G := tb_in 224 (by decide +kernel) (by decide +kernel)
theorem im_Ma_match : (.instanceMethod y_Ma_match : Cond) ∈ tb_G := tb_in 225 (by decide +kernel) (by decide +kernel)
theorem cd_Ma_match : (.code y_Ma_match b_Ma_match 6 (some .int) : Cond) ∈ tb_G := tb_in 227 (by decide +kernel) (by decide +kernel)
theorem ml_Ma_Ma_clearSpots : (.methodLink R_Ma 18 y_Ma_clearSpots : Cond) ∈ tb_G := tb_in 228 (by decide +kernel) (by decide +kernel)
theorem im_Ma_clearSpots : (.instanceMethod y_Ma_clearSpots : Cond) ∈ tb_G := tb_in 230 (by decide +kernel) (by decide +kernel)
theorem cd_Ma_clearSpots : (.code y_Ma_clearSpots b_Ma_clearSpots 3 none : Cond) ∈ tb_G := tb_in 231 (by decide +kernel) (by decide +kernel)
theorem ml_Ma_Mt_min : (.methodLink R_Ma 43 y_Mt_min : Cond) ∈ tb_G := tb_in 232 (by decide +kernel) (by decide +kernel)
theorem sm_Mt_min : (.static y_Mt_min : Cond) ∈ tb_G := tb_in 233 (by decide +kernel) (by decide +kernel)
theorem cd_Mt_min : (.code y_Mt_min b_Mt_min 2 (some .int) : Cond) ∈ tb_G := tb_in 234 (by decide +kernel) (by decide +kernel)
theorem ml_Ma_Ma_addPerson : (.methodLink R_Ma 22 y_Ma_addPerson : Cond) ∈ tb_G := tb_in 235 (by decide +kernel) (by decide +kernel)
theorem im_Ma_addPerson : (.instanceMethod y_Ma_addPerson : Cond) ∈ tb_G := tb_in 237 (by decide +kernel) (by decide +kernel)
theorem cd_Ma_addPerson : (.code y_Ma_addPerson b_Ma_addPerson 6 (some .boolean) : Cond) ∈ tb_G := tb_in 238 (by decide +kernel) (by decide +kernel)
theorem ml_Ma_Ma_startSearch : (.methodLink R_Ma 57 y_Ma_startSearch : Cond) ∈ tb_G := tb_in 239 (by decide +kernel) (by decide +kernel)
theorem im_Ma_startSearch : (.instanceMethod y_Ma_startSearch : Cond) ∈ tb_G := tb_in 241 (by decide +kernel) (by decide +kernel)
theorem cd_Ma_startSearch : (.code y_Ma_startSearch b_Ma_startSearch 2 none : Cond) ∈ tb_G := tb_in 242 (by decide +kernel) (by decide +kernel)
theorem kl_Ma_4611686018427387904 : (.constantLong R_Ma 84 4611686018427387904 : Cond) ∈ tb_G := tb_in 243 (by decide +kernel) (by decide +kernel)
theorem ml_Ma_Ma_lookFrom : (.methodLink R_Ma 61 y_Ma_lookFrom : Cond) ∈ tb_G := tb_in 244 (by decide +kernel) (by decide +kernel)
theorem im_Ma_lookFrom : (.instanceMethod y_Ma_lookFrom : Cond) ∈ tb_G := tb_in 246 (by decide +kernel) (by decide +kernel)
theorem cd_Ma_lookFrom : (.code y_Ma_lookFrom b_Ma_lookFrom 7 none : Cond) ∈ tb_G := tb_in 247 (by decide +kernel) (by decide +kernel)
theorem ml_Ma_Pe_costAt : (.methodLink R_Ma 94 y_Pe_costAt : Cond) ∈ tb_G := tb_in 248 (by decide +kernel) (by decide +kernel)
theorem im_Pe_costAt : (.instanceMethod y_Pe_costAt : Cond) ∈ tb_G := tb_in 249 (by decide +kernel) (by decide +kernel)
theorem cd_Pe_costAt : (.code y_Pe_costAt b_Pe_costAt 4 (some .long) : Cond) ∈ tb_G := tb_in 251 (by decide +kernel) (by decide +kernel)
theorem kl_Pe_17592186044416 : (.constantLong R_Pe 32 17592186044416 : Cond) ∈ tb_G := tb_in 252 (by decide +kernel) (by decide +kernel)
theorem ml_Pe_Pe_wouldMoveTo : (.methodLink R_Pe 34 y_Pe_wouldMoveTo : Cond) ∈ tb_G := tb_in 253 (by decide +kernel) (by decide +kernel)
theorem im_Pe_wouldMoveTo : (.instanceMethod y_Pe_wouldMoveTo : Cond) ∈ tb_G := tb_in 254 (by decide +kernel) (by decide +kernel)
theorem cd_Pe_wouldMoveTo : (.code y_Pe_wouldMoveTo b_Pe_wouldMoveTo 2 (some .boolean) : Cond) ∈ tb_G := tb_in 256 (by decide +kernel) (by decide +kernel)
theorem kl_Pe_1099511627776 : (.constantLong R_Pe 38 1099511627776 : Cond) ∈ tb_G := tb_in 257 (by decide +kernel) (by decide +kernel)
theorem ml_Ma_Ma_nearestSpot : (.methodLink R_Ma 65 y_Ma_nearestSpot : Cond) ∈ tb_G := tb_in 258 (by decide +kernel) (by decide +kernel)
theorem im_Ma_nearestSpot : (.instanceMethod y_Ma_nearestSpot : Cond) ∈ tb_G := tb_in 260 (by decide +kernel) (by decide +kernel)
theorem cd_Ma_nearestSpot : (.code y_Ma_nearestSpot b_Ma_nearestSpot 5 (some (.object "DeskMoves$Spot")) : Cond) ∈ tb_G := tb_in 261 (by decide +kernel) (by decide +kernel)
theorem ml_Ma_Ma_shiftPrices : (.methodLink R_Ma 72 y_Ma_shiftPrices : Cond) ∈ tb_G := tb_in 262 (by decide +kernel) (by decide +kernel)
theorem im_Ma_shiftPrices : (.instanceMethod y_Ma_shiftPrices : Cond) ∈ tb_G := tb_in 264 (by decide +kernel) (by decide +kernel)
theorem cd_Ma_shiftPrices : (.code y_Ma_shiftPrices b_Ma_shiftPrices 6 none : Cond) ∈ tb_G := tb_in 265 (by decide +kernel) (by decide +kernel)
theorem ml_Ma_Ma_handOn : (.methodLink R_Ma 80 y_Ma_handOn : Cond) ∈ tb_G := tb_in 266 (by decide +kernel) (by decide +kernel)
theorem im_Ma_handOn : (.instanceMethod y_Ma_handOn : Cond) ∈ tb_G := tb_in 268 (by decide +kernel) (by decide +kernel)
theorem cd_Ma_handOn : (.code y_Ma_handOn b_Ma_handOn 4 none : Cond) ∈ tb_G := tb_in 269 (by decide +kernel) (by decide +kernel)
theorem ml_Ma_Ma_worthOfSpots : (.methodLink R_Ma 26 y_Ma_worthOfSpots : Cond) ∈ tb_G := tb_in 270 (by decide +kernel) (by decide +kernel)
theorem im_Ma_worthOfSpots : (.instanceMethod y_Ma_worthOfSpots : Cond) ∈ tb_G := tb_in 272 (by decide +kernel) (by decide +kernel)
theorem cd_Ma_worthOfSpots : (.code y_Ma_worthOfSpots b_Ma_worthOfSpots 4 (some .int) : Cond) ∈ tb_G := tb_in 273 (by decide +kernel) (by decide +kernel)
theorem ml_De_Ma_tellPersons : (.methodLink R_De 95 y_Ma_tellPersons : Cond) ∈ tb_G := tb_in 274 (by decide +kernel) (by decide +kernel)
theorem im_Ma_tellPersons : (.instanceMethod y_Ma_tellPersons : Cond) ∈ tb_G := tb_in 275 (by decide +kernel) (by decide +kernel)
theorem cd_Ma_tellPersons : (.code y_Ma_tellPersons b_Ma_tellPersons 3 none : Cond) ∈ tb_G := tb_in 277 (by decide +kernel) (by decide +kernel)
theorem ml_De_Wa_plan : (.methodLink R_De 98 y_Wa_plan : Cond) ∈ tb_G := tb_in 278 (by decide +kernel) (by decide +kernel)
theorem im_Wa_plan : (.instanceMethod y_Wa_plan : Cond) ∈ tb_G := tb_in 279 (by decide +kernel) (by decide +kernel)
theorem cd_Wa_plan : (.code y_Wa_plan b_Wa_plan 7 none : Cond) ∈ tb_G := tb_in 281 (by decide +kernel) (by decide +kernel)
theorem ml_Wa_Wa_sitAtOldDesks : (.methodLink R_Wa 21 y_Wa_sitAtOldDesks : Cond) ∈ tb_G := tb_in 282 (by decide +kernel) (by decide +kernel)
theorem im_Wa_sitAtOldDesks : (.instanceMethod y_Wa_sitAtOldDesks : Cond) ∈ tb_G := tb_in 284 (by decide +kernel) (by decide +kernel)
theorem cd_Wa_sitAtOldDesks : (.code y_Wa_sitAtOldDesks b_Wa_sitAtOldDesks 4 none : Cond) ∈ tb_G := tb_in 285 (by decide +kernel) (by decide +kernel)
theorem ml_Wa_Wa_firstWhoCanGoHome : (.methodLink R_Wa 25 y_Wa_firstWhoCanGoHome : Cond) ∈ tb_G := tb_in 286 (by decide +kernel) (by decide +kernel)
theorem im_Wa_firstWhoCanGoHome : (.instanceMethod y_Wa_firstWhoCanGoHome : Cond) ∈ tb_G := tb_in 288 (by decide +kernel) (by decide +kernel)
theorem cd_Wa_firstWhoCanGoHome : (.code y_Wa_firstWhoCanGoHome b_Wa_firstWhoCanGoHome 5 (some (.object "DeskMoves$Person")) : Cond) ∈ tb_G := tb_in 289 (by decide +kernel) (by decide +kernel)
theorem ml_Wa_Wa_isFree : (.methodLink R_Wa 62 y_Wa_isFree : Cond) ∈ tb_G := tb_in 290 (by decide +kernel) (by decide +kernel)
theorem im_Wa_isFree : (.instanceMethod y_Wa_isFree : Cond) ∈ tb_G := tb_in 292 (by decide +kernel) (by decide +kernel)
theorem cd_Wa_isFree : (.code y_Wa_isFree b_Wa_isFree 2 (some .boolean) : Cond) ∈ tb_G := tb_in 293 (by decide +kernel) (by decide +kernel)
theorem ml_Wa_Wa_go : (.methodLink R_Wa 35 y_Wa_go : Cond) ∈ tb_G := tb_in 294 (by decide +kernel) (by decide +kernel)
theorem im_Wa_go : (.instanceMethod y_Wa_go : Cond) ∈ tb_G := tb_in 296 (by decide +kernel) (by decide +kernel)
theorem cd_Wa_go : (.code y_Wa_go b_Wa_go 3 none : Cond) ∈ tb_G := tb_in 297 (by decide +kernel) (by decide +kernel)
theorem ml_Wa_Wa_firstNotHome : (.methodLink R_Wa 39 y_Wa_firstNotHome : Cond) ∈ tb_G := tb_in 298 (by decide +kernel) (by decide +kernel)
theorem im_Wa_firstNotHome : (.instanceMethod y_Wa_firstNotHome : Cond) ∈ tb_G := tb_in 300 (by decide +kernel) (by decide +kernel)
theorem cd_Wa_firstNotHome : (.code y_Wa_firstNotHome b_Wa_firstNotHome 4 (some (.object "DeskMoves$Person")) : Cond) ∈ tb_G := tb_in 301 (by decide +kernel) (by decide +kernel)
theorem ml_Wa_Wa_firstFreeDesk : (.methodLink R_Wa 42 y_Wa_firstFreeDesk : Cond) ∈ tb_G := tb_in 302 (by decide +kernel) (by decide +kernel)
theorem im_Wa_firstFreeDesk : (.instanceMethod y_Wa_firstFreeDesk : Cond) ∈ tb_G := tb_in 304 (by decide +kernel) (by decide +kernel)
theorem cd_Wa_firstFreeDesk : (.code y_Wa_firstFreeDesk b_Wa_firstFreeDesk 3 (some .int) : Cond) ∈ tb_G := tb_in 305 (by decide +kernel) (by decide +kernel)
theorem ml_La_De_moved : (.methodLink R_La 103 y_De_moved : Cond) ∈ tb_G := tb_in 306 (by decide +kernel) (by decide +kernel)
theorem im_De_moved : (.instanceMethod y_De_moved : Cond) ∈ tb_G := tb_in 307 (by decide +kernel) (by decide +kernel)
theorem cd_De_moved : (.code y_De_moved b_De_moved 3 (some .int) : Cond) ∈ tb_G := tb_in 309 (by decide +kernel) (by decide +kernel)
theorem ml_De_Pe_wouldMoveTo : (.methodLink R_De 108 y_Pe_wouldMoveTo : Cond) ∈ tb_G := tb_in 310 (by decide +kernel) (by decide +kernel)
theorem ml_La_De_waste : (.methodLink R_La 137 y_De_waste : Cond) ∈ tb_G := tb_in 311 (by decide +kernel) (by decide +kernel)
theorem im_De_waste : (.instanceMethod y_De_waste : Cond) ∈ tb_G := tb_in 312 (by decide +kernel) (by decide +kernel)
theorem cd_De_waste : (.code y_De_waste b_De_waste 3 (some .int) : Cond) ∈ tb_G := tb_in 314 (by decide +kernel) (by decide +kernel)
theorem ml_De_Ro_placesLeftOver : (.methodLink R_De 196 y_Ro_placesLeftOver : Cond) ∈ tb_G := tb_in 315 (by decide +kernel) (by decide +kernel)
theorem im_Ro_placesLeftOver : (.instanceMethod y_Ro_placesLeftOver : Cond) ∈ tb_G := tb_in 316 (by decide +kernel) (by decide +kernel)
theorem cd_Ro_placesLeftOver : (.code y_Ro_placesLeftOver b_Ro_placesLeftOver 3 (some .int) : Cond) ∈ tb_G := tb_in 318 (by decide +kernel) (by decide +kernel)
theorem ml_La_La_desk : (.methodLink R_La 71 y_La_desk : Cond) ∈ tb_G := tb_in 319 (by decide +kernel) (by decide +kernel)
theorem sm_La_desk : (.static y_La_desk : Cond) ∈ tb_G := tb_in 320 (by decide +kernel) (by decide +kernel)
theorem cd_La_desk : (.codeWith y_La_desk b_La_desk 3 (some .int) [(0, 8, 11, 13)] : Cond) ∈ tb_G := tb_in 321 (by decide +kernel) (by decide +kernel)
theorem cl_La_Is : (.classLink R_La 13 R_Is : Cond) ∈ tb_G := tb_in 322 (by decide +kernel) (by decide +kernel)
theorem ml_La_De_desk : (.methodLink R_La 7 y_De_desk : Cond) ∈ tb_G := tb_in 323 (by decide +kernel) (by decide +kernel)
theorem im_De_desk : (.instanceMethod y_De_desk : Cond) ∈ tb_G := tb_in 324 (by decide +kernel) (by decide +kernel)
theorem cd_De_desk : (.code y_De_desk b_De_desk 1 (some .int) : Cond) ∈ tb_G := tb_in 326 (by decide +kernel) (by decide +kernel)
theorem cl_De_Is : (.classLink R_De 49 R_Is : Cond) ∈ tb_G := tb_in 327 (by decide +kernel) (by decide +kernel)
theorem fl_Th_Th_backtrace : (.fieldLink R_Th 198 "java/lang/Throwable" "backtrace" "Ljava/lang/Object;" : Cond) ∈ tb_G := tb_in 348 (by decide +kernel) (by decide +kernel)
theorem im_Th_init___V : (.instanceMethod y_Th_init___V : Cond) ∈ tb_G := tb_in 350 (by decide +kernel) (by decide +kernel)
theorem ml_Th_Ob_init : (.methodLink R_Th 1 objectInit : Cond) ∈ tb_G := tb_in 352 (by decide +kernel) (by decide +kernel)
theorem fl_Th_Th_UNASSIGNED_STACK : (.fieldLink R_Th 13 "java/lang/Throwable" "UNASSIGNED_STACK" "[Ljava/lang/StackTraceElement;" : Cond) ∈ tb_G := tb_in 353 (by decide +kernel) (by decide +kernel)
theorem fl_Th_Th_SUPPRESSED_SENTINEL : (.fieldLink R_Th 20 "java/lang/Throwable" "SUPPRESSED_SENTINEL" "Ljava/util/List;" : Cond) ∈ tb_G := tb_in 355 (by decide +kernel) (by decide +kernel)
theorem ml_De_Is_init__Ljava_lang_String__V : (.methodLink R_De 53 y_Is_init__Ljava_lang_String__V : Cond) ∈ tb_G := tb_in 368 (by decide +kernel) (by decide +kernel)
theorem im_Is_init__Ljava_lang_String__V : (.instanceMethod y_Is_init__Ljava_lang_String__V : Cond) ∈ tb_G := tb_in 369 (by decide +kernel) (by decide +kernel)
theorem ml_Is_Re_init__Ljava_lang_String__V : (.methodLink R_Is 7 y_Re_init__Ljava_lang_String__V : Cond) ∈ tb_G := tb_in 371 (by decide +kernel) (by decide +kernel)
theorem im_Re_init__Ljava_lang_String__V : (.instanceMethod y_Re_init__Ljava_lang_String__V : Cond) ∈ tb_G := tb_in 372 (by decide +kernel) (by decide +kernel)
theorem ml_Re_Ex_init__Ljava_lang_String__V : (.methodLink R_Re 7 y_Ex_init__Ljava_lang_String__V : Cond) ∈ tb_G := tb_in 374 (by decide +kernel) (by decide +kernel)
theorem im_Ex_init__Ljava_lang_String__V : (.instanceMethod y_Ex_init__Ljava_lang_String__V : Cond) ∈ tb_G := tb_in 375 (by decide +kernel) (by decide +kernel)
theorem ml_Ex_Th_init__Ljava_lang_String__V : (.methodLink R_Ex 7 y_Th_init__Ljava_lang_String__V : Cond) ∈ tb_G := tb_in 377 (by decide +kernel) (by decide +kernel)
theorem im_Th_init__Ljava_lang_String__V : (.instanceMethod y_Th_init__Ljava_lang_String__V : Cond) ∈ tb_G := tb_in 378 (by decide +kernel) (by decide +kernel)
theorem fl_Th_Th_detailMessage : (.fieldLink R_Th 31 "java/lang/Throwable" "detailMessage" "Ljava/lang/String;" : Cond) ∈ tb_G := tb_in 381 (by decide +kernel) (by decide +kernel)
theorem fl_Th_Th_cause : (.fieldLink R_Th 7 "java/lang/Throwable" "cause" "Ljava/lang/Throwable;" : Cond) ∈ tb_G := tb_in 382 (by decide +kernel) (by decide +kernel)
theorem fl_Th_Th_stackTrace : (.fieldLink R_Th 17 "java/lang/Throwable" "stackTrace" "[Ljava/lang/StackTraceElement;" : Cond) ∈ tb_G := tb_in 383 (by decide +kernel) (by decide +kernel)
theorem fl_Th_Th_suppressedExceptions : (.fieldLink R_Th 24 "java/lang/Throwable" "suppressedExceptions" "Ljava/util/List;" : Cond) ∈ tb_G := tb_in 384 (by decide +kernel) (by decide +kernel)
theorem ac_byte : (.arrayClass .byte : Cond) ∈ tb_G := tb_in 393 (by decide +kernel) (by decide +kernel)
theorem ml_La_La_person : (.methodLink R_La 80 y_La_person : Cond) ∈ tb_G := tb_in 394 (by decide +kernel) (by decide +kernel)
theorem sm_La_person : (.static y_La_person : Cond) ∈ tb_G := tb_in 395 (by decide +kernel) (by decide +kernel)
theorem cd_La_person : (.codeWith y_La_person b_La_person 3 (some .int) [(0, 8, 11, 13)] : Cond) ∈ tb_G := tb_in 396 (by decide +kernel) (by decide +kernel)
theorem ml_La_De_person : (.methodLink R_La 15 y_De_person : Cond) ∈ tb_G := tb_in 397 (by decide +kernel) (by decide +kernel)
theorem im_De_person : (.instanceMethod y_De_person : Cond) ∈ tb_G := tb_in 398 (by decide +kernel) (by decide +kernel)
theorem cd_De_person : (.code y_De_person b_De_person 1 (some .int) : Cond) ∈ tb_G := tb_in 400 (by decide +kernel) (by decide +kernel)
theorem ml_La_La_wish : (.methodLink R_La 83 y_La_wish : Cond) ∈ tb_G := tb_in 402 (by decide +kernel) (by decide +kernel)
theorem sm_La_wish : (.static y_La_wish : Cond) ∈ tb_G := tb_in 403 (by decide +kernel) (by decide +kernel)
theorem cd_La_wish : (.codeWith y_La_wish b_La_wish 6 (some .int) [(0, 12, 15, 22)] : Cond) ∈ tb_G := tb_in 404 (by decide +kernel) (by decide +kernel)
theorem cl_La_Ia : (.classLink R_La 22 R_Ia : Cond) ∈ tb_G := tb_in 405 (by decide +kernel) (by decide +kernel)
theorem ml_La_De_wish : (.methodLink R_La 18 y_De_wish : Cond) ∈ tb_G := tb_in 406 (by decide +kernel) (by decide +kernel)
theorem im_De_wish : (.instanceMethod y_De_wish : Cond) ∈ tb_G := tb_in 407 (by decide +kernel) (by decide +kernel)
theorem cd_De_wish : (.code y_De_wish b_De_wish 5 (some .int) : Cond) ∈ tb_G := tb_in 409 (by decide +kernel) (by decide +kernel)
theorem ml_De_De_checkPerson : (.methodLink R_De 65 y_De_checkPerson : Cond) ∈ tb_G := tb_in 410 (by decide +kernel) (by decide +kernel)
theorem im_De_checkPerson : (.instanceMethod y_De_checkPerson : Cond) ∈ tb_G := tb_in 412 (by decide +kernel) (by decide +kernel)
theorem cd_De_checkPerson : (.code y_De_checkPerson b_De_checkPerson 2 none : Cond) ∈ tb_G := tb_in 413 (by decide +kernel) (by decide +kernel)
theorem cl_De_Ia : (.classLink R_De 71 R_Ia : Cond) ∈ tb_G := tb_in 414 (by decide +kernel) (by decide +kernel)
theorem ml_De_Ia_init__Ljava_lang_String__V : (.methodLink R_De 75 y_Ia_init__Ljava_lang_String__V : Cond) ∈ tb_G := tb_in 424 (by decide +kernel) (by decide +kernel)
theorem im_Ia_init__Ljava_lang_String__V : (.instanceMethod y_Ia_init__Ljava_lang_String__V : Cond) ∈ tb_G := tb_in 425 (by decide +kernel) (by decide +kernel)
theorem ml_Ia_Re_init__Ljava_lang_String__V : (.methodLink R_Ia 7 y_Re_init__Ljava_lang_String__V : Cond) ∈ tb_G := tb_in 427 (by decide +kernel) (by decide +kernel)
theorem ml_De_De_checkDesk : (.methodLink R_De 68 y_De_checkDesk : Cond) ∈ tb_G := tb_in 430 (by decide +kernel) (by decide +kernel)
theorem im_De_checkDesk : (.instanceMethod y_De_checkDesk : Cond) ∈ tb_G := tb_in 432 (by decide +kernel) (by decide +kernel)
theorem cd_De_checkDesk : (.code y_De_checkDesk b_De_checkDesk 2 none : Cond) ∈ tb_G := tb_in 433 (by decide +kernel) (by decide +kernel)
theorem ml_La_La_bar : (.methodLink R_La 87 y_La_bar : Cond) ∈ tb_G := tb_in 436 (by decide +kernel) (by decide +kernel)
theorem sm_La_bar : (.static y_La_bar : Cond) ∈ tb_G := tb_in 437 (by decide +kernel) (by decide +kernel)
theorem cd_La_bar : (.codeWith y_La_bar b_La_bar 6 (some .int) [(0, 19, 22, 22)] : Cond) ∈ tb_G := tb_in 438 (by decide +kernel) (by decide +kernel)
theorem ml_La_De_bar : (.methodLink R_La 24 y_De_bar : Cond) ∈ tb_G := tb_in 439 (by decide +kernel) (by decide +kernel)
theorem im_De_bar : (.instanceMethod y_De_bar : Cond) ∈ tb_G := tb_in 440 (by decide +kernel) (by decide +kernel)
theorem cd_De_bar : (.code y_De_bar b_De_bar 5 (some .boolean) : Cond) ∈ tb_G := tb_in 442 (by decide +kernel) (by decide +kernel)
theorem ml_La_La_sits : (.methodLink R_La 91 y_La_sits : Cond) ∈ tb_G := tb_in 443 (by decide +kernel) (by decide +kernel)
theorem sm_La_sits : (.static y_La_sits : Cond) ∈ tb_G := tb_in 444 (by decide +kernel) (by decide +kernel)
theorem cd_La_sits : (.codeWith y_La_sits b_La_sits 5 (some .int) [(0, 10, 13, 22), (0, 10, 17, 13)] : Cond) ∈ tb_G := tb_in 445 (by decide +kernel) (by decide +kernel)
theorem ml_La_De_sits : (.methodLink R_La 28 y_De_sits : Cond) ∈ tb_G := tb_in 446 (by decide +kernel) (by decide +kernel)
theorem im_De_sits : (.instanceMethod y_De_sits : Cond) ∈ tb_G := tb_in 447 (by decide +kernel) (by decide +kernel)
theorem cd_De_sits : (.code y_De_sits b_De_sits 4 (some .int) : Cond) ∈ tb_G := tb_in 449 (by decide +kernel) (by decide +kernel)
theorem ml_De_De_checkNobodyElseHas : (.methodLink R_De 84 y_De_checkNobodyElseHas : Cond) ∈ tb_G := tb_in 450 (by decide +kernel) (by decide +kernel)
theorem im_De_checkNobodyElseHas : (.instanceMethod y_De_checkNobodyElseHas : Cond) ∈ tb_G := tb_in 452 (by decide +kernel) (by decide +kernel)
theorem cd_De_checkNobodyElseHas : (.code y_De_checkNobodyElseHas b_De_checkNobodyElseHas 4 none : Cond) ∈ tb_G := tb_in 453 (by decide +kernel) (by decide +kernel)
theorem ml_La_La_deskOf : (.methodLink R_La 99 y_La_deskOf : Cond) ∈ tb_G := tb_in 455 (by decide +kernel) (by decide +kernel)
theorem sm_La_deskOf : (.static y_La_deskOf : Cond) ∈ tb_G := tb_in 456 (by decide +kernel) (by decide +kernel)
theorem cd_La_deskOf : (.codeWith y_La_deskOf b_La_deskOf 4 (some .int) [(0, 9, 12, 22)] : Cond) ∈ tb_G := tb_in 457 (by decide +kernel) (by decide +kernel)
theorem ml_La_De_deskOf : (.methodLink R_La 32 y_De_deskOf : Cond) ∈ tb_G := tb_in 458 (by decide +kernel) (by decide +kernel)
theorem im_De_deskOf : (.instanceMethod y_De_deskOf : Cond) ∈ tb_G := tb_in 459 (by decide +kernel) (by decide +kernel)
theorem cd_De_deskOf : (.code y_De_deskOf b_De_deskOf 2 (some .int) : Cond) ∈ tb_G := tb_in 461 (by decide +kernel) (by decide +kernel)
theorem ml_La_La_steps : (.methodLink R_La 107 y_La_steps : Cond) ∈ tb_G := tb_in 462 (by decide +kernel) (by decide +kernel)
theorem sm_La_steps : (.static y_La_steps : Cond) ∈ tb_G := tb_in 463 (by decide +kernel) (by decide +kernel)
theorem cd_La_steps : (.codeWith y_La_steps b_La_steps 3 (some .int) [(0, 8, 11, 13)] : Cond) ∈ tb_G := tb_in 464 (by decide +kernel) (by decide +kernel)
theorem ml_La_De_steps : (.methodLink R_La 36 y_De_steps : Cond) ∈ tb_G := tb_in 465 (by decide +kernel) (by decide +kernel)
theorem im_De_steps : (.instanceMethod y_De_steps : Cond) ∈ tb_G := tb_in 466 (by decide +kernel) (by decide +kernel)
theorem cd_De_steps : (.code y_De_steps b_De_steps 1 (some .int) : Cond) ∈ tb_G := tb_in 468 (by decide +kernel) (by decide +kernel)
theorem ml_De_De_checkSeatingMade : (.methodLink R_De 112 y_De_checkSeatingMade : Cond) ∈ tb_G := tb_in 469 (by decide +kernel) (by decide +kernel)
theorem im_De_checkSeatingMade : (.instanceMethod y_De_checkSeatingMade : Cond) ∈ tb_G := tb_in 471 (by decide +kernel) (by decide +kernel)
theorem cd_De_checkSeatingMade : (.code y_De_checkSeatingMade b_De_checkSeatingMade 1 none : Cond) ∈ tb_G := tb_in 472 (by decide +kernel) (by decide +kernel)
theorem ml_La_La_step : (.methodLink R_La 110 y_La_step : Cond) ∈ tb_G := tb_in 474 (by decide +kernel) (by decide +kernel)
theorem sm_La_step : (.static y_La_step : Cond) ∈ tb_G := tb_in 475 (by decide +kernel) (by decide +kernel)
theorem cd_La_step : (.codeWith y_La_step b_La_step 5 (some .int) [(0, 10, 13, 22), (0, 10, 17, 13)] : Cond) ∈ tb_G := tb_in 476 (by decide +kernel) (by decide +kernel)
theorem ml_La_De_step : (.methodLink R_La 39 y_De_step : Cond) ∈ tb_G := tb_in 477 (by decide +kernel) (by decide +kernel)
theorem im_De_step : (.instanceMethod y_De_step : Cond) ∈ tb_G := tb_in 478 (by decide +kernel) (by decide +kernel)
theorem cd_De_step : (.code y_De_step b_De_step 3 (some .int) : Cond) ∈ tb_G := tb_in 480 (by decide +kernel) (by decide +kernel)
theorem ml_La_La_settle : (.methodLink R_La 113 y_La_settle : Cond) ∈ tb_G := tb_in 483 (by decide +kernel) (by decide +kernel)
theorem sm_La_settle : (.static y_La_settle : Cond) ∈ tb_G := tb_in 484 (by decide +kernel) (by decide +kernel)
theorem cd_La_settle : (.codeWith y_La_settle b_La_settle 3 (some .int) [(0, 8, 11, 13)] : Cond) ∈ tb_G := tb_in 485 (by decide +kernel) (by decide +kernel)
theorem ml_La_De_settle : (.methodLink R_La 42 y_De_settle : Cond) ∈ tb_G := tb_in 486 (by decide +kernel) (by decide +kernel)
theorem im_De_settle : (.instanceMethod y_De_settle : Cond) ∈ tb_G := tb_in 487 (by decide +kernel) (by decide +kernel)
theorem cd_De_settle : (.code y_De_settle b_De_settle 4 (some .int) : Cond) ∈ tb_G := tb_in 489 (by decide +kernel) (by decide +kernel)
theorem ml_La_La_worthOf : (.methodLink R_La 116 y_La_worthOf : Cond) ∈ tb_G := tb_in 490 (by decide +kernel) (by decide +kernel)
theorem sm_La_worthOf : (.static y_La_worthOf : Cond) ∈ tb_G := tb_in 491 (by decide +kernel) (by decide +kernel)
theorem cd_La_worthOf : (.codeWith y_La_worthOf b_La_worthOf 4 (some .int) [(0, 9, 12, 22), (0, 9, 15, 13)] : Cond) ∈ tb_G := tb_in 492 (by decide +kernel) (by decide +kernel)
theorem ml_La_De_worthOf : (.methodLink R_La 45 y_De_worthOf : Cond) ∈ tb_G := tb_in 493 (by decide +kernel) (by decide +kernel)
theorem im_De_worthOf : (.instanceMethod y_De_worthOf : Cond) ∈ tb_G := tb_in 494 (by decide +kernel) (by decide +kernel)
theorem cd_De_worthOf : (.code y_De_worthOf b_De_worthOf 2 (some .int) : Cond) ∈ tb_G := tb_in 496 (by decide +kernel) (by decide +kernel)
theorem ml_La_La_room : (.methodLink R_La 119 y_La_room : Cond) ∈ tb_G := tb_in 497 (by decide +kernel) (by decide +kernel)
theorem sm_La_room : (.static y_La_room : Cond) ∈ tb_G := tb_in 498 (by decide +kernel) (by decide +kernel)
theorem cd_La_room : (.codeWith y_La_room b_La_room 4 (some .int) [(0, 9, 12, 22), (0, 9, 15, 13)] : Cond) ∈ tb_G := tb_in 499 (by decide +kernel) (by decide +kernel)
theorem ml_La_De_room : (.methodLink R_La 48 y_De_room : Cond) ∈ tb_G := tb_in 500 (by decide +kernel) (by decide +kernel)
theorem im_De_room : (.instanceMethod y_De_room : Cond) ∈ tb_G := tb_in 501 (by decide +kernel) (by decide +kernel)
theorem cd_De_room : (.code y_De_room b_De_room 2 (some .int) : Cond) ∈ tb_G := tb_in 503 (by decide +kernel) (by decide +kernel)
theorem ml_La_La_book : (.methodLink R_La 122 y_La_book : Cond) ∈ tb_G := tb_in 506 (by decide +kernel) (by decide +kernel)
theorem sm_La_book : (.static y_La_book : Cond) ∈ tb_G := tb_in 507 (by decide +kernel) (by decide +kernel)
theorem cd_La_book : (.codeWith y_La_book b_La_book 6 (some .int) [(0, 12, 15, 22), (0, 12, 19, 13)] : Cond) ∈ tb_G := tb_in 508 (by decide +kernel) (by decide +kernel)
theorem ml_La_De_book : (.methodLink R_La 51 y_De_book : Cond) ∈ tb_G := tb_in 509 (by decide +kernel) (by decide +kernel)
theorem im_De_book : (.instanceMethod y_De_book : Cond) ∈ tb_G := tb_in 510 (by decide +kernel) (by decide +kernel)
theorem cd_De_book : (.code y_De_book b_De_book 6 (some .int) : Cond) ∈ tb_G := tb_in 512 (by decide +kernel) (by decide +kernel)
theorem ml_De_De_bestRoom : (.methodLink R_De 153 y_De_bestRoom : Cond) ∈ tb_G := tb_in 516 (by decide +kernel) (by decide +kernel)
theorem im_De_bestRoom : (.instanceMethod y_De_bestRoom : Cond) ∈ tb_G := tb_in 518 (by decide +kernel) (by decide +kernel)
theorem cd_De_bestRoom : (.code y_De_bestRoom b_De_bestRoom 8 (some (.object "DeskMoves$Room")) : Cond) ∈ tb_G := tb_in 519 (by decide +kernel) (by decide +kernel)
theorem ml_De_Ro_bookingWithin : (.methodLink R_De 186 y_Ro_bookingWithin : Cond) ∈ tb_G := tb_in 520 (by decide +kernel) (by decide +kernel)
theorem im_Ro_bookingWithin : (.instanceMethod y_Ro_bookingWithin : Cond) ∈ tb_G := tb_in 521 (by decide +kernel) (by decide +kernel)
theorem cd_Ro_bookingWithin : (.code y_Ro_bookingWithin b_Ro_bookingWithin 4 (some (.object "DeskMoves$Booking")) : Cond) ∈ tb_G := tb_in 523 (by decide +kernel) (by decide +kernel)
theorem nn_Bk : (.instantiable R_Bk 6 : Cond) ∈ tb_G := tb_in 524 (by decide +kernel) (by decide +kernel)
theorem ml_De_Bk_init : (.methodLink R_De 157 y_Bk_init : Cond) ∈ tb_G := tb_in 525 (by decide +kernel) (by decide +kernel)
theorem im_Bk_init : (.instanceMethod y_Bk_init : Cond) ∈ tb_G := tb_in 526 (by decide +kernel) (by decide +kernel)
theorem cd_Bk_init : (.code y_Bk_init b_Bk_init 6 none : Cond) ∈ tb_G := tb_in 527 (by decide +kernel) (by decide +kernel)
theorem ml_Bk_Ob_init : (.methodLink R_Bk 1 objectInit : Cond) ∈ tb_G := tb_in 528 (by decide +kernel) (by decide +kernel)
theorem fl_Bk_Bk_number : (.fieldLink R_Bk 7 "DeskMoves$Booking" "number" "I" : Cond) ∈ tb_G := tb_in 529 (by decide +kernel) (by decide +kernel)
theorem fl_De_Bk_number : (.fieldLink R_De 164 "DeskMoves$Booking" "number" "I" : Cond) ∈ tb_G := tb_in 530 (by decide +kernel) (by decide +kernel)
theorem fl_Bk_Bk_bookedRoom : (.fieldLink R_Bk 13 "DeskMoves$Booking" "bookedRoom" "LDeskMoves$Room;" : Cond) ∈ tb_G := tb_in 531 (by decide +kernel) (by decide +kernel)
theorem fl_De_Bk_bookedRoom : (.fieldLink R_De 171 "DeskMoves$Booking" "bookedRoom" "LDeskMoves$Room;" : Cond) ∈ tb_G := tb_in 532 (by decide +kernel) (by decide +kernel)
theorem fl_Bk_Bk_from : (.fieldLink R_Bk 17 "DeskMoves$Booking" "from" "I" : Cond) ∈ tb_G := tb_in 533 (by decide +kernel) (by decide +kernel)
theorem fl_Ro_Bk_from : (.fieldLink R_Ro 17 "DeskMoves$Booking" "from" "I" : Cond) ∈ tb_G := tb_in 534 (by decide +kernel) (by decide +kernel)
theorem fl_Bk_Bk_to : (.fieldLink R_Bk 20 "DeskMoves$Booking" "to" "I" : Cond) ∈ tb_G := tb_in 535 (by decide +kernel) (by decide +kernel)
theorem fl_Ro_Bk_to : (.fieldLink R_Ro 22 "DeskMoves$Booking" "to" "I" : Cond) ∈ tb_G := tb_in 536 (by decide +kernel) (by decide +kernel)
theorem fl_Bk_Bk_heads : (.fieldLink R_Bk 23 "DeskMoves$Booking" "heads" "I" : Cond) ∈ tb_G := tb_in 537 (by decide +kernel) (by decide +kernel)
theorem fl_Ro_Bk_heads : (.fieldLink R_Ro 31 "DeskMoves$Booking" "heads" "I" : Cond) ∈ tb_G := tb_in 538 (by decide +kernel) (by decide +kernel)
theorem fl_Ro_Bk_next : (.fieldLink R_Ro 25 "DeskMoves$Booking" "next" "LDeskMoves$Booking;" : Cond) ∈ tb_G := tb_in 539 (by decide +kernel) (by decide +kernel)
theorem ml_De_Ro_add : (.methodLink R_De 160 y_Ro_add : Cond) ∈ tb_G := tb_in 553 (by decide +kernel) (by decide +kernel)
theorem im_Ro_add : (.instanceMethod y_Ro_add : Cond) ∈ tb_G := tb_in 554 (by decide +kernel) (by decide +kernel)
theorem cd_Ro_add : (.code y_Ro_add b_Ro_add 4 none : Cond) ∈ tb_G := tb_in 556 (by decide +kernel) (by decide +kernel)
theorem ml_La_La_cancel : (.methodLink R_La 125 y_La_cancel : Cond) ∈ tb_G := tb_in 557 (by decide +kernel) (by decide +kernel)
theorem sm_La_cancel : (.static y_La_cancel : Cond) ∈ tb_G := tb_in 558 (by decide +kernel) (by decide +kernel)
theorem cd_La_cancel : (.codeWith y_La_cancel b_La_cancel 4 (some .int) [(0, 16, 19, 22)] : Cond) ∈ tb_G := tb_in 559 (by decide +kernel) (by decide +kernel)
theorem ml_La_De_cancel : (.methodLink R_La 54 y_De_cancel : Cond) ∈ tb_G := tb_in 560 (by decide +kernel) (by decide +kernel)
theorem im_De_cancel : (.instanceMethod y_De_cancel : Cond) ∈ tb_G := tb_in 561 (by decide +kernel) (by decide +kernel)
theorem cd_De_cancel : (.code y_De_cancel b_De_cancel 3 (some .boolean) : Cond) ∈ tb_G := tb_in 563 (by decide +kernel) (by decide +kernel)
theorem ml_De_De_bookingNumbered : (.methodLink R_De 167 y_De_bookingNumbered : Cond) ∈ tb_G := tb_in 564 (by decide +kernel) (by decide +kernel)
theorem im_De_bookingNumbered : (.instanceMethod y_De_bookingNumbered : Cond) ∈ tb_G := tb_in 566 (by decide +kernel) (by decide +kernel)
theorem cd_De_bookingNumbered : (.code y_De_bookingNumbered b_De_bookingNumbered 3 (some (.object "DeskMoves$Booking")) : Cond) ∈ tb_G := tb_in 567 (by decide +kernel) (by decide +kernel)
theorem ml_De_Ro_remove : (.methodLink R_De 175 y_Ro_remove : Cond) ∈ tb_G := tb_in 569 (by decide +kernel) (by decide +kernel)
theorem im_Ro_remove : (.instanceMethod y_Ro_remove : Cond) ∈ tb_G := tb_in 570 (by decide +kernel) (by decide +kernel)
theorem cd_Ro_remove : (.code y_Ro_remove b_Ro_remove 3 (some .boolean) : Cond) ∈ tb_G := tb_in 572 (by decide +kernel) (by decide +kernel)
theorem ml_La_La_roomOf : (.methodLink R_La 128 y_La_roomOf : Cond) ∈ tb_G := tb_in 573 (by decide +kernel) (by decide +kernel)
theorem sm_La_roomOf : (.static y_La_roomOf : Cond) ∈ tb_G := tb_in 574 (by decide +kernel) (by decide +kernel)
theorem cd_La_roomOf : (.codeWith y_La_roomOf b_La_roomOf 4 (some .int) [(0, 9, 12, 22)] : Cond) ∈ tb_G := tb_in 575 (by decide +kernel) (by decide +kernel)
theorem ml_La_De_roomOf : (.methodLink R_La 58 y_De_roomOf : Cond) ∈ tb_G := tb_in 576 (by decide +kernel) (by decide +kernel)
theorem im_De_roomOf : (.instanceMethod y_De_roomOf : Cond) ∈ tb_G := tb_in 577 (by decide +kernel) (by decide +kernel)
theorem cd_De_roomOf : (.code y_De_roomOf b_De_roomOf 2 (some .int) : Cond) ∈ tb_G := tb_in 579 (by decide +kernel) (by decide +kernel)
theorem ml_La_La_inside : (.methodLink R_La 131 y_La_inside : Cond) ∈ tb_G := tb_in 580 (by decide +kernel) (by decide +kernel)
theorem sm_La_inside : (.static y_La_inside : Cond) ∈ tb_G := tb_in 581 (by decide +kernel) (by decide +kernel)
theorem cd_La_inside : (.codeWith y_La_inside b_La_inside 5 (some .int) [(0, 10, 13, 22)] : Cond) ∈ tb_G := tb_in 582 (by decide +kernel) (by decide +kernel)
theorem ml_La_De_inside : (.methodLink R_La 61 y_De_inside : Cond) ∈ tb_G := tb_in 583 (by decide +kernel) (by decide +kernel)
theorem im_De_inside : (.instanceMethod y_De_inside : Cond) ∈ tb_G := tb_in 584 (by decide +kernel) (by decide +kernel)
theorem cd_De_inside : (.code y_De_inside b_De_inside 4 (some .int) : Cond) ∈ tb_G := tb_in 586 (by decide +kernel) (by decide +kernel)
theorem ml_De_De_checkRoom : (.methodLink R_De 180 y_De_checkRoom : Cond) ∈ tb_G := tb_in 587 (by decide +kernel) (by decide +kernel)
theorem im_De_checkRoom : (.instanceMethod y_De_checkRoom : Cond) ∈ tb_G := tb_in 589 (by decide +kernel) (by decide +kernel)
theorem cd_De_checkRoom : (.code y_De_checkRoom b_De_checkRoom 2 none : Cond) ∈ tb_G := tb_in 590 (by decide +kernel) (by decide +kernel)
theorem ml_De_De_checkMinute : (.methodLink R_De 183 y_De_checkMinute : Cond) ∈ tb_G := tb_in 592 (by decide +kernel) (by decide +kernel)
theorem im_De_checkMinute : (.instanceMethod y_De_checkMinute : Cond) ∈ tb_G := tb_in 594 (by decide +kernel) (by decide +kernel)
theorem cd_De_checkMinute : (.code y_De_checkMinute b_De_checkMinute 2 none : Cond) ∈ tb_G := tb_in 595 (by decide +kernel) (by decide +kernel)
theorem ml_La_La_gap : (.methodLink R_La 134 y_La_gap : Cond) ∈ tb_G := tb_in 597 (by decide +kernel) (by decide +kernel)
theorem sm_La_gap : (.static y_La_gap : Cond) ∈ tb_G := tb_in 598 (by decide +kernel) (by decide +kernel)
theorem cd_La_gap : (.codeWith y_La_gap b_La_gap 6 (some .int) [(0, 12, 15, 22)] : Cond) ∈ tb_G := tb_in 599 (by decide +kernel) (by decide +kernel)
theorem ml_La_De_gap : (.methodLink R_La 64 y_De_gap : Cond) ∈ tb_G := tb_in 600 (by decide +kernel) (by decide +kernel)
theorem im_De_gap : (.instanceMethod y_De_gap : Cond) ∈ tb_G := tb_in 601 (by decide +kernel) (by decide +kernel)
theorem cd_De_gap : (.code y_De_gap b_De_gap 5 (some .int) : Cond) ∈ tb_G := tb_in 603 (by decide +kernel) (by decide +kernel)
theorem ml_De_Ro_firstFree : (.methodLink R_De 192 y_Ro_firstFree : Cond) ∈ tb_G := tb_in 605 (by decide +kernel) (by decide +kernel)
theorem im_Ro_firstFree : (.instanceMethod y_Ro_firstFree : Cond) ∈ tb_G := tb_in 606 (by decide +kernel) (by decide +kernel)
theorem cd_Ro_firstFree : (.code y_Ro_firstFree b_Ro_firstFree 5 (some .int) : Cond) ∈ tb_G := tb_in 608 (by decide +kernel) (by decide +kernel)
theorem cl_La_Mo : (.classLink R_La 68 R_Mo : Cond) ∈ tb_G := tb_in 609 (by decide +kernel) (by decide +kernel)
theorem nn_Mo : (.instantiable R_Mo 24 : Cond) ∈ tb_G := tb_in 610 (by decide +kernel) (by decide +kernel)
theorem ml_La_Mo_init : (.methodLink R_La 70 y_Mo_init : Cond) ∈ tb_G := tb_in 611 (by decide +kernel) (by decide +kernel)
theorem im_Mo_init : (.instanceMethod y_Mo_init : Cond) ∈ tb_G := tb_in 612 (by decide +kernel) (by decide +kernel)
theorem cd_Mo_init : (.code y_Mo_init b_Mo_init 1 none : Cond) ∈ tb_G := tb_in 613 (by decide +kernel) (by decide +kernel)
theorem ml_Mo_Ob_init : (.methodLink R_Mo 1 objectInit : Cond) ∈ tb_G := tb_in 614 (by decide +kernel) (by decide +kernel)
theorem fl_Mo_Mo_thrown : (.fieldLink R_Mo 57 "DeskMovesModel" "thrown" "I" : Cond) ∈ tb_G := tb_in 615 (by decide +kernel) (by decide +kernel)
theorem fl_Mo_Mo_desks : (.fieldLink R_Mo 53 "DeskMovesModel" "desks" "I" : Cond) ∈ tb_G := tb_in 616 (by decide +kernel) (by decide +kernel)
theorem fl_Mo_Mo_persons : (.fieldLink R_Mo 60 "DeskMovesModel" "persons" "I" : Cond) ∈ tb_G := tb_in 617 (by decide +kernel) (by decide +kernel)
theorem fl_Mo_Mo_wishes : (.fieldLink R_Mo 7 "DeskMovesModel" "wishes" "[I" : Cond) ∈ tb_G := tb_in 618 (by decide +kernel) (by decide +kernel)
theorem fl_Mo_Mo_barred : (.fieldLink R_Mo 13 "DeskMovesModel" "barred" "[Z" : Cond) ∈ tb_G := tb_in 619 (by decide +kernel) (by decide +kernel)
theorem fl_Mo_Mo_olds : (.fieldLink R_Mo 17 "DeskMovesModel" "olds" "[I" : Cond) ∈ tb_G := tb_in 620 (by decide +kernel) (by decide +kernel)
theorem fl_Mo_Mo_made : (.fieldLink R_Mo 70 "DeskMovesModel" "made" "Z" : Cond) ∈ tb_G := tb_in 621 (by decide +kernel) (by decide +kernel)
theorem fl_Mo_Mo_worth : (.fieldLink R_Mo 103 "DeskMovesModel" "worth" "I" : Cond) ∈ tb_G := tb_in 622 (by decide +kernel) (by decide +kernel)
theorem fl_Mo_Mo_seats : (.fieldLink R_Mo 20 "DeskMovesModel" "seats" "[I" : Cond) ∈ tb_G := tb_in 623 (by decide +kernel) (by decide +kernel)
theorem fl_Mo_Mo_best : (.fieldLink R_Mo 23 "DeskMovesModel" "best" "[I" : Cond) ∈ tb_G := tb_in 624 (by decide +kernel) (by decide +kernel)
theorem fl_Mo_Mo_order : (.fieldLink R_Mo 26 "DeskMovesModel" "order" "[I" : Cond) ∈ tb_G := tb_in 625 (by decide +kernel) (by decide +kernel)
theorem fl_Mo_Mo_many : (.fieldLink R_Mo 85 "DeskMovesModel" "many" "I" : Cond) ∈ tb_G := tb_in 626 (by decide +kernel) (by decide +kernel)
theorem fl_Mo_Mo_gone : (.fieldLink R_Mo 109 "DeskMovesModel" "gone" "I" : Cond) ∈ tb_G := tb_in 627 (by decide +kernel) (by decide +kernel)
theorem fl_Mo_Mo_stuck : (.fieldLink R_Mo 119 "DeskMovesModel" "stuck" "Z" : Cond) ∈ tb_G := tb_in 628 (by decide +kernel) (by decide +kernel)
theorem fl_Mo_Mo_path : (.fieldLink R_Mo 29 "DeskMovesModel" "path" "[I" : Cond) ∈ tb_G := tb_in 629 (by decide +kernel) (by decide +kernel)
theorem fl_Mo_Mo_place : (.fieldLink R_Mo 32 "DeskMovesModel" "place" "[I" : Cond) ∈ tb_G := tb_in 630 (by decide +kernel) (by decide +kernel)
theorem fl_Mo_Mo_rooms : (.fieldLink R_Mo 67 "DeskMovesModel" "rooms" "I" : Cond) ∈ tb_G := tb_in 631 (by decide +kernel) (by decide +kernel)
theorem fl_Mo_Mo_places : (.fieldLink R_Mo 35 "DeskMovesModel" "places" "[I" : Cond) ∈ tb_G := tb_in 632 (by decide +kernel) (by decide +kernel)
theorem fl_Mo_Mo_bookings : (.fieldLink R_Mo 126 "DeskMovesModel" "bookings" "I" : Cond) ∈ tb_G := tb_in 633 (by decide +kernel) (by decide +kernel)
theorem fl_Mo_Mo_room : (.fieldLink R_Mo 38 "DeskMovesModel" "room" "[I" : Cond) ∈ tb_G := tb_in 634 (by decide +kernel) (by decide +kernel)
theorem fl_Mo_Mo_from : (.fieldLink R_Mo 41 "DeskMovesModel" "from" "[I" : Cond) ∈ tb_G := tb_in 635 (by decide +kernel) (by decide +kernel)
theorem fl_Mo_Mo_to : (.fieldLink R_Mo 44 "DeskMovesModel" "to" "[I" : Cond) ∈ tb_G := tb_in 636 (by decide +kernel) (by decide +kernel)
theorem fl_Mo_Mo_left : (.fieldLink R_Mo 47 "DeskMovesModel" "left" "[I" : Cond) ∈ tb_G := tb_in 637 (by decide +kernel) (by decide +kernel)
theorem fl_Mo_Mo_there : (.fieldLink R_Mo 50 "DeskMovesModel" "there" "[Z" : Cond) ∈ tb_G := tb_in 638 (by decide +kernel) (by decide +kernel)
theorem ml_La_Mo_thrown : (.methodLink R_La 77 y_Mo_thrown : Cond) ∈ tb_G := tb_in 688 (by decide +kernel) (by decide +kernel)
theorem im_Mo_thrown : (.instanceMethod y_Mo_thrown : Cond) ∈ tb_G := tb_in 689 (by decide +kernel) (by decide +kernel)
theorem cd_Mo_thrown : (.code y_Mo_thrown b_Mo_thrown 1 (some .int) : Cond) ∈ tb_G := tb_in 691 (by decide +kernel) (by decide +kernel)
theorem ml_La_Mo_desk : (.methodLink R_La 76 y_Mo_desk : Cond) ∈ tb_G := tb_in 692 (by decide +kernel) (by decide +kernel)
theorem im_Mo_desk : (.instanceMethod y_Mo_desk : Cond) ∈ tb_G := tb_in 693 (by decide +kernel) (by decide +kernel)
theorem cd_Mo_desk : (.code y_Mo_desk b_Mo_desk 1 (some .int) : Cond) ∈ tb_G := tb_in 695 (by decide +kernel) (by decide +kernel)
theorem ml_La_Mo_person : (.methodLink R_La 82 y_Mo_person : Cond) ∈ tb_G := tb_in 696 (by decide +kernel) (by decide +kernel)
theorem im_Mo_person : (.instanceMethod y_Mo_person : Cond) ∈ tb_G := tb_in 697 (by decide +kernel) (by decide +kernel)
theorem cd_Mo_person : (.code y_Mo_person b_Mo_person 1 (some .int) : Cond) ∈ tb_G := tb_in 699 (by decide +kernel) (by decide +kernel)
theorem ml_La_Mo_wish : (.methodLink R_La 86 y_Mo_wish : Cond) ∈ tb_G := tb_in 700 (by decide +kernel) (by decide +kernel)
theorem im_Mo_wish : (.instanceMethod y_Mo_wish : Cond) ∈ tb_G := tb_in 701 (by decide +kernel) (by decide +kernel)
theorem cd_Mo_wish : (.code y_Mo_wish b_Mo_wish 5 (some .int) : Cond) ∈ tb_G := tb_in 703 (by decide +kernel) (by decide +kernel)
theorem ml_Mo_Mo_isPerson : (.methodLink R_Mo 74 y_Mo_isPerson : Cond) ∈ tb_G := tb_in 704 (by decide +kernel) (by decide +kernel)
theorem im_Mo_isPerson : (.instanceMethod y_Mo_isPerson : Cond) ∈ tb_G := tb_in 706 (by decide +kernel) (by decide +kernel)
theorem cd_Mo_isPerson : (.code y_Mo_isPerson b_Mo_isPerson 2 (some .boolean) : Cond) ∈ tb_G := tb_in 707 (by decide +kernel) (by decide +kernel)
theorem ml_Mo_Mo_in : (.methodLink R_Mo 63 y_Mo_in : Cond) ∈ tb_G := tb_in 708 (by decide +kernel) (by decide +kernel)
theorem sm_Mo_in : (.static y_Mo_in : Cond) ∈ tb_G := tb_in 709 (by decide +kernel) (by decide +kernel)
theorem cd_Mo_in : (.code y_Mo_in b_Mo_in 3 (some .boolean) : Cond) ∈ tb_G := tb_in 710 (by decide +kernel) (by decide +kernel)
theorem ml_Mo_Mo_isDesk : (.methodLink R_Mo 78 y_Mo_isDesk : Cond) ∈ tb_G := tb_in 711 (by decide +kernel) (by decide +kernel)
theorem im_Mo_isDesk : (.instanceMethod y_Mo_isDesk : Cond) ∈ tb_G := tb_in 713 (by decide +kernel) (by decide +kernel)
theorem cd_Mo_isDesk : (.code y_Mo_isDesk b_Mo_isDesk 2 (some .boolean) : Cond) ∈ tb_G := tb_in 714 (by decide +kernel) (by decide +kernel)
theorem ml_La_Mo_bar : (.methodLink R_La 90 y_Mo_bar : Cond) ∈ tb_G := tb_in 715 (by decide +kernel) (by decide +kernel)
theorem im_Mo_bar : (.instanceMethod y_Mo_bar : Cond) ∈ tb_G := tb_in 716 (by decide +kernel) (by decide +kernel)
theorem cd_Mo_bar : (.code y_Mo_bar b_Mo_bar 5 (some .boolean) : Cond) ∈ tb_G := tb_in 718 (by decide +kernel) (by decide +kernel)
theorem ml_La_Mo_sits : (.methodLink R_La 94 y_Mo_sits : Cond) ∈ tb_G := tb_in 719 (by decide +kernel) (by decide +kernel)
theorem im_Mo_sits : (.instanceMethod y_Mo_sits : Cond) ∈ tb_G := tb_in 720 (by decide +kernel) (by decide +kernel)
theorem cd_Mo_sits : (.code y_Mo_sits b_Mo_sits 4 (some .int) : Cond) ∈ tb_G := tb_in 722 (by decide +kernel) (by decide +kernel)
theorem ml_La_Mo_seat : (.methodLink R_La 98 y_Mo_seat : Cond) ∈ tb_G := tb_in 723 (by decide +kernel) (by decide +kernel)
theorem im_Mo_seat : (.instanceMethod y_Mo_seat : Cond) ∈ tb_G := tb_in 724 (by decide +kernel) (by decide +kernel)
theorem cd_Mo_seat : (.code y_Mo_seat b_Mo_seat 5 (some .int) : Cond) ∈ tb_G := tb_in 726 (by decide +kernel) (by decide +kernel)
theorem ml_Mo_Mo_findBest : (.methodLink R_Mo 97 y_Mo_findBest : Cond) ∈ tb_G := tb_in 727 (by decide +kernel) (by decide +kernel)
theorem im_Mo_findBest : (.instanceMethod y_Mo_findBest : Cond) ∈ tb_G := tb_in 729 (by decide +kernel) (by decide +kernel)
theorem cd_Mo_findBest : (.code y_Mo_findBest b_Mo_findBest 8 (some .int) : Cond) ∈ tb_G := tb_in 730 (by decide +kernel) (by decide +kernel)
theorem ml_Mo_Mo_bits : (.methodLink R_Mo 88 y_Mo_bits : Cond) ∈ tb_G := tb_in 731 (by decide +kernel) (by decide +kernel)
theorem sm_Mo_bits : (.static y_Mo_bits : Cond) ∈ tb_G := tb_in 732 (by decide +kernel) (by decide +kernel)
theorem cd_Mo_bits : (.code y_Mo_bits b_Mo_bits 3 (some .int) : Cond) ∈ tb_G := tb_in 733 (by decide +kernel) (by decide +kernel)
theorem ki_Mo_m1000000000 : (.constant R_Mo 92 (-1000000000) : Cond) ∈ tb_G := tb_in 734 (by decide +kernel) (by decide +kernel)
theorem ml_Mo_Mo_value : (.methodLink R_Mo 93 y_Mo_value : Cond) ∈ tb_G := tb_in 735 (by decide +kernel) (by decide +kernel)
theorem im_Mo_value : (.instanceMethod y_Mo_value : Cond) ∈ tb_G := tb_in 737 (by decide +kernel) (by decide +kernel)
theorem cd_Mo_value : (.code y_Mo_value b_Mo_value 3 (some .int) : Cond) ∈ tb_G := tb_in 738 (by decide +kernel) (by decide +kernel)
theorem ml_Mo_Mo_isMove : (.methodLink R_Mo 81 y_Mo_isMove : Cond) ∈ tb_G := tb_in 739 (by decide +kernel) (by decide +kernel)
theorem im_Mo_isMove : (.instanceMethod y_Mo_isMove : Cond) ∈ tb_G := tb_in 741 (by decide +kernel) (by decide +kernel)
theorem cd_Mo_isMove : (.code y_Mo_isMove b_Mo_isMove 3 (some .boolean) : Cond) ∈ tb_G := tb_in 742 (by decide +kernel) (by decide +kernel)
theorem ml_Mo_Mo_worthIn : (.methodLink R_Mo 100 y_Mo_worthIn : Cond) ∈ tb_G := tb_in 743 (by decide +kernel) (by decide +kernel)
theorem sm_Mo_worthIn : (.static y_Mo_worthIn : Cond) ∈ tb_G := tb_in 744 (by decide +kernel) (by decide +kernel)
theorem cd_Mo_worthIn : (.code y_Mo_worthIn b_Mo_worthIn 1 (some .int) : Cond) ∈ tb_G := tb_in 745 (by decide +kernel) (by decide +kernel)
theorem ml_Mo_Mo_walk : (.methodLink R_Mo 106 y_Mo_walk : Cond) ∈ tb_G := tb_in 746 (by decide +kernel) (by decide +kernel)
theorem im_Mo_walk : (.instanceMethod y_Mo_walk : Cond) ∈ tb_G := tb_in 748 (by decide +kernel) (by decide +kernel)
theorem cd_Mo_walk : (.code y_Mo_walk b_Mo_walk 2 none : Cond) ∈ tb_G := tb_in 749 (by decide +kernel) (by decide +kernel)
theorem ml_Mo_Mo_goes : (.methodLink R_Mo 122 y_Mo_goes : Cond) ∈ tb_G := tb_in 750 (by decide +kernel) (by decide +kernel)
theorem im_Mo_goes : (.instanceMethod y_Mo_goes : Cond) ∈ tb_G := tb_in 752 (by decide +kernel) (by decide +kernel)
theorem cd_Mo_goes : (.code y_Mo_goes b_Mo_goes 3 (some .boolean) : Cond) ∈ tb_G := tb_in 753 (by decide +kernel) (by decide +kernel)
theorem ml_Mo_Mo_isFree : (.methodLink R_Mo 112 y_Mo_isFree : Cond) ∈ tb_G := tb_in 754 (by decide +kernel) (by decide +kernel)
theorem im_Mo_isFree : (.instanceMethod y_Mo_isFree : Cond) ∈ tb_G := tb_in 756 (by decide +kernel) (by decide +kernel)
theorem cd_Mo_isFree : (.code y_Mo_isFree b_Mo_isFree 4 (some .boolean) : Cond) ∈ tb_G := tb_in 757 (by decide +kernel) (by decide +kernel)
theorem ml_Mo_Mo_go : (.methodLink R_Mo 115 y_Mo_go : Cond) ∈ tb_G := tb_in 758 (by decide +kernel) (by decide +kernel)
theorem im_Mo_go : (.instanceMethod y_Mo_go : Cond) ∈ tb_G := tb_in 760 (by decide +kernel) (by decide +kernel)
theorem cd_Mo_go : (.code y_Mo_go b_Mo_go 3 none : Cond) ∈ tb_G := tb_in 761 (by decide +kernel) (by decide +kernel)
theorem ml_La_Mo_deskOf : (.methodLink R_La 102 y_Mo_deskOf : Cond) ∈ tb_G := tb_in 762 (by decide +kernel) (by decide +kernel)
theorem im_Mo_deskOf : (.instanceMethod y_Mo_deskOf : Cond) ∈ tb_G := tb_in 763 (by decide +kernel) (by decide +kernel)
theorem cd_Mo_deskOf : (.code y_Mo_deskOf b_Mo_deskOf 2 (some .int) : Cond) ∈ tb_G := tb_in 765 (by decide +kernel) (by decide +kernel)
theorem ml_La_Mo_moved : (.methodLink R_La 106 y_Mo_moved : Cond) ∈ tb_G := tb_in 766 (by decide +kernel) (by decide +kernel)
theorem im_Mo_moved : (.instanceMethod y_Mo_moved : Cond) ∈ tb_G := tb_in 767 (by decide +kernel) (by decide +kernel)
theorem cd_Mo_moved : (.code y_Mo_moved b_Mo_moved 3 (some .int) : Cond) ∈ tb_G := tb_in 769 (by decide +kernel) (by decide +kernel)
theorem ml_La_Mo_worthOf : (.methodLink R_La 118 y_Mo_worthOf : Cond) ∈ tb_G := tb_in 770 (by decide +kernel) (by decide +kernel)
theorem im_Mo_worthOf : (.instanceMethod y_Mo_worthOf : Cond) ∈ tb_G := tb_in 771 (by decide +kernel) (by decide +kernel)
theorem cd_Mo_worthOf : (.code y_Mo_worthOf b_Mo_worthOf 2 (some .int) : Cond) ∈ tb_G := tb_in 773 (by decide +kernel) (by decide +kernel)
theorem ml_La_Mo_settle : (.methodLink R_La 115 y_Mo_settle : Cond) ∈ tb_G := tb_in 774 (by decide +kernel) (by decide +kernel)
theorem im_Mo_settle : (.instanceMethod y_Mo_settle : Cond) ∈ tb_G := tb_in 775 (by decide +kernel) (by decide +kernel)
theorem cd_Mo_settle : (.code y_Mo_settle b_Mo_settle 3 (some .int) : Cond) ∈ tb_G := tb_in 777 (by decide +kernel) (by decide +kernel)
theorem ml_La_Mo_steps : (.methodLink R_La 109 y_Mo_steps : Cond) ∈ tb_G := tb_in 778 (by decide +kernel) (by decide +kernel)
theorem im_Mo_steps : (.instanceMethod y_Mo_steps : Cond) ∈ tb_G := tb_in 779 (by decide +kernel) (by decide +kernel)
theorem cd_Mo_steps : (.code y_Mo_steps b_Mo_steps 1 (some .int) : Cond) ∈ tb_G := tb_in 781 (by decide +kernel) (by decide +kernel)
theorem ml_La_Mo_step : (.methodLink R_La 112 y_Mo_step : Cond) ∈ tb_G := tb_in 782 (by decide +kernel) (by decide +kernel)
theorem im_Mo_step : (.instanceMethod y_Mo_step : Cond) ∈ tb_G := tb_in 783 (by decide +kernel) (by decide +kernel)
theorem cd_Mo_step : (.code y_Mo_step b_Mo_step 3 (some .int) : Cond) ∈ tb_G := tb_in 785 (by decide +kernel) (by decide +kernel)
theorem ml_La_Mo_room : (.methodLink R_La 121 y_Mo_room : Cond) ∈ tb_G := tb_in 786 (by decide +kernel) (by decide +kernel)
theorem im_Mo_room : (.instanceMethod y_Mo_room : Cond) ∈ tb_G := tb_in 787 (by decide +kernel) (by decide +kernel)
theorem cd_Mo_room : (.code y_Mo_room b_Mo_room 2 (some .int) : Cond) ∈ tb_G := tb_in 789 (by decide +kernel) (by decide +kernel)
theorem ml_La_Mo_book : (.methodLink R_La 124 y_Mo_book : Cond) ∈ tb_G := tb_in 790 (by decide +kernel) (by decide +kernel)
theorem im_Mo_book : (.instanceMethod y_Mo_book : Cond) ∈ tb_G := tb_in 791 (by decide +kernel) (by decide +kernel)
theorem cd_Mo_book : (.code y_Mo_book b_Mo_book 6 (some .int) : Cond) ∈ tb_G := tb_in 793 (by decide +kernel) (by decide +kernel)
theorem ml_Mo_Mo_meeting : (.methodLink R_Mo 129 y_Mo_meeting : Cond) ∈ tb_G := tb_in 794 (by decide +kernel) (by decide +kernel)
theorem im_Mo_meeting : (.instanceMethod y_Mo_meeting : Cond) ∈ tb_G := tb_in 796 (by decide +kernel) (by decide +kernel)
theorem cd_Mo_meeting : (.code y_Mo_meeting b_Mo_meeting 6 (some .int) : Cond) ∈ tb_G := tb_in 797 (by decide +kernel) (by decide +kernel)
theorem ml_La_Mo_cancel : (.methodLink R_La 127 y_Mo_cancel : Cond) ∈ tb_G := tb_in 798 (by decide +kernel) (by decide +kernel)
theorem im_Mo_cancel : (.instanceMethod y_Mo_cancel : Cond) ∈ tb_G := tb_in 799 (by decide +kernel) (by decide +kernel)
theorem cd_Mo_cancel : (.code y_Mo_cancel b_Mo_cancel 3 (some .boolean) : Cond) ∈ tb_G := tb_in 801 (by decide +kernel) (by decide +kernel)
theorem ml_La_Mo_roomOf : (.methodLink R_La 130 y_Mo_roomOf : Cond) ∈ tb_G := tb_in 802 (by decide +kernel) (by decide +kernel)
theorem im_Mo_roomOf : (.instanceMethod y_Mo_roomOf : Cond) ∈ tb_G := tb_in 803 (by decide +kernel) (by decide +kernel)
theorem cd_Mo_roomOf : (.code y_Mo_roomOf b_Mo_roomOf 2 (some .int) : Cond) ∈ tb_G := tb_in 805 (by decide +kernel) (by decide +kernel)
theorem ml_La_Mo_inside : (.methodLink R_La 133 y_Mo_inside : Cond) ∈ tb_G := tb_in 806 (by decide +kernel) (by decide +kernel)
theorem im_Mo_inside : (.instanceMethod y_Mo_inside : Cond) ∈ tb_G := tb_in 807 (by decide +kernel) (by decide +kernel)
theorem cd_Mo_inside : (.code y_Mo_inside b_Mo_inside 3 (some .int) : Cond) ∈ tb_G := tb_in 809 (by decide +kernel) (by decide +kernel)
theorem ml_Mo_Mo_isRoom : (.methodLink R_Mo 133 y_Mo_isRoom : Cond) ∈ tb_G := tb_in 810 (by decide +kernel) (by decide +kernel)
theorem im_Mo_isRoom : (.instanceMethod y_Mo_isRoom : Cond) ∈ tb_G := tb_in 812 (by decide +kernel) (by decide +kernel)
theorem cd_Mo_isRoom : (.code y_Mo_isRoom b_Mo_isRoom 2 (some .boolean) : Cond) ∈ tb_G := tb_in 813 (by decide +kernel) (by decide +kernel)
theorem ml_La_Mo_gap : (.methodLink R_La 136 y_Mo_gap : Cond) ∈ tb_G := tb_in 814 (by decide +kernel) (by decide +kernel)
theorem im_Mo_gap : (.instanceMethod y_Mo_gap : Cond) ∈ tb_G := tb_in 815 (by decide +kernel) (by decide +kernel)
theorem cd_Mo_gap : (.code y_Mo_gap b_Mo_gap 6 (some .int) : Cond) ∈ tb_G := tb_in 817 (by decide +kernel) (by decide +kernel)
theorem ml_La_Mo_waste : (.methodLink R_La 140 y_Mo_waste : Cond) ∈ tb_G := tb_in 818 (by decide +kernel) (by decide +kernel)
theorem im_Mo_waste : (.instanceMethod y_Mo_waste : Cond) ∈ tb_G := tb_in 819 (by decide +kernel) (by decide +kernel)
theorem cd_Mo_waste : (.code y_Mo_waste b_Mo_waste 3 (some .int) : Cond) ∈ tb_G := tb_in 821 (by decide +kernel) (by decide +kernel)
theorem ac_long : (.arrayClass .long : Cond) ∈ tb_G := tb_in 822 (by decide +kernel) (by decide +kernel)
theorem se_De_seat : (.selects R_De y_De_seat y_De_seat : Cond) ∈ tb_G := tb_in 222 (by decide +kernel) (by decide +kernel)
theorem se_Ma_match : (.selects R_Ma y_Ma_match y_Ma_match : Cond) ∈ tb_G := tb_in 226 (by decide +kernel) (by decide +kernel)
theorem se_Pe_costAt : (.selects R_Pe y_Pe_costAt y_Pe_costAt : Cond) ∈ tb_G := tb_in 250 (by decide +kernel) (by decide +kernel)
theorem se_Pe_wouldMoveTo : (.selects R_Pe y_Pe_wouldMoveTo y_Pe_wouldMoveTo : Cond) ∈ tb_G := tb_in 255 (by decide +kernel) (by decide +kernel)
theorem se_Ma_tellPersons : (.selects R_Ma y_Ma_tellPersons y_Ma_tellPersons : Cond) ∈ tb_G := tb_in 276 (by decide +kernel) (by decide +kernel)
theorem se_Wa_plan : (.selects R_Wa y_Wa_plan y_Wa_plan : Cond) ∈ tb_G := tb_in 280 (by decide +kernel) (by decide +kernel)
theorem se_De_moved : (.selects R_De y_De_moved y_De_moved : Cond) ∈ tb_G := tb_in 308 (by decide +kernel) (by decide +kernel)
theorem se_De_waste : (.selects R_De y_De_waste y_De_waste : Cond) ∈ tb_G := tb_in 313 (by decide +kernel) (by decide +kernel)
theorem se_Ro_placesLeftOver : (.selects R_Ro y_Ro_placesLeftOver y_Ro_placesLeftOver : Cond) ∈ tb_G := tb_in 317 (by decide +kernel) (by decide +kernel)
theorem se_De_desk : (.selects R_De y_De_desk y_De_desk : Cond) ∈ tb_G := tb_in 325 (by decide +kernel) (by decide +kernel)
theorem se_De_person : (.selects R_De y_De_person y_De_person : Cond) ∈ tb_G := tb_in 399 (by decide +kernel) (by decide +kernel)
theorem se_De_wish : (.selects R_De y_De_wish y_De_wish : Cond) ∈ tb_G := tb_in 408 (by decide +kernel) (by decide +kernel)
theorem se_De_bar : (.selects R_De y_De_bar y_De_bar : Cond) ∈ tb_G := tb_in 441 (by decide +kernel) (by decide +kernel)
theorem se_De_sits : (.selects R_De y_De_sits y_De_sits : Cond) ∈ tb_G := tb_in 448 (by decide +kernel) (by decide +kernel)
theorem se_De_deskOf : (.selects R_De y_De_deskOf y_De_deskOf : Cond) ∈ tb_G := tb_in 460 (by decide +kernel) (by decide +kernel)
theorem se_De_steps : (.selects R_De y_De_steps y_De_steps : Cond) ∈ tb_G := tb_in 467 (by decide +kernel) (by decide +kernel)
theorem se_De_step : (.selects R_De y_De_step y_De_step : Cond) ∈ tb_G := tb_in 479 (by decide +kernel) (by decide +kernel)
theorem se_De_settle : (.selects R_De y_De_settle y_De_settle : Cond) ∈ tb_G := tb_in 488 (by decide +kernel) (by decide +kernel)
theorem se_De_worthOf : (.selects R_De y_De_worthOf y_De_worthOf : Cond) ∈ tb_G := tb_in 495 (by decide +kernel) (by decide +kernel)
theorem se_De_room : (.selects R_De y_De_room y_De_room : Cond) ∈ tb_G := tb_in 502 (by decide +kernel) (by decide +kernel)
theorem se_De_book : (.selects R_De y_De_book y_De_book : Cond) ∈ tb_G := tb_in 511 (by decide +kernel) (by decide +kernel)
theorem se_Ro_bookingWithin : (.selects R_Ro y_Ro_bookingWithin y_Ro_bookingWithin : Cond) ∈ tb_G := tb_in 522 (by decide +kernel) (by decide +kernel)
theorem se_Ro_add : (.selects R_Ro y_Ro_add y_Ro_add : Cond) ∈ tb_G := tb_in 555 (by decide +kernel) (by decide +kernel)
theorem se_De_cancel : (.selects R_De y_De_cancel y_De_cancel : Cond) ∈ tb_G := tb_in 562 (by decide +kernel) (by decide +kernel)
theorem se_Ro_remove : (.selects R_Ro y_Ro_remove y_Ro_remove : Cond) ∈ tb_G := tb_in 571 (by decide +kernel) (by decide +kernel)
theorem se_De_roomOf : (.selects R_De y_De_roomOf y_De_roomOf : Cond) ∈ tb_G := tb_in 578 (by decide +kernel) (by decide +kernel)
theorem se_De_inside : (.selects R_De y_De_inside y_De_inside : Cond) ∈ tb_G := tb_in 585 (by decide +kernel) (by decide +kernel)
theorem se_De_gap : (.selects R_De y_De_gap y_De_gap : Cond) ∈ tb_G := tb_in 602 (by decide +kernel) (by decide +kernel)
theorem se_Ro_firstFree : (.selects R_Ro y_Ro_firstFree y_Ro_firstFree : Cond) ∈ tb_G := tb_in 607 (by decide +kernel) (by decide +kernel)
theorem se_Mo_thrown : (.selects R_Mo y_Mo_thrown y_Mo_thrown : Cond) ∈ tb_G := tb_in 690 (by decide +kernel) (by decide +kernel)
theorem se_Mo_desk : (.selects R_Mo y_Mo_desk y_Mo_desk : Cond) ∈ tb_G := tb_in 694 (by decide +kernel) (by decide +kernel)
theorem se_Mo_person : (.selects R_Mo y_Mo_person y_Mo_person : Cond) ∈ tb_G := tb_in 698 (by decide +kernel) (by decide +kernel)
theorem se_Mo_wish : (.selects R_Mo y_Mo_wish y_Mo_wish : Cond) ∈ tb_G := tb_in 702 (by decide +kernel) (by decide +kernel)
theorem se_Mo_bar : (.selects R_Mo y_Mo_bar y_Mo_bar : Cond) ∈ tb_G := tb_in 717 (by decide +kernel) (by decide +kernel)
theorem se_Mo_sits : (.selects R_Mo y_Mo_sits y_Mo_sits : Cond) ∈ tb_G := tb_in 721 (by decide +kernel) (by decide +kernel)
theorem se_Mo_seat : (.selects R_Mo y_Mo_seat y_Mo_seat : Cond) ∈ tb_G := tb_in 725 (by decide +kernel) (by decide +kernel)
theorem se_Mo_deskOf : (.selects R_Mo y_Mo_deskOf y_Mo_deskOf : Cond) ∈ tb_G := tb_in 764 (by decide +kernel) (by decide +kernel)
theorem se_Mo_moved : (.selects R_Mo y_Mo_moved y_Mo_moved : Cond) ∈ tb_G := tb_in 768 (by decide +kernel) (by decide +kernel)
theorem se_Mo_worthOf : (.selects R_Mo y_Mo_worthOf y_Mo_worthOf : Cond) ∈ tb_G := tb_in 772 (by decide +kernel) (by decide +kernel)
theorem se_Mo_settle : (.selects R_Mo y_Mo_settle y_Mo_settle : Cond) ∈ tb_G := tb_in 776 (by decide +kernel) (by decide +kernel)
theorem se_Mo_steps : (.selects R_Mo y_Mo_steps y_Mo_steps : Cond) ∈ tb_G := tb_in 780 (by decide +kernel) (by decide +kernel)
theorem se_Mo_step : (.selects R_Mo y_Mo_step y_Mo_step : Cond) ∈ tb_G := tb_in 784 (by decide +kernel) (by decide +kernel)
theorem se_Mo_room : (.selects R_Mo y_Mo_room y_Mo_room : Cond) ∈ tb_G := tb_in 788 (by decide +kernel) (by decide +kernel)
theorem se_Mo_book : (.selects R_Mo y_Mo_book y_Mo_book : Cond) ∈ tb_G := tb_in 792 (by decide +kernel) (by decide +kernel)
theorem se_Mo_cancel : (.selects R_Mo y_Mo_cancel y_Mo_cancel : Cond) ∈ tb_G := tb_in 800 (by decide +kernel) (by decide +kernel)
theorem se_Mo_roomOf : (.selects R_Mo y_Mo_roomOf y_Mo_roomOf : Cond) ∈ tb_G := tb_in 804 (by decide +kernel) (by decide +kernel)
theorem se_Mo_inside : (.selects R_Mo y_Mo_inside y_Mo_inside : Cond) ∈ tb_G := tb_in 808 (by decide +kernel) (by decide +kernel)
theorem se_Mo_gap : (.selects R_Mo y_Mo_gap y_Mo_gap : Cond) ∈ tb_G := tb_in 816 (by decide +kernel) (by decide +kernel)
theorem se_Mo_waste : (.selects R_Mo y_Mo_waste y_Mo_waste : Cond) ∈ tb_G := tb_in 820 (by decide +kernel) (by decide +kernel)
theorem se_Ma_clearSpots : (.selects R_Ma y_Ma_clearSpots y_Ma_clearSpots : Cond) ∈ tb_G := tb_in 0 (by decide +kernel) (by decide +kernel)
theorem se_Ma_addPerson : (.selects R_Ma y_Ma_addPerson y_Ma_addPerson : Cond) ∈ tb_G := tb_in 1 (by decide +kernel) (by decide +kernel)
theorem se_Ma_startSearch : (.selects R_Ma y_Ma_startSearch y_Ma_startSearch : Cond) ∈ tb_G := tb_in 2 (by decide +kernel) (by decide +kernel)
theorem se_Ma_lookFrom : (.selects R_Ma y_Ma_lookFrom y_Ma_lookFrom : Cond) ∈ tb_G := tb_in 3 (by decide +kernel) (by decide +kernel)
theorem se_Ma_nearestSpot : (.selects R_Ma y_Ma_nearestSpot y_Ma_nearestSpot : Cond) ∈ tb_G := tb_in 4 (by decide +kernel) (by decide +kernel)
theorem se_Ma_shiftPrices : (.selects R_Ma y_Ma_shiftPrices y_Ma_shiftPrices : Cond) ∈ tb_G := tb_in 5 (by decide +kernel) (by decide +kernel)
theorem se_Ma_handOn : (.selects R_Ma y_Ma_handOn y_Ma_handOn : Cond) ∈ tb_G := tb_in 6 (by decide +kernel) (by decide +kernel)
theorem se_Ma_worthOfSpots : (.selects R_Ma y_Ma_worthOfSpots y_Ma_worthOfSpots : Cond) ∈ tb_G := tb_in 7 (by decide +kernel) (by decide +kernel)
theorem se_Wa_sitAtOldDesks : (.selects R_Wa y_Wa_sitAtOldDesks y_Wa_sitAtOldDesks : Cond) ∈ tb_G := tb_in 8 (by decide +kernel) (by decide +kernel)
theorem se_Wa_firstWhoCanGoHome : (.selects R_Wa y_Wa_firstWhoCanGoHome y_Wa_firstWhoCanGoHome : Cond) ∈ tb_G := tb_in 9 (by decide +kernel) (by decide +kernel)
theorem se_Wa_isFree : (.selects R_Wa y_Wa_isFree y_Wa_isFree : Cond) ∈ tb_G := tb_in 10 (by decide +kernel) (by decide +kernel)
theorem se_Wa_go : (.selects R_Wa y_Wa_go y_Wa_go : Cond) ∈ tb_G := tb_in 11 (by decide +kernel) (by decide +kernel)
theorem se_Wa_firstNotHome : (.selects R_Wa y_Wa_firstNotHome y_Wa_firstNotHome : Cond) ∈ tb_G := tb_in 12 (by decide +kernel) (by decide +kernel)
theorem se_Wa_firstFreeDesk : (.selects R_Wa y_Wa_firstFreeDesk y_Wa_firstFreeDesk : Cond) ∈ tb_G := tb_in 13 (by decide +kernel) (by decide +kernel)
theorem se_De_checkPerson : (.selects R_De y_De_checkPerson y_De_checkPerson : Cond) ∈ tb_G := tb_in 15 (by decide +kernel) (by decide +kernel)
theorem se_De_checkDesk : (.selects R_De y_De_checkDesk y_De_checkDesk : Cond) ∈ tb_G := tb_in 16 (by decide +kernel) (by decide +kernel)
theorem se_De_checkNobodyElseHas : (.selects R_De y_De_checkNobodyElseHas y_De_checkNobodyElseHas : Cond) ∈ tb_G := tb_in 17 (by decide +kernel) (by decide +kernel)
theorem se_De_checkSeatingMade : (.selects R_De y_De_checkSeatingMade y_De_checkSeatingMade : Cond) ∈ tb_G := tb_in 18 (by decide +kernel) (by decide +kernel)
theorem se_De_bestRoom : (.selects R_De y_De_bestRoom y_De_bestRoom : Cond) ∈ tb_G := tb_in 19 (by decide +kernel) (by decide +kernel)
theorem se_De_bookingNumbered : (.selects R_De y_De_bookingNumbered y_De_bookingNumbered : Cond) ∈ tb_G := tb_in 20 (by decide +kernel) (by decide +kernel)
theorem se_De_checkRoom : (.selects R_De y_De_checkRoom y_De_checkRoom : Cond) ∈ tb_G := tb_in 21 (by decide +kernel) (by decide +kernel)
theorem se_De_checkMinute : (.selects R_De y_De_checkMinute y_De_checkMinute : Cond) ∈ tb_G := tb_in 22 (by decide +kernel) (by decide +kernel)
theorem se_Mo_isPerson : (.selects R_Mo y_Mo_isPerson y_Mo_isPerson : Cond) ∈ tb_G := tb_in 23 (by decide +kernel) (by decide +kernel)
theorem se_Mo_isDesk : (.selects R_Mo y_Mo_isDesk y_Mo_isDesk : Cond) ∈ tb_G := tb_in 24 (by decide +kernel) (by decide +kernel)
theorem se_Mo_findBest : (.selects R_Mo y_Mo_findBest y_Mo_findBest : Cond) ∈ tb_G := tb_in 25 (by decide +kernel) (by decide +kernel)
theorem se_Mo_value : (.selects R_Mo y_Mo_value y_Mo_value : Cond) ∈ tb_G := tb_in 26 (by decide +kernel) (by decide +kernel)
theorem se_Mo_isMove : (.selects R_Mo y_Mo_isMove y_Mo_isMove : Cond) ∈ tb_G := tb_in 27 (by decide +kernel) (by decide +kernel)
theorem se_Mo_walk : (.selects R_Mo y_Mo_walk y_Mo_walk : Cond) ∈ tb_G := tb_in 28 (by decide +kernel) (by decide +kernel)
theorem se_Mo_goes : (.selects R_Mo y_Mo_goes y_Mo_goes : Cond) ∈ tb_G := tb_in 29 (by decide +kernel) (by decide +kernel)
theorem se_Mo_isFree : (.selects R_Mo y_Mo_isFree y_Mo_isFree : Cond) ∈ tb_G := tb_in 30 (by decide +kernel) (by decide +kernel)
theorem se_Mo_go : (.selects R_Mo y_Mo_go y_Mo_go : Cond) ∈ tb_G := tb_in 31 (by decide +kernel) (by decide +kernel)
theorem se_Mo_meeting : (.selects R_Mo y_Mo_meeting y_Mo_meeting : Cond) ∈ tb_G := tb_in 32 (by decide +kernel) (by decide +kernel)
theorem se_Mo_isRoom : (.selects R_Mo y_Mo_isRoom y_Mo_isRoom : Cond) ∈ tb_G := tb_in 33 (by decide +kernel) (by decide +kernel)
def F_Bk : u_T := fun k => match k with
  | 0 => ("DeskMoves$Booking", "number", "I", true)
  | 1 => ("DeskMoves$Booking", "bookedRoom", "LDeskMoves$Room;", true)
  | 2 => ("DeskMoves$Booking", "from", "I", true)
  | 3 => ("DeskMoves$Booking", "to", "I", true)
  | 4 => ("DeskMoves$Booking", "heads", "I", true)
  | _ => ("DeskMoves$Booking", "next", "LDeskMoves$Booking;", false)
def t_Bk : Nat → FieldType := fun k => match k with
  | 0 => .int
  | 1 => .object "DeskMoves$Room"
  | 2 => .int
  | 3 => .int
  | 4 => .int
  | _ => .object "DeskMoves$Booking"
theorem n_Bk : ∀ a, a < 6 → ∀ b, b < 6 → a ≠ b → (F_Bk a).2.1 ≠ (F_Bk b).2.1 := by decide +kernel
theorem t_Bk_ok : ∀ k, k < 6 → parseFieldDescriptor (F_Bk k).2.2.1 = some (t_Bk k) := by decide +kernel
theorem i_Bk : ∀ w ∈ u_ws R_Bk F_Bk 6, w ∈ tb_G := by
  intro w hw
  obtain ⟨k, hk, rfl⟩ := List.mem_map.mp hw
  have hk := List.mem_range.mp hk
  match k, hk with
  | 0, _ => exact tb_in 540 (by decide +kernel) (by decide +kernel)
  | 1, _ => exact tb_in 542 (by decide +kernel) (by decide +kernel)
  | 2, _ => exact tb_in 544 (by decide +kernel) (by decide +kernel)
  | 3, _ => exact tb_in 546 (by decide +kernel) (by decide +kernel)
  | 4, _ => exact tb_in 548 (by decide +kernel) (by decide +kernel)
  | 5, _ => exact tb_in 550 (by decide +kernel) (by decide +kernel)
  | k + 6, hk => exact absurd hk (by omega)
def F_Ma : u_T := fun k => match k with
  | 0 => ("DeskMoves$Matcher", "spots", "[LDeskMoves$Spot;", true)
  | _ => ("DeskMoves$Matcher", "spotCount", "I", false)
def t_Ma : Nat → FieldType := fun k => match k with
  | 0 => .array (.object "DeskMoves$Spot")
  | _ => .int
theorem n_Ma : ∀ a, a < 2 → ∀ b, b < 2 → a ≠ b → (F_Ma a).2.1 ≠ (F_Ma b).2.1 := by decide +kernel
theorem t_Ma_ok : ∀ k, k < 2 → parseFieldDescriptor (F_Ma k).2.2.1 = some (t_Ma k) := by decide +kernel
theorem i_Ma : ∀ w ∈ u_ws R_Ma F_Ma 2, w ∈ tb_G := by
  intro w hw
  obtain ⟨k, hk, rfl⟩ := List.mem_map.mp hw
  have hk := List.mem_range.mp hk
  match k, hk with
  | 0, _ => exact tb_in 90 (by decide +kernel) (by decide +kernel)
  | 1, _ => exact tb_in 92 (by decide +kernel) (by decide +kernel)
  | k + 2, hk => exact absurd hk (by omega)
def F_Pe : u_T := fun k => match k with
  | 0 => ("DeskMoves$Person", "number", "I", true)
  | 1 => ("DeskMoves$Person", "wishes", "[I", true)
  | 2 => ("DeskMoves$Person", "barred", "[Z", true)
  | 3 => ("DeskMoves$Person", "oldDesk", "I", false)
  | 4 => ("DeskMoves$Person", "newDesk", "I", false)
  | 5 => ("DeskMoves$Person", "place", "I", false)
  | _ => ("DeskMoves$Person", "price", "J", false)
def t_Pe : Nat → FieldType := fun k => match k with
  | 0 => .int
  | 1 => .array .int
  | 2 => .array .boolean
  | 3 => .int
  | 4 => .int
  | 5 => .int
  | _ => .long
theorem n_Pe : ∀ a, a < 7 → ∀ b, b < 7 → a ≠ b → (F_Pe a).2.1 ≠ (F_Pe b).2.1 := by decide +kernel
theorem t_Pe_ok : ∀ k, k < 7 → parseFieldDescriptor (F_Pe k).2.2.1 = some (t_Pe k) := by decide +kernel
theorem i_Pe : ∀ w ∈ u_ws R_Pe F_Pe 7, w ∈ tb_G := by
  intro w hw
  obtain ⟨k, hk, rfl⟩ := List.mem_map.mp hw
  have hk := List.mem_range.mp hk
  match k, hk with
  | 0, _ => exact tb_in 153 (by decide +kernel) (by decide +kernel)
  | 1, _ => exact tb_in 155 (by decide +kernel) (by decide +kernel)
  | 2, _ => exact tb_in 157 (by decide +kernel) (by decide +kernel)
  | 3, _ => exact tb_in 159 (by decide +kernel) (by decide +kernel)
  | 4, _ => exact tb_in 161 (by decide +kernel) (by decide +kernel)
  | 5, _ => exact tb_in 163 (by decide +kernel) (by decide +kernel)
  | 6, _ => exact tb_in 165 (by decide +kernel) (by decide +kernel)
  | k + 7, hk => exact absurd hk (by omega)
def F_Ro : u_T := fun k => match k with
  | 0 => ("DeskMoves$Room", "number", "I", true)
  | 1 => ("DeskMoves$Room", "places", "I", false)
  | _ => ("DeskMoves$Room", "first", "LDeskMoves$Booking;", false)
def t_Ro : Nat → FieldType := fun k => match k with
  | 0 => .int
  | 1 => .int
  | _ => .object "DeskMoves$Booking"
theorem n_Ro : ∀ a, a < 3 → ∀ b, b < 3 → a ≠ b → (F_Ro a).2.1 ≠ (F_Ro b).2.1 := by decide +kernel
theorem t_Ro_ok : ∀ k, k < 3 → parseFieldDescriptor (F_Ro k).2.2.1 = some (t_Ro k) := by decide +kernel
theorem i_Ro : ∀ w ∈ u_ws R_Ro F_Ro 3, w ∈ tb_G := by
  intro w hw
  obtain ⟨k, hk, rfl⟩ := List.mem_map.mp hw
  have hk := List.mem_range.mp hk
  match k, hk with
  | 0, _ => exact tb_in 179 (by decide +kernel) (by decide +kernel)
  | 1, _ => exact tb_in 181 (by decide +kernel) (by decide +kernel)
  | 2, _ => exact tb_in 183 (by decide +kernel) (by decide +kernel)
  | k + 3, hk => exact absurd hk (by omega)
def F_Sp : u_T := fun k => match k with
  | 0 => ("DeskMoves$Spot", "sitter", "LDeskMoves$Person;", false)
  | 1 => ("DeskMoves$Spot", "price", "J", false)
  | 2 => ("DeskMoves$Spot", "distance", "J", false)
  | 3 => ("DeskMoves$Spot", "before", "LDeskMoves$Spot;", false)
  | _ => ("DeskMoves$Spot", "reached", "Z", false)
def t_Sp : Nat → FieldType := fun k => match k with
  | 0 => .object "DeskMoves$Person"
  | 1 => .long
  | 2 => .long
  | 3 => .object "DeskMoves$Spot"
  | _ => .boolean
theorem n_Sp : ∀ a, a < 5 → ∀ b, b < 5 → a ≠ b → (F_Sp a).2.1 ≠ (F_Sp b).2.1 := by decide +kernel
theorem t_Sp_ok : ∀ k, k < 5 → parseFieldDescriptor (F_Sp k).2.2.1 = some (t_Sp k) := by decide +kernel
theorem i_Sp : ∀ w ∈ u_ws R_Sp F_Sp 5, w ∈ tb_G := by
  intro w hw
  obtain ⟨k, hk, rfl⟩ := List.mem_map.mp hw
  have hk := List.mem_range.mp hk
  match k, hk with
  | 0, _ => exact tb_in 77 (by decide +kernel) (by decide +kernel)
  | 1, _ => exact tb_in 79 (by decide +kernel) (by decide +kernel)
  | 2, _ => exact tb_in 81 (by decide +kernel) (by decide +kernel)
  | 3, _ => exact tb_in 83 (by decide +kernel) (by decide +kernel)
  | 4, _ => exact tb_in 85 (by decide +kernel) (by decide +kernel)
  | k + 5, hk => exact absurd hk (by omega)
def F_Wa : u_T := fun k => match k with
  | 0 => ("DeskMoves$Walk", "goers", "[I", true)
  | 1 => ("DeskMoves$Walk", "starts", "[I", true)
  | 2 => ("DeskMoves$Walk", "goals", "[I", true)
  | 3 => ("DeskMoves$Walk", "count", "I", false)
  | 4 => ("DeskMoves$Walk", "stuck", "Z", false)
  | _ => ("DeskMoves$Walk", "taken", "I", false)
def t_Wa : Nat → FieldType := fun k => match k with
  | 0 => .array .int
  | 1 => .array .int
  | 2 => .array .int
  | 3 => .int
  | 4 => .boolean
  | _ => .int
theorem n_Wa : ∀ a, a < 6 → ∀ b, b < 6 → a ≠ b → (F_Wa a).2.1 ≠ (F_Wa b).2.1 := by decide +kernel
theorem t_Wa_ok : ∀ k, k < 6 → parseFieldDescriptor (F_Wa k).2.2.1 = some (t_Wa k) := by decide +kernel
theorem i_Wa : ∀ w ∈ u_ws R_Wa F_Wa 6, w ∈ tb_G := by
  intro w hw
  obtain ⟨k, hk, rfl⟩ := List.mem_map.mp hw
  have hk := List.mem_range.mp hk
  match k, hk with
  | 0, _ => exact tb_in 112 (by decide +kernel) (by decide +kernel)
  | 1, _ => exact tb_in 114 (by decide +kernel) (by decide +kernel)
  | 2, _ => exact tb_in 116 (by decide +kernel) (by decide +kernel)
  | 3, _ => exact tb_in 118 (by decide +kernel) (by decide +kernel)
  | 4, _ => exact tb_in 120 (by decide +kernel) (by decide +kernel)
  | 5, _ => exact tb_in 122 (by decide +kernel) (by decide +kernel)
  | k + 6, hk => exact absurd hk (by omega)
def F_De : u_T := fun k => match k with
  | 0 => ("DeskMoves", "persons", "[LDeskMoves$Person;", true)
  | 1 => ("DeskMoves", "matcher", "LDeskMoves$Matcher;", true)
  | 2 => ("DeskMoves", "walk", "LDeskMoves$Walk;", true)
  | 3 => ("DeskMoves", "rooms", "[LDeskMoves$Room;", true)
  | 4 => ("DeskMoves", "bookings", "[LDeskMoves$Booking;", true)
  | 5 => ("DeskMoves", "deskCount", "I", false)
  | 6 => ("DeskMoves", "personCount", "I", false)
  | 7 => ("DeskMoves", "roomCount", "I", false)
  | 8 => ("DeskMoves", "bookingCount", "I", false)
  | 9 => ("DeskMoves", "seatingMade", "Z", false)
  | _ => ("DeskMoves", "seatingWorth", "I", false)
def t_De : Nat → FieldType := fun k => match k with
  | 0 => .array (.object "DeskMoves$Person")
  | 1 => .object "DeskMoves$Matcher"
  | 2 => .object "DeskMoves$Walk"
  | 3 => .array (.object "DeskMoves$Room")
  | 4 => .array (.object "DeskMoves$Booking")
  | 5 => .int
  | 6 => .int
  | 7 => .int
  | 8 => .int
  | 9 => .boolean
  | _ => .int
theorem n_De : ∀ a, a < 11 → ∀ b, b < 11 → a ≠ b → (F_De a).2.1 ≠ (F_De b).2.1 := by decide +kernel
theorem t_De_ok : ∀ k, k < 11 → parseFieldDescriptor (F_De k).2.2.1 = some (t_De k) := by decide +kernel
theorem i_De : ∀ w ∈ u_ws R_De F_De 11, w ∈ tb_G := by
  intro w hw
  obtain ⟨k, hk, rfl⟩ := List.mem_map.mp hw
  have hk := List.mem_range.mp hk
  match k, hk with
  | 0, _ => exact tb_in 197 (by decide +kernel) (by decide +kernel)
  | 1, _ => exact tb_in 199 (by decide +kernel) (by decide +kernel)
  | 2, _ => exact tb_in 201 (by decide +kernel) (by decide +kernel)
  | 3, _ => exact tb_in 203 (by decide +kernel) (by decide +kernel)
  | 4, _ => exact tb_in 205 (by decide +kernel) (by decide +kernel)
  | 5, _ => exact tb_in 207 (by decide +kernel) (by decide +kernel)
  | 6, _ => exact tb_in 209 (by decide +kernel) (by decide +kernel)
  | 7, _ => exact tb_in 211 (by decide +kernel) (by decide +kernel)
  | 8, _ => exact tb_in 213 (by decide +kernel) (by decide +kernel)
  | 9, _ => exact tb_in 215 (by decide +kernel) (by decide +kernel)
  | 10, _ => exact tb_in 217 (by decide +kernel) (by decide +kernel)
  | k + 11, hk => exact absurd hk (by omega)
def F_Mo : u_T := fun k => match k with
  | 0 => ("DeskMovesModel", "thrown", "I", false)
  | 1 => ("DeskMovesModel", "desks", "I", false)
  | 2 => ("DeskMovesModel", "persons", "I", false)
  | 3 => ("DeskMovesModel", "wishes", "[I", true)
  | 4 => ("DeskMovesModel", "barred", "[Z", true)
  | 5 => ("DeskMovesModel", "olds", "[I", true)
  | 6 => ("DeskMovesModel", "made", "Z", false)
  | 7 => ("DeskMovesModel", "worth", "I", false)
  | 8 => ("DeskMovesModel", "seats", "[I", true)
  | 9 => ("DeskMovesModel", "best", "[I", true)
  | 10 => ("DeskMovesModel", "order", "[I", true)
  | 11 => ("DeskMovesModel", "many", "I", false)
  | 12 => ("DeskMovesModel", "gone", "I", false)
  | 13 => ("DeskMovesModel", "stuck", "Z", false)
  | 14 => ("DeskMovesModel", "path", "[I", true)
  | 15 => ("DeskMovesModel", "place", "[I", true)
  | 16 => ("DeskMovesModel", "rooms", "I", false)
  | 17 => ("DeskMovesModel", "places", "[I", true)
  | 18 => ("DeskMovesModel", "bookings", "I", false)
  | 19 => ("DeskMovesModel", "room", "[I", true)
  | 20 => ("DeskMovesModel", "from", "[I", true)
  | 21 => ("DeskMovesModel", "to", "[I", true)
  | 22 => ("DeskMovesModel", "left", "[I", true)
  | _ => ("DeskMovesModel", "there", "[Z", true)
def t_Mo : Nat → FieldType := fun k => match k with
  | 0 => .int
  | 1 => .int
  | 2 => .int
  | 3 => .array .int
  | 4 => .array .boolean
  | 5 => .array .int
  | 6 => .boolean
  | 7 => .int
  | 8 => .array .int
  | 9 => .array .int
  | 10 => .array .int
  | 11 => .int
  | 12 => .int
  | 13 => .boolean
  | 14 => .array .int
  | 15 => .array .int
  | 16 => .int
  | 17 => .array .int
  | 18 => .int
  | 19 => .array .int
  | 20 => .array .int
  | 21 => .array .int
  | 22 => .array .int
  | _ => .array .boolean
theorem n_Mo : ∀ a, a < 24 → ∀ b, b < 24 → a ≠ b → (F_Mo a).2.1 ≠ (F_Mo b).2.1 := by decide +kernel
theorem t_Mo_ok : ∀ k, k < 24 → parseFieldDescriptor (F_Mo k).2.2.1 = some (t_Mo k) := by decide +kernel
theorem i_Mo : ∀ w ∈ u_ws R_Mo F_Mo 24, w ∈ tb_G := by
  intro w hw
  obtain ⟨k, hk, rfl⟩ := List.mem_map.mp hw
  have hk := List.mem_range.mp hk
  match k, hk with
  | 0, _ => exact tb_in 639 (by decide +kernel) (by decide +kernel)
  | 1, _ => exact tb_in 641 (by decide +kernel) (by decide +kernel)
  | 2, _ => exact tb_in 643 (by decide +kernel) (by decide +kernel)
  | 3, _ => exact tb_in 645 (by decide +kernel) (by decide +kernel)
  | 4, _ => exact tb_in 647 (by decide +kernel) (by decide +kernel)
  | 5, _ => exact tb_in 649 (by decide +kernel) (by decide +kernel)
  | 6, _ => exact tb_in 651 (by decide +kernel) (by decide +kernel)
  | 7, _ => exact tb_in 653 (by decide +kernel) (by decide +kernel)
  | 8, _ => exact tb_in 655 (by decide +kernel) (by decide +kernel)
  | 9, _ => exact tb_in 657 (by decide +kernel) (by decide +kernel)
  | 10, _ => exact tb_in 659 (by decide +kernel) (by decide +kernel)
  | 11, _ => exact tb_in 661 (by decide +kernel) (by decide +kernel)
  | 12, _ => exact tb_in 663 (by decide +kernel) (by decide +kernel)
  | 13, _ => exact tb_in 665 (by decide +kernel) (by decide +kernel)
  | 14, _ => exact tb_in 667 (by decide +kernel) (by decide +kernel)
  | 15, _ => exact tb_in 669 (by decide +kernel) (by decide +kernel)
  | 16, _ => exact tb_in 671 (by decide +kernel) (by decide +kernel)
  | 17, _ => exact tb_in 673 (by decide +kernel) (by decide +kernel)
  | 18, _ => exact tb_in 675 (by decide +kernel) (by decide +kernel)
  | 19, _ => exact tb_in 677 (by decide +kernel) (by decide +kernel)
  | 20, _ => exact tb_in 679 (by decide +kernel) (by decide +kernel)
  | 21, _ => exact tb_in 681 (by decide +kernel) (by decide +kernel)
  | 22, _ => exact tb_in 683 (by decide +kernel) (by decide +kernel)
  | 23, _ => exact tb_in 685 (by decide +kernel) (by decide +kernel)
  | k + 24, hk => exact absurd hk (by omega)
abbrev cl_all : List vw_C := [(R_Bk, F_Bk, 6), (R_Ma, F_Ma, 2), (R_Pe, F_Pe, 7), (R_Ro, F_Ro, 3), (R_Sp, F_Sp, 5), (R_Wa, F_Wa, 6), (R_De, F_De, 11), (R_Mo, F_Mo, 24)]
end
section
theorem d_Bk_init_0 : decode b_Bk_init 0 = .ok (.aload_n 0, 1) := by decide +kernel
theorem d_Bk_init_1 : decode b_Bk_init 1 = .ok (.invokespecial 1, 3) := by decide +kernel
theorem d_Bk_init_4 : decode b_Bk_init 4 = .ok (.aload_n 0, 1) := by decide +kernel
theorem d_Bk_init_5 : decode b_Bk_init 5 = .ok (.iload_n 1, 1) := by decide +kernel
theorem d_Bk_init_6 : decode b_Bk_init 6 = .ok (.putfield 7, 3) := by decide +kernel
theorem d_Bk_init_9 : decode b_Bk_init 9 = .ok (.aload_n 0, 1) := by decide +kernel
theorem d_Bk_init_10 : decode b_Bk_init 10 = .ok (.aload_n 2, 1) := by decide +kernel
theorem d_Bk_init_11 : decode b_Bk_init 11 = .ok (.putfield 13, 3) := by decide +kernel
theorem d_Bk_init_14 : decode b_Bk_init 14 = .ok (.aload_n 0, 1) := by decide +kernel
theorem d_Bk_init_15 : decode b_Bk_init 15 = .ok (.iload_n 3, 1) := by decide +kernel
theorem d_Bk_init_16 : decode b_Bk_init 16 = .ok (.putfield 17, 3) := by decide +kernel
theorem d_Bk_init_19 : decode b_Bk_init 19 = .ok (.aload_n 0, 1) := by decide +kernel
theorem d_Bk_init_20 : decode b_Bk_init 20 = .ok (.iload 4, 2) := by decide +kernel
theorem d_Bk_init_22 : decode b_Bk_init 22 = .ok (.putfield 20, 3) := by decide +kernel
theorem d_Bk_init_25 : decode b_Bk_init 25 = .ok (.aload_n 0, 1) := by decide +kernel
theorem d_Bk_init_26 : decode b_Bk_init 26 = .ok (.iload 5, 2) := by decide +kernel
theorem d_Bk_init_28 : decode b_Bk_init 28 = .ok (.putfield 23, 3) := by decide +kernel
theorem d_Bk_init_31 : decode b_Bk_init 31 = .ok (.return_, 1) := by decide +kernel
theorem d_Ma_init_0 : decode b_Ma_init 0 = .ok (.aload_n 0, 1) := by decide +kernel
theorem d_Ma_init_1 : decode b_Ma_init 1 = .ok (.invokespecial 3, 3) := by decide +kernel
theorem d_Ma_init_4 : decode b_Ma_init 4 = .ok (.aload_n 0, 1) := by decide +kernel
theorem d_Ma_init_5 : decode b_Ma_init 5 = .ok (.bipush 14, 2) := by decide +kernel
theorem d_Ma_init_7 : decode b_Ma_init 7 = .ok (.anewarray 9, 3) := by decide +kernel
theorem d_Ma_init_10 : decode b_Ma_init 10 = .ok (.putfield 11, 3) := by decide +kernel
theorem d_Ma_init_13 : decode b_Ma_init 13 = .ok (.iconst 0, 1) := by decide +kernel
theorem d_Ma_init_14 : decode b_Ma_init 14 = .ok (.istore_n 1, 1) := by decide +kernel
theorem d_Ma_init_15 : decode b_Ma_init 15 = .ok (.iload_n 1, 1) := by decide +kernel
theorem d_Ma_init_16 : decode b_Ma_init 16 = .ok (.bipush 14, 2) := by decide +kernel
theorem d_Ma_init_18 : decode b_Ma_init 18 = .ok (.if_icmp .ge 22, 3) := by decide +kernel
theorem d_Ma_init_21 : decode b_Ma_init 21 = .ok (.aload_n 0, 1) := by decide +kernel
theorem d_Ma_init_22 : decode b_Ma_init 22 = .ok (.getfield 11, 3) := by decide +kernel
theorem d_Ma_init_25 : decode b_Ma_init 25 = .ok (.iload_n 1, 1) := by decide +kernel
theorem d_Ma_init_26 : decode b_Ma_init 26 = .ok (.new 9, 3) := by decide +kernel
theorem d_Ma_init_29 : decode b_Ma_init 29 = .ok (.dup, 1) := by decide +kernel
theorem d_Ma_init_30 : decode b_Ma_init 30 = .ok (.invokespecial 17, 3) := by decide +kernel
theorem d_Ma_init_33 : decode b_Ma_init 33 = .ok (.aastore, 1) := by decide +kernel
theorem d_Ma_init_34 : decode b_Ma_init 34 = .ok (.iinc 1 1, 3) := by decide +kernel
theorem d_Ma_init_37 : decode b_Ma_init 37 = .ok (.goto (-22), 3) := by decide +kernel
theorem d_Ma_init_40 : decode b_Ma_init 40 = .ok (.return_, 1) := by decide +kernel
theorem d_Ma_match_0 : decode b_Ma_match 0 = .ok (.aload_n 0, 1) := by decide +kernel
theorem d_Ma_match_1 : decode b_Ma_match 1 = .ok (.iload 4, 2) := by decide +kernel
theorem d_Ma_match_3 : decode b_Ma_match 3 = .ok (.invokevirtual 18, 3) := by decide +kernel
theorem d_Ma_match_6 : decode b_Ma_match 6 = .ok (.iconst 0, 1) := by decide +kernel
theorem d_Ma_match_7 : decode b_Ma_match 7 = .ok (.istore 5, 2) := by decide +kernel
theorem d_Ma_match_9 : decode b_Ma_match 9 = .ok (.iload 5, 2) := by decide +kernel
theorem d_Ma_match_11 : decode b_Ma_match 11 = .ok (.iload_n 2, 1) := by decide +kernel
theorem d_Ma_match_12 : decode b_Ma_match 12 = .ok (.if_icmp .ge 35, 3) := by decide +kernel
theorem d_Ma_match_15 : decode b_Ma_match 15 = .ok (.iload 5, 2) := by decide +kernel
theorem d_Ma_match_17 : decode b_Ma_match 17 = .ok (.aload_n 1, 1) := by decide +kernel
theorem d_Ma_match_18 : decode b_Ma_match 18 = .ok (.arraylength, 1) := by decide +kernel
theorem d_Ma_match_19 : decode b_Ma_match 19 = .ok (.if_icmp .ge 28, 3) := by decide +kernel
theorem d_Ma_match_22 : decode b_Ma_match 22 = .ok (.iload 5, 2) := by decide +kernel
theorem d_Ma_match_24 : decode b_Ma_match 24 = .ok (.iload_n 3, 1) := by decide +kernel
theorem d_Ma_match_25 : decode b_Ma_match 25 = .ok (.if_icmp .eq 16, 3) := by decide +kernel
theorem d_Ma_match_28 : decode b_Ma_match 28 = .ok (.aload_n 0, 1) := by decide +kernel
theorem d_Ma_match_29 : decode b_Ma_match 29 = .ok (.aload_n 1, 1) := by decide +kernel
theorem d_Ma_match_30 : decode b_Ma_match 30 = .ok (.iload 5, 2) := by decide +kernel
theorem d_Ma_match_32 : decode b_Ma_match 32 = .ok (.aaload, 1) := by decide +kernel
theorem d_Ma_match_33 : decode b_Ma_match 33 = .ok (.invokevirtual 22, 3) := by decide +kernel
theorem d_Ma_match_36 : decode b_Ma_match 36 = .ok (.ifCond .ne 5, 3) := by decide +kernel
theorem d_Ma_match_39 : decode b_Ma_match 39 = .ok (.iconst (-1), 1) := by decide +kernel
theorem d_Ma_match_40 : decode b_Ma_match 40 = .ok (.ireturn, 1) := by decide +kernel
theorem d_Ma_match_41 : decode b_Ma_match 41 = .ok (.iinc 5 1, 3) := by decide +kernel
theorem d_Ma_match_44 : decode b_Ma_match 44 = .ok (.goto (-35), 3) := by decide +kernel
theorem d_Ma_match_47 : decode b_Ma_match 47 = .ok (.aload_n 0, 1) := by decide +kernel
theorem d_Ma_match_48 : decode b_Ma_match 48 = .ok (.invokevirtual 26, 3) := by decide +kernel
theorem d_Ma_match_51 : decode b_Ma_match 51 = .ok (.ireturn, 1) := by decide +kernel
theorem d_Ma_tellPersons_0 : decode b_Ma_tellPersons 0 = .ok (.iconst 0, 1) := by decide +kernel
theorem d_Ma_tellPersons_1 : decode b_Ma_tellPersons 1 = .ok (.istore_n 1, 1) := by decide +kernel
theorem d_Ma_tellPersons_2 : decode b_Ma_tellPersons 2 = .ok (.iload_n 1, 1) := by decide +kernel
theorem d_Ma_tellPersons_3 : decode b_Ma_tellPersons 3 = .ok (.aload_n 0, 1) := by decide +kernel
theorem d_Ma_tellPersons_4 : decode b_Ma_tellPersons 4 = .ok (.getfield 30, 3) := by decide +kernel
theorem d_Ma_tellPersons_7 : decode b_Ma_tellPersons 7 = .ok (.if_icmp .ge 28, 3) := by decide +kernel
theorem d_Ma_tellPersons_10 : decode b_Ma_tellPersons 10 = .ok (.aload_n 0, 1) := by decide +kernel
theorem d_Ma_tellPersons_11 : decode b_Ma_tellPersons 11 = .ok (.getfield 11, 3) := by decide +kernel
theorem d_Ma_tellPersons_14 : decode b_Ma_tellPersons 14 = .ok (.iload_n 1, 1) := by decide +kernel
theorem d_Ma_tellPersons_15 : decode b_Ma_tellPersons 15 = .ok (.aaload, 1) := by decide +kernel
theorem d_Ma_tellPersons_16 : decode b_Ma_tellPersons 16 = .ok (.getfield 34, 3) := by decide +kernel
theorem d_Ma_tellPersons_19 : decode b_Ma_tellPersons 19 = .ok (.astore_n 2, 1) := by decide +kernel
theorem d_Ma_tellPersons_20 : decode b_Ma_tellPersons 20 = .ok (.aload_n 2, 1) := by decide +kernel
theorem d_Ma_tellPersons_21 : decode b_Ma_tellPersons 21 = .ok (.ifnull 8, 3) := by decide +kernel
theorem d_Ma_tellPersons_24 : decode b_Ma_tellPersons 24 = .ok (.aload_n 2, 1) := by decide +kernel
theorem d_Ma_tellPersons_25 : decode b_Ma_tellPersons 25 = .ok (.iload_n 1, 1) := by decide +kernel
theorem d_Ma_tellPersons_26 : decode b_Ma_tellPersons 26 = .ok (.putfield 38, 3) := by decide +kernel
theorem d_Ma_tellPersons_29 : decode b_Ma_tellPersons 29 = .ok (.iinc 1 1, 3) := by decide +kernel
theorem d_Ma_tellPersons_32 : decode b_Ma_tellPersons 32 = .ok (.goto (-30), 3) := by decide +kernel
theorem d_Ma_tellPersons_35 : decode b_Ma_tellPersons 35 = .ok (.return_, 1) := by decide +kernel
theorem d_Ma_clearSpots_0 : decode b_Ma_clearSpots 0 = .ok (.aload_n 0, 1) := by decide +kernel
theorem d_Ma_clearSpots_1 : decode b_Ma_clearSpots 1 = .ok (.iload_n 1, 1) := by decide +kernel
theorem d_Ma_clearSpots_2 : decode b_Ma_clearSpots 2 = .ok (.bipush 14, 2) := by decide +kernel
theorem d_Ma_clearSpots_4 : decode b_Ma_clearSpots 4 = .ok (.invokestatic 43, 3) := by decide +kernel
theorem d_Ma_clearSpots_7 : decode b_Ma_clearSpots 7 = .ok (.putfield 30, 3) := by decide +kernel
theorem d_Ma_clearSpots_10 : decode b_Ma_clearSpots 10 = .ok (.iconst 0, 1) := by decide +kernel
theorem d_Ma_clearSpots_11 : decode b_Ma_clearSpots 11 = .ok (.istore_n 2, 1) := by decide +kernel
theorem d_Ma_clearSpots_12 : decode b_Ma_clearSpots 12 = .ok (.iload_n 2, 1) := by decide +kernel
theorem d_Ma_clearSpots_13 : decode b_Ma_clearSpots 13 = .ok (.aload_n 0, 1) := by decide +kernel
theorem d_Ma_clearSpots_14 : decode b_Ma_clearSpots 14 = .ok (.getfield 30, 3) := by decide +kernel
theorem d_Ma_clearSpots_17 : decode b_Ma_clearSpots 17 = .ok (.if_icmp .ge 29, 3) := by decide +kernel
theorem d_Ma_clearSpots_20 : decode b_Ma_clearSpots 20 = .ok (.aload_n 0, 1) := by decide +kernel
theorem d_Ma_clearSpots_21 : decode b_Ma_clearSpots 21 = .ok (.getfield 11, 3) := by decide +kernel
theorem d_Ma_clearSpots_24 : decode b_Ma_clearSpots 24 = .ok (.iload_n 2, 1) := by decide +kernel
theorem d_Ma_clearSpots_25 : decode b_Ma_clearSpots 25 = .ok (.aaload, 1) := by decide +kernel
theorem d_Ma_clearSpots_26 : decode b_Ma_clearSpots 26 = .ok (.aconst_null, 1) := by decide +kernel
theorem d_Ma_clearSpots_27 : decode b_Ma_clearSpots 27 = .ok (.putfield 34, 3) := by decide +kernel
theorem d_Ma_clearSpots_30 : decode b_Ma_clearSpots 30 = .ok (.aload_n 0, 1) := by decide +kernel
theorem d_Ma_clearSpots_31 : decode b_Ma_clearSpots 31 = .ok (.getfield 11, 3) := by decide +kernel
theorem d_Ma_clearSpots_34 : decode b_Ma_clearSpots 34 = .ok (.iload_n 2, 1) := by decide +kernel
theorem d_Ma_clearSpots_35 : decode b_Ma_clearSpots 35 = .ok (.aaload, 1) := by decide +kernel
theorem d_Ma_clearSpots_36 : decode b_Ma_clearSpots 36 = .ok (.lconst 0, 1) := by decide +kernel
theorem d_Ma_clearSpots_37 : decode b_Ma_clearSpots 37 = .ok (.putfield 49, 3) := by decide +kernel
theorem d_Ma_clearSpots_40 : decode b_Ma_clearSpots 40 = .ok (.iinc 2 1, 3) := by decide +kernel
theorem d_Ma_clearSpots_43 : decode b_Ma_clearSpots 43 = .ok (.goto (-31), 3) := by decide +kernel
theorem d_Ma_clearSpots_46 : decode b_Ma_clearSpots 46 = .ok (.return_, 1) := by decide +kernel
theorem d_Ma_worthOfSpots_0 : decode b_Ma_worthOfSpots 0 = .ok (.iconst 0, 1) := by decide +kernel
theorem d_Ma_worthOfSpots_1 : decode b_Ma_worthOfSpots 1 = .ok (.istore_n 1, 1) := by decide +kernel
theorem d_Ma_worthOfSpots_2 : decode b_Ma_worthOfSpots 2 = .ok (.iconst 0, 1) := by decide +kernel
theorem d_Ma_worthOfSpots_3 : decode b_Ma_worthOfSpots 3 = .ok (.istore_n 2, 1) := by decide +kernel
theorem d_Ma_worthOfSpots_4 : decode b_Ma_worthOfSpots 4 = .ok (.iload_n 2, 1) := by decide +kernel
theorem d_Ma_worthOfSpots_5 : decode b_Ma_worthOfSpots 5 = .ok (.aload_n 0, 1) := by decide +kernel
theorem d_Ma_worthOfSpots_6 : decode b_Ma_worthOfSpots 6 = .ok (.getfield 30, 3) := by decide +kernel
theorem d_Ma_worthOfSpots_9 : decode b_Ma_worthOfSpots 9 = .ok (.if_icmp .ge 32, 3) := by decide +kernel
theorem d_Ma_worthOfSpots_12 : decode b_Ma_worthOfSpots 12 = .ok (.aload_n 0, 1) := by decide +kernel
theorem d_Ma_worthOfSpots_13 : decode b_Ma_worthOfSpots 13 = .ok (.getfield 11, 3) := by decide +kernel
theorem d_Ma_worthOfSpots_16 : decode b_Ma_worthOfSpots 16 = .ok (.iload_n 2, 1) := by decide +kernel
theorem d_Ma_worthOfSpots_17 : decode b_Ma_worthOfSpots 17 = .ok (.aaload, 1) := by decide +kernel
theorem d_Ma_worthOfSpots_18 : decode b_Ma_worthOfSpots 18 = .ok (.getfield 34, 3) := by decide +kernel
theorem d_Ma_worthOfSpots_21 : decode b_Ma_worthOfSpots 21 = .ok (.astore_n 3, 1) := by decide +kernel
theorem d_Ma_worthOfSpots_22 : decode b_Ma_worthOfSpots 22 = .ok (.aload_n 3, 1) := by decide +kernel
theorem d_Ma_worthOfSpots_23 : decode b_Ma_worthOfSpots 23 = .ok (.ifnull 12, 3) := by decide +kernel
theorem d_Ma_worthOfSpots_26 : decode b_Ma_worthOfSpots 26 = .ok (.iload_n 1, 1) := by decide +kernel
theorem d_Ma_worthOfSpots_27 : decode b_Ma_worthOfSpots 27 = .ok (.aload_n 3, 1) := by decide +kernel
theorem d_Ma_worthOfSpots_28 : decode b_Ma_worthOfSpots 28 = .ok (.getfield 53, 3) := by decide +kernel
theorem d_Ma_worthOfSpots_31 : decode b_Ma_worthOfSpots 31 = .ok (.iload_n 2, 1) := by decide +kernel
theorem d_Ma_worthOfSpots_32 : decode b_Ma_worthOfSpots 32 = .ok (.iaload, 1) := by decide +kernel
theorem d_Ma_worthOfSpots_33 : decode b_Ma_worthOfSpots 33 = .ok (.iadd, 1) := by decide +kernel
theorem d_Ma_worthOfSpots_34 : decode b_Ma_worthOfSpots 34 = .ok (.istore_n 1, 1) := by decide +kernel
theorem d_Ma_worthOfSpots_35 : decode b_Ma_worthOfSpots 35 = .ok (.iinc 2 1, 3) := by decide +kernel
theorem d_Ma_worthOfSpots_38 : decode b_Ma_worthOfSpots 38 = .ok (.goto (-34), 3) := by decide +kernel
theorem d_Ma_worthOfSpots_41 : decode b_Ma_worthOfSpots 41 = .ok (.iload_n 1, 1) := by decide +kernel
theorem d_Ma_worthOfSpots_42 : decode b_Ma_worthOfSpots 42 = .ok (.ireturn, 1) := by decide +kernel
theorem d_Ma_addPerson_0 : decode b_Ma_addPerson 0 = .ok (.aload_n 0, 1) := by decide +kernel
theorem d_Ma_addPerson_1 : decode b_Ma_addPerson 1 = .ok (.invokevirtual 57, 3) := by decide +kernel
theorem d_Ma_addPerson_4 : decode b_Ma_addPerson 4 = .ok (.aload_n 1, 1) := by decide +kernel
theorem d_Ma_addPerson_5 : decode b_Ma_addPerson 5 = .ok (.lconst 0, 1) := by decide +kernel
theorem d_Ma_addPerson_6 : decode b_Ma_addPerson 6 = .ok (.putfield 60, 3) := by decide +kernel
theorem d_Ma_addPerson_9 : decode b_Ma_addPerson 9 = .ok (.aload_n 1, 1) := by decide +kernel
theorem d_Ma_addPerson_10 : decode b_Ma_addPerson 10 = .ok (.astore_n 2, 1) := by decide +kernel
theorem d_Ma_addPerson_11 : decode b_Ma_addPerson 11 = .ok (.aconst_null, 1) := by decide +kernel
theorem d_Ma_addPerson_12 : decode b_Ma_addPerson 12 = .ok (.astore_n 3, 1) := by decide +kernel
theorem d_Ma_addPerson_13 : decode b_Ma_addPerson 13 = .ok (.iconst 0, 1) := by decide +kernel
theorem d_Ma_addPerson_14 : decode b_Ma_addPerson 14 = .ok (.istore 4, 2) := by decide +kernel
theorem d_Ma_addPerson_16 : decode b_Ma_addPerson 16 = .ok (.iload 4, 2) := by decide +kernel
theorem d_Ma_addPerson_18 : decode b_Ma_addPerson 18 = .ok (.aload_n 0, 1) := by decide +kernel
theorem d_Ma_addPerson_19 : decode b_Ma_addPerson 19 = .ok (.getfield 30, 3) := by decide +kernel
theorem d_Ma_addPerson_22 : decode b_Ma_addPerson 22 = .ok (.if_icmp .ge 70, 3) := by decide +kernel
theorem d_Ma_addPerson_25 : decode b_Ma_addPerson 25 = .ok (.aload_n 0, 1) := by decide +kernel
theorem d_Ma_addPerson_26 : decode b_Ma_addPerson 26 = .ok (.aload_n 2, 1) := by decide +kernel
theorem d_Ma_addPerson_27 : decode b_Ma_addPerson 27 = .ok (.aload_n 3, 1) := by decide +kernel
theorem d_Ma_addPerson_28 : decode b_Ma_addPerson 28 = .ok (.invokevirtual 61, 3) := by decide +kernel
theorem d_Ma_addPerson_31 : decode b_Ma_addPerson 31 = .ok (.aload_n 0, 1) := by decide +kernel
theorem d_Ma_addPerson_32 : decode b_Ma_addPerson 32 = .ok (.invokevirtual 65, 3) := by decide +kernel
theorem d_Ma_addPerson_35 : decode b_Ma_addPerson 35 = .ok (.astore 5, 2) := by decide +kernel
theorem d_Ma_addPerson_37 : decode b_Ma_addPerson 37 = .ok (.aload 5, 2) := by decide +kernel
theorem d_Ma_addPerson_39 : decode b_Ma_addPerson 39 = .ok (.ifnonnull 5, 3) := by decide +kernel
theorem d_Ma_addPerson_42 : decode b_Ma_addPerson 42 = .ok (.iconst 0, 1) := by decide +kernel
theorem d_Ma_addPerson_43 : decode b_Ma_addPerson 43 = .ok (.ireturn, 1) := by decide +kernel
theorem d_Ma_addPerson_44 : decode b_Ma_addPerson 44 = .ok (.aload_n 0, 1) := by decide +kernel
theorem d_Ma_addPerson_45 : decode b_Ma_addPerson 45 = .ok (.aload_n 1, 1) := by decide +kernel
theorem d_Ma_addPerson_46 : decode b_Ma_addPerson 46 = .ok (.aload 5, 2) := by decide +kernel
theorem d_Ma_addPerson_48 : decode b_Ma_addPerson 48 = .ok (.getfield 69, 3) := by decide +kernel
theorem d_Ma_addPerson_51 : decode b_Ma_addPerson 51 = .ok (.invokevirtual 72, 3) := by decide +kernel
theorem d_Ma_addPerson_54 : decode b_Ma_addPerson 54 = .ok (.aload 5, 2) := by decide +kernel
theorem d_Ma_addPerson_56 : decode b_Ma_addPerson 56 = .ok (.iconst 1, 1) := by decide +kernel
theorem d_Ma_addPerson_57 : decode b_Ma_addPerson 57 = .ok (.putfield 76, 3) := by decide +kernel
theorem d_Ma_addPerson_60 : decode b_Ma_addPerson 60 = .ok (.aload 5, 2) := by decide +kernel
theorem d_Ma_addPerson_62 : decode b_Ma_addPerson 62 = .ok (.getfield 34, 3) := by decide +kernel
theorem d_Ma_addPerson_65 : decode b_Ma_addPerson 65 = .ok (.ifnonnull 12, 3) := by decide +kernel
theorem d_Ma_addPerson_68 : decode b_Ma_addPerson 68 = .ok (.aload_n 0, 1) := by decide +kernel
theorem d_Ma_addPerson_69 : decode b_Ma_addPerson 69 = .ok (.aload 5, 2) := by decide +kernel
theorem d_Ma_addPerson_71 : decode b_Ma_addPerson 71 = .ok (.aload_n 1, 1) := by decide +kernel
theorem d_Ma_addPerson_72 : decode b_Ma_addPerson 72 = .ok (.invokevirtual 80, 3) := by decide +kernel
theorem d_Ma_addPerson_75 : decode b_Ma_addPerson 75 = .ok (.iconst 1, 1) := by decide +kernel
theorem d_Ma_addPerson_76 : decode b_Ma_addPerson 76 = .ok (.ireturn, 1) := by decide +kernel
theorem d_Ma_addPerson_77 : decode b_Ma_addPerson 77 = .ok (.aload 5, 2) := by decide +kernel
theorem d_Ma_addPerson_79 : decode b_Ma_addPerson 79 = .ok (.getfield 34, 3) := by decide +kernel
theorem d_Ma_addPerson_82 : decode b_Ma_addPerson 82 = .ok (.astore_n 2, 1) := by decide +kernel
theorem d_Ma_addPerson_83 : decode b_Ma_addPerson 83 = .ok (.aload 5, 2) := by decide +kernel
theorem d_Ma_addPerson_85 : decode b_Ma_addPerson 85 = .ok (.astore_n 3, 1) := by decide +kernel
theorem d_Ma_addPerson_86 : decode b_Ma_addPerson 86 = .ok (.iinc 4 1, 3) := by decide +kernel
theorem d_Ma_addPerson_89 : decode b_Ma_addPerson 89 = .ok (.goto (-73), 3) := by decide +kernel
theorem d_Ma_addPerson_92 : decode b_Ma_addPerson 92 = .ok (.iconst 0, 1) := by decide +kernel
theorem d_Ma_addPerson_93 : decode b_Ma_addPerson 93 = .ok (.ireturn, 1) := by decide +kernel
theorem d_Ma_startSearch_0 : decode b_Ma_startSearch 0 = .ok (.iconst 0, 1) := by decide +kernel
theorem d_Ma_startSearch_1 : decode b_Ma_startSearch 1 = .ok (.istore_n 1, 1) := by decide +kernel
theorem d_Ma_startSearch_2 : decode b_Ma_startSearch 2 = .ok (.iload_n 1, 1) := by decide +kernel
theorem d_Ma_startSearch_3 : decode b_Ma_startSearch 3 = .ok (.aload_n 0, 1) := by decide +kernel
theorem d_Ma_startSearch_4 : decode b_Ma_startSearch 4 = .ok (.getfield 30, 3) := by decide +kernel
theorem d_Ma_startSearch_7 : decode b_Ma_startSearch 7 = .ok (.if_icmp .ge 41, 3) := by decide +kernel
theorem d_Ma_startSearch_10 : decode b_Ma_startSearch 10 = .ok (.aload_n 0, 1) := by decide +kernel
theorem d_Ma_startSearch_11 : decode b_Ma_startSearch 11 = .ok (.getfield 11, 3) := by decide +kernel
theorem d_Ma_startSearch_14 : decode b_Ma_startSearch 14 = .ok (.iload_n 1, 1) := by decide +kernel
theorem d_Ma_startSearch_15 : decode b_Ma_startSearch 15 = .ok (.aaload, 1) := by decide +kernel
theorem d_Ma_startSearch_16 : decode b_Ma_startSearch 16 = .ok (.ldc2_w 84, 3) := by decide +kernel
theorem d_Ma_startSearch_19 : decode b_Ma_startSearch 19 = .ok (.putfield 69, 3) := by decide +kernel
theorem d_Ma_startSearch_22 : decode b_Ma_startSearch 22 = .ok (.aload_n 0, 1) := by decide +kernel
theorem d_Ma_startSearch_23 : decode b_Ma_startSearch 23 = .ok (.getfield 11, 3) := by decide +kernel
theorem d_Ma_startSearch_26 : decode b_Ma_startSearch 26 = .ok (.iload_n 1, 1) := by decide +kernel
theorem d_Ma_startSearch_27 : decode b_Ma_startSearch 27 = .ok (.aaload, 1) := by decide +kernel
theorem d_Ma_startSearch_28 : decode b_Ma_startSearch 28 = .ok (.aconst_null, 1) := by decide +kernel
theorem d_Ma_startSearch_29 : decode b_Ma_startSearch 29 = .ok (.putfield 86, 3) := by decide +kernel
theorem d_Ma_startSearch_32 : decode b_Ma_startSearch 32 = .ok (.aload_n 0, 1) := by decide +kernel
theorem d_Ma_startSearch_33 : decode b_Ma_startSearch 33 = .ok (.getfield 11, 3) := by decide +kernel
theorem d_Ma_startSearch_36 : decode b_Ma_startSearch 36 = .ok (.iload_n 1, 1) := by decide +kernel
theorem d_Ma_startSearch_37 : decode b_Ma_startSearch 37 = .ok (.aaload, 1) := by decide +kernel
theorem d_Ma_startSearch_38 : decode b_Ma_startSearch 38 = .ok (.iconst 0, 1) := by decide +kernel
theorem d_Ma_startSearch_39 : decode b_Ma_startSearch 39 = .ok (.putfield 76, 3) := by decide +kernel
theorem d_Ma_startSearch_42 : decode b_Ma_startSearch 42 = .ok (.iinc 1 1, 3) := by decide +kernel
theorem d_Ma_startSearch_45 : decode b_Ma_startSearch 45 = .ok (.goto (-43), 3) := by decide +kernel
theorem d_Ma_startSearch_48 : decode b_Ma_startSearch 48 = .ok (.return_, 1) := by decide +kernel
theorem d_Ma_lookFrom_0 : decode b_Ma_lookFrom 0 = .ok (.iconst 0, 1) := by decide +kernel
theorem d_Ma_lookFrom_1 : decode b_Ma_lookFrom 1 = .ok (.istore_n 3, 1) := by decide +kernel
theorem d_Ma_lookFrom_2 : decode b_Ma_lookFrom 2 = .ok (.iload_n 3, 1) := by decide +kernel
theorem d_Ma_lookFrom_3 : decode b_Ma_lookFrom 3 = .ok (.aload_n 0, 1) := by decide +kernel
theorem d_Ma_lookFrom_4 : decode b_Ma_lookFrom 4 = .ok (.getfield 30, 3) := by decide +kernel
theorem d_Ma_lookFrom_7 : decode b_Ma_lookFrom 7 = .ok (.if_icmp .ge 79, 3) := by decide +kernel
theorem d_Ma_lookFrom_10 : decode b_Ma_lookFrom 10 = .ok (.aload_n 0, 1) := by decide +kernel
theorem d_Ma_lookFrom_11 : decode b_Ma_lookFrom 11 = .ok (.getfield 11, 3) := by decide +kernel
theorem d_Ma_lookFrom_14 : decode b_Ma_lookFrom 14 = .ok (.iload_n 3, 1) := by decide +kernel
theorem d_Ma_lookFrom_15 : decode b_Ma_lookFrom 15 = .ok (.aaload, 1) := by decide +kernel
theorem d_Ma_lookFrom_16 : decode b_Ma_lookFrom 16 = .ok (.astore 4, 2) := by decide +kernel
theorem d_Ma_lookFrom_18 : decode b_Ma_lookFrom 18 = .ok (.aload 4, 2) := by decide +kernel
theorem d_Ma_lookFrom_20 : decode b_Ma_lookFrom 20 = .ok (.getfield 76, 3) := by decide +kernel
theorem d_Ma_lookFrom_23 : decode b_Ma_lookFrom 23 = .ok (.ifCond .ne 57, 3) := by decide +kernel
theorem d_Ma_lookFrom_26 : decode b_Ma_lookFrom 26 = .ok (.aload_n 1, 1) := by decide +kernel
theorem d_Ma_lookFrom_27 : decode b_Ma_lookFrom 27 = .ok (.getfield 90, 3) := by decide +kernel
theorem d_Ma_lookFrom_30 : decode b_Ma_lookFrom 30 = .ok (.iload_n 3, 1) := by decide +kernel
theorem d_Ma_lookFrom_31 : decode b_Ma_lookFrom 31 = .ok (.baload, 1) := by decide +kernel
theorem d_Ma_lookFrom_32 : decode b_Ma_lookFrom 32 = .ok (.ifCond .eq 6, 3) := by decide +kernel
theorem d_Ma_lookFrom_35 : decode b_Ma_lookFrom 35 = .ok (.goto 45, 3) := by decide +kernel
theorem d_Ma_lookFrom_38 : decode b_Ma_lookFrom 38 = .ok (.aload_n 1, 1) := by decide +kernel
theorem d_Ma_lookFrom_39 : decode b_Ma_lookFrom 39 = .ok (.iload_n 3, 1) := by decide +kernel
theorem d_Ma_lookFrom_40 : decode b_Ma_lookFrom 40 = .ok (.invokevirtual 94, 3) := by decide +kernel
theorem d_Ma_lookFrom_43 : decode b_Ma_lookFrom 43 = .ok (.aload_n 1, 1) := by decide +kernel
theorem d_Ma_lookFrom_44 : decode b_Ma_lookFrom 44 = .ok (.getfield 60, 3) := by decide +kernel
theorem d_Ma_lookFrom_47 : decode b_Ma_lookFrom 47 = .ok (.lsub, 1) := by decide +kernel
theorem d_Ma_lookFrom_48 : decode b_Ma_lookFrom 48 = .ok (.aload 4, 2) := by decide +kernel
theorem d_Ma_lookFrom_50 : decode b_Ma_lookFrom 50 = .ok (.getfield 49, 3) := by decide +kernel
theorem d_Ma_lookFrom_53 : decode b_Ma_lookFrom 53 = .ok (.lsub, 1) := by decide +kernel
theorem d_Ma_lookFrom_54 : decode b_Ma_lookFrom 54 = .ok (.lstore 5, 2) := by decide +kernel
theorem d_Ma_lookFrom_56 : decode b_Ma_lookFrom 56 = .ok (.lload 5, 2) := by decide +kernel
theorem d_Ma_lookFrom_58 : decode b_Ma_lookFrom 58 = .ok (.aload 4, 2) := by decide +kernel
theorem d_Ma_lookFrom_60 : decode b_Ma_lookFrom 60 = .ok (.getfield 69, 3) := by decide +kernel
theorem d_Ma_lookFrom_63 : decode b_Ma_lookFrom 63 = .ok (.lcmp, 1) := by decide +kernel
theorem d_Ma_lookFrom_64 : decode b_Ma_lookFrom 64 = .ok (.ifCond .ge 16, 3) := by decide +kernel
theorem d_Ma_lookFrom_67 : decode b_Ma_lookFrom 67 = .ok (.aload 4, 2) := by decide +kernel
theorem d_Ma_lookFrom_69 : decode b_Ma_lookFrom 69 = .ok (.lload 5, 2) := by decide +kernel
theorem d_Ma_lookFrom_71 : decode b_Ma_lookFrom 71 = .ok (.putfield 69, 3) := by decide +kernel
theorem d_Ma_lookFrom_74 : decode b_Ma_lookFrom 74 = .ok (.aload 4, 2) := by decide +kernel
theorem d_Ma_lookFrom_76 : decode b_Ma_lookFrom 76 = .ok (.aload_n 2, 1) := by decide +kernel
theorem d_Ma_lookFrom_77 : decode b_Ma_lookFrom 77 = .ok (.putfield 86, 3) := by decide +kernel
theorem d_Ma_lookFrom_80 : decode b_Ma_lookFrom 80 = .ok (.iinc 3 1, 3) := by decide +kernel
theorem d_Ma_lookFrom_83 : decode b_Ma_lookFrom 83 = .ok (.goto (-81), 3) := by decide +kernel
theorem d_Ma_lookFrom_86 : decode b_Ma_lookFrom 86 = .ok (.return_, 1) := by decide +kernel
theorem d_Ma_nearestSpot_0 : decode b_Ma_nearestSpot 0 = .ok (.aconst_null, 1) := by decide +kernel
theorem d_Ma_nearestSpot_1 : decode b_Ma_nearestSpot 1 = .ok (.astore_n 1, 1) := by decide +kernel
theorem d_Ma_nearestSpot_2 : decode b_Ma_nearestSpot 2 = .ok (.ldc2_w 84, 3) := by decide +kernel
theorem d_Ma_nearestSpot_5 : decode b_Ma_nearestSpot 5 = .ok (.lstore_n 2, 1) := by decide +kernel
theorem d_Ma_nearestSpot_6 : decode b_Ma_nearestSpot 6 = .ok (.iconst 0, 1) := by decide +kernel
theorem d_Ma_nearestSpot_7 : decode b_Ma_nearestSpot 7 = .ok (.istore 4, 2) := by decide +kernel
theorem d_Ma_nearestSpot_9 : decode b_Ma_nearestSpot 9 = .ok (.iload 4, 2) := by decide +kernel
theorem d_Ma_nearestSpot_11 : decode b_Ma_nearestSpot 11 = .ok (.aload_n 0, 1) := by decide +kernel
theorem d_Ma_nearestSpot_12 : decode b_Ma_nearestSpot 12 = .ok (.getfield 30, 3) := by decide +kernel
theorem d_Ma_nearestSpot_15 : decode b_Ma_nearestSpot 15 = .ok (.if_icmp .ge 50, 3) := by decide +kernel
theorem d_Ma_nearestSpot_18 : decode b_Ma_nearestSpot 18 = .ok (.aload_n 0, 1) := by decide +kernel
theorem d_Ma_nearestSpot_19 : decode b_Ma_nearestSpot 19 = .ok (.getfield 11, 3) := by decide +kernel
theorem d_Ma_nearestSpot_22 : decode b_Ma_nearestSpot 22 = .ok (.iload 4, 2) := by decide +kernel
theorem d_Ma_nearestSpot_24 : decode b_Ma_nearestSpot 24 = .ok (.aaload, 1) := by decide +kernel
theorem d_Ma_nearestSpot_25 : decode b_Ma_nearestSpot 25 = .ok (.getfield 76, 3) := by decide +kernel
theorem d_Ma_nearestSpot_28 : decode b_Ma_nearestSpot 28 = .ok (.ifCond .ne 31, 3) := by decide +kernel
theorem d_Ma_nearestSpot_31 : decode b_Ma_nearestSpot 31 = .ok (.aload_n 0, 1) := by decide +kernel
theorem d_Ma_nearestSpot_32 : decode b_Ma_nearestSpot 32 = .ok (.getfield 11, 3) := by decide +kernel
theorem d_Ma_nearestSpot_35 : decode b_Ma_nearestSpot 35 = .ok (.iload 4, 2) := by decide +kernel
theorem d_Ma_nearestSpot_37 : decode b_Ma_nearestSpot 37 = .ok (.aaload, 1) := by decide +kernel
theorem d_Ma_nearestSpot_38 : decode b_Ma_nearestSpot 38 = .ok (.getfield 69, 3) := by decide +kernel
theorem d_Ma_nearestSpot_41 : decode b_Ma_nearestSpot 41 = .ok (.lload_n 2, 1) := by decide +kernel
theorem d_Ma_nearestSpot_42 : decode b_Ma_nearestSpot 42 = .ok (.lcmp, 1) := by decide +kernel
theorem d_Ma_nearestSpot_43 : decode b_Ma_nearestSpot 43 = .ok (.ifCond .ge 16, 3) := by decide +kernel
theorem d_Ma_nearestSpot_46 : decode b_Ma_nearestSpot 46 = .ok (.aload_n 0, 1) := by decide +kernel
theorem d_Ma_nearestSpot_47 : decode b_Ma_nearestSpot 47 = .ok (.getfield 11, 3) := by decide +kernel
theorem d_Ma_nearestSpot_50 : decode b_Ma_nearestSpot 50 = .ok (.iload 4, 2) := by decide +kernel
theorem d_Ma_nearestSpot_52 : decode b_Ma_nearestSpot 52 = .ok (.aaload, 1) := by decide +kernel
theorem d_Ma_nearestSpot_53 : decode b_Ma_nearestSpot 53 = .ok (.astore_n 1, 1) := by decide +kernel
theorem d_Ma_nearestSpot_54 : decode b_Ma_nearestSpot 54 = .ok (.aload_n 1, 1) := by decide +kernel
theorem d_Ma_nearestSpot_55 : decode b_Ma_nearestSpot 55 = .ok (.getfield 69, 3) := by decide +kernel
theorem d_Ma_nearestSpot_58 : decode b_Ma_nearestSpot 58 = .ok (.lstore_n 2, 1) := by decide +kernel
theorem d_Ma_nearestSpot_59 : decode b_Ma_nearestSpot 59 = .ok (.iinc 4 1, 3) := by decide +kernel
theorem d_Ma_nearestSpot_62 : decode b_Ma_nearestSpot 62 = .ok (.goto (-53), 3) := by decide +kernel
theorem d_Ma_nearestSpot_65 : decode b_Ma_nearestSpot 65 = .ok (.aload_n 1, 1) := by decide +kernel
theorem d_Ma_nearestSpot_66 : decode b_Ma_nearestSpot 66 = .ok (.areturn, 1) := by decide +kernel
theorem d_Ma_shiftPrices_0 : decode b_Ma_shiftPrices 0 = .ok (.aload_n 1, 1) := by decide +kernel
theorem d_Ma_shiftPrices_1 : decode b_Ma_shiftPrices 1 = .ok (.dup, 1) := by decide +kernel
theorem d_Ma_shiftPrices_2 : decode b_Ma_shiftPrices 2 = .ok (.getfield 60, 3) := by decide +kernel
theorem d_Ma_shiftPrices_5 : decode b_Ma_shiftPrices 5 = .ok (.lload_n 2, 1) := by decide +kernel
theorem d_Ma_shiftPrices_6 : decode b_Ma_shiftPrices 6 = .ok (.ladd, 1) := by decide +kernel
theorem d_Ma_shiftPrices_7 : decode b_Ma_shiftPrices 7 = .ok (.putfield 60, 3) := by decide +kernel
theorem d_Ma_shiftPrices_10 : decode b_Ma_shiftPrices 10 = .ok (.iconst 0, 1) := by decide +kernel
theorem d_Ma_shiftPrices_11 : decode b_Ma_shiftPrices 11 = .ok (.istore 4, 2) := by decide +kernel
theorem d_Ma_shiftPrices_13 : decode b_Ma_shiftPrices 13 = .ok (.iload 4, 2) := by decide +kernel
theorem d_Ma_shiftPrices_15 : decode b_Ma_shiftPrices 15 = .ok (.aload_n 0, 1) := by decide +kernel
theorem d_Ma_shiftPrices_16 : decode b_Ma_shiftPrices 16 = .ok (.getfield 30, 3) := by decide +kernel
theorem d_Ma_shiftPrices_19 : decode b_Ma_shiftPrices 19 = .ok (.if_icmp .ge 85, 3) := by decide +kernel
theorem d_Ma_shiftPrices_22 : decode b_Ma_shiftPrices 22 = .ok (.aload_n 0, 1) := by decide +kernel
theorem d_Ma_shiftPrices_23 : decode b_Ma_shiftPrices 23 = .ok (.getfield 11, 3) := by decide +kernel
theorem d_Ma_shiftPrices_26 : decode b_Ma_shiftPrices 26 = .ok (.iload 4, 2) := by decide +kernel
theorem d_Ma_shiftPrices_28 : decode b_Ma_shiftPrices 28 = .ok (.aaload, 1) := by decide +kernel
theorem d_Ma_shiftPrices_29 : decode b_Ma_shiftPrices 29 = .ok (.astore 5, 2) := by decide +kernel
theorem d_Ma_shiftPrices_31 : decode b_Ma_shiftPrices 31 = .ok (.aload 5, 2) := by decide +kernel
theorem d_Ma_shiftPrices_33 : decode b_Ma_shiftPrices 33 = .ok (.getfield 76, 3) := by decide +kernel
theorem d_Ma_shiftPrices_36 : decode b_Ma_shiftPrices 36 = .ok (.ifCond .eq 39, 3) := by decide +kernel
theorem d_Ma_shiftPrices_39 : decode b_Ma_shiftPrices 39 = .ok (.aload 5, 2) := by decide +kernel
theorem d_Ma_shiftPrices_41 : decode b_Ma_shiftPrices 41 = .ok (.dup, 1) := by decide +kernel
theorem d_Ma_shiftPrices_42 : decode b_Ma_shiftPrices 42 = .ok (.getfield 49, 3) := by decide +kernel
theorem d_Ma_shiftPrices_45 : decode b_Ma_shiftPrices 45 = .ok (.lload_n 2, 1) := by decide +kernel
theorem d_Ma_shiftPrices_46 : decode b_Ma_shiftPrices 46 = .ok (.lsub, 1) := by decide +kernel
theorem d_Ma_shiftPrices_47 : decode b_Ma_shiftPrices 47 = .ok (.putfield 49, 3) := by decide +kernel
theorem d_Ma_shiftPrices_50 : decode b_Ma_shiftPrices 50 = .ok (.aload 5, 2) := by decide +kernel
theorem d_Ma_shiftPrices_52 : decode b_Ma_shiftPrices 52 = .ok (.getfield 34, 3) := by decide +kernel
theorem d_Ma_shiftPrices_55 : decode b_Ma_shiftPrices 55 = .ok (.ifnull 43, 3) := by decide +kernel
theorem d_Ma_shiftPrices_58 : decode b_Ma_shiftPrices 58 = .ok (.aload 5, 2) := by decide +kernel
theorem d_Ma_shiftPrices_60 : decode b_Ma_shiftPrices 60 = .ok (.getfield 34, 3) := by decide +kernel
theorem d_Ma_shiftPrices_63 : decode b_Ma_shiftPrices 63 = .ok (.dup, 1) := by decide +kernel
theorem d_Ma_shiftPrices_64 : decode b_Ma_shiftPrices 64 = .ok (.getfield 60, 3) := by decide +kernel
theorem d_Ma_shiftPrices_67 : decode b_Ma_shiftPrices 67 = .ok (.lload_n 2, 1) := by decide +kernel
theorem d_Ma_shiftPrices_68 : decode b_Ma_shiftPrices 68 = .ok (.ladd, 1) := by decide +kernel
theorem d_Ma_shiftPrices_69 : decode b_Ma_shiftPrices 69 = .ok (.putfield 60, 3) := by decide +kernel
theorem d_Ma_shiftPrices_72 : decode b_Ma_shiftPrices 72 = .ok (.goto 26, 3) := by decide +kernel
theorem d_Ma_shiftPrices_75 : decode b_Ma_shiftPrices 75 = .ok (.aload 5, 2) := by decide +kernel
theorem d_Ma_shiftPrices_77 : decode b_Ma_shiftPrices 77 = .ok (.getfield 69, 3) := by decide +kernel
theorem d_Ma_shiftPrices_80 : decode b_Ma_shiftPrices 80 = .ok (.ldc2_w 84, 3) := by decide +kernel
theorem d_Ma_shiftPrices_83 : decode b_Ma_shiftPrices 83 = .ok (.lcmp, 1) := by decide +kernel
theorem d_Ma_shiftPrices_84 : decode b_Ma_shiftPrices 84 = .ok (.ifCond .ge 14, 3) := by decide +kernel
theorem d_Ma_shiftPrices_87 : decode b_Ma_shiftPrices 87 = .ok (.aload 5, 2) := by decide +kernel
theorem d_Ma_shiftPrices_89 : decode b_Ma_shiftPrices 89 = .ok (.dup, 1) := by decide +kernel
theorem d_Ma_shiftPrices_90 : decode b_Ma_shiftPrices 90 = .ok (.getfield 69, 3) := by decide +kernel
theorem d_Ma_shiftPrices_93 : decode b_Ma_shiftPrices 93 = .ok (.lload_n 2, 1) := by decide +kernel
theorem d_Ma_shiftPrices_94 : decode b_Ma_shiftPrices 94 = .ok (.lsub, 1) := by decide +kernel
theorem d_Ma_shiftPrices_95 : decode b_Ma_shiftPrices 95 = .ok (.putfield 69, 3) := by decide +kernel
theorem d_Ma_shiftPrices_98 : decode b_Ma_shiftPrices 98 = .ok (.iinc 4 1, 3) := by decide +kernel
theorem d_Ma_shiftPrices_101 : decode b_Ma_shiftPrices 101 = .ok (.goto (-88), 3) := by decide +kernel
theorem d_Ma_shiftPrices_104 : decode b_Ma_shiftPrices 104 = .ok (.return_, 1) := by decide +kernel
theorem d_Ma_handOn_0 : decode b_Ma_handOn 0 = .ok (.aload_n 1, 1) := by decide +kernel
theorem d_Ma_handOn_1 : decode b_Ma_handOn 1 = .ok (.astore_n 3, 1) := by decide +kernel
theorem d_Ma_handOn_2 : decode b_Ma_handOn 2 = .ok (.aload_n 3, 1) := by decide +kernel
theorem d_Ma_handOn_3 : decode b_Ma_handOn 3 = .ok (.ifnull 33, 3) := by decide +kernel
theorem d_Ma_handOn_6 : decode b_Ma_handOn 6 = .ok (.aload_n 3, 1) := by decide +kernel
theorem d_Ma_handOn_7 : decode b_Ma_handOn 7 = .ok (.aload_n 3, 1) := by decide +kernel
theorem d_Ma_handOn_8 : decode b_Ma_handOn 8 = .ok (.getfield 86, 3) := by decide +kernel
theorem d_Ma_handOn_11 : decode b_Ma_handOn 11 = .ok (.ifnonnull 7, 3) := by decide +kernel
theorem d_Ma_handOn_14 : decode b_Ma_handOn 14 = .ok (.aload_n 2, 1) := by decide +kernel
theorem d_Ma_handOn_15 : decode b_Ma_handOn 15 = .ok (.goto 10, 3) := by decide +kernel
theorem d_Ma_handOn_18 : decode b_Ma_handOn 18 = .ok (.aload_n 3, 1) := by decide +kernel
theorem d_Ma_handOn_19 : decode b_Ma_handOn 19 = .ok (.getfield 86, 3) := by decide +kernel
theorem d_Ma_handOn_22 : decode b_Ma_handOn 22 = .ok (.getfield 34, 3) := by decide +kernel
theorem d_Ma_handOn_25 : decode b_Ma_handOn 25 = .ok (.putfield 34, 3) := by decide +kernel
theorem d_Ma_handOn_28 : decode b_Ma_handOn 28 = .ok (.aload_n 3, 1) := by decide +kernel
theorem d_Ma_handOn_29 : decode b_Ma_handOn 29 = .ok (.getfield 86, 3) := by decide +kernel
theorem d_Ma_handOn_32 : decode b_Ma_handOn 32 = .ok (.astore_n 3, 1) := by decide +kernel
theorem d_Ma_handOn_33 : decode b_Ma_handOn 33 = .ok (.goto (-31), 3) := by decide +kernel
theorem d_Ma_handOn_36 : decode b_Ma_handOn 36 = .ok (.return_, 1) := by decide +kernel
theorem d_Pe_init_0 : decode b_Pe_init 0 = .ok (.aload_n 0, 1) := by decide +kernel
theorem d_Pe_init_1 : decode b_Pe_init 1 = .ok (.invokespecial 3, 3) := by decide +kernel
theorem d_Pe_init_4 : decode b_Pe_init 4 = .ok (.aload_n 0, 1) := by decide +kernel
theorem d_Pe_init_5 : decode b_Pe_init 5 = .ok (.bipush 14, 2) := by decide +kernel
theorem d_Pe_init_7 : decode b_Pe_init 7 = .ok (.newarray .int, 2) := by decide +kernel
theorem d_Pe_init_9 : decode b_Pe_init 9 = .ok (.putfield 9, 3) := by decide +kernel
theorem d_Pe_init_12 : decode b_Pe_init 12 = .ok (.aload_n 0, 1) := by decide +kernel
theorem d_Pe_init_13 : decode b_Pe_init 13 = .ok (.bipush 14, 2) := by decide +kernel
theorem d_Pe_init_15 : decode b_Pe_init 15 = .ok (.newarray .boolean, 2) := by decide +kernel
theorem d_Pe_init_17 : decode b_Pe_init 17 = .ok (.putfield 15, 3) := by decide +kernel
theorem d_Pe_init_20 : decode b_Pe_init 20 = .ok (.aload_n 0, 1) := by decide +kernel
theorem d_Pe_init_21 : decode b_Pe_init 21 = .ok (.iconst (-1), 1) := by decide +kernel
theorem d_Pe_init_22 : decode b_Pe_init 22 = .ok (.putfield 19, 3) := by decide +kernel
theorem d_Pe_init_25 : decode b_Pe_init 25 = .ok (.aload_n 0, 1) := by decide +kernel
theorem d_Pe_init_26 : decode b_Pe_init 26 = .ok (.iconst (-1), 1) := by decide +kernel
theorem d_Pe_init_27 : decode b_Pe_init 27 = .ok (.putfield 23, 3) := by decide +kernel
theorem d_Pe_init_30 : decode b_Pe_init 30 = .ok (.aload_n 0, 1) := by decide +kernel
theorem d_Pe_init_31 : decode b_Pe_init 31 = .ok (.iconst (-1), 1) := by decide +kernel
theorem d_Pe_init_32 : decode b_Pe_init 32 = .ok (.putfield 26, 3) := by decide +kernel
theorem d_Pe_init_35 : decode b_Pe_init 35 = .ok (.aload_n 0, 1) := by decide +kernel
theorem d_Pe_init_36 : decode b_Pe_init 36 = .ok (.iload_n 1, 1) := by decide +kernel
theorem d_Pe_init_37 : decode b_Pe_init 37 = .ok (.putfield 29, 3) := by decide +kernel
theorem d_Pe_init_40 : decode b_Pe_init 40 = .ok (.return_, 1) := by decide +kernel
theorem d_Pe_wouldMoveTo_0 : decode b_Pe_wouldMoveTo 0 = .ok (.aload_n 0, 1) := by decide +kernel
theorem d_Pe_wouldMoveTo_1 : decode b_Pe_wouldMoveTo 1 = .ok (.getfield 19, 3) := by decide +kernel
theorem d_Pe_wouldMoveTo_4 : decode b_Pe_wouldMoveTo 4 = .ok (.iconst (-1), 1) := by decide +kernel
theorem d_Pe_wouldMoveTo_5 : decode b_Pe_wouldMoveTo 5 = .ok (.if_icmp .eq 15, 3) := by decide +kernel
theorem d_Pe_wouldMoveTo_8 : decode b_Pe_wouldMoveTo 8 = .ok (.aload_n 0, 1) := by decide +kernel
theorem d_Pe_wouldMoveTo_9 : decode b_Pe_wouldMoveTo 9 = .ok (.getfield 19, 3) := by decide +kernel
theorem d_Pe_wouldMoveTo_12 : decode b_Pe_wouldMoveTo 12 = .ok (.iload_n 1, 1) := by decide +kernel
theorem d_Pe_wouldMoveTo_13 : decode b_Pe_wouldMoveTo 13 = .ok (.if_icmp .eq 7, 3) := by decide +kernel
theorem d_Pe_wouldMoveTo_16 : decode b_Pe_wouldMoveTo 16 = .ok (.iconst 1, 1) := by decide +kernel
theorem d_Pe_wouldMoveTo_17 : decode b_Pe_wouldMoveTo 17 = .ok (.goto 4, 3) := by decide +kernel
theorem d_Pe_wouldMoveTo_20 : decode b_Pe_wouldMoveTo 20 = .ok (.iconst 0, 1) := by decide +kernel
theorem d_Pe_wouldMoveTo_21 : decode b_Pe_wouldMoveTo 21 = .ok (.ireturn, 1) := by decide +kernel
theorem d_Pe_costAt_0 : decode b_Pe_costAt 0 = .ok (.sipush 1000, 3) := by decide +kernel
theorem d_Pe_costAt_3 : decode b_Pe_costAt 3 = .ok (.aload_n 0, 1) := by decide +kernel
theorem d_Pe_costAt_4 : decode b_Pe_costAt 4 = .ok (.getfield 9, 3) := by decide +kernel
theorem d_Pe_costAt_7 : decode b_Pe_costAt 7 = .ok (.iload_n 1, 1) := by decide +kernel
theorem d_Pe_costAt_8 : decode b_Pe_costAt 8 = .ok (.iaload, 1) := by decide +kernel
theorem d_Pe_costAt_9 : decode b_Pe_costAt 9 = .ok (.isub, 1) := by decide +kernel
theorem d_Pe_costAt_10 : decode b_Pe_costAt 10 = .ok (.i2l, 1) := by decide +kernel
theorem d_Pe_costAt_11 : decode b_Pe_costAt 11 = .ok (.ldc2_w 32, 3) := by decide +kernel
theorem d_Pe_costAt_14 : decode b_Pe_costAt 14 = .ok (.lmul, 1) := by decide +kernel
theorem d_Pe_costAt_15 : decode b_Pe_costAt 15 = .ok (.lstore_n 2, 1) := by decide +kernel
theorem d_Pe_costAt_16 : decode b_Pe_costAt 16 = .ok (.aload_n 0, 1) := by decide +kernel
theorem d_Pe_costAt_17 : decode b_Pe_costAt 17 = .ok (.iload_n 1, 1) := by decide +kernel
theorem d_Pe_costAt_18 : decode b_Pe_costAt 18 = .ok (.invokevirtual 34, 3) := by decide +kernel
theorem d_Pe_costAt_21 : decode b_Pe_costAt 21 = .ok (.ifCond .eq 9, 3) := by decide +kernel
theorem d_Pe_costAt_24 : decode b_Pe_costAt 24 = .ok (.lload_n 2, 1) := by decide +kernel
theorem d_Pe_costAt_25 : decode b_Pe_costAt 25 = .ok (.ldc2_w 38, 3) := by decide +kernel
theorem d_Pe_costAt_28 : decode b_Pe_costAt 28 = .ok (.ladd, 1) := by decide +kernel
theorem d_Pe_costAt_29 : decode b_Pe_costAt 29 = .ok (.lstore_n 2, 1) := by decide +kernel
theorem d_Pe_costAt_30 : decode b_Pe_costAt 30 = .ok (.lload_n 2, 1) := by decide +kernel
theorem d_Pe_costAt_31 : decode b_Pe_costAt 31 = .ok (.iload_n 1, 1) := by decide +kernel
theorem d_Pe_costAt_32 : decode b_Pe_costAt 32 = .ok (.i2l, 1) := by decide +kernel
theorem d_Pe_costAt_33 : decode b_Pe_costAt 33 = .ok (.iconst 4, 1) := by decide +kernel
theorem d_Pe_costAt_34 : decode b_Pe_costAt 34 = .ok (.bipush 9, 2) := by decide +kernel
theorem d_Pe_costAt_36 : decode b_Pe_costAt 36 = .ok (.aload_n 0, 1) := by decide +kernel
theorem d_Pe_costAt_37 : decode b_Pe_costAt 37 = .ok (.getfield 29, 3) := by decide +kernel
theorem d_Pe_costAt_40 : decode b_Pe_costAt 40 = .ok (.isub, 1) := by decide +kernel
theorem d_Pe_costAt_41 : decode b_Pe_costAt 41 = .ok (.imul, 1) := by decide +kernel
theorem d_Pe_costAt_42 : decode b_Pe_costAt 42 = .ok (.lshl, 1) := by decide +kernel
theorem d_Pe_costAt_43 : decode b_Pe_costAt 43 = .ok (.ladd, 1) := by decide +kernel
theorem d_Pe_costAt_44 : decode b_Pe_costAt 44 = .ok (.lreturn, 1) := by decide +kernel
theorem d_Ro_init_0 : decode b_Ro_init 0 = .ok (.aload_n 0, 1) := by decide +kernel
theorem d_Ro_init_1 : decode b_Ro_init 1 = .ok (.invokespecial 1, 3) := by decide +kernel
theorem d_Ro_init_4 : decode b_Ro_init 4 = .ok (.aload_n 0, 1) := by decide +kernel
theorem d_Ro_init_5 : decode b_Ro_init 5 = .ok (.iload_n 1, 1) := by decide +kernel
theorem d_Ro_init_6 : decode b_Ro_init 6 = .ok (.putfield 7, 3) := by decide +kernel
theorem d_Ro_init_9 : decode b_Ro_init 9 = .ok (.return_, 1) := by decide +kernel
theorem d_Ro_bookingWithin_0 : decode b_Ro_bookingWithin 0 = .ok (.aload_n 0, 1) := by decide +kernel
theorem d_Ro_bookingWithin_1 : decode b_Ro_bookingWithin 1 = .ok (.getfield 13, 3) := by decide +kernel
theorem d_Ro_bookingWithin_4 : decode b_Ro_bookingWithin 4 = .ok (.astore_n 3, 1) := by decide +kernel
theorem d_Ro_bookingWithin_5 : decode b_Ro_bookingWithin 5 = .ok (.aload_n 3, 1) := by decide +kernel
theorem d_Ro_bookingWithin_6 : decode b_Ro_bookingWithin 6 = .ok (.ifnull 29, 3) := by decide +kernel
theorem d_Ro_bookingWithin_9 : decode b_Ro_bookingWithin 9 = .ok (.aload_n 3, 1) := by decide +kernel
theorem d_Ro_bookingWithin_10 : decode b_Ro_bookingWithin 10 = .ok (.getfield 17, 3) := by decide +kernel
theorem d_Ro_bookingWithin_13 : decode b_Ro_bookingWithin 13 = .ok (.iload_n 2, 1) := by decide +kernel
theorem d_Ro_bookingWithin_14 : decode b_Ro_bookingWithin 14 = .ok (.if_icmp .ge 13, 3) := by decide +kernel
theorem d_Ro_bookingWithin_17 : decode b_Ro_bookingWithin 17 = .ok (.aload_n 3, 1) := by decide +kernel
theorem d_Ro_bookingWithin_18 : decode b_Ro_bookingWithin 18 = .ok (.getfield 22, 3) := by decide +kernel
theorem d_Ro_bookingWithin_21 : decode b_Ro_bookingWithin 21 = .ok (.iload_n 1, 1) := by decide +kernel
theorem d_Ro_bookingWithin_22 : decode b_Ro_bookingWithin 22 = .ok (.if_icmp .le 5, 3) := by decide +kernel
theorem d_Ro_bookingWithin_25 : decode b_Ro_bookingWithin 25 = .ok (.aload_n 3, 1) := by decide +kernel
theorem d_Ro_bookingWithin_26 : decode b_Ro_bookingWithin 26 = .ok (.areturn, 1) := by decide +kernel
theorem d_Ro_bookingWithin_27 : decode b_Ro_bookingWithin 27 = .ok (.aload_n 3, 1) := by decide +kernel
theorem d_Ro_bookingWithin_28 : decode b_Ro_bookingWithin 28 = .ok (.getfield 25, 3) := by decide +kernel
theorem d_Ro_bookingWithin_31 : decode b_Ro_bookingWithin 31 = .ok (.astore_n 3, 1) := by decide +kernel
theorem d_Ro_bookingWithin_32 : decode b_Ro_bookingWithin 32 = .ok (.goto (-27), 3) := by decide +kernel
theorem d_Ro_bookingWithin_35 : decode b_Ro_bookingWithin 35 = .ok (.aconst_null, 1) := by decide +kernel
theorem d_Ro_bookingWithin_36 : decode b_Ro_bookingWithin 36 = .ok (.areturn, 1) := by decide +kernel
theorem d_Ro_firstFree_0 : decode b_Ro_firstFree 0 = .ok (.iload_n 1, 1) := by decide +kernel
theorem d_Ro_firstFree_1 : decode b_Ro_firstFree 1 = .ok (.istore_n 3, 1) := by decide +kernel
theorem d_Ro_firstFree_2 : decode b_Ro_firstFree 2 = .ok (.aload_n 0, 1) := by decide +kernel
theorem d_Ro_firstFree_3 : decode b_Ro_firstFree 3 = .ok (.getfield 13, 3) := by decide +kernel
theorem d_Ro_firstFree_6 : decode b_Ro_firstFree 6 = .ok (.astore 4, 2) := by decide +kernel
theorem d_Ro_firstFree_8 : decode b_Ro_firstFree 8 = .ok (.aload 4, 2) := by decide +kernel
theorem d_Ro_firstFree_10 : decode b_Ro_firstFree 10 = .ok (.ifnull 39, 3) := by decide +kernel
theorem d_Ro_firstFree_13 : decode b_Ro_firstFree 13 = .ok (.aload 4, 2) := by decide +kernel
theorem d_Ro_firstFree_15 : decode b_Ro_firstFree 15 = .ok (.getfield 17, 3) := by decide +kernel
theorem d_Ro_firstFree_18 : decode b_Ro_firstFree 18 = .ok (.iload_n 3, 1) := by decide +kernel
theorem d_Ro_firstFree_19 : decode b_Ro_firstFree 19 = .ok (.iload_n 2, 1) := by decide +kernel
theorem d_Ro_firstFree_20 : decode b_Ro_firstFree 20 = .ok (.iadd, 1) := by decide +kernel
theorem d_Ro_firstFree_21 : decode b_Ro_firstFree 21 = .ok (.if_icmp .ge 18, 3) := by decide +kernel
theorem d_Ro_firstFree_24 : decode b_Ro_firstFree 24 = .ok (.aload 4, 2) := by decide +kernel
theorem d_Ro_firstFree_26 : decode b_Ro_firstFree 26 = .ok (.getfield 22, 3) := by decide +kernel
theorem d_Ro_firstFree_29 : decode b_Ro_firstFree 29 = .ok (.iload_n 3, 1) := by decide +kernel
theorem d_Ro_firstFree_30 : decode b_Ro_firstFree 30 = .ok (.if_icmp .le 9, 3) := by decide +kernel
theorem d_Ro_firstFree_33 : decode b_Ro_firstFree 33 = .ok (.aload 4, 2) := by decide +kernel
theorem d_Ro_firstFree_35 : decode b_Ro_firstFree 35 = .ok (.getfield 22, 3) := by decide +kernel
theorem d_Ro_firstFree_38 : decode b_Ro_firstFree 38 = .ok (.istore_n 3, 1) := by decide +kernel
theorem d_Ro_firstFree_39 : decode b_Ro_firstFree 39 = .ok (.aload 4, 2) := by decide +kernel
theorem d_Ro_firstFree_41 : decode b_Ro_firstFree 41 = .ok (.getfield 25, 3) := by decide +kernel
theorem d_Ro_firstFree_44 : decode b_Ro_firstFree 44 = .ok (.astore 4, 2) := by decide +kernel
theorem d_Ro_firstFree_46 : decode b_Ro_firstFree 46 = .ok (.goto (-38), 3) := by decide +kernel
theorem d_Ro_firstFree_49 : decode b_Ro_firstFree 49 = .ok (.iload_n 3, 1) := by decide +kernel
theorem d_Ro_firstFree_50 : decode b_Ro_firstFree 50 = .ok (.ireturn, 1) := by decide +kernel
theorem d_Ro_placesLeftOver_0 : decode b_Ro_placesLeftOver 0 = .ok (.iconst 0, 1) := by decide +kernel
theorem d_Ro_placesLeftOver_1 : decode b_Ro_placesLeftOver 1 = .ok (.istore_n 1, 1) := by decide +kernel
theorem d_Ro_placesLeftOver_2 : decode b_Ro_placesLeftOver 2 = .ok (.aload_n 0, 1) := by decide +kernel
theorem d_Ro_placesLeftOver_3 : decode b_Ro_placesLeftOver 3 = .ok (.getfield 13, 3) := by decide +kernel
theorem d_Ro_placesLeftOver_6 : decode b_Ro_placesLeftOver 6 = .ok (.astore_n 2, 1) := by decide +kernel
theorem d_Ro_placesLeftOver_7 : decode b_Ro_placesLeftOver 7 = .ok (.aload_n 2, 1) := by decide +kernel
theorem d_Ro_placesLeftOver_8 : decode b_Ro_placesLeftOver 8 = .ok (.ifnull 23, 3) := by decide +kernel
theorem d_Ro_placesLeftOver_11 : decode b_Ro_placesLeftOver 11 = .ok (.iload_n 1, 1) := by decide +kernel
theorem d_Ro_placesLeftOver_12 : decode b_Ro_placesLeftOver 12 = .ok (.aload_n 0, 1) := by decide +kernel
theorem d_Ro_placesLeftOver_13 : decode b_Ro_placesLeftOver 13 = .ok (.getfield 28, 3) := by decide +kernel
theorem d_Ro_placesLeftOver_16 : decode b_Ro_placesLeftOver 16 = .ok (.aload_n 2, 1) := by decide +kernel
theorem d_Ro_placesLeftOver_17 : decode b_Ro_placesLeftOver 17 = .ok (.getfield 31, 3) := by decide +kernel
theorem d_Ro_placesLeftOver_20 : decode b_Ro_placesLeftOver 20 = .ok (.isub, 1) := by decide +kernel
theorem d_Ro_placesLeftOver_21 : decode b_Ro_placesLeftOver 21 = .ok (.iadd, 1) := by decide +kernel
theorem d_Ro_placesLeftOver_22 : decode b_Ro_placesLeftOver 22 = .ok (.istore_n 1, 1) := by decide +kernel
theorem d_Ro_placesLeftOver_23 : decode b_Ro_placesLeftOver 23 = .ok (.aload_n 2, 1) := by decide +kernel
theorem d_Ro_placesLeftOver_24 : decode b_Ro_placesLeftOver 24 = .ok (.getfield 25, 3) := by decide +kernel
theorem d_Ro_placesLeftOver_27 : decode b_Ro_placesLeftOver 27 = .ok (.astore_n 2, 1) := by decide +kernel
theorem d_Ro_placesLeftOver_28 : decode b_Ro_placesLeftOver 28 = .ok (.goto (-21), 3) := by decide +kernel
theorem d_Ro_placesLeftOver_31 : decode b_Ro_placesLeftOver 31 = .ok (.iload_n 1, 1) := by decide +kernel
theorem d_Ro_placesLeftOver_32 : decode b_Ro_placesLeftOver 32 = .ok (.ireturn, 1) := by decide +kernel
theorem d_Ro_add_0 : decode b_Ro_add 0 = .ok (.aconst_null, 1) := by decide +kernel
theorem d_Ro_add_1 : decode b_Ro_add 1 = .ok (.astore_n 2, 1) := by decide +kernel
theorem d_Ro_add_2 : decode b_Ro_add 2 = .ok (.aload_n 0, 1) := by decide +kernel
theorem d_Ro_add_3 : decode b_Ro_add 3 = .ok (.getfield 13, 3) := by decide +kernel
theorem d_Ro_add_6 : decode b_Ro_add 6 = .ok (.astore_n 3, 1) := by decide +kernel
theorem d_Ro_add_7 : decode b_Ro_add 7 = .ok (.aload_n 3, 1) := by decide +kernel
theorem d_Ro_add_8 : decode b_Ro_add 8 = .ok (.ifnull 24, 3) := by decide +kernel
theorem d_Ro_add_11 : decode b_Ro_add 11 = .ok (.aload_n 3, 1) := by decide +kernel
theorem d_Ro_add_12 : decode b_Ro_add 12 = .ok (.getfield 17, 3) := by decide +kernel
theorem d_Ro_add_15 : decode b_Ro_add 15 = .ok (.aload_n 1, 1) := by decide +kernel
theorem d_Ro_add_16 : decode b_Ro_add 16 = .ok (.getfield 17, 3) := by decide +kernel
theorem d_Ro_add_19 : decode b_Ro_add 19 = .ok (.if_icmp .ge 13, 3) := by decide +kernel
theorem d_Ro_add_22 : decode b_Ro_add 22 = .ok (.aload_n 3, 1) := by decide +kernel
theorem d_Ro_add_23 : decode b_Ro_add 23 = .ok (.astore_n 2, 1) := by decide +kernel
theorem d_Ro_add_24 : decode b_Ro_add 24 = .ok (.aload_n 3, 1) := by decide +kernel
theorem d_Ro_add_25 : decode b_Ro_add 25 = .ok (.getfield 25, 3) := by decide +kernel
theorem d_Ro_add_28 : decode b_Ro_add 28 = .ok (.astore_n 3, 1) := by decide +kernel
theorem d_Ro_add_29 : decode b_Ro_add 29 = .ok (.goto (-22), 3) := by decide +kernel
theorem d_Ro_add_32 : decode b_Ro_add 32 = .ok (.aload_n 2, 1) := by decide +kernel
theorem d_Ro_add_33 : decode b_Ro_add 33 = .ok (.ifnonnull 19, 3) := by decide +kernel
theorem d_Ro_add_36 : decode b_Ro_add 36 = .ok (.aload_n 1, 1) := by decide +kernel
theorem d_Ro_add_37 : decode b_Ro_add 37 = .ok (.aload_n 0, 1) := by decide +kernel
theorem d_Ro_add_38 : decode b_Ro_add 38 = .ok (.getfield 13, 3) := by decide +kernel
theorem d_Ro_add_41 : decode b_Ro_add 41 = .ok (.putfield 25, 3) := by decide +kernel
theorem d_Ro_add_44 : decode b_Ro_add 44 = .ok (.aload_n 0, 1) := by decide +kernel
theorem d_Ro_add_45 : decode b_Ro_add 45 = .ok (.aload_n 1, 1) := by decide +kernel
theorem d_Ro_add_46 : decode b_Ro_add 46 = .ok (.putfield 13, 3) := by decide +kernel
theorem d_Ro_add_49 : decode b_Ro_add 49 = .ok (.goto 16, 3) := by decide +kernel
theorem d_Ro_add_52 : decode b_Ro_add 52 = .ok (.aload_n 1, 1) := by decide +kernel
theorem d_Ro_add_53 : decode b_Ro_add 53 = .ok (.aload_n 2, 1) := by decide +kernel
theorem d_Ro_add_54 : decode b_Ro_add 54 = .ok (.getfield 25, 3) := by decide +kernel
theorem d_Ro_add_57 : decode b_Ro_add 57 = .ok (.putfield 25, 3) := by decide +kernel
theorem d_Ro_add_60 : decode b_Ro_add 60 = .ok (.aload_n 2, 1) := by decide +kernel
theorem d_Ro_add_61 : decode b_Ro_add 61 = .ok (.aload_n 1, 1) := by decide +kernel
theorem d_Ro_add_62 : decode b_Ro_add 62 = .ok (.putfield 25, 3) := by decide +kernel
theorem d_Ro_add_65 : decode b_Ro_add 65 = .ok (.return_, 1) := by decide +kernel
theorem d_Ro_remove_0 : decode b_Ro_remove 0 = .ok (.aload_n 0, 1) := by decide +kernel
theorem d_Ro_remove_1 : decode b_Ro_remove 1 = .ok (.getfield 13, 3) := by decide +kernel
theorem d_Ro_remove_4 : decode b_Ro_remove 4 = .ok (.aload_n 1, 1) := by decide +kernel
theorem d_Ro_remove_5 : decode b_Ro_remove 5 = .ok (.if_acmp .ne 13, 3) := by decide +kernel
theorem d_Ro_remove_8 : decode b_Ro_remove 8 = .ok (.aload_n 0, 1) := by decide +kernel
theorem d_Ro_remove_9 : decode b_Ro_remove 9 = .ok (.aload_n 1, 1) := by decide +kernel
theorem d_Ro_remove_10 : decode b_Ro_remove 10 = .ok (.getfield 25, 3) := by decide +kernel
theorem d_Ro_remove_13 : decode b_Ro_remove 13 = .ok (.putfield 13, 3) := by decide +kernel
theorem d_Ro_remove_16 : decode b_Ro_remove 16 = .ok (.iconst 1, 1) := by decide +kernel
theorem d_Ro_remove_17 : decode b_Ro_remove 17 = .ok (.ireturn, 1) := by decide +kernel
theorem d_Ro_remove_18 : decode b_Ro_remove 18 = .ok (.aload_n 0, 1) := by decide +kernel
theorem d_Ro_remove_19 : decode b_Ro_remove 19 = .ok (.getfield 13, 3) := by decide +kernel
theorem d_Ro_remove_22 : decode b_Ro_remove 22 = .ok (.astore_n 2, 1) := by decide +kernel
theorem d_Ro_remove_23 : decode b_Ro_remove 23 = .ok (.aload_n 2, 1) := by decide +kernel
theorem d_Ro_remove_24 : decode b_Ro_remove 24 = .ok (.ifnull 29, 3) := by decide +kernel
theorem d_Ro_remove_27 : decode b_Ro_remove 27 = .ok (.aload_n 2, 1) := by decide +kernel
theorem d_Ro_remove_28 : decode b_Ro_remove 28 = .ok (.getfield 25, 3) := by decide +kernel
theorem d_Ro_remove_31 : decode b_Ro_remove 31 = .ok (.aload_n 1, 1) := by decide +kernel
theorem d_Ro_remove_32 : decode b_Ro_remove 32 = .ok (.if_acmp .ne 13, 3) := by decide +kernel
theorem d_Ro_remove_35 : decode b_Ro_remove 35 = .ok (.aload_n 2, 1) := by decide +kernel
theorem d_Ro_remove_36 : decode b_Ro_remove 36 = .ok (.aload_n 1, 1) := by decide +kernel
theorem d_Ro_remove_37 : decode b_Ro_remove 37 = .ok (.getfield 25, 3) := by decide +kernel
theorem d_Ro_remove_40 : decode b_Ro_remove 40 = .ok (.putfield 25, 3) := by decide +kernel
theorem d_Ro_remove_43 : decode b_Ro_remove 43 = .ok (.iconst 1, 1) := by decide +kernel
theorem d_Ro_remove_44 : decode b_Ro_remove 44 = .ok (.ireturn, 1) := by decide +kernel
theorem d_Ro_remove_45 : decode b_Ro_remove 45 = .ok (.aload_n 2, 1) := by decide +kernel
theorem d_Ro_remove_46 : decode b_Ro_remove 46 = .ok (.getfield 25, 3) := by decide +kernel
theorem d_Ro_remove_49 : decode b_Ro_remove 49 = .ok (.astore_n 2, 1) := by decide +kernel
theorem d_Ro_remove_50 : decode b_Ro_remove 50 = .ok (.goto (-27), 3) := by decide +kernel
theorem d_Ro_remove_53 : decode b_Ro_remove 53 = .ok (.iconst 0, 1) := by decide +kernel
theorem d_Ro_remove_54 : decode b_Ro_remove 54 = .ok (.ireturn, 1) := by decide +kernel
theorem d_Sp_init_0 : decode b_Sp_init 0 = .ok (.aload_n 0, 1) := by decide +kernel
theorem d_Sp_init_1 : decode b_Sp_init 1 = .ok (.invokespecial 1, 3) := by decide +kernel
theorem d_Sp_init_4 : decode b_Sp_init 4 = .ok (.return_, 1) := by decide +kernel
theorem d_Wa_init_0 : decode b_Wa_init 0 = .ok (.aload_n 0, 1) := by decide +kernel
theorem d_Wa_init_1 : decode b_Wa_init 1 = .ok (.invokespecial 3, 3) := by decide +kernel
theorem d_Wa_init_4 : decode b_Wa_init 4 = .ok (.aload_n 0, 1) := by decide +kernel
theorem d_Wa_init_5 : decode b_Wa_init 5 = .ok (.bipush 15, 2) := by decide +kernel
theorem d_Wa_init_7 : decode b_Wa_init 7 = .ok (.newarray .int, 2) := by decide +kernel
theorem d_Wa_init_9 : decode b_Wa_init 9 = .ok (.putfield 9, 3) := by decide +kernel
theorem d_Wa_init_12 : decode b_Wa_init 12 = .ok (.aload_n 0, 1) := by decide +kernel
theorem d_Wa_init_13 : decode b_Wa_init 13 = .ok (.bipush 15, 2) := by decide +kernel
theorem d_Wa_init_15 : decode b_Wa_init 15 = .ok (.newarray .int, 2) := by decide +kernel
theorem d_Wa_init_17 : decode b_Wa_init 17 = .ok (.putfield 15, 3) := by decide +kernel
theorem d_Wa_init_20 : decode b_Wa_init 20 = .ok (.aload_n 0, 1) := by decide +kernel
theorem d_Wa_init_21 : decode b_Wa_init 21 = .ok (.bipush 15, 2) := by decide +kernel
theorem d_Wa_init_23 : decode b_Wa_init 23 = .ok (.newarray .int, 2) := by decide +kernel
theorem d_Wa_init_25 : decode b_Wa_init 25 = .ok (.putfield 18, 3) := by decide +kernel
theorem d_Wa_init_28 : decode b_Wa_init 28 = .ok (.return_, 1) := by decide +kernel
theorem d_Wa_plan_0 : decode b_Wa_plan 0 = .ok (.aload_n 0, 1) := by decide +kernel
theorem d_Wa_plan_1 : decode b_Wa_plan 1 = .ok (.aload_n 1, 1) := by decide +kernel
theorem d_Wa_plan_2 : decode b_Wa_plan 2 = .ok (.iload_n 2, 1) := by decide +kernel
theorem d_Wa_plan_3 : decode b_Wa_plan 3 = .ok (.invokevirtual 21, 3) := by decide +kernel
theorem d_Wa_plan_6 : decode b_Wa_plan 6 = .ok (.iconst 0, 1) := by decide +kernel
theorem d_Wa_plan_7 : decode b_Wa_plan 7 = .ok (.istore 4, 2) := by decide +kernel
theorem d_Wa_plan_9 : decode b_Wa_plan 9 = .ok (.iload 4, 2) := by decide +kernel
theorem d_Wa_plan_11 : decode b_Wa_plan 11 = .ok (.bipush 15, 2) := by decide +kernel
theorem d_Wa_plan_13 : decode b_Wa_plan 13 = .ok (.if_icmp .ge 77, 3) := by decide +kernel
theorem d_Wa_plan_16 : decode b_Wa_plan 16 = .ok (.aload_n 0, 1) := by decide +kernel
theorem d_Wa_plan_17 : decode b_Wa_plan 17 = .ok (.aload_n 1, 1) := by decide +kernel
theorem d_Wa_plan_18 : decode b_Wa_plan 18 = .ok (.iload_n 2, 1) := by decide +kernel
theorem d_Wa_plan_19 : decode b_Wa_plan 19 = .ok (.invokevirtual 25, 3) := by decide +kernel
theorem d_Wa_plan_22 : decode b_Wa_plan 22 = .ok (.astore 5, 2) := by decide +kernel
theorem d_Wa_plan_24 : decode b_Wa_plan 24 = .ok (.aload 5, 2) := by decide +kernel
theorem d_Wa_plan_26 : decode b_Wa_plan 26 = .ok (.ifnull 17, 3) := by decide +kernel
theorem d_Wa_plan_29 : decode b_Wa_plan 29 = .ok (.aload_n 0, 1) := by decide +kernel
theorem d_Wa_plan_30 : decode b_Wa_plan 30 = .ok (.aload 5, 2) := by decide +kernel
theorem d_Wa_plan_32 : decode b_Wa_plan 32 = .ok (.aload 5, 2) := by decide +kernel
theorem d_Wa_plan_34 : decode b_Wa_plan 34 = .ok (.getfield 29, 3) := by decide +kernel
theorem d_Wa_plan_37 : decode b_Wa_plan 37 = .ok (.invokevirtual 35, 3) := by decide +kernel
theorem d_Wa_plan_40 : decode b_Wa_plan 40 = .ok (.goto 44, 3) := by decide +kernel
theorem d_Wa_plan_43 : decode b_Wa_plan 43 = .ok (.aload_n 0, 1) := by decide +kernel
theorem d_Wa_plan_44 : decode b_Wa_plan 44 = .ok (.aload_n 1, 1) := by decide +kernel
theorem d_Wa_plan_45 : decode b_Wa_plan 45 = .ok (.iload_n 2, 1) := by decide +kernel
theorem d_Wa_plan_46 : decode b_Wa_plan 46 = .ok (.invokevirtual 39, 3) := by decide +kernel
theorem d_Wa_plan_49 : decode b_Wa_plan 49 = .ok (.astore 5, 2) := by decide +kernel
theorem d_Wa_plan_51 : decode b_Wa_plan 51 = .ok (.aload 5, 2) := by decide +kernel
theorem d_Wa_plan_53 : decode b_Wa_plan 53 = .ok (.ifnonnull 4, 3) := by decide +kernel
theorem d_Wa_plan_56 : decode b_Wa_plan 56 = .ok (.return_, 1) := by decide +kernel
theorem d_Wa_plan_57 : decode b_Wa_plan 57 = .ok (.aload_n 0, 1) := by decide +kernel
theorem d_Wa_plan_58 : decode b_Wa_plan 58 = .ok (.iload_n 3, 1) := by decide +kernel
theorem d_Wa_plan_59 : decode b_Wa_plan 59 = .ok (.invokevirtual 42, 3) := by decide +kernel
theorem d_Wa_plan_62 : decode b_Wa_plan 62 = .ok (.istore 6, 2) := by decide +kernel
theorem d_Wa_plan_64 : decode b_Wa_plan 64 = .ok (.iload 6, 2) := by decide +kernel
theorem d_Wa_plan_66 : decode b_Wa_plan 66 = .ok (.iconst (-1), 1) := by decide +kernel
theorem d_Wa_plan_67 : decode b_Wa_plan 67 = .ok (.if_icmp .ne 9, 3) := by decide +kernel
theorem d_Wa_plan_70 : decode b_Wa_plan 70 = .ok (.aload_n 0, 1) := by decide +kernel
theorem d_Wa_plan_71 : decode b_Wa_plan 71 = .ok (.iconst 1, 1) := by decide +kernel
theorem d_Wa_plan_72 : decode b_Wa_plan 72 = .ok (.putfield 46, 3) := by decide +kernel
theorem d_Wa_plan_75 : decode b_Wa_plan 75 = .ok (.return_, 1) := by decide +kernel
theorem d_Wa_plan_76 : decode b_Wa_plan 76 = .ok (.aload_n 0, 1) := by decide +kernel
theorem d_Wa_plan_77 : decode b_Wa_plan 77 = .ok (.aload 5, 2) := by decide +kernel
theorem d_Wa_plan_79 : decode b_Wa_plan 79 = .ok (.iload 6, 2) := by decide +kernel
theorem d_Wa_plan_81 : decode b_Wa_plan 81 = .ok (.invokevirtual 35, 3) := by decide +kernel
theorem d_Wa_plan_84 : decode b_Wa_plan 84 = .ok (.iinc 4 1, 3) := by decide +kernel
theorem d_Wa_plan_87 : decode b_Wa_plan 87 = .ok (.goto (-78), 3) := by decide +kernel
theorem d_Wa_plan_90 : decode b_Wa_plan 90 = .ok (.return_, 1) := by decide +kernel
theorem d_Wa_sitAtOldDesks_0 : decode b_Wa_sitAtOldDesks 0 = .ok (.aload_n 0, 1) := by decide +kernel
theorem d_Wa_sitAtOldDesks_1 : decode b_Wa_sitAtOldDesks 1 = .ok (.iconst 0, 1) := by decide +kernel
theorem d_Wa_sitAtOldDesks_2 : decode b_Wa_sitAtOldDesks 2 = .ok (.putfield 50, 3) := by decide +kernel
theorem d_Wa_sitAtOldDesks_5 : decode b_Wa_sitAtOldDesks 5 = .ok (.aload_n 0, 1) := by decide +kernel
theorem d_Wa_sitAtOldDesks_6 : decode b_Wa_sitAtOldDesks 6 = .ok (.iconst 0, 1) := by decide +kernel
theorem d_Wa_sitAtOldDesks_7 : decode b_Wa_sitAtOldDesks 7 = .ok (.putfield 46, 3) := by decide +kernel
theorem d_Wa_sitAtOldDesks_10 : decode b_Wa_sitAtOldDesks 10 = .ok (.aload_n 0, 1) := by decide +kernel
theorem d_Wa_sitAtOldDesks_11 : decode b_Wa_sitAtOldDesks 11 = .ok (.iconst 0, 1) := by decide +kernel
theorem d_Wa_sitAtOldDesks_12 : decode b_Wa_sitAtOldDesks 12 = .ok (.putfield 53, 3) := by decide +kernel
theorem d_Wa_sitAtOldDesks_15 : decode b_Wa_sitAtOldDesks 15 = .ok (.iconst 0, 1) := by decide +kernel
theorem d_Wa_sitAtOldDesks_16 : decode b_Wa_sitAtOldDesks 16 = .ok (.istore_n 3, 1) := by decide +kernel
theorem d_Wa_sitAtOldDesks_17 : decode b_Wa_sitAtOldDesks 17 = .ok (.iload_n 3, 1) := by decide +kernel
theorem d_Wa_sitAtOldDesks_18 : decode b_Wa_sitAtOldDesks 18 = .ok (.iload_n 2, 1) := by decide +kernel
theorem d_Wa_sitAtOldDesks_19 : decode b_Wa_sitAtOldDesks 19 = .ok (.if_icmp .ge 54, 3) := by decide +kernel
theorem d_Wa_sitAtOldDesks_22 : decode b_Wa_sitAtOldDesks 22 = .ok (.iload_n 3, 1) := by decide +kernel
theorem d_Wa_sitAtOldDesks_23 : decode b_Wa_sitAtOldDesks 23 = .ok (.aload_n 1, 1) := by decide +kernel
theorem d_Wa_sitAtOldDesks_24 : decode b_Wa_sitAtOldDesks 24 = .ok (.arraylength, 1) := by decide +kernel
theorem d_Wa_sitAtOldDesks_25 : decode b_Wa_sitAtOldDesks 25 = .ok (.if_icmp .ge 48, 3) := by decide +kernel
theorem d_Wa_sitAtOldDesks_28 : decode b_Wa_sitAtOldDesks 28 = .ok (.aload_n 1, 1) := by decide +kernel
theorem d_Wa_sitAtOldDesks_29 : decode b_Wa_sitAtOldDesks 29 = .ok (.iload_n 3, 1) := by decide +kernel
theorem d_Wa_sitAtOldDesks_30 : decode b_Wa_sitAtOldDesks 30 = .ok (.aaload, 1) := by decide +kernel
theorem d_Wa_sitAtOldDesks_31 : decode b_Wa_sitAtOldDesks 31 = .ok (.aload_n 1, 1) := by decide +kernel
theorem d_Wa_sitAtOldDesks_32 : decode b_Wa_sitAtOldDesks 32 = .ok (.iload_n 3, 1) := by decide +kernel
theorem d_Wa_sitAtOldDesks_33 : decode b_Wa_sitAtOldDesks 33 = .ok (.aaload, 1) := by decide +kernel
theorem d_Wa_sitAtOldDesks_34 : decode b_Wa_sitAtOldDesks 34 = .ok (.getfield 56, 3) := by decide +kernel
theorem d_Wa_sitAtOldDesks_37 : decode b_Wa_sitAtOldDesks 37 = .ok (.putfield 59, 3) := by decide +kernel
theorem d_Wa_sitAtOldDesks_40 : decode b_Wa_sitAtOldDesks 40 = .ok (.aload_n 1, 1) := by decide +kernel
theorem d_Wa_sitAtOldDesks_41 : decode b_Wa_sitAtOldDesks 41 = .ok (.iload_n 3, 1) := by decide +kernel
theorem d_Wa_sitAtOldDesks_42 : decode b_Wa_sitAtOldDesks 42 = .ok (.aaload, 1) := by decide +kernel
theorem d_Wa_sitAtOldDesks_43 : decode b_Wa_sitAtOldDesks 43 = .ok (.getfield 59, 3) := by decide +kernel
theorem d_Wa_sitAtOldDesks_46 : decode b_Wa_sitAtOldDesks 46 = .ok (.iconst (-1), 1) := by decide +kernel
theorem d_Wa_sitAtOldDesks_47 : decode b_Wa_sitAtOldDesks 47 = .ok (.if_icmp .eq 20, 3) := by decide +kernel
theorem d_Wa_sitAtOldDesks_50 : decode b_Wa_sitAtOldDesks 50 = .ok (.aload_n 0, 1) := by decide +kernel
theorem d_Wa_sitAtOldDesks_51 : decode b_Wa_sitAtOldDesks 51 = .ok (.dup, 1) := by decide +kernel
theorem d_Wa_sitAtOldDesks_52 : decode b_Wa_sitAtOldDesks 52 = .ok (.getfield 53, 3) := by decide +kernel
theorem d_Wa_sitAtOldDesks_55 : decode b_Wa_sitAtOldDesks 55 = .ok (.iconst 1, 1) := by decide +kernel
theorem d_Wa_sitAtOldDesks_56 : decode b_Wa_sitAtOldDesks 56 = .ok (.aload_n 1, 1) := by decide +kernel
theorem d_Wa_sitAtOldDesks_57 : decode b_Wa_sitAtOldDesks 57 = .ok (.iload_n 3, 1) := by decide +kernel
theorem d_Wa_sitAtOldDesks_58 : decode b_Wa_sitAtOldDesks 58 = .ok (.aaload, 1) := by decide +kernel
theorem d_Wa_sitAtOldDesks_59 : decode b_Wa_sitAtOldDesks 59 = .ok (.getfield 59, 3) := by decide +kernel
theorem d_Wa_sitAtOldDesks_62 : decode b_Wa_sitAtOldDesks 62 = .ok (.ishl, 1) := by decide +kernel
theorem d_Wa_sitAtOldDesks_63 : decode b_Wa_sitAtOldDesks 63 = .ok (.ior, 1) := by decide +kernel
theorem d_Wa_sitAtOldDesks_64 : decode b_Wa_sitAtOldDesks 64 = .ok (.putfield 53, 3) := by decide +kernel
theorem d_Wa_sitAtOldDesks_67 : decode b_Wa_sitAtOldDesks 67 = .ok (.iinc 3 1, 3) := by decide +kernel
theorem d_Wa_sitAtOldDesks_70 : decode b_Wa_sitAtOldDesks 70 = .ok (.goto (-53), 3) := by decide +kernel
theorem d_Wa_sitAtOldDesks_73 : decode b_Wa_sitAtOldDesks 73 = .ok (.return_, 1) := by decide +kernel
theorem d_Wa_firstWhoCanGoHome_0 : decode b_Wa_firstWhoCanGoHome 0 = .ok (.iconst 0, 1) := by decide +kernel
theorem d_Wa_firstWhoCanGoHome_1 : decode b_Wa_firstWhoCanGoHome 1 = .ok (.istore_n 3, 1) := by decide +kernel
theorem d_Wa_firstWhoCanGoHome_2 : decode b_Wa_firstWhoCanGoHome 2 = .ok (.iload_n 3, 1) := by decide +kernel
theorem d_Wa_firstWhoCanGoHome_3 : decode b_Wa_firstWhoCanGoHome 3 = .ok (.iload_n 2, 1) := by decide +kernel
theorem d_Wa_firstWhoCanGoHome_4 : decode b_Wa_firstWhoCanGoHome 4 = .ok (.if_icmp .ge 48, 3) := by decide +kernel
theorem d_Wa_firstWhoCanGoHome_7 : decode b_Wa_firstWhoCanGoHome 7 = .ok (.iload_n 3, 1) := by decide +kernel
theorem d_Wa_firstWhoCanGoHome_8 : decode b_Wa_firstWhoCanGoHome 8 = .ok (.aload_n 1, 1) := by decide +kernel
theorem d_Wa_firstWhoCanGoHome_9 : decode b_Wa_firstWhoCanGoHome 9 = .ok (.arraylength, 1) := by decide +kernel
theorem d_Wa_firstWhoCanGoHome_10 : decode b_Wa_firstWhoCanGoHome 10 = .ok (.if_icmp .ge 42, 3) := by decide +kernel
theorem d_Wa_firstWhoCanGoHome_13 : decode b_Wa_firstWhoCanGoHome 13 = .ok (.aload_n 1, 1) := by decide +kernel
theorem d_Wa_firstWhoCanGoHome_14 : decode b_Wa_firstWhoCanGoHome 14 = .ok (.iload_n 3, 1) := by decide +kernel
theorem d_Wa_firstWhoCanGoHome_15 : decode b_Wa_firstWhoCanGoHome 15 = .ok (.aaload, 1) := by decide +kernel
theorem d_Wa_firstWhoCanGoHome_16 : decode b_Wa_firstWhoCanGoHome 16 = .ok (.astore 4, 2) := by decide +kernel
theorem d_Wa_firstWhoCanGoHome_18 : decode b_Wa_firstWhoCanGoHome 18 = .ok (.aload 4, 2) := by decide +kernel
theorem d_Wa_firstWhoCanGoHome_20 : decode b_Wa_firstWhoCanGoHome 20 = .ok (.getfield 59, 3) := by decide +kernel
theorem d_Wa_firstWhoCanGoHome_23 : decode b_Wa_firstWhoCanGoHome 23 = .ok (.aload 4, 2) := by decide +kernel
theorem d_Wa_firstWhoCanGoHome_25 : decode b_Wa_firstWhoCanGoHome 25 = .ok (.getfield 29, 3) := by decide +kernel
theorem d_Wa_firstWhoCanGoHome_28 : decode b_Wa_firstWhoCanGoHome 28 = .ok (.if_icmp .eq 18, 3) := by decide +kernel
theorem d_Wa_firstWhoCanGoHome_31 : decode b_Wa_firstWhoCanGoHome 31 = .ok (.aload_n 0, 1) := by decide +kernel
theorem d_Wa_firstWhoCanGoHome_32 : decode b_Wa_firstWhoCanGoHome 32 = .ok (.aload 4, 2) := by decide +kernel
theorem d_Wa_firstWhoCanGoHome_34 : decode b_Wa_firstWhoCanGoHome 34 = .ok (.getfield 29, 3) := by decide +kernel
theorem d_Wa_firstWhoCanGoHome_37 : decode b_Wa_firstWhoCanGoHome 37 = .ok (.invokevirtual 62, 3) := by decide +kernel
theorem d_Wa_firstWhoCanGoHome_40 : decode b_Wa_firstWhoCanGoHome 40 = .ok (.ifCond .eq 6, 3) := by decide +kernel
theorem d_Wa_firstWhoCanGoHome_43 : decode b_Wa_firstWhoCanGoHome 43 = .ok (.aload 4, 2) := by decide +kernel
theorem d_Wa_firstWhoCanGoHome_45 : decode b_Wa_firstWhoCanGoHome 45 = .ok (.areturn, 1) := by decide +kernel
theorem d_Wa_firstWhoCanGoHome_46 : decode b_Wa_firstWhoCanGoHome 46 = .ok (.iinc 3 1, 3) := by decide +kernel
theorem d_Wa_firstWhoCanGoHome_49 : decode b_Wa_firstWhoCanGoHome 49 = .ok (.goto (-47), 3) := by decide +kernel
theorem d_Wa_firstWhoCanGoHome_52 : decode b_Wa_firstWhoCanGoHome 52 = .ok (.aconst_null, 1) := by decide +kernel
theorem d_Wa_firstWhoCanGoHome_53 : decode b_Wa_firstWhoCanGoHome 53 = .ok (.areturn, 1) := by decide +kernel
theorem d_Wa_firstNotHome_0 : decode b_Wa_firstNotHome 0 = .ok (.iconst 0, 1) := by decide +kernel
theorem d_Wa_firstNotHome_1 : decode b_Wa_firstNotHome 1 = .ok (.istore_n 3, 1) := by decide +kernel
theorem d_Wa_firstNotHome_2 : decode b_Wa_firstNotHome 2 = .ok (.iload_n 3, 1) := by decide +kernel
theorem d_Wa_firstNotHome_3 : decode b_Wa_firstNotHome 3 = .ok (.iload_n 2, 1) := by decide +kernel
theorem d_Wa_firstNotHome_4 : decode b_Wa_firstNotHome 4 = .ok (.if_icmp .ge 34, 3) := by decide +kernel
theorem d_Wa_firstNotHome_7 : decode b_Wa_firstNotHome 7 = .ok (.iload_n 3, 1) := by decide +kernel
theorem d_Wa_firstNotHome_8 : decode b_Wa_firstNotHome 8 = .ok (.aload_n 1, 1) := by decide +kernel
theorem d_Wa_firstNotHome_9 : decode b_Wa_firstNotHome 9 = .ok (.arraylength, 1) := by decide +kernel
theorem d_Wa_firstNotHome_10 : decode b_Wa_firstNotHome 10 = .ok (.if_icmp .ge 28, 3) := by decide +kernel
theorem d_Wa_firstNotHome_13 : decode b_Wa_firstNotHome 13 = .ok (.aload_n 1, 1) := by decide +kernel
theorem d_Wa_firstNotHome_14 : decode b_Wa_firstNotHome 14 = .ok (.iload_n 3, 1) := by decide +kernel
theorem d_Wa_firstNotHome_15 : decode b_Wa_firstNotHome 15 = .ok (.aaload, 1) := by decide +kernel
theorem d_Wa_firstNotHome_16 : decode b_Wa_firstNotHome 16 = .ok (.getfield 59, 3) := by decide +kernel
theorem d_Wa_firstNotHome_19 : decode b_Wa_firstNotHome 19 = .ok (.aload_n 1, 1) := by decide +kernel
theorem d_Wa_firstNotHome_20 : decode b_Wa_firstNotHome 20 = .ok (.iload_n 3, 1) := by decide +kernel
theorem d_Wa_firstNotHome_21 : decode b_Wa_firstNotHome 21 = .ok (.aaload, 1) := by decide +kernel
theorem d_Wa_firstNotHome_22 : decode b_Wa_firstNotHome 22 = .ok (.getfield 29, 3) := by decide +kernel
theorem d_Wa_firstNotHome_25 : decode b_Wa_firstNotHome 25 = .ok (.if_icmp .eq 7, 3) := by decide +kernel
theorem d_Wa_firstNotHome_28 : decode b_Wa_firstNotHome 28 = .ok (.aload_n 1, 1) := by decide +kernel
theorem d_Wa_firstNotHome_29 : decode b_Wa_firstNotHome 29 = .ok (.iload_n 3, 1) := by decide +kernel
theorem d_Wa_firstNotHome_30 : decode b_Wa_firstNotHome 30 = .ok (.aaload, 1) := by decide +kernel
theorem d_Wa_firstNotHome_31 : decode b_Wa_firstNotHome 31 = .ok (.areturn, 1) := by decide +kernel
theorem d_Wa_firstNotHome_32 : decode b_Wa_firstNotHome 32 = .ok (.iinc 3 1, 3) := by decide +kernel
theorem d_Wa_firstNotHome_35 : decode b_Wa_firstNotHome 35 = .ok (.goto (-33), 3) := by decide +kernel
theorem d_Wa_firstNotHome_38 : decode b_Wa_firstNotHome 38 = .ok (.aconst_null, 1) := by decide +kernel
theorem d_Wa_firstNotHome_39 : decode b_Wa_firstNotHome 39 = .ok (.areturn, 1) := by decide +kernel
theorem d_Wa_firstFreeDesk_0 : decode b_Wa_firstFreeDesk 0 = .ok (.iconst 0, 1) := by decide +kernel
theorem d_Wa_firstFreeDesk_1 : decode b_Wa_firstFreeDesk 1 = .ok (.istore_n 2, 1) := by decide +kernel
theorem d_Wa_firstFreeDesk_2 : decode b_Wa_firstFreeDesk 2 = .ok (.iload_n 2, 1) := by decide +kernel
theorem d_Wa_firstFreeDesk_3 : decode b_Wa_firstFreeDesk 3 = .ok (.iload_n 1, 1) := by decide +kernel
theorem d_Wa_firstFreeDesk_4 : decode b_Wa_firstFreeDesk 4 = .ok (.if_icmp .ge 19, 3) := by decide +kernel
theorem d_Wa_firstFreeDesk_7 : decode b_Wa_firstFreeDesk 7 = .ok (.aload_n 0, 1) := by decide +kernel
theorem d_Wa_firstFreeDesk_8 : decode b_Wa_firstFreeDesk 8 = .ok (.iload_n 2, 1) := by decide +kernel
theorem d_Wa_firstFreeDesk_9 : decode b_Wa_firstFreeDesk 9 = .ok (.invokevirtual 62, 3) := by decide +kernel
theorem d_Wa_firstFreeDesk_12 : decode b_Wa_firstFreeDesk 12 = .ok (.ifCond .eq 5, 3) := by decide +kernel
theorem d_Wa_firstFreeDesk_15 : decode b_Wa_firstFreeDesk 15 = .ok (.iload_n 2, 1) := by decide +kernel
theorem d_Wa_firstFreeDesk_16 : decode b_Wa_firstFreeDesk 16 = .ok (.ireturn, 1) := by decide +kernel
theorem d_Wa_firstFreeDesk_17 : decode b_Wa_firstFreeDesk 17 = .ok (.iinc 2 1, 3) := by decide +kernel
theorem d_Wa_firstFreeDesk_20 : decode b_Wa_firstFreeDesk 20 = .ok (.goto (-18), 3) := by decide +kernel
theorem d_Wa_firstFreeDesk_23 : decode b_Wa_firstFreeDesk 23 = .ok (.iconst (-1), 1) := by decide +kernel
theorem d_Wa_firstFreeDesk_24 : decode b_Wa_firstFreeDesk 24 = .ok (.ireturn, 1) := by decide +kernel
theorem d_Wa_isFree_0 : decode b_Wa_isFree 0 = .ok (.aload_n 0, 1) := by decide +kernel
theorem d_Wa_isFree_1 : decode b_Wa_isFree 1 = .ok (.getfield 53, 3) := by decide +kernel
theorem d_Wa_isFree_4 : decode b_Wa_isFree 4 = .ok (.iconst 1, 1) := by decide +kernel
theorem d_Wa_isFree_5 : decode b_Wa_isFree 5 = .ok (.iload_n 1, 1) := by decide +kernel
theorem d_Wa_isFree_6 : decode b_Wa_isFree 6 = .ok (.ishl, 1) := by decide +kernel
theorem d_Wa_isFree_7 : decode b_Wa_isFree 7 = .ok (.iand, 1) := by decide +kernel
theorem d_Wa_isFree_8 : decode b_Wa_isFree 8 = .ok (.ifCond .ne 7, 3) := by decide +kernel
theorem d_Wa_isFree_11 : decode b_Wa_isFree 11 = .ok (.iconst 1, 1) := by decide +kernel
theorem d_Wa_isFree_12 : decode b_Wa_isFree 12 = .ok (.goto 4, 3) := by decide +kernel
theorem d_Wa_isFree_15 : decode b_Wa_isFree 15 = .ok (.iconst 0, 1) := by decide +kernel
theorem d_Wa_isFree_16 : decode b_Wa_isFree 16 = .ok (.ireturn, 1) := by decide +kernel
theorem d_Wa_go_0 : decode b_Wa_go 0 = .ok (.aload_n 0, 1) := by decide +kernel
theorem d_Wa_go_1 : decode b_Wa_go 1 = .ok (.getfield 50, 3) := by decide +kernel
theorem d_Wa_go_4 : decode b_Wa_go 4 = .ok (.bipush 15, 2) := by decide +kernel
theorem d_Wa_go_6 : decode b_Wa_go 6 = .ok (.if_icmp .lt 4, 3) := by decide +kernel
theorem d_Wa_go_9 : decode b_Wa_go 9 = .ok (.return_, 1) := by decide +kernel
theorem d_Wa_go_10 : decode b_Wa_go 10 = .ok (.aload_n 0, 1) := by decide +kernel
theorem d_Wa_go_11 : decode b_Wa_go 11 = .ok (.getfield 9, 3) := by decide +kernel
theorem d_Wa_go_14 : decode b_Wa_go 14 = .ok (.aload_n 0, 1) := by decide +kernel
theorem d_Wa_go_15 : decode b_Wa_go 15 = .ok (.getfield 50, 3) := by decide +kernel
theorem d_Wa_go_18 : decode b_Wa_go 18 = .ok (.aload_n 1, 1) := by decide +kernel
theorem d_Wa_go_19 : decode b_Wa_go 19 = .ok (.getfield 66, 3) := by decide +kernel
theorem d_Wa_go_22 : decode b_Wa_go 22 = .ok (.iastore, 1) := by decide +kernel
theorem d_Wa_go_23 : decode b_Wa_go 23 = .ok (.aload_n 0, 1) := by decide +kernel
theorem d_Wa_go_24 : decode b_Wa_go 24 = .ok (.getfield 15, 3) := by decide +kernel
theorem d_Wa_go_27 : decode b_Wa_go 27 = .ok (.aload_n 0, 1) := by decide +kernel
theorem d_Wa_go_28 : decode b_Wa_go 28 = .ok (.getfield 50, 3) := by decide +kernel
theorem d_Wa_go_31 : decode b_Wa_go 31 = .ok (.aload_n 1, 1) := by decide +kernel
theorem d_Wa_go_32 : decode b_Wa_go 32 = .ok (.getfield 59, 3) := by decide +kernel
theorem d_Wa_go_35 : decode b_Wa_go 35 = .ok (.iastore, 1) := by decide +kernel
theorem d_Wa_go_36 : decode b_Wa_go 36 = .ok (.aload_n 0, 1) := by decide +kernel
theorem d_Wa_go_37 : decode b_Wa_go 37 = .ok (.getfield 18, 3) := by decide +kernel
theorem d_Wa_go_40 : decode b_Wa_go 40 = .ok (.aload_n 0, 1) := by decide +kernel
theorem d_Wa_go_41 : decode b_Wa_go 41 = .ok (.getfield 50, 3) := by decide +kernel
theorem d_Wa_go_44 : decode b_Wa_go 44 = .ok (.iload_n 2, 1) := by decide +kernel
theorem d_Wa_go_45 : decode b_Wa_go 45 = .ok (.iastore, 1) := by decide +kernel
theorem d_Wa_go_46 : decode b_Wa_go 46 = .ok (.aload_n 0, 1) := by decide +kernel
theorem d_Wa_go_47 : decode b_Wa_go 47 = .ok (.dup, 1) := by decide +kernel
theorem d_Wa_go_48 : decode b_Wa_go 48 = .ok (.getfield 50, 3) := by decide +kernel
theorem d_Wa_go_51 : decode b_Wa_go 51 = .ok (.iconst 1, 1) := by decide +kernel
theorem d_Wa_go_52 : decode b_Wa_go 52 = .ok (.iadd, 1) := by decide +kernel
theorem d_Wa_go_53 : decode b_Wa_go 53 = .ok (.putfield 50, 3) := by decide +kernel
theorem d_Wa_go_56 : decode b_Wa_go 56 = .ok (.aload_n 1, 1) := by decide +kernel
theorem d_Wa_go_57 : decode b_Wa_go 57 = .ok (.getfield 59, 3) := by decide +kernel
theorem d_Wa_go_60 : decode b_Wa_go 60 = .ok (.iconst (-1), 1) := by decide +kernel
theorem d_Wa_go_61 : decode b_Wa_go 61 = .ok (.if_icmp .eq 20, 3) := by decide +kernel
theorem d_Wa_go_64 : decode b_Wa_go 64 = .ok (.aload_n 0, 1) := by decide +kernel
theorem d_Wa_go_65 : decode b_Wa_go 65 = .ok (.dup, 1) := by decide +kernel
theorem d_Wa_go_66 : decode b_Wa_go 66 = .ok (.getfield 53, 3) := by decide +kernel
theorem d_Wa_go_69 : decode b_Wa_go 69 = .ok (.iconst 1, 1) := by decide +kernel
theorem d_Wa_go_70 : decode b_Wa_go 70 = .ok (.aload_n 1, 1) := by decide +kernel
theorem d_Wa_go_71 : decode b_Wa_go 71 = .ok (.getfield 59, 3) := by decide +kernel
theorem d_Wa_go_74 : decode b_Wa_go 74 = .ok (.ishl, 1) := by decide +kernel
theorem d_Wa_go_75 : decode b_Wa_go 75 = .ok (.iconst (-1), 1) := by decide +kernel
theorem d_Wa_go_76 : decode b_Wa_go 76 = .ok (.ixor, 1) := by decide +kernel
theorem d_Wa_go_77 : decode b_Wa_go 77 = .ok (.iand, 1) := by decide +kernel
theorem d_Wa_go_78 : decode b_Wa_go 78 = .ok (.putfield 53, 3) := by decide +kernel
theorem d_Wa_go_81 : decode b_Wa_go 81 = .ok (.aload_n 0, 1) := by decide +kernel
theorem d_Wa_go_82 : decode b_Wa_go 82 = .ok (.dup, 1) := by decide +kernel
theorem d_Wa_go_83 : decode b_Wa_go 83 = .ok (.getfield 53, 3) := by decide +kernel
theorem d_Wa_go_86 : decode b_Wa_go 86 = .ok (.iconst 1, 1) := by decide +kernel
theorem d_Wa_go_87 : decode b_Wa_go 87 = .ok (.iload_n 2, 1) := by decide +kernel
theorem d_Wa_go_88 : decode b_Wa_go 88 = .ok (.ishl, 1) := by decide +kernel
theorem d_Wa_go_89 : decode b_Wa_go 89 = .ok (.ior, 1) := by decide +kernel
theorem d_Wa_go_90 : decode b_Wa_go 90 = .ok (.putfield 53, 3) := by decide +kernel
theorem d_Wa_go_93 : decode b_Wa_go 93 = .ok (.aload_n 1, 1) := by decide +kernel
theorem d_Wa_go_94 : decode b_Wa_go 94 = .ok (.iload_n 2, 1) := by decide +kernel
theorem d_Wa_go_95 : decode b_Wa_go 95 = .ok (.putfield 59, 3) := by decide +kernel
theorem d_Wa_go_98 : decode b_Wa_go 98 = .ok (.return_, 1) := by decide +kernel
end
section
/-! THE JUDGEMENT: from every heap that holds P, with nothing outside A written since the method's entry, locals as lv says, the machine at pc comes to Q -/
def AW (p : Program) (l : Launch) (e : Env) (R : Room) (s : State) (m : MethodId) (args : Array Value) (below : List Frame) (meth : Method) (c : Code) (nL cells slots : Nat) (Q : State → Prop) (P : Heap → Prop) (A : Nat → Prop) (pc : Nat) (lv : List (Nat × Value)) (st : List Value) : Prop :=
  ∀ (H : Heap) (locs : List Loc) (ls : Array Slot), P H → va_S A s.heap H locs → lv_has ls nL lv → W p l e R s m args below meth c H locs cells slots Q (F0 m pc ls st)
theorem ct_ref (a : Nat) : (Value.ref a).category = 1 := rfl
theorem ct_int (a : Int32) : (Value.int a).category = 1 := rfl
theorem ct_long (a : Int64) : (Value.long a).category = 2 := rfl
theorem va_rf_cat (o : Option Nat) : (va_rf o).category = 1 := by cases o <;> rfl
section AWS
variable {p : Program} {l : Launch} {e : Env} {R : Room} {s : State} {m : MethodId} {args : Array Value} {below : List Frame} {meth : Method} {c : Code} {cc : ByteArray} {nL cells slots : Nat} {Q : State → Prop} {P : Heap → Prop} {A : Nat → Prop} {own : String} {pc : Nat} {lv lv' : List (Nat × Value)} {st : List Value}
theorem aw_iconst (C : CallFix p m c cc nL s args tb_G own) {n : Int} {v : Int32} (hd : decode cc pc = .ok (.iconst n, 1)) (hv : Int32.ofInt n = v) (k : AW p l e R s m args below meth c nL cells slots Q P A (pc + 1) lv (.int v :: st)) : AW p l e R s m args below meth c nL cells slots Q P A pc lv (st) := fun H locs ls hP hS hl => lv_iconst C.1 C.2.1 hd hv (k H locs ls hP hS hl)
theorem aw_bipush (C : CallFix p m c cc nL s args tb_G own) {n : Int} {v : Int32} (hd : decode cc pc = .ok (.bipush n, 2)) (hv : (Int8.ofInt n).toInt32 = v) (k : AW p l e R s m args below meth c nL cells slots Q P A (pc + 2) lv (.int v :: st)) : AW p l e R s m args below meth c nL cells slots Q P A pc lv (st) := fun H locs ls hP hS hl => lv_bipush C.1 C.2.1 hd hv (k H locs ls hP hS hl)
theorem aw_sipush (C : CallFix p m c cc nL s args tb_G own) {n : Int} {v : Int32} (hd : decode cc pc = .ok (.sipush n, 3)) (hv : (Int16.ofInt n).toInt32 = v) (k : AW p l e R s m args below meth c nL cells slots Q P A (pc + 3) lv (.int v :: st)) : AW p l e R s m args below meth c nL cells slots Q P A pc lv (st) := fun H locs ls hP hS hl => lv_sipush C.1 C.2.1 hd hv (k H locs ls hP hS hl)
theorem aw_lconst (C : CallFix p m c cc nL s args tb_G own) {n : Fin 2} {v : Int64} (hd : decode cc pc = .ok (.lconst n, 1)) (hv : Int64.ofNat (n : Nat) = v) (k : AW p l e R s m args below meth c nL cells slots Q P A (pc + 1) lv (.long v :: st)) : AW p l e R s m args below meth c nL cells slots Q P A pc lv (st) := fun H locs ls hP hS hl => lv_lconst C.1 C.2.1 hd hv (k H locs ls hP hS hl)
theorem aw_null (C : CallFix p m c cc nL s args tb_G own)  (hd : decode cc pc = .ok (.aconst_null, 1))  (k : AW p l e R s m args below meth c nL cells slots Q P A (pc + 1) lv (.null :: st)) : AW p l e R s m args below meth c nL cells slots Q P A pc lv (st) := fun H locs ls hP hS hl => lv_null C.1 C.2.1 hd  (k H locs ls hP hS hl)
theorem aw_iload_n (C : CallFix p m c cc nL s args tb_G own) {k : Fin 4} {i j : Nat} {x : Int32} (hd : decode cc pc = .ok (.iload_n k, 1)) (hi : (k : Nat) = i) (hj : lv[j]? = some (i, .int x)) (kk : AW p l e R s m args below meth c nL cells slots Q P A (pc + 1) lv (.int x :: st)) : AW p l e R s m args below meth c nL cells slots Q P A pc lv st := fun H locs ls hP hS hl => lv_iload_n C.1 C.2.1 hd hi (lv_at hl j hj) (kk H locs ls hP hS hl)
theorem aw_iload (C : CallFix p m c cc nL s args tb_G own) {i j : Nat} {x : Int32} (hd : decode cc pc = .ok (.iload i, 2)) (hj : lv[j]? = some (i, .int x)) (kk : AW p l e R s m args below meth c nL cells slots Q P A (pc + 2) lv (.int x :: st)) : AW p l e R s m args below meth c nL cells slots Q P A pc lv st := fun H locs ls hP hS hl => lv_iload C.1 C.2.1 hd (lv_at hl j hj) (kk H locs ls hP hS hl)
theorem aw_lload_n (C : CallFix p m c cc nL s args tb_G own) {k : Fin 4} {i j : Nat} {x : Int64} (hd : decode cc pc = .ok (.lload_n k, 1)) (hi : (k : Nat) = i) (hj : lv[j]? = some (i, .long x)) (kk : AW p l e R s m args below meth c nL cells slots Q P A (pc + 1) lv (.long x :: st)) : AW p l e R s m args below meth c nL cells slots Q P A pc lv st := fun H locs ls hP hS hl => lv_lload_n C.1 C.2.1 hd hi (lv_at hl j hj) (kk H locs ls hP hS hl)
theorem aw_lload (C : CallFix p m c cc nL s args tb_G own) {i j : Nat} {x : Int64} (hd : decode cc pc = .ok (.lload i, 2)) (hj : lv[j]? = some (i, .long x)) (kk : AW p l e R s m args below meth c nL cells slots Q P A (pc + 2) lv (.long x :: st)) : AW p l e R s m args below meth c nL cells slots Q P A pc lv st := fun H locs ls hP hS hl => lv_lload C.1 C.2.1 hd (lv_at hl j hj) (kk H locs ls hP hS hl)
theorem aw_aload_n (C : CallFix p m c cc nL s args tb_G own) {k : Fin 4} {i j : Nat} {x : Nat} (hd : decode cc pc = .ok (.aload_n k, 1)) (hi : (k : Nat) = i) (hj : lv[j]? = some (i, .ref x)) (kk : AW p l e R s m args below meth c nL cells slots Q P A (pc + 1) lv (.ref x :: st)) : AW p l e R s m args below meth c nL cells slots Q P A pc lv st := fun H locs ls hP hS hl => lv_aload_n C.1 C.2.1 hd hi (lv_at hl j hj) (kk H locs ls hP hS hl)
theorem aw_aload (C : CallFix p m c cc nL s args tb_G own) {i j : Nat} {x : Nat} (hd : decode cc pc = .ok (.aload i, 2)) (hj : lv[j]? = some (i, .ref x)) (kk : AW p l e R s m args below meth c nL cells slots Q P A (pc + 2) lv (.ref x :: st)) : AW p l e R s m args below meth c nL cells slots Q P A pc lv st := fun H locs ls hP hS hl => lv_aload C.1 C.2.1 hd (lv_at hl j hj) (kk H locs ls hP hS hl)
theorem aw_aloadq_n (C : CallFix p m c cc nL s args tb_G own) {k : Fin 4} {i j : Nat} {x : Option Nat} (hd : decode cc pc = .ok (.aload_n k, 1)) (hi : (k : Nat) = i) (hj : lv[j]? = some (i, va_rf x)) (kk : AW p l e R s m args below meth c nL cells slots Q P A (pc + 1) lv (va_rf x :: st)) : AW p l e R s m args below meth c nL cells slots Q P A pc lv st := fun H locs ls hP hS hl => by
  have h1 := lv_at hl j hj
  have h2 := kk H locs ls hP hS hl
  cases x with
  | none => exact lv_aload_nN C.1 C.2.1 hd hi h1 h2
  | some x => exact lv_aload_n C.1 C.2.1 hd hi h1 h2
theorem aw_aloadq (C : CallFix p m c cc nL s args tb_G own) {i j : Nat} {x : Option Nat} (hd : decode cc pc = .ok (.aload i, 2)) (hj : lv[j]? = some (i, va_rf x)) (kk : AW p l e R s m args below meth c nL cells slots Q P A (pc + 2) lv (va_rf x :: st)) : AW p l e R s m args below meth c nL cells slots Q P A pc lv st := fun H locs ls hP hS hl => by
  have h1 := lv_at hl j hj
  have h2 := kk H locs ls hP hS hl
  cases x with
  | none => exact lv_aloadN C.1 C.2.1 hd h1 h2
  | some x => exact lv_aload C.1 C.2.1 hd h1 h2
theorem aw_istore_n (C : CallFix p m c cc nL s args tb_G own) {k : Fin 4} {i : Nat} {x : Int32} (hd : decode cc pc = .ok (.istore_n k, 1)) (hi : (k : Nat) = i) (hn : i < nL) (hl0 : (i, Value.int x) :: lv.filter (fun q => !(q.1 == i) && !(q.1 + 1 == i && q.2.category == 2)) = lv') (kk : AW p l e R s m args below meth c nL cells slots Q P A (pc + 1) lv' st) : AW p l e R s m args below meth c nL cells slots Q P A pc lv (.int x :: st) := fun H locs ls hP hS hl => lv_istore_n C.1 C.2.1 hd hi hl hn hl0 (fun ls hl => kk H locs ls hP hS hl)
theorem aw_istore (C : CallFix p m c cc nL s args tb_G own) {i : Nat} {x : Int32} (hd : decode cc pc = .ok (.istore i, 2)) (hn : i < nL) (hl0 : (i, Value.int x) :: lv.filter (fun q => !(q.1 == i) && !(q.1 + 1 == i && q.2.category == 2)) = lv') (kk : AW p l e R s m args below meth c nL cells slots Q P A (pc + 2) lv' st) : AW p l e R s m args below meth c nL cells slots Q P A pc lv (.int x :: st) := fun H locs ls hP hS hl => lv_istore C.1 C.2.1 hd hl hn hl0 (fun ls hl => kk H locs ls hP hS hl)
theorem aw_astore_n (C : CallFix p m c cc nL s args tb_G own) {k : Fin 4} {i : Nat} {x : Nat} (hd : decode cc pc = .ok (.astore_n k, 1)) (hi : (k : Nat) = i) (hn : i < nL) (hl0 : (i, Value.ref x) :: lv.filter (fun q => !(q.1 == i) && !(q.1 + 1 == i && q.2.category == 2)) = lv') (kk : AW p l e R s m args below meth c nL cells slots Q P A (pc + 1) lv' st) : AW p l e R s m args below meth c nL cells slots Q P A pc lv (.ref x :: st) := fun H locs ls hP hS hl => lv_astore_n C.1 C.2.1 hd hi hl hn hl0 (fun ls hl => kk H locs ls hP hS hl)
theorem aw_astore (C : CallFix p m c cc nL s args tb_G own) {i : Nat} {x : Nat} (hd : decode cc pc = .ok (.astore i, 2)) (hn : i < nL) (hl0 : (i, Value.ref x) :: lv.filter (fun q => !(q.1 == i) && !(q.1 + 1 == i && q.2.category == 2)) = lv') (kk : AW p l e R s m args below meth c nL cells slots Q P A (pc + 2) lv' st) : AW p l e R s m args below meth c nL cells slots Q P A pc lv (.ref x :: st) := fun H locs ls hP hS hl => lv_astore C.1 C.2.1 hd hl hn hl0 (fun ls hl => kk H locs ls hP hS hl)
theorem aw_lstore_n (C : CallFix p m c cc nL s args tb_G own) {k : Fin 4} {i : Nat} {x : Int64} (hd : decode cc pc = .ok (.lstore_n k, 1)) (hi : (k : Nat) = i) (hn : i + 1 < nL) (hl0 : (i, Value.long x) :: lv.filter (fun q => !(q.1 == i) && (!(q.1 == i + 1) && !(q.1 + 1 == i && q.2.category == 2))) = lv') (kk : AW p l e R s m args below meth c nL cells slots Q P A (pc + 1) lv' st) : AW p l e R s m args below meth c nL cells slots Q P A pc lv (.long x :: st) := fun H locs ls hP hS hl => lv_lstore_n C.1 C.2.1 hd hi hl hn hl0 (fun ls hl => kk H locs ls hP hS hl)
theorem aw_lstore (C : CallFix p m c cc nL s args tb_G own) {i : Nat} {x : Int64} (hd : decode cc pc = .ok (.lstore i, 2)) (hn : i + 1 < nL) (hl0 : (i, Value.long x) :: lv.filter (fun q => !(q.1 == i) && (!(q.1 == i + 1) && !(q.1 + 1 == i && q.2.category == 2))) = lv') (kk : AW p l e R s m args below meth c nL cells slots Q P A (pc + 2) lv' st) : AW p l e R s m args below meth c nL cells slots Q P A pc lv (.long x :: st) := fun H locs ls hP hS hl => lv_lstore C.1 C.2.1 hd hl hn hl0 (fun ls hl => kk H locs ls hP hS hl)
theorem aw_astoreN_n (C : CallFix p m c cc nL s args tb_G own) {k : Fin 4} {i : Nat} (hd : decode cc pc = .ok (.astore_n k, 1)) (hi : (k : Nat) = i) (hn : i < nL) (hl0 : (i, Value.null) :: lv.filter (fun q => !(q.1 == i) && !(q.1 + 1 == i && q.2.category == 2)) = lv') (kk : AW p l e R s m args below meth c nL cells slots Q P A (pc + 1) lv' st) : AW p l e R s m args below meth c nL cells slots Q P A pc lv (.null :: st) := fun H locs ls hP hS hl => lv_astore_nN C.1 C.2.1 hd hi hl hn hl0 (fun ls hl => kk H locs ls hP hS hl)
theorem aw_astoreN (C : CallFix p m c cc nL s args tb_G own) {i : Nat} (hd : decode cc pc = .ok (.astore i, 2)) (hn : i < nL) (hl0 : (i, Value.null) :: lv.filter (fun q => !(q.1 == i) && !(q.1 + 1 == i && q.2.category == 2)) = lv') (kk : AW p l e R s m args below meth c nL cells slots Q P A (pc + 2) lv' st) : AW p l e R s m args below meth c nL cells slots Q P A pc lv (.null :: st) := fun H locs ls hP hS hl => lv_astoreN C.1 C.2.1 hd hl hn hl0 (fun ls hl => kk H locs ls hP hS hl)
theorem aw_astoreq_n (C : CallFix p m c cc nL s args tb_G own) {k : Fin 4} {i : Nat} {x : Option Nat} (hd : decode cc pc = .ok (.astore_n k, 1)) (hi : (k : Nat) = i) (hn : i < nL) (hl0 : (i, va_rf x) :: lv.filter (fun q => !(q.1 == i) && !(q.1 + 1 == i && q.2.category == 2)) = lv') (kk : AW p l e R s m args below meth c nL cells slots Q P A (pc + 1) lv' st) : AW p l e R s m args below meth c nL cells slots Q P A pc lv (va_rf x :: st) := fun H locs ls hP hS hl => by
  cases x with
  | none => exact lv_astore_nN C.1 C.2.1 hd hi hl hn hl0 (fun ls hl => kk H locs ls hP hS hl)
  | some x => exact lv_astore_n C.1 C.2.1 hd hi hl hn hl0 (fun ls hl => kk H locs ls hP hS hl)
theorem aw_astoreq (C : CallFix p m c cc nL s args tb_G own) {i : Nat} {x : Option Nat} (hd : decode cc pc = .ok (.astore i, 2)) (hn : i < nL) (hl0 : (i, va_rf x) :: lv.filter (fun q => !(q.1 == i) && !(q.1 + 1 == i && q.2.category == 2)) = lv') (kk : AW p l e R s m args below meth c nL cells slots Q P A (pc + 2) lv' st) : AW p l e R s m args below meth c nL cells slots Q P A pc lv (va_rf x :: st) := fun H locs ls hP hS hl => by
  cases x with
  | none => exact lv_astoreN C.1 C.2.1 hd hl hn hl0 (fun ls hl => kk H locs ls hP hS hl)
  | some x => exact lv_astore C.1 C.2.1 hd hl hn hl0 (fun ls hl => kk H locs ls hP hS hl)
theorem aw_iinc (C : CallFix p m c cc nL s args tb_G own) {i j : Nat} {n : Int} {x v : Int32} (hd : decode cc pc = .ok (.iinc i n, 3)) (hj : lv[j]? = some (i, .int x)) (hv : x + Int32.ofInt n = v) (hn : i < nL) (hl0 : (i, Value.int v) :: lv.filter (fun q => !(q.1 == i) && !(q.1 + 1 == i && q.2.category == 2)) = lv') (kk : AW p l e R s m args below meth c nL cells slots Q P A (pc + 3) lv' st) : AW p l e R s m args below meth c nL cells slots Q P A pc lv st := fun H locs ls hP hS hl => lv_iinc C.1 C.2.1 hd hl hj hv hn hl0 (fun ls hl => kk H locs ls hP hS hl)
theorem aw_iadd (C : CallFix p m c cc nL s args tb_G own) {x y : Int32} (hd : decode cc pc = .ok (.iadd, 1))  (k : AW p l e R s m args below meth c nL cells slots Q P A (pc + 1) lv (.int (x + y) :: st)) : AW p l e R s m args below meth c nL cells slots Q P A pc lv (.int y :: .int x :: st) := fun H locs ls hP hS hl => lv_iadd C.1 C.2.1 hd  (k H locs ls hP hS hl)
theorem aw_isub (C : CallFix p m c cc nL s args tb_G own) {x y : Int32} (hd : decode cc pc = .ok (.isub, 1))  (k : AW p l e R s m args below meth c nL cells slots Q P A (pc + 1) lv (.int (x - y) :: st)) : AW p l e R s m args below meth c nL cells slots Q P A pc lv (.int y :: .int x :: st) := fun H locs ls hP hS hl => lv_isub C.1 C.2.1 hd  (k H locs ls hP hS hl)
theorem aw_imul (C : CallFix p m c cc nL s args tb_G own) {x y : Int32} (hd : decode cc pc = .ok (.imul, 1))  (k : AW p l e R s m args below meth c nL cells slots Q P A (pc + 1) lv (.int (x * y) :: st)) : AW p l e R s m args below meth c nL cells slots Q P A pc lv (.int y :: .int x :: st) := fun H locs ls hP hS hl => lv_imul C.1 C.2.1 hd  (k H locs ls hP hS hl)
theorem aw_iand (C : CallFix p m c cc nL s args tb_G own) {x y : Int32} (hd : decode cc pc = .ok (.iand, 1))  (k : AW p l e R s m args below meth c nL cells slots Q P A (pc + 1) lv (.int (x &&& y) :: st)) : AW p l e R s m args below meth c nL cells slots Q P A pc lv (.int y :: .int x :: st) := fun H locs ls hP hS hl => lv_iand C.1 C.2.1 hd  (k H locs ls hP hS hl)
theorem aw_ior (C : CallFix p m c cc nL s args tb_G own) {x y : Int32} (hd : decode cc pc = .ok (.ior, 1))  (k : AW p l e R s m args below meth c nL cells slots Q P A (pc + 1) lv (.int (x ||| y) :: st)) : AW p l e R s m args below meth c nL cells slots Q P A pc lv (.int y :: .int x :: st) := fun H locs ls hP hS hl => lv_ior C.1 C.2.1 hd  (k H locs ls hP hS hl)
theorem aw_ixor (C : CallFix p m c cc nL s args tb_G own) {x y : Int32} (hd : decode cc pc = .ok (.ixor, 1))  (k : AW p l e R s m args below meth c nL cells slots Q P A (pc + 1) lv (.int (x ^^^ y) :: st)) : AW p l e R s m args below meth c nL cells slots Q P A pc lv (.int y :: .int x :: st) := fun H locs ls hP hS hl => lv_ixor C.1 C.2.1 hd  (k H locs ls hP hS hl)
theorem aw_ishl (C : CallFix p m c cc nL s args tb_G own) {x y : Int32} (hd : decode cc pc = .ok (.ishl, 1))  (k : AW p l e R s m args below meth c nL cells slots Q P A (pc + 1) lv (.int (x <<< (y &&& 31)) :: st)) : AW p l e R s m args below meth c nL cells slots Q P A pc lv (.int y :: .int x :: st) := fun H locs ls hP hS hl => lv_ishl C.1 C.2.1 hd  (k H locs ls hP hS hl)
theorem aw_ishr (C : CallFix p m c cc nL s args tb_G own) {x y : Int32} (hd : decode cc pc = .ok (.ishr, 1))  (k : AW p l e R s m args below meth c nL cells slots Q P A (pc + 1) lv (.int (x >>> (y &&& 31)) :: st)) : AW p l e R s m args below meth c nL cells slots Q P A pc lv (.int y :: .int x :: st) := fun H locs ls hP hS hl => lv_ishr C.1 C.2.1 hd  (k H locs ls hP hS hl)
theorem aw_idiv (C : CallFix p m c cc nL s args tb_G own) {x y : Int32} (hd : decode cc pc = .ok (.idiv, 1)) (hne : ¬ y = 0) (k : AW p l e R s m args below meth c nL cells slots Q P A (pc + 1) lv (.int (x / y) :: st)) : AW p l e R s m args below meth c nL cells slots Q P A pc lv (.int y :: .int x :: st) := fun H locs ls hP hS hl => lv_idiv C.1 C.2.1 hd hne (k H locs ls hP hS hl)
theorem aw_irem (C : CallFix p m c cc nL s args tb_G own) {x y : Int32} (hd : decode cc pc = .ok (.irem, 1)) (hne : ¬ y = 0) (k : AW p l e R s m args below meth c nL cells slots Q P A (pc + 1) lv (.int (x - x / y * y) :: st)) : AW p l e R s m args below meth c nL cells slots Q P A pc lv (.int y :: .int x :: st) := fun H locs ls hP hS hl => lv_irem C.1 C.2.1 hd hne (k H locs ls hP hS hl)
theorem aw_ladd (C : CallFix p m c cc nL s args tb_G own) {x y : Int64} (hd : decode cc pc = .ok (.ladd, 1))  (k : AW p l e R s m args below meth c nL cells slots Q P A (pc + 1) lv (.long (x + y) :: st)) : AW p l e R s m args below meth c nL cells slots Q P A pc lv (.long y :: .long x :: st) := fun H locs ls hP hS hl => lv_ladd C.1 C.2.1 hd  (k H locs ls hP hS hl)
theorem aw_lsub (C : CallFix p m c cc nL s args tb_G own) {x y : Int64} (hd : decode cc pc = .ok (.lsub, 1))  (k : AW p l e R s m args below meth c nL cells slots Q P A (pc + 1) lv (.long (x - y) :: st)) : AW p l e R s m args below meth c nL cells slots Q P A pc lv (.long y :: .long x :: st) := fun H locs ls hP hS hl => lv_lsub C.1 C.2.1 hd  (k H locs ls hP hS hl)
theorem aw_lmul (C : CallFix p m c cc nL s args tb_G own) {x y : Int64} (hd : decode cc pc = .ok (.lmul, 1))  (k : AW p l e R s m args below meth c nL cells slots Q P A (pc + 1) lv (.long (x * y) :: st)) : AW p l e R s m args below meth c nL cells slots Q P A pc lv (.long y :: .long x :: st) := fun H locs ls hP hS hl => lv_lmul C.1 C.2.1 hd  (k H locs ls hP hS hl)
theorem aw_lshl (C : CallFix p m c cc nL s args tb_G own) {x v : Int64} {y : Int32} (hd : decode cc pc = .ok (.lshl, 1)) (hv : x <<< (y.toInt64 &&& 63) = v) (k : AW p l e R s m args below meth c nL cells slots Q P A (pc + 1) lv (.long v :: st)) : AW p l e R s m args below meth c nL cells slots Q P A pc lv (.int y :: .long x :: st) := fun H locs ls hP hS hl => lv_lshl C.1 C.2.1 hd hv (k H locs ls hP hS hl)
theorem aw_i2l (C : CallFix p m c cc nL s args tb_G own) {x : Int32} {v : Int64} (hd : decode cc pc = .ok (.i2l, 1)) (hv : x.toInt64 = v) (k : AW p l e R s m args below meth c nL cells slots Q P A (pc + 1) lv (.long v :: st)) : AW p l e R s m args below meth c nL cells slots Q P A pc lv (.int x :: st) := fun H locs ls hP hS hl => lv_i2l C.1 C.2.1 hd hv (k H locs ls hP hS hl)
theorem aw_lcmp (C : CallFix p m c cc nL s args tb_G own) {x y : Int64} (hd : decode cc pc = .ok (.lcmp, 1))  (k : AW p l e R s m args below meth c nL cells slots Q P A (pc + 1) lv (.int (lg_cmp x y) :: st)) : AW p l e R s m args below meth c nL cells slots Q P A pc lv (.long y :: .long x :: st) := fun H locs ls hP hS hl => W.lcmp C.1 C.2.1 hd  (k H locs ls hP hS hl)
theorem aw_dup (C : CallFix p m c cc nL s args tb_G own) {va : Value} (hd : decode cc pc = .ok (.dup, 1)) (hva : va.category = 1) (k : AW p l e R s m args below meth c nL cells slots Q P A (pc + 1) lv (va :: va :: st)) : AW p l e R s m args below meth c nL cells slots Q P A pc lv (va :: st) := fun H locs ls hP hS hl => lv_dup C.1 C.2.1 hd hva (k H locs ls hP hS hl)
theorem aw_icmp_eq (C : CallFix p m c cc nL s args tb_G own) {x y : Int32} {off : Int} {tgt : Nat} (hd : decode cc pc = .ok (.if_icmp .eq off, 3)) (ht : (pc : Int) + off = (tgt : Int)) (kt : x = y → AW p l e R s m args below meth c nL cells slots Q P A tgt lv st) (kf : ¬ x = y → AW p l e R s m args below meth c nL cells slots Q P A (pc + 3) lv st) : AW p l e R s m args below meth c nL cells slots Q P A pc lv (.int y :: .int x :: st) := fun H locs ls hP hS hl => lv_icmp_eq C.1 C.2.1 hd ht (fun h => kt h H locs ls hP hS hl) (fun h => kf h H locs ls hP hS hl)
theorem aw_icmp_ne (C : CallFix p m c cc nL s args tb_G own) {x y : Int32} {off : Int} {tgt : Nat} (hd : decode cc pc = .ok (.if_icmp .ne off, 3)) (ht : (pc : Int) + off = (tgt : Int)) (kt : ¬ x = y → AW p l e R s m args below meth c nL cells slots Q P A tgt lv st) (kf : x = y → AW p l e R s m args below meth c nL cells slots Q P A (pc + 3) lv st) : AW p l e R s m args below meth c nL cells slots Q P A pc lv (.int y :: .int x :: st) := fun H locs ls hP hS hl => lv_icmp_ne C.1 C.2.1 hd ht (fun h => kt h H locs ls hP hS hl) (fun h => kf h H locs ls hP hS hl)
theorem aw_icmp_lt (C : CallFix p m c cc nL s args tb_G own) {x y : Int32} {off : Int} {tgt : Nat} (hd : decode cc pc = .ok (.if_icmp .lt off, 3)) (ht : (pc : Int) + off = (tgt : Int)) (kt : x < y → AW p l e R s m args below meth c nL cells slots Q P A tgt lv st) (kf : ¬ x < y → AW p l e R s m args below meth c nL cells slots Q P A (pc + 3) lv st) : AW p l e R s m args below meth c nL cells slots Q P A pc lv (.int y :: .int x :: st) := fun H locs ls hP hS hl => lv_icmp_lt C.1 C.2.1 hd ht (fun h => kt h H locs ls hP hS hl) (fun h => kf h H locs ls hP hS hl)
theorem aw_icmp_ge (C : CallFix p m c cc nL s args tb_G own) {x y : Int32} {off : Int} {tgt : Nat} (hd : decode cc pc = .ok (.if_icmp .ge off, 3)) (ht : (pc : Int) + off = (tgt : Int)) (kt : y ≤ x → AW p l e R s m args below meth c nL cells slots Q P A tgt lv st) (kf : ¬ y ≤ x → AW p l e R s m args below meth c nL cells slots Q P A (pc + 3) lv st) : AW p l e R s m args below meth c nL cells slots Q P A pc lv (.int y :: .int x :: st) := fun H locs ls hP hS hl => lv_icmp_ge C.1 C.2.1 hd ht (fun h => kt h H locs ls hP hS hl) (fun h => kf h H locs ls hP hS hl)
theorem aw_icmp_gt (C : CallFix p m c cc nL s args tb_G own) {x y : Int32} {off : Int} {tgt : Nat} (hd : decode cc pc = .ok (.if_icmp .gt off, 3)) (ht : (pc : Int) + off = (tgt : Int)) (kt : y < x → AW p l e R s m args below meth c nL cells slots Q P A tgt lv st) (kf : ¬ y < x → AW p l e R s m args below meth c nL cells slots Q P A (pc + 3) lv st) : AW p l e R s m args below meth c nL cells slots Q P A pc lv (.int y :: .int x :: st) := fun H locs ls hP hS hl => lv_icmp_gt C.1 C.2.1 hd ht (fun h => kt h H locs ls hP hS hl) (fun h => kf h H locs ls hP hS hl)
theorem aw_icmp_le (C : CallFix p m c cc nL s args tb_G own) {x y : Int32} {off : Int} {tgt : Nat} (hd : decode cc pc = .ok (.if_icmp .le off, 3)) (ht : (pc : Int) + off = (tgt : Int)) (kt : x ≤ y → AW p l e R s m args below meth c nL cells slots Q P A tgt lv st) (kf : ¬ x ≤ y → AW p l e R s m args below meth c nL cells slots Q P A (pc + 3) lv st) : AW p l e R s m args below meth c nL cells slots Q P A pc lv (.int y :: .int x :: st) := fun H locs ls hP hS hl => lv_icmp_le C.1 C.2.1 hd ht (fun h => kt h H locs ls hP hS hl) (fun h => kf h H locs ls hP hS hl)
theorem aw_if_eq (C : CallFix p m c cc nL s args tb_G own) {x : Int32} {off : Int} {tgt : Nat} (hd : decode cc pc = .ok (.ifCond .eq off, 3)) (ht : (pc : Int) + off = (tgt : Int)) (kt : x = 0 → AW p l e R s m args below meth c nL cells slots Q P A tgt lv st) (kf : ¬ x = 0 → AW p l e R s m args below meth c nL cells slots Q P A (pc + 3) lv st) : AW p l e R s m args below meth c nL cells slots Q P A pc lv (.int x :: st) := fun H locs ls hP hS hl => lv_if_eq C.1 C.2.1 hd ht (fun h => kt h H locs ls hP hS hl) (fun h => kf h H locs ls hP hS hl)
theorem aw_if_ne (C : CallFix p m c cc nL s args tb_G own) {x : Int32} {off : Int} {tgt : Nat} (hd : decode cc pc = .ok (.ifCond .ne off, 3)) (ht : (pc : Int) + off = (tgt : Int)) (kt : ¬ x = 0 → AW p l e R s m args below meth c nL cells slots Q P A tgt lv st) (kf : x = 0 → AW p l e R s m args below meth c nL cells slots Q P A (pc + 3) lv st) : AW p l e R s m args below meth c nL cells slots Q P A pc lv (.int x :: st) := fun H locs ls hP hS hl => lv_if_ne C.1 C.2.1 hd ht (fun h => kt h H locs ls hP hS hl) (fun h => kf h H locs ls hP hS hl)
theorem aw_if_lt (C : CallFix p m c cc nL s args tb_G own) {x : Int32} {off : Int} {tgt : Nat} (hd : decode cc pc = .ok (.ifCond .lt off, 3)) (ht : (pc : Int) + off = (tgt : Int)) (kt : x < 0 → AW p l e R s m args below meth c nL cells slots Q P A tgt lv st) (kf : ¬ x < 0 → AW p l e R s m args below meth c nL cells slots Q P A (pc + 3) lv st) : AW p l e R s m args below meth c nL cells slots Q P A pc lv (.int x :: st) := fun H locs ls hP hS hl => lv_if_lt C.1 C.2.1 hd ht (fun h => kt h H locs ls hP hS hl) (fun h => kf h H locs ls hP hS hl)
theorem aw_if_ge (C : CallFix p m c cc nL s args tb_G own) {x : Int32} {off : Int} {tgt : Nat} (hd : decode cc pc = .ok (.ifCond .ge off, 3)) (ht : (pc : Int) + off = (tgt : Int)) (kt : 0 ≤ x → AW p l e R s m args below meth c nL cells slots Q P A tgt lv st) (kf : ¬ 0 ≤ x → AW p l e R s m args below meth c nL cells slots Q P A (pc + 3) lv st) : AW p l e R s m args below meth c nL cells slots Q P A pc lv (.int x :: st) := fun H locs ls hP hS hl => lv_if_ge C.1 C.2.1 hd ht (fun h => kt h H locs ls hP hS hl) (fun h => kf h H locs ls hP hS hl)
theorem aw_if_gt (C : CallFix p m c cc nL s args tb_G own) {x : Int32} {off : Int} {tgt : Nat} (hd : decode cc pc = .ok (.ifCond .gt off, 3)) (ht : (pc : Int) + off = (tgt : Int)) (kt : 0 < x → AW p l e R s m args below meth c nL cells slots Q P A tgt lv st) (kf : ¬ 0 < x → AW p l e R s m args below meth c nL cells slots Q P A (pc + 3) lv st) : AW p l e R s m args below meth c nL cells slots Q P A pc lv (.int x :: st) := fun H locs ls hP hS hl => lv_if_gt C.1 C.2.1 hd ht (fun h => kt h H locs ls hP hS hl) (fun h => kf h H locs ls hP hS hl)
theorem aw_if_le (C : CallFix p m c cc nL s args tb_G own) {x : Int32} {off : Int} {tgt : Nat} (hd : decode cc pc = .ok (.ifCond .le off, 3)) (ht : (pc : Int) + off = (tgt : Int)) (kt : x ≤ 0 → AW p l e R s m args below meth c nL cells slots Q P A tgt lv st) (kf : ¬ x ≤ 0 → AW p l e R s m args below meth c nL cells slots Q P A (pc + 3) lv st) : AW p l e R s m args below meth c nL cells slots Q P A pc lv (.int x :: st) := fun H locs ls hP hS hl => lv_if_le C.1 C.2.1 hd ht (fun h => kt h H locs ls hP hS hl) (fun h => kf h H locs ls hP hS hl)
theorem aw_acmp_eq (C : CallFix p m c cc nL s args tb_G own) {rx ry : Option Nat} {off : Int} {tgt : Nat} (hd : decode cc pc = .ok (.if_acmp .eq off, 3)) (ht : (pc : Int) + off = (tgt : Int)) (kt : rx = ry → AW p l e R s m args below meth c nL cells slots Q P A tgt lv st) (kf : ¬ rx = ry → AW p l e R s m args below meth c nL cells slots Q P A (pc + 3) lv st) : AW p l e R s m args below meth c nL cells slots Q P A pc lv (va_rf ry :: va_rf rx :: st) := fun H locs ls hP hS hl => lv_acmp_eq C.1 C.2.1 hd ht (fun h => kt h H locs ls hP hS hl) (fun h => kf h H locs ls hP hS hl)
theorem aw_acmp_ne (C : CallFix p m c cc nL s args tb_G own) {rx ry : Option Nat} {off : Int} {tgt : Nat} (hd : decode cc pc = .ok (.if_acmp .ne off, 3)) (ht : (pc : Int) + off = (tgt : Int)) (kt : ¬ rx = ry → AW p l e R s m args below meth c nL cells slots Q P A tgt lv st) (kf : rx = ry → AW p l e R s m args below meth c nL cells slots Q P A (pc + 3) lv st) : AW p l e R s m args below meth c nL cells slots Q P A pc lv (va_rf ry :: va_rf rx :: st) := fun H locs ls hP hS hl => lv_acmp_ne C.1 C.2.1 hd ht (fun h => kt h H locs ls hP hS hl) (fun h => kf h H locs ls hP hS hl)
theorem aw_goto (C : CallFix p m c cc nL s args tb_G own) {off : Int} {tgt : Nat} (hd : decode cc pc = .ok (.goto off, 3)) (ht : (pc : Int) + off = (tgt : Int)) (k : AW p l e R s m args below meth c nL cells slots Q P A tgt lv st) : AW p l e R s m args below meth c nL cells slots Q P A pc lv st := fun H locs ls hP hS hl => lv_goto C.1 C.2.1 hd ht (k H locs ls hP hS hl)
theorem aw_ifnull (C : CallFix p m c cc nL s args tb_G own) {o : Option Nat} {off : Int} {tgt : Nat} (hd : decode cc pc = .ok (.ifnull off, 3)) (ht : (pc : Int) + off = (tgt : Int)) (kt : o = none → AW p l e R s m args below meth c nL cells slots Q P A tgt lv st) (kf : ∀ x, o = some x → AW p l e R s m args below meth c nL cells slots Q P A (pc + 3) lv st) : AW p l e R s m args below meth c nL cells slots Q P A pc lv (va_rf o :: st) := fun H locs ls hP hS hl => by
  cases o with
  | none => exact lv_ifnullN C.1 C.2.1 hd ht (kt rfl H locs ls hP hS hl)
  | some x => exact lv_ifnull C.1 C.2.1 hd (kf x rfl H locs ls hP hS hl)
theorem aw_ifnonnull (C : CallFix p m c cc nL s args tb_G own) {o : Option Nat} {off : Int} {tgt : Nat} (hd : decode cc pc = .ok (.ifnonnull off, 3)) (ht : (pc : Int) + off = (tgt : Int)) (kt : ∀ x, o = some x → AW p l e R s m args below meth c nL cells slots Q P A tgt lv st) (kf : o = none → AW p l e R s m args below meth c nL cells slots Q P A (pc + 3) lv st) : AW p l e R s m args below meth c nL cells slots Q P A pc lv (va_rf o :: st) := fun H locs ls hP hS hl => by
  cases o with
  | none => exact lv_ifnonnullN C.1 C.2.1 hd (kf rfl H locs ls hP hS hl)
  | some x => exact lv_ifnonnull C.1 C.2.1 hd ht (kt x rfl H locs ls hP hS hl)
theorem aw_ldc (C : CallFix p m c cc nL s args tb_G own) {index : Nat} {v : Int32} (hk : (.constant own index v : Cond) ∈ tb_G) (hd : decode cc pc = .ok (.ldc index, 2)) (k : AW p l e R s m args below meth c nL cells slots Q P A (pc + 2) lv (.int v :: st)) : AW p l e R s m args below meth c nL cells slots Q P A pc lv st := fun H locs ls hP hS hl => lv_ldc C.1 C.2.1 C.2.2.2.1 (C.2.2.2.2 _ hk) hd (k H locs ls hP hS hl)
theorem aw_ldc2 (C : CallFix p m c cc nL s args tb_G own) {index : Nat} {v : Int64} (hk : (.constantLong own index v : Cond) ∈ tb_G) (hd : decode cc pc = .ok (.ldc2_w index, 3)) (k : AW p l e R s m args below meth c nL cells slots Q P A (pc + 3) lv (.long v :: st)) : AW p l e R s m args below meth c nL cells slots Q P A pc lv st := fun H locs ls hP hS hl => lv_ldc2 C.1 C.2.1 C.2.2.2.1 (C.2.2.2.2 _ hk) hd (k H locs ls hP hS hl)
/-- the top of the stack under another name -/
theorem aw_topi {x : Int32} (k : ∀ y : Int32, y = x → AW p l e R s m args below meth c nL cells slots Q P A pc lv (.int y :: st)) : AW p l e R s m args below meth c nL cells slots Q P A pc lv (.int x :: st) := k x rfl
theorem aw_topl {x : Int64} (k : ∀ y : Int64, y = x → AW p l e R s m args below meth c nL cells slots Q P A pc lv (.long y :: st)) : AW p l e R s m args below meth c nL cells slots Q P A pc lv (.long x :: st) := k x rfl
theorem aw_lv (ks : List Nat) (hl0 : lv_pick lv ks = lv') (k : AW p l e R s m args below meth c nL cells slots Q P A pc lv' st) : AW p l e R s m args below meth c nL cells slots Q P A pc lv st := fun H locs ls hP hS hl => k H locs ls hP hS (lv_sub hl ks hl0)
theorem aw_P {P' : Heap → Prop} (h : ∀ H, P H → P' H) (k : AW p l e R s m args below meth c nL cells slots Q P' A pc lv st) : AW p l e R s m args below meth c nL cells slots Q P A pc lv st := fun H locs ls hP hS hl => k H locs ls (h H hP) hS hl
theorem aw_ex {α : Sort _} {P' : α → Heap → Prop} (h : ∀ H, P H → ∃ x, P' x H) (k : ∀ x, AW p l e R s m args below meth c nL cells slots Q (P' x) A pc lv st) : AW p l e R s m args below meth c nL cells slots Q P A pc lv st := fun H locs ls hP hS hl => by
  obtain ⟨x, hx⟩ := h H hP
  exact k x H locs ls hx hS hl
theorem aw_have {F : Prop} (h : ∀ H, P H → F) (k : F → AW p l e R s m args below meth c nL cells slots Q P A pc lv st) : AW p l e R s m args below meth c nL cells slots Q P A pc lv st := fun H locs ls hP hS hl => k (h H hP) H locs ls hP hS hl
theorem aw_widen {k n : Nat} (h1 : cells ≤ k) (h2 : slots ≤ n) (kk : AW p l e R s m args below meth c nL k n Q P A pc lv st) : AW p l e R s m args below meth c nL cells slots Q P A pc lv st := fun H locs ls hP hS hl => W.widen h1 h2 (kk H locs ls hP hS hl)
end AWS
end
section
theorem aw_one {D : va_G} {a : Nat} {x : va_E} {H : Heap} (h : va_at D cl_all (a, x) H) : va_P D cl_all [(a, x)] H := by
  intro k q hk
  match k, hk with
  | 0, hk => cases hk; exact h
  | k + 1, hk => simp at hk
theorem nr_rf (n : String) (o : Option Nat) : narrow (.object n) (va_rf o) = va_rf o ∧ fits (.object n) (va_rf o) = true := by cases o <;> exact ⟨rfl, rfl⟩
/-- what a write of one cell gives of the rest -/
def aw_Wr (D : va_G) (P P' : Heap → Prop) (a : Nat) (x : va_E) : Prop := ∀ H H1 : Heap, P H → va_at D cl_all (a, x) H1 → H1.size = H.size → (∀ q : Nat, q ≠ a → H1[q]? = H[q]?) → P' H1
section AWH
variable {p : Program} {l : Launch} {e : Env} {R : Room} {s : State} {m : MethodId} {args : Array Value} {below : List Frame} {meth : Method} {c : Code} {cc : ByteArray} {nL cells slots : Nat} {Q : State → Prop} {P P' : Heap → Prop} {A : Nat → Prop} {own : String} {pc : Nat} {lv lv' : List (Nat × Value)} {st : List Value} {D : va_G} {tys : List (ClassId × FieldType)} {a : Nat}
theorem aw_get (C : CallFix p m c cc nL s args tb_G own) (hK : va_K D cl_all tys s) {Cn : String} {T : u_T} {N ci k index : Nat} {fs : List Value} {v : Value} (hin : ∀ w ∈ u_ws Cn T N, w ∈ tb_G) (hc : cl_all[ci]? = some (Cn, T, N)) (hk : k < N) (hlink : (.fieldLink own index (T k).1 (T k).2.1 (T k).2.2.1 : Cond) ∈ tb_G) (hP : ∀ H, P H → va_at D cl_all (a, .inr (ci, fs)) H) (hv : fs[k]? = some v) (hd : decode cc pc = .ok (.getfield index, 3)) (kk : AW p l e R s m args below meth c nL cells slots Q P A (pc + 3) lv (v :: st)) : AW p l e R s m args below meth c nL cells slots Q P A pc lv (.ref a :: st) := fun H locs ls hPH hS hl =>
  va_get C.1 C.2.1 C.2.2.2.2 hin C.2.2.2.1 hK (aw_one (hP H hPH)) 0 rfl hc k hk (C.2.2.2.2 _ hlink) (fun _ h => h) hv hd (kk H locs ls hPH hS hl)
theorem aw_put (C : CallFix p m c cc nL s args tb_G own) (hK : va_K D cl_all tys s) {Cn : String} {T : u_T} {N ci k index : Nat} {fs : List Value} {v : Value} {ty : FieldType} (hin : ∀ w ∈ u_ws Cn T N, w ∈ tb_G) (ty0 : Nat → FieldType) (hty : ∀ k, k < N → parseFieldDescriptor (T k).2.2.1 = some (ty0 k)) (hnm : ∀ a, a < N → ∀ b, b < N → a ≠ b → (T a).2.1 ≠ (T b).2.1) (hc : cl_all[ci]? = some (Cn, T, N)) (hk : k < N) (hlink : (.fieldLink own index (T k).1 (T k).2.1 (T k).2.2.1 : Cond) ∈ tb_G) (hfin : (T k).2.2.2 = false) (hd0 : parseFieldDescriptor (T k).2.2.1 = some ty) (hn : narrow ty v = v) (hfit : fits ty v = true) (hA : A a) (hP : ∀ H, P H → va_at D cl_all (a, .inr (ci, fs)) H) (hl0 : k < fs.length) (hd : decode cc pc = .ok (.putfield index, 3)) (hP' : aw_Wr D P P' a (.inr (ci, fs.set k v))) (kk : AW p l e R s m args below meth c nL cells slots Q P' A (pc + 3) lv st) : AW p l e R s m args below meth c nL cells slots Q P A pc lv (v :: .ref a :: st) := fun H locs ls hPH hS hl => by
  have hts := C.2.2.2.2
  have hap := va_apart (own := own) hts hin ty0 hty hnm hK hc
  obtain ⟨r, h1, cell, q1, q2, q3, q4⟩ := hP H hPH
  cases h1.symm.trans hc
  obtain ⟨hSl, hfc, kC, hkC, hkind⟩ := hK.1 ci _ hc
  obtain ⟨cf, kf, fi, f, hi, hsl⟩ := hSl k hk
  have hlay := hts _ (hin _ (u_in_lay hk))
  unfold u_lay at hlay
  rw [if_neg (by rw [hfin]; decide)] at hlay
  have hst := (u_facts hfc hkC (u_lays hts hin hk) hi).1
  have h6 := u_store hfc hkC hkind hlay hi hd0 hn hfit
  refine W.putK C.1 C.2.1 (f := f) ⟨C.2.2.2.1, hts _ hlink, ⟨_, _, _, hi⟩, hst⟩ (by rw [q2]; exact h6) q1 q3 (by rw [hsl]; exact k2_hasslot (q4 k hk)) rfl rfl hd fun H' e1 e2 e3 => ?_
  rw [hsl] at e1 ⊢
  exact kk H' _ ls (hP' H H' hPH ⟨_, hc, t_OB.to (V := updV (vp_V fs) k v) ⟨_, e1, q2, q3, t_set q4 hap hk v⟩ (fun j _ => vp_updV_set hl0 v j)⟩ e2 e3) (hS.put e2 e3 hA) hl
theorem aw_putF (C : CallFix p m c cc nL s args tb_G own) (hK : va_K D cl_all tys s) {Cn : String} {T : u_T} {N ci k index : Nat} {fs : List Value} {v : Value} {ty : FieldType} (hin : ∀ w ∈ u_ws Cn T N, w ∈ tb_G) (ty0 : Nat → FieldType) (hty : ∀ k, k < N → parseFieldDescriptor (T k).2.2.1 = some (ty0 k)) (hnm : ∀ a, a < N → ∀ b, b < N → a ≠ b → (T a).2.1 ≠ (T b).2.1) (hc : cl_all[ci]? = some (Cn, T, N)) (hk : k < N) (hlink : (.fieldLink own index (T k).1 (T k).2.1 (T k).2.2.1 : Cond) ∈ tb_G) (hfin : (T k).2.2.2 = true) (hdecl : (T k).1 = own) (hini : meth.name = "<init>") (hd0 : parseFieldDescriptor (T k).2.2.1 = some ty) (hn : narrow ty v = v) (hfit : fits ty v = true) (hA : A a) (hP : ∀ H, P H → va_at D cl_all (a, .inr (ci, fs)) H) (hl0 : k < fs.length) (hd : decode cc pc = .ok (.putfield index, 3)) (hP' : aw_Wr D P P' a (.inr (ci, fs.set k v))) (kk : AW p l e R s m args below meth c nL cells slots Q P' A (pc + 3) lv st) : AW p l e R s m args below meth c nL cells slots Q P A pc lv (v :: .ref a :: st) := fun H locs ls hPH hS hl => by
  have hts := C.2.2.2.2
  have hown := C.2.2.2.1
  have hap := va_apart (own := own) hts hin ty0 hty hnm hK hc
  obtain ⟨r, h1, cell, q1, q2, q3, q4⟩ := hP H hPH
  cases h1.symm.trans hc
  obtain ⟨hSl, hfc, kC, hkC, hkind⟩ := hK.1 ci _ hc
  obtain ⟨cf, kf, fi, f, hi, hsl⟩ := hSl k hk
  have hlay := hts _ (hin _ (u_in_lay hk))
  unfold u_lay at hlay
  rw [if_pos hfin] at hlay
  have hst := (u_facts hfc hkC (u_lays hts hin hk) hi).1
  have hcf : m.cls = cf := by
    obtain ⟨_, _, c', _, _, _, -, -, hf', -, -, -, hown2, -⟩ := Cond.laysFinal_spec hlay
    have e1 : c' = cf := by have := hi.symm.trans hf'; simp at this; exact this.1.symm
    rw [hdecl] at hown2
    rw [← e1]; exact Option.some.inj (hown.symm.trans hown2)
  have h6 := u_fits hfc hkC hkind (Or.inr hlay) hi hd0 hn hfit
  refine W.putFinK C.1 C.2.1 hown (hts _ hlink) hi hst hcf hini (by rw [q2]; exact h6) q1 q3 (by rw [hsl]; exact k2_hasslot (q4 k hk)) rfl rfl hd fun H' e1 e2 e3 => ?_
  rw [hsl] at e1 ⊢
  exact kk H' _ ls (hP' H H' hPH ⟨_, hc, t_OB.to (V := updV (vp_V fs) k v) ⟨_, e1, q2, q3, t_set q4 hap hk v⟩ (fun j _ => vp_updV_set hl0 v j)⟩ e2 e3) (hS.put e2 e3 hA) hl
theorem aw_iald (C : CallFix p m c cc nL s args tb_G own) (hK : va_K D cl_all tys s) (t0 : Nat) {cA : ClassId} {n : Nat} {f : Nat → Int32} {i : Int32} (ht : tys[t0]? = some (cA, .int)) (hP : ∀ H, P H → va_at D cl_all (a, .inl (cA, n, .inl f)) H) (hi : vp_in i n) (hd : decode cc pc = .ok (.iaload, 1)) (kk : AW p l e R s m args below meth c nL cells slots Q P A (pc + 1) lv (.int (f i.toNatClampNeg) :: st)) : AW p l e R s m args below meth c nL cells slots Q P A pc lv (.int i :: .ref a :: st) := fun H locs ls hPH hS hl => va_iald C.1 C.2.1 hK (aw_one (hP H hPH)) 0 t0 rfl ht hi hd (kk H locs ls hPH hS hl)
theorem aw_zald (C : CallFix p m c cc nL s args tb_G own) (hK : va_K D cl_all tys s) (t0 : Nat) {cA : ClassId} {n : Nat} {f : Nat → Int32} {i : Int32} (ht : tys[t0]? = some (cA, .boolean)) (hP : ∀ H, P H → va_at D cl_all (a, .inl (cA, n, .inl f)) H) (hi : vp_in i n) (hd : decode cc pc = .ok (.baload, 1)) (kk : AW p l e R s m args below meth c nL cells slots Q P A (pc + 1) lv (.int (f i.toNatClampNeg) :: st)) : AW p l e R s m args below meth c nL cells slots Q P A pc lv (.int i :: .ref a :: st) := fun H locs ls hPH hS hl => va_zald C.1 C.2.1 hK (aw_one (hP H hPH)) 0 t0 rfl ht hi hd (kk H locs ls hPH hS hl)
theorem aw_lald (C : CallFix p m c cc nL s args tb_G own) (hK : va_K D cl_all tys s) (t0 : Nat) {cA : ClassId} {n : Nat} {f : Nat → Int64} {i : Int32} (ht : tys[t0]? = some (cA, .long)) (hP : ∀ H, P H → va_at D cl_all (a, .inl (cA, n, .inr (.inl f))) H) (hi : vp_in i n) (hd : decode cc pc = .ok (.laload, 1)) (kk : AW p l e R s m args below meth c nL cells slots Q P A (pc + 1) lv (.long (f i.toNatClampNeg) :: st)) : AW p l e R s m args below meth c nL cells slots Q P A pc lv (.int i :: .ref a :: st) := fun H locs ls hPH hS hl => va_lald C.1 C.2.1 hK (aw_one (hP H hPH)) 0 t0 rfl ht hi hd (kk H locs ls hPH hS hl)
theorem aw_aald (C : CallFix p m c cc nL s args tb_G own) (hK : va_K D cl_all tys s) (t0 : Nat) {cA : ClassId} {Cn : String} {n : Nat} {f : Nat → Option Nat} {i : Int32} (ht : tys[t0]? = some (cA, .object Cn)) (hP : ∀ H, P H → va_at D cl_all (a, .inl (cA, n, .inr (.inr (.inr (.inr f))))) H) (hi : vp_in i n) (hd : decode cc pc = .ok (.aaload, 1)) (kk : AW p l e R s m args below meth c nL cells slots Q P A (pc + 1) lv (va_rf (f i.toNatClampNeg) :: st)) : AW p l e R s m args below meth c nL cells slots Q P A pc lv (.int i :: .ref a :: st) := fun H locs ls hPH hS hl => va_aldq C.1 C.2.1 hK (aw_one (hP H hPH)) 0 t0 rfl ht hi hd (kk H locs ls hPH hS hl)
theorem aw_alen (C : CallFix p m c cc nL s args tb_G own) (hK : va_K D cl_all tys s) (t0 : Nat) {cA : ClassId} {x : vp_A} {ty : FieldType} {v : Int32} (ht : tys[t0]? = some (cA, ty)) (hP : ∀ H, P H → va_at D cl_all (a, .inl (cA, x)) H) (hv : Int32.ofNat x.1 = v) (hd : decode cc pc = .ok (.arraylength, 1)) (kk : AW p l e R s m args below meth c nL cells slots Q P A (pc + 1) lv (.int v :: st)) : AW p l e R s m args below meth c nL cells slots Q P A pc lv (.ref a :: st) := fun H locs ls hPH hS hl => va_alen C.1 C.2.1 hK (aw_one (hP H hPH)) 0 t0 rfl ht hv hd (kk H locs ls hPH hS hl)
theorem aw_iast (C : CallFix p m c cc nL s args tb_G own) (hK : va_K D cl_all tys s) (t0 : Nat) {cA : ClassId} {n : Nat} {f : Nat → Int32} {i : Int32} {x : Int32} (ht : tys[t0]? = some (cA, .int)) (hA : A a) (hP : ∀ H, P H → va_at D cl_all (a, .inl (cA, n, .inl f)) H) (hi : vp_in i n) (hd : decode cc pc = .ok (.iastore, 1)) (hP' : aw_Wr D P P' a (.inl (cA, n, .inl (upd f i.toNatClampNeg x)))) (kk : AW p l e R s m args below meth c nL cells slots Q P' A (pc + 1) lv st) : AW p l e R s m args below meth c nL cells slots Q P A pc lv (.int x :: .int i :: .ref a :: st) := fun H locs ls hPH hS hl => by
  refine W.iast C.1 C.2.1 (hP H hPH) ((hK.2 t0 _ ht).1 n (fun j => .int (f j))) (fun q => by cases q) (by show ¬ (i < 0 ∨ (arrV _ _ _).slots.size ≤ _); rw [arrV_size]; exact hi) rfl rfl hd fun H1 e1 z oq => ?_
  refine kk H1 _ ls (hP' H H1 hPH ?_ z oq) (hS.put z oq hA) hl
  show H1[a]? = some (vp_cell _ _)
  rw [e1, vp_cell_i, vp_cell_i, arrV_store]
  congr 2
  funext q
  by_cases hq : q = i.toNatClampNeg
  · subst hq
    simp [updV, upd]
    try rfl
  · simp [updV, upd, hq]
theorem aw_zast (C : CallFix p m c cc nL s args tb_G own) (hK : va_K D cl_all tys s) (t0 : Nat) {cA : ClassId} {n : Nat} {f : Nat → Int32} {i : Int32} {x : Int32} (ht : tys[t0]? = some (cA, .boolean)) (hA : A a) (hP : ∀ H, P H → va_at D cl_all (a, .inl (cA, n, .inl f)) H) (hi : vp_in i n) (hd : decode cc pc = .ok (.bastore, 1)) (hP' : aw_Wr D P P' a (.inl (cA, n, .inl (upd f i.toNatClampNeg (vp_nar .boolean x))))) (kk : AW p l e R s m args below meth c nL cells slots Q P' A (pc + 1) lv st) : AW p l e R s m args below meth c nL cells slots Q P A pc lv (.int x :: .int i :: .ref a :: st) := fun H locs ls hPH hS hl => by
  refine W.zast C.1 C.2.1 (hP H hPH) ((hK.2 t0 _ ht).1 n (fun j => .int (f j))) (fun q => by cases q) (by show ¬ (i < 0 ∨ (arrV _ _ _).slots.size ≤ _); rw [arrV_size]; exact hi) rfl rfl hd fun H1 e1 z oq => ?_
  refine kk H1 _ ls (hP' H H1 hPH ?_ z oq) (hS.put z oq hA) hl
  show H1[a]? = some (vp_cell _ _)
  rw [e1, vp_cell_i, vp_cell_i, arrV_store]
  congr 2
  funext q
  by_cases hq : q = i.toNatClampNeg
  · subst hq
    simp [updV, upd, vp_nar]
    try rfl
  · simp [updV, upd, vp_nar, hq]
theorem aw_last (C : CallFix p m c cc nL s args tb_G own) (hK : va_K D cl_all tys s) (t0 : Nat) {cA : ClassId} {n : Nat} {f : Nat → Int64} {i : Int32} {x : Int64} (ht : tys[t0]? = some (cA, .long)) (hA : A a) (hP : ∀ H, P H → va_at D cl_all (a, .inl (cA, n, .inr (.inl f))) H) (hi : vp_in i n) (hd : decode cc pc = .ok (.lastore, 1)) (hP' : aw_Wr D P P' a (.inl (cA, n, .inr (.inl (vp_updL f i.toNatClampNeg x))))) (kk : AW p l e R s m args below meth c nL cells slots Q P' A (pc + 1) lv st) : AW p l e R s m args below meth c nL cells slots Q P A pc lv (.long x :: .int i :: .ref a :: st) := fun H locs ls hPH hS hl => by
  refine W.last C.1 C.2.1 (hP H hPH) ((hK.2 t0 _ ht).1 n (fun j => .long (f j))) (fun q => by cases q) (by show ¬ (i < 0 ∨ (arrV _ _ _).slots.size ≤ _); rw [arrV_size]; exact hi) rfl rfl hd fun H1 e1 z oq => ?_
  refine kk H1 _ ls (hP' H H1 hPH ?_ z oq) (hS.put z oq hA) hl
  show H1[a]? = some (vp_cell _ _)
  rw [e1, vp_cell_l, vp_cell_l, arrV_store]
  congr 2
  funext q
  by_cases hq : q = i.toNatClampNeg
  · subst hq
    simp [updV, vp_updL]
    try rfl
  · simp [updV, vp_updL, hq]
theorem aw_aast (C : CallFix p m c cc nL s args tb_G own) (hK : va_K D cl_all tys s) (t0 ci : Nat) {cA : ClassId} {r : vw_C} {n v : Nat} {vs : List Value} {f : Nat → Option Nat} {i : Int32} (ht : tys[t0]? = some (cA, .object r.1)) (hc : cl_all[ci]? = some r) (hA : A a) (hP : ∀ H, P H → va_at D cl_all (a, .inl (cA, n, .inr (.inr (.inr (.inr f))))) H) (hV : ∀ H, P H → va_at D cl_all (v, .inr (ci, vs)) H) (hi : vp_in i n) (hd : decode cc pc = .ok (.aastore, 1)) (hP' : aw_Wr D P P' a (.inl (cA, n, .inr (.inr (.inr (.inr (va_up f i.toNatClampNeg (some v)))))))) (kk : AW p l e R s m args below meth c nL cells slots Q P' A (pc + 1) lv st) : AW p l e R s m args below meth c nL cells slots Q P A pc lv (.ref v :: .int i :: .ref a :: st) := fun H locs ls hPH hS hl => by
  have hlt : i.toNatClampNeg < n := Nat.not_le.mp fun q => hi (Or.inr q)
  have h0 : ¬ i < 0 := fun q => hi (Or.inl q)
  obtain ⟨r', hr', cellV, g1, g2, g3, -⟩ := hV H hPH
  have hcls := (hK.1 ci r hc).2
  obtain ⟨kA, comp, k1, k2, k3, -⟩ := (hK.2 t0 _ ht).2
  have hcomp : comp = D.1 ci := Option.some.inj (k3.symm.trans hcls.1)
  subst hcomp
  obtain ⟨kC, hkC, -⟩ := hcls.2
  refine W.aast C.1 C.2.1 (hP H hPH) (fun q h => by cases h) (fun h => by cases h) k1 k2 rfl hkC ⟨h0, by show _ < (arrV _ _ _).slots.size; rw [arrV_size]; exact hlt⟩ g1 (fun q h => by rw [g3] at h; cases h) (by rw [g2]; exact hkC) (by rw [g2]; exact va_assign hcls) rfl rfl hd fun H1 e1 z oq => ?_
  refine kk H1 _ ls (hP' H H1 hPH ?_ z oq) (hS.put z oq hA) hl
  show H1[a]? = some (vp_cell _ _)
  rw [e1, vp_cell_q, vp_cell_q, arrV_store]
  congr 2
  funext q
  by_cases hq : q = i.toNatClampNeg
  · subst hq
    simp [updV, va_up, va_rf]
  · simp [updV, va_up, hq]
end AWH
/-! CONTRACTS: from any heap that holds P the method returns, its answer and the new state u have 'post', the heap holds B u, nothing old outside A has changed -/
def ct_A (A : Nat → Prop) (sz : Nat) : Nat → Prop := fun q => A q ∨ sz ≤ q
def ct_Pc (D : va_G) (tys : List (ClassId × FieldType)) (As : List Value) (P : Heap → Prop) (sz : Nat) : Array Value → State → Prop := va_Pc As (fun U => U.heap.size = sz ∧ va_K D cl_all tys U ∧ P U.heap)
def ct_ws (y : MethodName) (b : ByteArray) (maxL : Nat) (ret : Option FieldType) : List Cond := .code y b maxL ret :: tb_G
def Ct_i (l : Launch) (y : MethodName) (b : ByteArray) (maxL : Nat) (ret : Option FieldType) (rm : Room) (mc ms : Nat) (D : va_G) (tys : List (ClassId × FieldType)) (A : Nat → Prop) (As : List Value) (P : Heap → Prop) {S : Type} (post : Int32 → S → Prop) (B : S → Heap → Prop) : Prop := ∀ sz : Nat, Met l y (ct_ws y b maxL ret) rm (ct_Pc D tys As P sz) (va_Qi post (fun u t => B u t.heap) (ct_A A sz)) mc ms (ct_A A sz)
def Ct_l (l : Launch) (y : MethodName) (b : ByteArray) (maxL : Nat) (ret : Option FieldType) (rm : Room) (mc ms : Nat) (D : va_G) (tys : List (ClassId × FieldType)) (A : Nat → Prop) (As : List Value) (P : Heap → Prop) {S : Type} (post : Int64 → S → Prop) (B : S → Heap → Prop) : Prop := ∀ sz : Nat, Met l y (ct_ws y b maxL ret) rm (ct_Pc D tys As P sz) (va_Ql post (fun u t => B u t.heap) (ct_A A sz)) mc ms (ct_A A sz)
def Ct_v (l : Launch) (y : MethodName) (b : ByteArray) (maxL : Nat) (ret : Option FieldType) (rm : Room) (mc ms : Nat) (D : va_G) (tys : List (ClassId × FieldType)) (A : Nat → Prop) (As : List Value) (P : Heap → Prop) {S : Type} (post : S → Prop) (B : S → Heap → Prop) : Prop := ∀ sz : Nat, Met l y (ct_ws y b maxL ret) rm (ct_Pc D tys As P sz) (va_Qv post (fun u t => B u t.heap) (ct_A A sz)) mc ms (ct_A A sz)
def Ct_q (l : Launch) (y : MethodName) (b : ByteArray) (maxL : Nat) (ret : Option FieldType) (rm : Room) (mc ms : Nat) (D : va_G) (tys : List (ClassId × FieldType)) (A : Nat → Prop) (As : List Value) (P : Heap → Prop) {S : Type} (post : Option Nat → S → Prop) (B : S → Heap → Prop) : Prop := ∀ sz : Nat, Met l y (ct_ws y b maxL ret) rm (ct_Pc D tys As P sz) (va_Qq post (fun u t => B u t.heap) (ct_A A sz)) mc ms (ct_A A sz)
section CT
variable {p : Program} {l : Launch} {e : Env} {R : Room} {s : State} {m : MethodId} {args : Array Value} {below : List Frame} {meth : Method} {c : Code} {cc : ByteArray} {nL cells slots : Nat} {Q : State → Prop} {P P' : Heap → Prop} {A : Nat → Prop} {own : String} {pc : Nat} {lv lv' : List (Nat × Value)} {st : List Value} {D : va_G} {tys : List (ClassId × FieldType)} {a : Nat}
theorem ct_blind {D : va_G} {tys : List (ClassId × FieldType)} {As : List Value} {P : Heap → Prop} {sz : Nat} : FrameBlind (ct_Pc D tys As P sz) := fun a U g mk q => by
  obtain ⟨q0, q1, qK, qP⟩ := q
  exact ⟨q0, q1, va_K.moved (u := U) (U := U.calling g mk a) (Vm.Alike.refl U.vm) qK, qP⟩
/-- a contract by a walk -/
theorem ct_of {y : MethodName} {b : ByteArray} {maxL : Nat} {ret : Option FieldType} {rm : Room} {mc ms : Nat} {As : List Value} {Qc : Array Value → State → Outcome → State → Prop} {sz : Nat} (hy : plainName y.cls = true) (hAs : (lg_sl As).length ≤ maxL)
    (body : ∀ (p : Program) (e : Env) (s : State) (m : MethodId) (args : Array Value) (below : List Frame) (meth : Method) (c : Code), s.heap.size = sz → CallFix p m c b maxL s args tb_G y.cls → meth.sig.returnType = ret → meth.locks = false → meth.name = y.name → va_K D cl_all tys s →
      AW p l e rm s m args below meth c maxL 0 0 (MQ below Qc args s mc ms (ct_A A sz)) P (ct_A A sz) 0 (lv_args 0 As) []) :
    Met l y (ct_ws y b maxL ret) rm (ct_Pc D tys As P sz) Qc mc ms (ct_A A sz) := by
  refine Met.ofW (cc := b) (maxL := maxL) (ret := ret) hy rfl ?_
  intro p e s m args below meth c s₁ B hml hv
  obtain ⟨rfl, hsz, hK, hP⟩ := hv
  have hts := atoms_spec (ws := ct_ws y b maxL ret) B.pre
  have hown : s.vm.findClass y.cls = some m.cls := findClass_of_methodNamed B.named
  have hnm : meth.name = y.name := (name_of_methodNamed B.named B.method).1
  rw [lg_entry_eq]
  exact body p e s m _ below meth c hsz ⟨B.exec, B.bytes, hml, hown, fun w hw => hts w (List.mem_cons_of_mem _ hw)⟩ B.returns B.notSynchronized hnm hK s.heap [] _ hP va_S.rf (lv_entry As hAs)
theorem aw_iret {S : Type} {post : Int32 → S → Prop} {B : S → Heap → Prop} {v : Int32} (C : CallFix p m c cc nL s args tb_G own) (hr : meth.sig.returnType = some .int) (hlk : meth.locks = false) (u : S) (hp : post v u) (hB : ∀ H, P H → B u H) (hd : decode cc pc = .ok (.ireturn, 1)) : AW p l e R s m args below meth c nL cells slots (MQ below (va_Qi post (fun u t => B u t.heap) A) args s cells slots A) P A pc lv [.int v] := fun H locs ls hP hS hl => W.iret C.1 C.2.1 hr (fun t ht hW => ⟨⟨v, u, rfl, hp, by show B u t.heap; rw [ht]; exact hB H hP⟩, hS.F ht⟩) hS.2.2 hd hlk
theorem aw_zret {S : Type} {post : Int32 → S → Prop} {B : S → Heap → Prop} {v : Int32} (C : CallFix p m c cc nL s args tb_G own) (hr : meth.sig.returnType = some .boolean) (hlk : meth.locks = false) (hn : narrow .boolean (.int v) = .int v) (u : S) (hp : post v u) (hB : ∀ H, P H → B u H) (hd : decode cc pc = .ok (.ireturn, 1)) : AW p l e R s m args below meth c nL cells slots (MQ below (va_Qi post (fun u t => B u t.heap) A) args s cells slots A) P A pc lv [.int v] := fun H locs ls hP hS hl => W.zret C.1 C.2.1 hr hn (fun t ht hW => ⟨⟨v, u, rfl, hp, by show B u t.heap; rw [ht]; exact hB H hP⟩, hS.F ht⟩) hS.2.2 hd hlk
theorem aw_lret {S : Type} {post : Int64 → S → Prop} {B : S → Heap → Prop} {v : Int64} (C : CallFix p m c cc nL s args tb_G own) (hr : meth.sig.returnType = some .long) (hlk : meth.locks = false) (u : S) (hp : post v u) (hB : ∀ H, P H → B u H) (hd : decode cc pc = .ok (.lreturn, 1)) : AW p l e R s m args below meth c nL cells slots (MQ below (va_Ql post (fun u t => B u t.heap) A) args s cells slots A) P A pc lv [.long v] := fun H locs ls hP hS hl => W.lret C.1 C.2.1 hr (fun t ht hW => ⟨⟨v, u, rfl, hp, by show B u t.heap; rw [ht]; exact hB H hP⟩, hS.F ht⟩) hS.2.2 hd hlk
theorem aw_vret {S : Type} {post : S → Prop} {B : S → Heap → Prop} (C : CallFix p m c cc nL s args tb_G own) (hr : meth.sig.returnType = none) (hlk : meth.locks = false) (u : S) (hp : post u) (hB : ∀ H, P H → B u H) (hd : decode cc pc = .ok (.return_, 1)) : AW p l e R s m args below meth c nL cells slots (MQ below (va_Qv post (fun u t => B u t.heap) A) args s cells slots A) P A pc lv [] := fun H locs ls hP hS hl => W.vret C.1 C.2.1 hr (fun t ht hW => ⟨⟨u, rfl, hp, by show B u t.heap; rw [ht]; exact hB H hP⟩, hS.F ht⟩) hS.2.2 hd hlk
theorem aw_qret {S : Type} {post : Option Nat → S → Prop} {B : S → Heap → Prop} {v : Option Nat} {n : String} (C : CallFix p m c cc nL s args tb_G own) (hr : meth.sig.returnType = some (.object n)) (hlk : meth.locks = false) (u : S) (hp : post v u) (hB : ∀ H, P H → B u H) (hd : decode cc pc = .ok (.areturn, 1)) : AW p l e R s m args below meth c nL cells slots (MQ below (va_Qq post (fun u t => B u t.heap) A) args s cells slots A) P A pc lv [va_rf v] := fun H locs ls hP hS hl => W.aret C.1 C.2.1 hr (Or.inl ⟨n, rfl⟩) (by cases v with | none => exact Or.inl rfl | some x => exact Or.inr ⟨x, rfl⟩) (fun t ht hW => ⟨⟨v, u, rfl, hp, by show B u t.heap; rw [ht]; exact hB H hP⟩, hS.F ht⟩) hS.2.2 hd hlk
theorem aw_recv {H : Heap} {Cn : String} {T : u_T} {N ci : Nat} {fs : List Value} (hK : va_K D cl_all tys s) (hc : cl_all[ci]? = some (Cn, T, N)) (h : va_at D cl_all (a, .inr (ci, fs)) H) : ∃ cell : Cell, H[a]? = some cell ∧ cell.vm.isStatics = false ∧ s.vm.findClass Cn = some cell.cls := va_recv hK (aw_one h) hc (q0 := 0) rfl
theorem aw_callVi {S : Type} {post : Int32 → S → Prop} {B : S → Heap → Prop} {P2 : Heap → Prop} {P9 : Int32 → S → Heap → Prop} {A2 : Nat → Prop} {y : MethodName} {b2 : ByteArray} {mL2 mc ms n index : Nat} {ret2 : Option FieldType} {rm2 : Room} {Cn : String} {stk : List Value} (As : List Value) (C : CallFix p m c cc nL s args tb_G own) (hK : va_K D cl_all tys s) (hc : Ct_i l y b2 mL2 ret2 rm2 mc ms D tys A2 (.ref a :: As) P2 post B) (cw : CallW R s args own Cn index y b2 mL2 ret2 (ct_ws y b2 mL2 ret2) rm2 mc ms n) (hn : As.length = n) (hrecv : ∀ H, P H → ∃ cell : Cell, H[a]? = some cell ∧ cell.vm.isStatics = false ∧ s.vm.findClass Cn = some cell.cls) (hpre : ∀ H, P H → P2 H) (hA : ∀ q, A2 q → A q) (hAs : ∀ q, s.heap.size ≤ q → A q) (hst : stk = As.reverse ++ .ref a :: st) (hroom : (st.map fun v => v.category).sum ≤ 8) (hd : decode cc pc = .ok (.invokevirtual index, 3)) (hcs : cells + mc ≤ R.cells ∧ slots + ms ≤ R.slots)
    (hP9 : ∀ (H H1 : Heap) (r : Int32) (u : S), P H → post r u → B u H1 → H.size ≤ H1.size → (∀ q : Nat, q < H.size → ¬ A2 q → H1[q]? = H[q]?) → P9 r u H1) (kk : ∀ (r : Int32) (u : S), post r u → AW p l e R s m args below meth c nL (cells + mc) (slots + ms) Q (P9 r u) A (pc + 3) lv (.int r :: st)) : AW p l e R s m args below meth c nL cells slots Q P A pc lv stk := fun H locs ls hPH hS hl => by
  have hz := hS.1
  refine va_calli (A1 := ct_A A2 H.size) (va_runV (g := F0 m pc ls stk) (As := As) (rest := st) C (hc H.size) cw ⟨ct_blind, hrecv H hPH, fun U hU hW => ⟨rfl, by rw [hU], va_K.moved hW.alike hK, by rw [hU]; exact hpre H hPH⟩⟩ rfl hn hl.1 hst (lv_room hroom) hd hcs) hS (fun q _ h => h.elim (hA q) (fun h => hAs q (Nat.le_trans hz h))) (fun q h => h.elim (hA q) (fun h => hAs q (Nat.le_trans hz h))) (fun r u t H1 locs1 ht hvm hw hB hz1 hk1 hS1 => ?_)
  rw [ht] at hB
  exact kk r u hw H1 locs1 ls (hP9 H H1 r u hPH hw hB hz1 (fun q h1 h2 => hk1 q h1 (fun h => h.elim h2 (fun h => absurd h1 (Nat.not_lt.mpr h))))) hS1 hl
theorem aw_callSi {S : Type} {post : Int32 → S → Prop} {B : S → Heap → Prop} {P2 : Heap → Prop} {P9 : Int32 → S → Heap → Prop} {A2 : Nat → Prop} {y : MethodName} {b2 : ByteArray} {mL2 mc ms n index : Nat} {ret2 : Option FieldType} {rm2 : Room} {Cn : String} {stk : List Value} (As : List Value) (C : CallFix p m c cc nL s args tb_G own) (hK : va_K D cl_all tys s) (hc : Ct_i l y b2 mL2 ret2 rm2 mc ms D tys A2 As P2 post B) (cw : CallB R s args own index y b2 mL2 ret2 (ct_ws y b2 mL2 ret2) rm2 mc ms n ∧ (Cond.static y).before args s = true) (hn : As.length = n)  (hpre : ∀ H, P H → P2 H) (hA : ∀ q, A2 q → A q) (hAs : ∀ q, s.heap.size ≤ q → A q) (hst : stk = As.reverse ++ st) (hroom : (st.map fun v => v.category).sum ≤ 8) (hd : decode cc pc = .ok (.invokestatic index, 3)) (hcs : cells + mc ≤ R.cells ∧ slots + ms ≤ R.slots)
    (hP9 : ∀ (H H1 : Heap) (r : Int32) (u : S), P H → post r u → B u H1 → H.size ≤ H1.size → (∀ q : Nat, q < H.size → ¬ A2 q → H1[q]? = H[q]?) → P9 r u H1) (kk : ∀ (r : Int32) (u : S), post r u → AW p l e R s m args below meth c nL (cells + mc) (slots + ms) Q (P9 r u) A (pc + 3) lv (.int r :: st)) : AW p l e R s m args below meth c nL cells slots Q P A pc lv stk := fun H locs ls hPH hS hl => by
  have hz := hS.1
  refine va_calli (A1 := ct_A A2 H.size) (va_runS (g := F0 m pc ls stk) (As := As) (rest := st) C (hc H.size) cw ⟨ct_blind, fun U hU hW => ⟨rfl, by rw [hU], va_K.moved hW.alike hK, by rw [hU]; exact hpre H hPH⟩⟩ rfl hn hl.1 hst (lv_room hroom) hd hcs) hS (fun q _ h => h.elim (hA q) (fun h => hAs q (Nat.le_trans hz h))) (fun q h => h.elim (hA q) (fun h => hAs q (Nat.le_trans hz h))) (fun r u t H1 locs1 ht hvm hw hB hz1 hk1 hS1 => ?_)
  rw [ht] at hB
  exact kk r u hw H1 locs1 ls (hP9 H H1 r u hPH hw hB hz1 (fun q h1 h2 => hk1 q h1 (fun h => h.elim h2 (fun h => absurd h1 (Nat.not_lt.mpr h))))) hS1 hl
theorem aw_callVl {S : Type} {post : Int64 → S → Prop} {B : S → Heap → Prop} {P2 : Heap → Prop} {P9 : Int64 → S → Heap → Prop} {A2 : Nat → Prop} {y : MethodName} {b2 : ByteArray} {mL2 mc ms n index : Nat} {ret2 : Option FieldType} {rm2 : Room} {Cn : String} {stk : List Value} (As : List Value) (C : CallFix p m c cc nL s args tb_G own) (hK : va_K D cl_all tys s) (hc : Ct_l l y b2 mL2 ret2 rm2 mc ms D tys A2 (.ref a :: As) P2 post B) (cw : CallW R s args own Cn index y b2 mL2 ret2 (ct_ws y b2 mL2 ret2) rm2 mc ms n) (hn : As.length = n) (hrecv : ∀ H, P H → ∃ cell : Cell, H[a]? = some cell ∧ cell.vm.isStatics = false ∧ s.vm.findClass Cn = some cell.cls) (hpre : ∀ H, P H → P2 H) (hA : ∀ q, A2 q → A q) (hAs : ∀ q, s.heap.size ≤ q → A q) (hst : stk = As.reverse ++ .ref a :: st) (hroom : (st.map fun v => v.category).sum ≤ 8) (hd : decode cc pc = .ok (.invokevirtual index, 3)) (hcs : cells + mc ≤ R.cells ∧ slots + ms ≤ R.slots)
    (hP9 : ∀ (H H1 : Heap) (r : Int64) (u : S), P H → post r u → B u H1 → H.size ≤ H1.size → (∀ q : Nat, q < H.size → ¬ A2 q → H1[q]? = H[q]?) → P9 r u H1) (kk : ∀ (r : Int64) (u : S), post r u → AW p l e R s m args below meth c nL (cells + mc) (slots + ms) Q (P9 r u) A (pc + 3) lv (.long r :: st)) : AW p l e R s m args below meth c nL cells slots Q P A pc lv stk := fun H locs ls hPH hS hl => by
  have hz := hS.1
  refine va_calll (A1 := ct_A A2 H.size) (va_runV (g := F0 m pc ls stk) (As := As) (rest := st) C (hc H.size) cw ⟨ct_blind, hrecv H hPH, fun U hU hW => ⟨rfl, by rw [hU], va_K.moved hW.alike hK, by rw [hU]; exact hpre H hPH⟩⟩ rfl hn hl.1 hst (lv_room hroom) hd hcs) hS (fun q _ h => h.elim (hA q) (fun h => hAs q (Nat.le_trans hz h))) (fun q h => h.elim (hA q) (fun h => hAs q (Nat.le_trans hz h))) (fun r u t H1 locs1 ht hvm hw hB hz1 hk1 hS1 => ?_)
  rw [ht] at hB
  exact kk r u hw H1 locs1 ls (hP9 H H1 r u hPH hw hB hz1 (fun q h1 h2 => hk1 q h1 (fun h => h.elim h2 (fun h => absurd h1 (Nat.not_lt.mpr h))))) hS1 hl
theorem aw_callSl {S : Type} {post : Int64 → S → Prop} {B : S → Heap → Prop} {P2 : Heap → Prop} {P9 : Int64 → S → Heap → Prop} {A2 : Nat → Prop} {y : MethodName} {b2 : ByteArray} {mL2 mc ms n index : Nat} {ret2 : Option FieldType} {rm2 : Room} {Cn : String} {stk : List Value} (As : List Value) (C : CallFix p m c cc nL s args tb_G own) (hK : va_K D cl_all tys s) (hc : Ct_l l y b2 mL2 ret2 rm2 mc ms D tys A2 As P2 post B) (cw : CallB R s args own index y b2 mL2 ret2 (ct_ws y b2 mL2 ret2) rm2 mc ms n ∧ (Cond.static y).before args s = true) (hn : As.length = n)  (hpre : ∀ H, P H → P2 H) (hA : ∀ q, A2 q → A q) (hAs : ∀ q, s.heap.size ≤ q → A q) (hst : stk = As.reverse ++ st) (hroom : (st.map fun v => v.category).sum ≤ 8) (hd : decode cc pc = .ok (.invokestatic index, 3)) (hcs : cells + mc ≤ R.cells ∧ slots + ms ≤ R.slots)
    (hP9 : ∀ (H H1 : Heap) (r : Int64) (u : S), P H → post r u → B u H1 → H.size ≤ H1.size → (∀ q : Nat, q < H.size → ¬ A2 q → H1[q]? = H[q]?) → P9 r u H1) (kk : ∀ (r : Int64) (u : S), post r u → AW p l e R s m args below meth c nL (cells + mc) (slots + ms) Q (P9 r u) A (pc + 3) lv (.long r :: st)) : AW p l e R s m args below meth c nL cells slots Q P A pc lv stk := fun H locs ls hPH hS hl => by
  have hz := hS.1
  refine va_calll (A1 := ct_A A2 H.size) (va_runS (g := F0 m pc ls stk) (As := As) (rest := st) C (hc H.size) cw ⟨ct_blind, fun U hU hW => ⟨rfl, by rw [hU], va_K.moved hW.alike hK, by rw [hU]; exact hpre H hPH⟩⟩ rfl hn hl.1 hst (lv_room hroom) hd hcs) hS (fun q _ h => h.elim (hA q) (fun h => hAs q (Nat.le_trans hz h))) (fun q h => h.elim (hA q) (fun h => hAs q (Nat.le_trans hz h))) (fun r u t H1 locs1 ht hvm hw hB hz1 hk1 hS1 => ?_)
  rw [ht] at hB
  exact kk r u hw H1 locs1 ls (hP9 H H1 r u hPH hw hB hz1 (fun q h1 h2 => hk1 q h1 (fun h => h.elim h2 (fun h => absurd h1 (Nat.not_lt.mpr h))))) hS1 hl
theorem aw_callVv {S : Type} {post : S → Prop} {B : S → Heap → Prop} {P2 : Heap → Prop} {P9 : S → Heap → Prop} {A2 : Nat → Prop} {y : MethodName} {b2 : ByteArray} {mL2 mc ms n index : Nat} {ret2 : Option FieldType} {rm2 : Room} {Cn : String} {stk : List Value} (As : List Value) (C : CallFix p m c cc nL s args tb_G own) (hK : va_K D cl_all tys s) (hc : Ct_v l y b2 mL2 ret2 rm2 mc ms D tys A2 (.ref a :: As) P2 post B) (cw : CallW R s args own Cn index y b2 mL2 ret2 (ct_ws y b2 mL2 ret2) rm2 mc ms n) (hn : As.length = n) (hrecv : ∀ H, P H → ∃ cell : Cell, H[a]? = some cell ∧ cell.vm.isStatics = false ∧ s.vm.findClass Cn = some cell.cls) (hpre : ∀ H, P H → P2 H) (hA : ∀ q, A2 q → A q) (hAs : ∀ q, s.heap.size ≤ q → A q) (hst : stk = As.reverse ++ .ref a :: st) (hroom : (st.map fun v => v.category).sum ≤ 8) (hd : decode cc pc = .ok (.invokevirtual index, 3)) (hcs : cells + mc ≤ R.cells ∧ slots + ms ≤ R.slots)
    (hP9 : ∀ (H H1 : Heap) (u : S), P H → post u → B u H1 → H.size ≤ H1.size → (∀ q : Nat, q < H.size → ¬ A2 q → H1[q]? = H[q]?) → P9 u H1) (kk : ∀ (u : S), post u → AW p l e R s m args below meth c nL (cells + mc) (slots + ms) Q (P9 u) A (pc + 3) lv (st)) : AW p l e R s m args below meth c nL cells slots Q P A pc lv stk := fun H locs ls hPH hS hl => by
  have hz := hS.1
  refine va_callv (A1 := ct_A A2 H.size) (va_runV (g := F0 m pc ls stk) (As := As) (rest := st) C (hc H.size) cw ⟨ct_blind, hrecv H hPH, fun U hU hW => ⟨rfl, by rw [hU], va_K.moved hW.alike hK, by rw [hU]; exact hpre H hPH⟩⟩ rfl hn hl.1 hst (lv_room hroom) hd hcs) hS (fun q _ h => h.elim (hA q) (fun h => hAs q (Nat.le_trans hz h))) (fun q h => h.elim (hA q) (fun h => hAs q (Nat.le_trans hz h))) (fun u t H1 locs1 ht hvm hw hB hz1 hk1 hS1 => ?_)
  rw [ht] at hB
  exact kk u hw H1 locs1 ls (hP9 H H1 u hPH hw hB hz1 (fun q h1 h2 => hk1 q h1 (fun h => h.elim h2 (fun h => absurd h1 (Nat.not_lt.mpr h))))) hS1 hl
theorem aw_callSv {S : Type} {post : S → Prop} {B : S → Heap → Prop} {P2 : Heap → Prop} {P9 : S → Heap → Prop} {A2 : Nat → Prop} {y : MethodName} {b2 : ByteArray} {mL2 mc ms n index : Nat} {ret2 : Option FieldType} {rm2 : Room} {Cn : String} {stk : List Value} (As : List Value) (C : CallFix p m c cc nL s args tb_G own) (hK : va_K D cl_all tys s) (hc : Ct_v l y b2 mL2 ret2 rm2 mc ms D tys A2 As P2 post B) (cw : CallB R s args own index y b2 mL2 ret2 (ct_ws y b2 mL2 ret2) rm2 mc ms n ∧ (Cond.static y).before args s = true) (hn : As.length = n)  (hpre : ∀ H, P H → P2 H) (hA : ∀ q, A2 q → A q) (hAs : ∀ q, s.heap.size ≤ q → A q) (hst : stk = As.reverse ++ st) (hroom : (st.map fun v => v.category).sum ≤ 8) (hd : decode cc pc = .ok (.invokestatic index, 3)) (hcs : cells + mc ≤ R.cells ∧ slots + ms ≤ R.slots)
    (hP9 : ∀ (H H1 : Heap) (u : S), P H → post u → B u H1 → H.size ≤ H1.size → (∀ q : Nat, q < H.size → ¬ A2 q → H1[q]? = H[q]?) → P9 u H1) (kk : ∀ (u : S), post u → AW p l e R s m args below meth c nL (cells + mc) (slots + ms) Q (P9 u) A (pc + 3) lv (st)) : AW p l e R s m args below meth c nL cells slots Q P A pc lv stk := fun H locs ls hPH hS hl => by
  have hz := hS.1
  refine va_callv (A1 := ct_A A2 H.size) (va_runS (g := F0 m pc ls stk) (As := As) (rest := st) C (hc H.size) cw ⟨ct_blind, fun U hU hW => ⟨rfl, by rw [hU], va_K.moved hW.alike hK, by rw [hU]; exact hpre H hPH⟩⟩ rfl hn hl.1 hst (lv_room hroom) hd hcs) hS (fun q _ h => h.elim (hA q) (fun h => hAs q (Nat.le_trans hz h))) (fun q h => h.elim (hA q) (fun h => hAs q (Nat.le_trans hz h))) (fun u t H1 locs1 ht hvm hw hB hz1 hk1 hS1 => ?_)
  rw [ht] at hB
  exact kk u hw H1 locs1 ls (hP9 H H1 u hPH hw hB hz1 (fun q h1 h2 => hk1 q h1 (fun h => h.elim h2 (fun h => absurd h1 (Nat.not_lt.mpr h))))) hS1 hl
theorem aw_callIv {S : Type} {post : S → Prop} {B : S → Heap → Prop} {P2 : Heap → Prop} {P9 : S → Heap → Prop} {A2 : Nat → Prop} {y : MethodName} {b2 : ByteArray} {mL2 mc ms n index : Nat} {ret2 : Option FieldType} {rm2 : Room} {Cn : String} {stk : List Value} (As : List Value) (C : CallFix p m c cc nL s args tb_G own) (hK : va_K D cl_all tys s) (hc : Ct_v l y b2 mL2 none rm2 mc ms D tys A2 (.ref a :: As) P2 post B) (cw : CallB R s args own index y b2 mL2 none (ct_ws y b2 mL2 none) rm2 mc ms n ∧ y.name = "<init>" ∧ (Cond.instanceMethod y).before args s = true) (hn : As.length = n)  (hpre : ∀ H, P H → P2 H) (hA : ∀ q, A2 q → A q) (hAs : ∀ q, s.heap.size ≤ q → A q) (hst : stk = As.reverse ++ .ref a :: st) (hroom : (st.map fun v => v.category).sum ≤ 8) (hd : decode cc pc = .ok (.invokespecial index, 3)) (hcs : cells + mc ≤ R.cells ∧ slots + ms ≤ R.slots)
    (hP9 : ∀ (H H1 : Heap) (u : S), P H → post u → B u H1 → H.size ≤ H1.size → (∀ q : Nat, q < H.size → ¬ A2 q → H1[q]? = H[q]?) → P9 u H1) (kk : ∀ (u : S), post u → AW p l e R s m args below meth c nL (cells + mc) (slots + ms) Q (P9 u) A (pc + 3) lv (st)) : AW p l e R s m args below meth c nL cells slots Q P A pc lv stk := fun H locs ls hPH hS hl => by
  have hz := hS.1
  refine va_callv (A1 := ct_A A2 H.size) (va_runI (g := F0 m pc ls stk) (As := As) (rest := st) C (hc H.size) cw ⟨ct_blind, fun U hU hW => ⟨rfl, by rw [hU], va_K.moved hW.alike hK, by rw [hU]; exact hpre H hPH⟩⟩ rfl hn hl.1 hst (lv_room hroom) hd hcs) hS (fun q _ h => h.elim (hA q) (fun h => hAs q (Nat.le_trans hz h))) (fun q h => h.elim (hA q) (fun h => hAs q (Nat.le_trans hz h))) (fun u t H1 locs1 ht hvm hw hB hz1 hk1 hS1 => ?_)
  rw [ht] at hB
  exact kk u hw H1 locs1 ls (hP9 H H1 u hPH hw hB hz1 (fun q h1 h2 => hk1 q h1 (fun h => h.elim h2 (fun h => absurd h1 (Nat.not_lt.mpr h))))) hS1 hl
theorem aw_callVq {S : Type} {post : Option Nat → S → Prop} {B : S → Heap → Prop} {P2 : Heap → Prop} {P9 : Option Nat → S → Heap → Prop} {A2 : Nat → Prop} {y : MethodName} {b2 : ByteArray} {mL2 mc ms n index : Nat} {ret2 : Option FieldType} {rm2 : Room} {Cn : String} {stk : List Value} (As : List Value) (C : CallFix p m c cc nL s args tb_G own) (hK : va_K D cl_all tys s) (hc : Ct_q l y b2 mL2 ret2 rm2 mc ms D tys A2 (.ref a :: As) P2 post B) (cw : CallW R s args own Cn index y b2 mL2 ret2 (ct_ws y b2 mL2 ret2) rm2 mc ms n) (hn : As.length = n) (hrecv : ∀ H, P H → ∃ cell : Cell, H[a]? = some cell ∧ cell.vm.isStatics = false ∧ s.vm.findClass Cn = some cell.cls) (hpre : ∀ H, P H → P2 H) (hA : ∀ q, A2 q → A q) (hAs : ∀ q, s.heap.size ≤ q → A q) (hst : stk = As.reverse ++ .ref a :: st) (hroom : (st.map fun v => v.category).sum ≤ 8) (hd : decode cc pc = .ok (.invokevirtual index, 3)) (hcs : cells + mc ≤ R.cells ∧ slots + ms ≤ R.slots)
    (hP9 : ∀ (H H1 : Heap) (r : Option Nat) (u : S), P H → post r u → B u H1 → H.size ≤ H1.size → (∀ q : Nat, q < H.size → ¬ A2 q → H1[q]? = H[q]?) → P9 r u H1) (kk : ∀ (r : Option Nat) (u : S), post r u → AW p l e R s m args below meth c nL (cells + mc) (slots + ms) Q (P9 r u) A (pc + 3) lv (va_rf r :: st)) : AW p l e R s m args below meth c nL cells slots Q P A pc lv stk := fun H locs ls hPH hS hl => by
  have hz := hS.1
  refine va_callq (A1 := ct_A A2 H.size) (va_runV (g := F0 m pc ls stk) (As := As) (rest := st) C (hc H.size) cw ⟨ct_blind, hrecv H hPH, fun U hU hW => ⟨rfl, by rw [hU], va_K.moved hW.alike hK, by rw [hU]; exact hpre H hPH⟩⟩ rfl hn hl.1 hst (lv_room hroom) hd hcs) hS (fun q _ h => h.elim (hA q) (fun h => hAs q (Nat.le_trans hz h))) (fun q h => h.elim (hA q) (fun h => hAs q (Nat.le_trans hz h))) (fun r u t H1 locs1 ht hvm hw hB hz1 hk1 hS1 => ?_)
  rw [ht] at hB
  exact kk r u hw H1 locs1 ls (hP9 H H1 r u hPH hw hB hz1 (fun q h1 h2 => hk1 q h1 (fun h => h.elim h2 (fun h => absurd h1 (Nat.not_lt.mpr h))))) hS1 hl
theorem aw_callSq {S : Type} {post : Option Nat → S → Prop} {B : S → Heap → Prop} {P2 : Heap → Prop} {P9 : Option Nat → S → Heap → Prop} {A2 : Nat → Prop} {y : MethodName} {b2 : ByteArray} {mL2 mc ms n index : Nat} {ret2 : Option FieldType} {rm2 : Room} {Cn : String} {stk : List Value} (As : List Value) (C : CallFix p m c cc nL s args tb_G own) (hK : va_K D cl_all tys s) (hc : Ct_q l y b2 mL2 ret2 rm2 mc ms D tys A2 As P2 post B) (cw : CallB R s args own index y b2 mL2 ret2 (ct_ws y b2 mL2 ret2) rm2 mc ms n ∧ (Cond.static y).before args s = true) (hn : As.length = n)  (hpre : ∀ H, P H → P2 H) (hA : ∀ q, A2 q → A q) (hAs : ∀ q, s.heap.size ≤ q → A q) (hst : stk = As.reverse ++ st) (hroom : (st.map fun v => v.category).sum ≤ 8) (hd : decode cc pc = .ok (.invokestatic index, 3)) (hcs : cells + mc ≤ R.cells ∧ slots + ms ≤ R.slots)
    (hP9 : ∀ (H H1 : Heap) (r : Option Nat) (u : S), P H → post r u → B u H1 → H.size ≤ H1.size → (∀ q : Nat, q < H.size → ¬ A2 q → H1[q]? = H[q]?) → P9 r u H1) (kk : ∀ (r : Option Nat) (u : S), post r u → AW p l e R s m args below meth c nL (cells + mc) (slots + ms) Q (P9 r u) A (pc + 3) lv (va_rf r :: st)) : AW p l e R s m args below meth c nL cells slots Q P A pc lv stk := fun H locs ls hPH hS hl => by
  have hz := hS.1
  refine va_callq (A1 := ct_A A2 H.size) (va_runS (g := F0 m pc ls stk) (As := As) (rest := st) C (hc H.size) cw ⟨ct_blind, fun U hU hW => ⟨rfl, by rw [hU], va_K.moved hW.alike hK, by rw [hU]; exact hpre H hPH⟩⟩ rfl hn hl.1 hst (lv_room hroom) hd hcs) hS (fun q _ h => h.elim (hA q) (fun h => hAs q (Nat.le_trans hz h))) (fun q h => h.elim (hA q) (fun h => hAs q (Nat.le_trans hz h))) (fun r u t H1 locs1 ht hvm hw hB hz1 hk1 hS1 => ?_)
  rw [ht] at hB
  exact kk r u hw H1 locs1 ls (hP9 H H1 r u hPH hw hB hz1 (fun q h1 h2 => hk1 q h1 (fun h => h.elim h2 (fun h => absurd h1 (Nat.not_lt.mpr h))))) hS1 hl
end CT
end
section
/-! THROWING (launches without stack traces): contracts of methods that throw; a call that throws changes nothing that was there -/
def th_up : List String := ["java/lang/RuntimeException", "java/lang/Exception"]
def th_w : Cond → Bool
  | .declares _ => true
  | .castable .. => true
  | _ => false
def th_ws : List Cond := lw_tbl.filter th_w
/-- a static of Throwable's that is laid, and holds a reference or null -/
def th_S (n d : String) (U : State) : Prop := (Cond.laysStatic Bundle.tN n d).before #[] U = true ∧ (Cond.isRef (.static Bundle.tN n d)).before #[] U = true
/-- what a state must have so that exceptions can be made -/
def th_Z (U : State) : Prop := (∀ w ∈ th_ws, va_Nw w U) ∧ (∀ (own : String) (k : Nat) (tx : String), (Cond.stringRef own k tx) ∈ lw_tbl → ∃ a, vk_R own k tx a U) ∧ th_S "UNASSIGNED_STACK" Bundle.steD U ∧ th_S "SUPPRESSED_SENTINEL" Bundle.listD U ∧ (Cond.initialized Bundle.tN).before #[] U = true
theorem th_isRef {C n d : String} {v : Value} {A : Nat → Prop} {s : State} (h : va_Z C n d v A s s.heap) (hv : v = .null ∨ ∃ t, v = .ref t) : (Cond.isRef (.static C n d)).before #[] s = true := by
  obtain ⟨cf, kf, fi, f, a, cell, h1, h2, -, h4, h5, h6, h7, -⟩ := h
  have he : (Term.static C n d).eval #[] s none [] s = some v := by simp [Term.eval, State.fieldNamed?, h1, h2, h4, h5, h6, h7]
  simp only [Cond.before, Cond.holds, Cond.value, he]
  rcases hv with rfl | ⟨t, rfl⟩ <;> simp
theorem th_S.up {n d : String} {s U : State} (hW : s.WarmedH U.vm) (hini : (Cond.initialized Bundle.tN).before #[] s = true) (hq : ∀ q : Nat, q < s.heap.size → U.heap[q]? = s.heap[q]?) (h : th_S n d s) : th_S n d U := by
  obtain ⟨h1, h2⟩ := h
  refine ⟨?_, ?_⟩
  · obtain ⟨c, k, i, f, a, cell, g1, g2, g3, g4, g5, g6, g7, g8, g9⟩ := Cond.laysStatic_spec h1
    obtain ⟨k', hi', he⟩ := State.fieldFound?_setVm hW.alike g2
    exact Cond.laysStatic_of (by rw [hW.alike.findClass]; exact g1) hi' g3 (by rw [he]; exact g4) (by rw [hq a (Array.getElem?_eq_some_iff.mp g5).1]; exact g5) g6 g7 g8 (by rw [he]; exact g9)
  · have hz := va_Zqof (A := fun _ => False) h1 hini h2 (fun _ _ h => h)
    have hz2 := (hz.kept (H1 := U.heap) (fun q h _ => hq q h)).moved hW.alike
    rcases hz2 with hz2 | ⟨t, hz2⟩
    · exact th_isRef hz2 (Or.inl rfl)
    · exact th_isRef hz2 (Or.inr ⟨t, rfl⟩)
theorem th_Z.up {s U : State} (hW : s.WarmedH U.vm) (hq : ∀ q : Nat, q < s.heap.size → U.heap[q]? = s.heap[q]?) (h : th_Z s) : th_Z U := by
  obtain ⟨h1, h2, h3, h4, hini⟩ := h
  refine ⟨fun w hw => ?_, fun own k tx hm => ?_, h3.up hW hini hq, h4.up hW hini hq, word_at hW (Or.inl rfl) hini⟩
  · have hz := h1 w hw
    have ht : th_w w = true := (List.mem_filter.mp hw).2
    cases w <;> first | exact va_Nw.warmD hW hz | exact va_Nw.warmC hW hz | (simp [th_w] at ht; done)
  · obtain ⟨a, ha⟩ := h2 own k tx hm
    exact ⟨a, ha.warm hW⟩
/-- the words that the making of an exception asks, out of the tables' and of th_Z -/
def th_ok (w : Cond) : Bool := decide (w ∈ tb_G) || decide (w ∈ th_ws) || decide (w = .laysStatic Bundle.tN "UNASSIGNED_STACK" Bundle.steD) || decide (w = .isRef (.static Bundle.tN "UNASSIGNED_STACK" Bundle.steD)) || decide (w = .laysStatic Bundle.tN "SUPPRESSED_SENTINEL" Bundle.listD) || decide (w = .isRef (.static Bundle.tN "SUPPRESSED_SENTINEL" Bundle.listD))
theorem th_use {s : State} {args : Array Value} {ws : List Cond} (hts : ∀ w ∈ tb_G, w.before args s = true) (hZ : th_Z s) (h : ws.all th_ok = true) : ∀ w ∈ ws, w.before args s = true := by
  intro w hw
  have h1 := List.all_eq_true.mp h w hw
  unfold th_ok at h1
  simp only [Bool.or_eq_true, decide_eq_true_eq] at h1
  rcases h1 with ((((h1 | h1) | h1) | h1) | h1) | h1
  · exact hts w h1
  · have hz := hZ.1 w h1
    have ht : th_w w = true := (List.mem_filter.mp h1).2
    refine va_Nw.use ?_ hz
    cases w <;> first | rfl | (simp [th_w] at ht; done)
  · subst h1; exact hZ.2.2.1.1
  · subst h1; exact hZ.2.2.1.2
  · subst h1; exact hZ.2.2.2.1.1
  · subst h1; exact hZ.2.2.2.1.2
theorem th_frame {s U : State} {locs : List Loc} {k n : Nat} (h : s.sameButNew ({ U with vm := s.vm } : State) locs k n) : s.heap.size ≤ U.heap.size ∧ ∀ q : Nat, q < s.heap.size → (∀ z ∈ locs, z.base ≠ q) → U.heap[q]? = s.heap[q]? := by
  obtain ⟨-, h2, -, -, -, h6⟩ := h
  refine ⟨h2, fun q hq hne => ?_⟩
  obtain ⟨c', g1, g2, g3, g4⟩ := h6 q s.heap[q] (Array.getElem?_eq_getElem hq)
  have e : c' = s.heap[q] := by
    rw [g2]
    have es : c'.slots = s.heap[q].slots := by
      apply Array.ext_getElem?
      intro i
      exact g4 i (fun hi => hne _ hi rfl)
    rw [es]
  have g1 : U.heap[q]? = some c' := g1
  rw [g1, e, Array.getElem?_eq_getElem hq]
/-- a method has thrown an E; nothing that was there has changed -/
def th_Q (E : String) (mc ms : Nat) : Array Value → State → Outcome → State → Prop := fun _ st o t =>
  ∃ (q : Addr) (ce : Cell) (L : List Loc), o = .threw q ∧ t.heap[q]? = some ce ∧ ce.vm = .none ∧ st.vm.findClass E = some ce.cls ∧ st.WarmedH t.vm ∧ st.sameButNew ({ t with vm := st.vm } : State) L mc ms ∧ ∀ z ∈ L, st.heap.size ≤ z.base
def th_MQ (below : List Frame) (E : String) (mc ms : Nat) (a : Array Value) (s : State) : State → Prop := fun t => ∃ o, t.status = .running ∧ Ended t below o ∧ th_Q E mc ms a s o t
def th_Pc (D : va_G) (tys : List (ClassId × FieldType)) (As : List Value) (P : Heap → Prop) (sz : Nat) : Array Value → State → Prop := va_Pc As (fun U => U.heap.size = sz ∧ va_K D cl_all tys U ∧ th_Z U ∧ P U.heap)
/-- the contract of a method that throws an E -/
def Ct_t (l : Launch) (y : MethodName) (b : ByteArray) (maxL : Nat) (ret : Option FieldType) (rm : Room) (mc ms : Nat) (D : va_G) (tys : List (ClassId × FieldType)) (As : List Value) (P : Heap → Prop) (E : String) : Prop :=
  ∀ sz : Nat, MetFree l y (headSpec (ct_ws y b maxL ret) rm) (th_Pc D tys As P sz) (fun _ _ _ _ _ => True) (th_Q E mc ms)
section TH
variable {p : Program} {l : Launch} {e : Env} {R : Room} {s : State} {m : MethodId} {args : Array Value} {below : List Frame} {meth : Method} {c : Code} {cc : ByteArray} {nL cells slots : Nat} {Q : State → Prop} {P P' : Heap → Prop} {own : String} {pc : Nat} {lv lv' : List (Nat × Value)} {st : List Value} {D : va_G} {tys : List (ClassId × FieldType)} {a : Nat}
theorem th_blind {As : List Value} {sz : Nat} : FrameBlind (th_Pc D tys As P sz) := fun a U g mk q => by
  obtain ⟨q0, q1, qK, qZ, qP⟩ := q
  refine ⟨q0, q1, va_K.moved (u := U) (U := U.calling g mk a) (Vm.Alike.refl U.vm) qK, ?_, qP⟩
  exact qZ.up (U := U.calling g mk a) (State.WarmedH.refl U) (fun _ _ => rfl)
theorem th_of {y : MethodName} {b : ByteArray} {maxL : Nat} {ret : Option FieldType} {rm : Room} {mc ms : Nat} {As : List Value} {E : String} {sz : Nat} (hy : plainName y.cls = true) (hAs : (lg_sl As).length ≤ maxL)
    (body : ∀ (p : Program) (e : Env) (s : State) (m : MethodId) (args : Array Value) (below : List Frame) (meth : Method) (c : Code), s.heap.size = sz → CallFix p m c b maxL s args tb_G y.cls → meth.locks = false → c.exceptionTable.isEmpty = true → va_K D cl_all tys s → th_Z s →
      AW p l e rm s m args below meth c maxL 0 0 (th_MQ below E mc ms args s) P (fun q => s.heap.size ≤ q) 0 (lv_args 0 As) []) :
    MetFree l y (headSpec (ct_ws y b maxL ret) rm) (th_Pc D tys As P sz) (fun _ _ _ _ _ => True) (th_Q E mc ms) := by
  refine MetFree.of_bodyS (code := b) (maxLocals := maxL) (ret := ret) hy ?_ ?_
  · intro args s m h hn
    obtain ⟨meth, c, h1, h2, h3, h4, h5, h6, -, -⟩ := Cond.code_spec hn (atoms_spec (ws := ct_ws y b maxL ret) h _ List.mem_cons_self)
    exact ⟨meth, c, h1, h2, h3, h4, h5, h6⟩
  · intro p e s m args below meth c s₁ B hml hv _
    obtain ⟨rfl, hsz, hK, hZ, hP⟩ := hv
    have hts := atoms_spec (ws := ct_ws y b maxL ret) B.pre
    have hown : s.vm.findClass y.cls = some m.cls := findClass_of_methodNamed B.named
    have hno := B.noHandlers (hts _ List.mem_cons_self)
    have hh0 : s₁.heap = s.heap := by rw [B.state]; rfl
    have w := body p e s m As.toArray below meth c hsz ⟨B.exec, B.bytes, hml, hown, fun w hw => hts w (List.mem_cons_of_mem _ hw)⟩ B.notSynchronized hno hK hZ s.heap [] _ hP va_S.rf (lv_entry As hAs)
    obtain ⟨t, a1, o, b1, b2, b3⟩ := w s₁ hh0 (Stand.of_body B)
    refine ⟨t, o, ?_, b1, b2, b3⟩
    rw [lg_entry_eq]
    exact a1
/-- throw new E("text") -/
theorem aw_throw {cls text : String} {ik is ic mc ms : Nat} (C : CallFix p m c cc nL s args tb_G own) (hl : l.stackTraces = false) (hZ : th_Z s) (hno : c.exceptionTable.isEmpty = true) (hlk : meth.locks = false) (hcls : Bundle.fit cls = true) (hk : (.classLink own ik cls : Cond) ∈ tb_G) (hini : (.initialized cls : Cond) ∈ tb_G) (hin : (.instantiable cls 6 : Cond) ∈ tb_G)
    (hat : (Bundle.ownAtoms own ic cls th_up).all th_ok = true) (hs : (Cond.stringRef own is text) ∈ lw_tbl)
    (d0 : decode cc pc = .ok (.new ik, 3)) (d3 : decode cc (pc + 3) = .ok (.dup, 1)) (d4 : decode cc (pc + 4) = .ok (.ldc is, 2)) (d6 : decode cc (pc + 6) = .ok (.invokespecial ic, 3)) (d9 : decode cc (pc + 9) = .ok (.athrow, 1))
    (hfr : 5 < R.frames) (hlo : (st.map fun v => v.category).sum + 82 ≤ R.locals) (hce : cells + 1 ≤ R.cells) (hsl : slots + 6 ≤ R.slots) (hmc : cells + 1 ≤ mc) (hms : slots + 6 ≤ ms) :
    AW p l e R s m args below meth c nL cells slots (th_MQ below cls mc ms args s) P (fun q => s.heap.size ≤ q) pc lv st := by
  intro H locs ls _ hS hlv T hT X
  obtain ⟨hx, hb, hml, hown, hts⟩ := C
  have htr : e.platform.stackTraces = false := by rw [X.admits.platform]; exact hl
  obtain ⟨sa, hsa⟩ := hZ.2.1 own is text hs
  have hall := th_use hts hZ hat
  obtain ⟨vm₁, cX, kX, hfX, hkX, -, -, X₁, st1⟩ := X.newCold hx hown (hts _ hk) (hts _ hin) (hts _ hini) (g := F0 m pc ls st) rfl (by rw [hb]; exact d0) hce hsl
  generalize hT1 : (T.setVm vm₁).pushCell { cls := cX, slots := kX.instanceTypes.map defaultValue, vm := .none } = T1 at X₁ st1
  have hcell : T1.heap[T.heap.size]? = some (freshCell cX kX) := by rw [← hT1]; exact State.heap_pushCell_size _ _
  have hnew : s.heap.size ≤ T.heap.size := by rw [hT]; exact hS.1
  have hsz : ls.size = c.maxLocals := hlv.1.trans hml.symm
  obtain ⟨U, k1, k2, k3, k4, k5, ce, k6, k7⟩ := X₁.ctorThrowS hx htr (own := own) (cls := cls) (names := th_up) (ic := ic) hown hcls (by decide) hall (fun x hx' cell h9 => absurd (Array.getElem?_eq_some_iff.mp h9).1 (Nat.not_lt.mpr (hS.2.2 x hx'))) hfX hkX hcell hnew (msg := .ref sa) rfl
    (g := F0 m (pc + 6) ls (.ref sa :: .ref T.heap.size :: .ref T.heap.size :: st)) rfl hsz rfl rfl (rest := st) rfl (by rw [hb]; exact d6) (by rw [hb]; exact d9) (fun x hx' => by rw [Array.isEmpty_iff.mp hno] at hx'; simp at hx') hfr (by show 2 * 0 + (1 + (st.map fun v => v.category).sum) + _ ≤ _; simp only [th_up, List.length_cons, List.length_nil]; omega) hlk
  refine ⟨U, ?_, .threw T.heap.size, k2, k3, T.heap.size, ce, locs, rfl, k6, k7.vm, k7.cls, k4, k5.mono hmc hms, hS.2.2⟩
  refine st1 _ ?_
  show Steps p.tables e below (T1.setTop (F0 m (pc + 3) ls (.ref T.heap.size :: st))) U
  have d3' : decode c.code (pc + 3) = .ok (.dup, 1) := by rw [hb]; exact d3
  jvm_step X₁.here [X₁.here.top, hx, d3', Value.category]
  exact X₁.ldcString hx hown (by exact hsa.1) (by exact hsa.2) (g := F0 m (pc + 4) ls (.ref T.heap.size :: .ref T.heap.size :: st)) rfl (by rw [hb]; exact d4) _ k1
end TH
end
section
/-! CALLS OF METHODS THAT THROW -/
section TC
variable {p : Program} {l : Launch} {e : Env} {R : Room} {s : State} {m : MethodId} {args : Array Value} {below : List Frame} {meth : Method} {c : Code} {cc : ByteArray} {nL cells slots : Nat} {Q : State → Prop} {P P' : Heap → Prop} {A : Nat → Prop} {own : String} {pc : Nat} {lv lv' : List (Nat × Value)} {st : List Value} {D : va_G} {tys : List (ClassId × FieldType)} {a : Nat} {T : State} {locs : List Loc}
/-- the callee's run: it comes back with the note that q is thrown -/
theorem th_back {y : MethodName} {b2 : ByteArray} {mL2 mc ms len : Nat} {ret2 : Option FieldType} {rm2 : Room} {Pc : Array Value → State → Prop} {E : String} {mk : MethodId} {av : Array Value} {ig : Instr} {g : JFrame}
    (hM : MetFree l y (headSpec (ct_ws y b2 mL2 ret2) rm2) Pc (fun _ _ _ _ _ => True) (th_Q E mc ms)) (X : Stand p l e R s m args below meth c T locs cells slots) (hws : ∀ w ∈ ct_ws y b2 mL2 ret2, ∀ (a' : Array Value) (U : State), s.WarmedH U.vm → w.before a' U = true) (hini : (Cond.initialized y.cls).before args s = true)
    (hg : g.method = m) (hsize : g.locals.size = c.maxLocals) (hdg : decode c.code g.pc = .ok (ig, len)) (hW8 : 2 * g.monitorRoom + (g.stack.map fun v => v.category).sum ≤ 8) (hn : T.methodNamed? y = some mk)
    (hfr : rm2.frames + 1 ≤ R.frames) (hlo : 8 + (mL2 + 11) + rm2.locals ≤ R.locals) (hce : cells + rm2.cells ≤ R.cells) (hsl : slots + rm2.slots ≤ R.slots) (hP : Pc av (T.calling g mk av)) :
    ∃ (q : Addr) (ce : Cell) (L : List Loc) (T' : State), Stand p l e R s m args below meth c T' (locs ++ L) (cells + mc) (slots + ms) ∧ T'.heap[q]? = some ce ∧ ce.vm = .none ∧ T.vm.findClass E = some ce.cls ∧ T.WarmedH T'.vm ∧ T.sameButNew (T'.setVm T.vm) L mc ms ∧ (∀ z ∈ L, T.heap.size ≤ z.base) ∧
      Steps p.tables e below (doInvoke e (T.setTop g) [] mk av).1 ((T'.setTop g).pushFrame (.throwing q)) := by
  have hw := X.warmed
  have h1 : (headSpec (ct_ws y b2 mL2 ret2) rm2).pre.before av T = true := atoms_intro fun w hw' => hws w hw' _ _ hw
  have h2 : (Cond.code y b2 mL2 ret2).before av T = true := hws _ List.mem_cons_self _ _ hw
  have h3 : (Cond.initialized y.cls).before av T = true := word_at hw (Or.inl (by first | rfl | simp [Cond.onTables, Cond.keeps, Cond.steady])) hini
  obtain ⟨methY, cY, hmY, hcY, -, hlY, -, -, -, -⟩ := Cond.code_spec hn h2
  obtain ⟨kY, hkY, -⟩ := className_of_methodNamed hn
  have hinitY : kY.init = .initialized := Cond.initialized_spec (findClass_of_methodNamed hn) hkY h3
  have h : At T g.method c below := by rw [hg]; exact X.here
  have happ : (headSpec (ct_ws y b2 mL2 ret2) rm2).appliesLoose y e.platform (T.calling g mk av) = true :=
    Spec.appliesLoose_calling (g := g) h hdg hn hkY hinitY
      (X.room_calling (g := g) (R' := (headSpec (ct_ws y b2 mL2 ret2) rm2).room) hsize hmY hcY hfr (by rw [hlY]; show _ + (mL2 + 11) + rm2.locals ≤ _; omega) hce hsl) h1
  obtain ⟨mid, hmid⟩ := h.above
  have hfrm : (T.setTop g).frames = (.java g :: mid) ++ below := by rw [State.frames_setTop' g h.top, hmid]; rfl
  obtain ⟨o, s₂, hsteps, -, hend, hq⟩ := Steps.callFree hM p X.admits X.cas X.clock (acts := []) hfrm happ hP trivial
  have htail : T.frames.tail = below := X.tail
  rw [State.frames_setTop' g h.top, htail] at hend
  obtain ⟨q, ce, L, rfl, k1, k2, k3, k4, k5, k6⟩ := hq
  obtain ⟨T', X', w1, w2, e1⟩ := X.outOfThrown hg hend k4 k5
  refine ⟨q, ce, L, T', X', ?_, k2, k3, w1, w2, k6, by rw [← e1]; exact hsteps⟩
  have : s₂.heap = T'.heap := by rw [e1]; exact Stand.throwing_heap T' g q
  rw [← this]; exact k1
/-- a call on an own object that throws: it goes on to the caller's caller -/
theorem aw_callVT {P2 : Heap → Prop} {y : MethodName} {b2 : ByteArray} {mL2 mc ms n index MC MS : Nat} {ret2 : Option FieldType} {rm2 : Room} {Cn E : String} {stk : List Value} (As : List Value) (C : CallFix p m c cc nL s args tb_G own) (hK : va_K D cl_all tys s) (hZ : th_Z s) (hno : c.exceptionTable.isEmpty = true) (hlk : meth.locks = false)
    (hc : Ct_t l y b2 mL2 ret2 rm2 mc ms D tys (.ref a :: As) P2 E) (cw : CallW R s args own Cn index y b2 mL2 ret2 (ct_ws y b2 mL2 ret2) rm2 mc ms n) (hn : As.length = n) (hrecv : ∀ H, P H → ∃ cell : Cell, H[a]? = some cell ∧ cell.vm.isStatics = false ∧ s.vm.findClass Cn = some cell.cls) (hpre : ∀ H, P H → P2 H)
    (hst : stk = As.reverse ++ .ref a :: st) (hroom : (st.map fun v => v.category).sum ≤ 8) (hd : decode cc pc = .ok (.invokevirtual index, 3)) (hcs : cells + mc ≤ R.cells ∧ slots + ms ≤ R.slots) (hmc : cells + mc ≤ MC) (hms : slots + ms ≤ MS) :
    AW p l e R s m args below meth c nL cells slots (th_MQ below E MC MS args s) P (fun q => s.heap.size ≤ q) pc lv stk := fun H locs ls hPH hS hl T hT X => by
  obtain ⟨⟨hrc, hrs, hfr, hlo, hws, -, hcode, hini, hy, hlen, hlink⟩, hin, hse⟩ := cw
  obtain ⟨hx, hb, hml, ho, hts⟩ := C
  obtain ⟨cellB, hcB, hoB, hclB⟩ := hrecv H hPH
  obtain ⟨mk, methM, hnamed, hmethM, hstM, habM⟩ := Cond.instanceMethod_spec hin
  obtain ⟨methM', cM, hmethM', -, -, -, -, -, -, hsigM⟩ := Cond.code_spec hnamed hcode
  cases hmethM.symm.trans hmethM'
  obtain ⟨c2, r2, m2, q1, q2, q3, q4, kP, hkP, hkPi⟩ := Cond.selects_spec hse
  cases hclB.symm.trans q1
  cases (State.methodFound?_of_named hnamed hy).symm.trans q2
  cases hnamed.symm.trans q3
  have hselP : selectMethod e.platform s.vm cellB.cls mk = .method mk := by rw [Launch.admits_selectMethod X.admits]; exact q4
  obtain ⟨vm₁, X₁, hstep₁⟩ := X.invokevirtual hx ho hlink hnamed hmethM hstM hkP hkPi hy (a := a) (cell := cellB) (by rw [hT]; exact hcB) (fun z h => by rw [h] at hoB; cases hoB) hselP hmethM habM hkP hkPi (g := F0 m pc ls stk) rfl (argsL := As) (rest := st) (hn.trans (hlen _ hsigM)) hst (by rw [hb]; exact hd)
  have hH : (T.setVm vm₁).heap = H := hT
  have hPc : th_Pc D tys (.ref a :: As) P2 H.size (Value.ref a :: As).toArray (T.setVm vm₁) := ⟨rfl, by rw [hH], va_K.moved X₁.warmed.alike hK, hZ.up X₁.warmed (fun q h => by rw [hH]; exact hS.2.1 q h (Nat.not_le.mpr h)), by rw [hH]; exact hpre H hPH⟩
  obtain ⟨q, ce, L, T', X', k1, k2, k3, k4, k5, k6, k7⟩ := th_back (hc H.size) X₁ hws hini (g := { F0 m pc ls stk with stack := st }) (mk := mk) (av := (Value.ref a :: As).toArray) rfl (hl.1.trans hml.symm) (by rw [hb]; exact hd) (lv_room (m := m) (pc := pc) (ls := ls) (rest := st) hroom) (X₁.named hnamed) hfr hlo (by rw [hrc]; exact hcs.1) (by rw [hrs]; exact hcs.2) (th_blind _ _ _ _ hPc)
  obtain ⟨w1, w2, w3, w4, w5⟩ := X'.leaveThrown q (g := { F0 m pc ls stk with stack := st }) rfl rfl rfl (fun x hx' => by rw [Array.isEmpty_iff.mp hno] at hx'; simp at hx') hlk
  refine ⟨_, hstep₁ _ fun acts => ?_, .threw q, w2, w3, q, ce, locs ++ L, rfl, k1, k2, ?_, w4, w5.mono hmc hms, fun z hz => ?_⟩
  · rw [doInvoke_state]; exact k7.trans w1
  · rw [← X₁.warmed.alike.findClass]; exact k3
  · rcases List.mem_append.mp hz with h | h
    · exact hS.2.2 z h
    · exact Nat.le_trans hS.1 (by have := k6 z h; rw [hH] at this; exact this)
end TC
end
section
/-! CATCHING: the rows of an exception table may name classes that are linked, resolved or not -/
/-- the table's rows lead the object of class cl to the handler h -/
def tc_R (s : State) (pl : Platform) (dc : ClassId) (pc : Nat) (cl : ClassId) (h : Nat) : List ExceptionTableEntry → Prop
  | [] => False
  | x :: t => (covers x pc = false ∧ tc_R s pl dc pc cl h t) ∨ (covers x pc = true ∧ x.catchType ≠ 0 ∧ ∃ c, s.vm.ClassLinks pl dc x.catchType c ∧ ((s.vm.assignable cl c = true ∧ x.handlerPc = h) ∨ (s.vm.assignable cl c = false ∧ tc_R s pl dc pc cl h t)))
theorem tc_one {Q : Handler → Pre} {E : CtlPost} {e : Env} {d : Bool} {acts : List Action} {S : State} {f : JFrame} {a : Addr} {x : ExceptionTableEntry} {t : List ExceptionTableEntry} {c : ClassId} {cell : Cell} (hx : covers x f.pc = true) (h0 : x.catchType ≠ 0)
    (hl : S.vm.ClassLinks e.platform f.method.cls x.catchType c) (hcell : S.heap[a]? = some cell) (hobj : ∀ k, cell.vm ≠ .statics k) (hk : ∃ k, S.vm.classes[cell.cls]? = some k) (hc : ∃ k, S.vm.classes[c]? = some k) :
    wp (findHandler.go f a (x :: t)) Q E e d acts S ↔ if S.vm.assignable cell.cls c = true then Q (.found x.handlerPc) d acts (S.setVm (S.vm.noted f.method.cls x.catchType (.cls c))) else wp (findHandler.go f a t) Q E e d acts (S.setVm (S.vm.noted f.method.cls x.catchType (.cls c))) := by
  obtain ⟨r1, r2⟩ := (resolveClass_links e.toSetting hl).op (op := VmOp.resolveClass f.method.cls x.catchType) rfl
  have hal : S.vm.Alike (S.vm.noted f.method.cls x.catchType (.cls c)) := (Vm.Alike.refl S.vm).noted _ _ _
  obtain ⟨k1, hk1⟩ := hk
  obtain ⟨k2, hk2⟩ := hc
  obtain ⟨k1', hk1', -⟩ := hal.2.2 _ _ hk1
  obtain ⟨k2', hk2', -⟩ := hal.2.2 _ _ hk2
  have hx' := hx
  simp only [covers] at hx'
  have hasg := hal.assignable cell.cls c
  by_cases hf : S.vm.assignable cell.cls c = true
  · rw [if_pos hf]
    rw [hf] at hasg
    simp [findHandler.go, hx', h0, r1, r2, hcell, hobj, hk1', hk2', hasg, VmOp.dirties, VmOp.acts]
  · rw [if_neg hf]
    have hf' : S.vm.assignable cell.cls c = false := by simpa using hf
    rw [hf'] at hasg
    simp [findHandler.go, hx', h0, r1, r2, hcell, hobj, hk1', hk2', hasg, VmOp.dirties, VmOp.acts]
theorem tc_go {e : Env} {s : State} {f : JFrame} {a : Addr} {cell : Cell} {h : Nat} (hobj : ∀ k, cell.vm ≠ .statics k) (hk : ∃ k, s.vm.classes[cell.cls]? = some k) :
    ∀ (ys : List ExceptionTableEntry) (S : State), tc_R s e.platform f.method.cls f.pc cell.cls h ys → s.WarmedH S.vm → S.heap[a]? = some cell →
      ∃ vm', s.WarmedH vm' ∧ ∀ (Q : Handler → Pre) (E : CtlPost) (d : Bool) (acts : List Action), wp (findHandler.go f a ys) Q E e d acts S ↔ Q (.found h) d acts (S.setVm vm') := by
  intro ys
  induction ys with
  | nil => intro S hR _ _; exact hR.elim
  | cons x t ih =>
    intro S hR hW hcell
    rcases hR with ⟨hno, hR⟩ | ⟨hx, h0, c, hl, hend⟩
    · obtain ⟨vm', w1, w2⟩ := ih S hR hW hcell
      exact ⟨vm', w1, fun Q E d acts => by rw [W.findHandler_go_skip hno]; exact w2 Q E d acts⟩
    · obtain ⟨k0, hk0⟩ := hk
      obtain ⟨k0', hk0', -⟩ := hW.alike.2.2 _ _ hk0
      obtain ⟨dk, _, _, kt, hd, _, _, _, _, hkt, _, hopen⟩ := hl.here
      obtain ⟨kt', hkt', -⟩ := hW.alike.2.2 _ _ hkt
      have hW2 := hW.noted hd hopen (State.rightAt_cls hl)
      have key := fun (Q : Handler → Pre) (E : CtlPost) (d : Bool) (acts : List Action) => tc_one (Q := Q) (E := E) (d := d) (acts := acts) (t := t) hx h0 (hW.classLinks hl) hcell hobj ⟨k0', hk0'⟩ ⟨kt', hkt'⟩
      have hasg := hW.alike.assignable cell.cls c
      rcases hend with ⟨ha, rfl⟩ | ⟨ha, hR⟩
      · exact ⟨_, hW2, fun Q E d acts => by rw [key Q E d acts, if_pos (by rw [hasg]; exact ha)]⟩
      · obtain ⟨vm', w1, w2⟩ := ih (S.setVm (S.vm.noted f.method.cls x.catchType (.cls c))) hR hW2 hcell
        exact ⟨vm', w1, fun Q E d acts => by rw [key Q E d acts, if_neg (by rw [hasg, ha]; decide)]; exact w2 Q E d acts⟩
section TD
variable {p : Program} {l : Launch} {e : Env} {R : Room} {s : State} {m : MethodId} {args : Array Value} {below : List Frame} {meth : Method} {c : Code} {cc : ByteArray} {nL cells slots : Nat} {Q : State → Prop} {P P' : Heap → Prop} {A : Nat → Prop} {own : String} {pc : Nat} {lv lv' : List (Nat × Value)} {st : List Value} {D : va_G} {tys : List (ClassId × FieldType)} {a : Nat} {T : State} {locs : List Loc}
/-- from the note of a thrown object on to the handler -/
theorem tc_caught (X : Stand p l e R s m args below meth c T locs cells slots) {g : JFrame} (hg : g.method = m) {q : Addr} {cell : Cell} {h : Nat} (hcell : T.heap[q]? = some cell) (hv : cell.vm = .none) (hk : ∃ k, s.vm.classes[cell.cls]? = some k) (hR : tc_R s e.platform m.cls g.pc cell.cls h c.exceptionTable.toList) :
    ∃ vm', Stand p l e R s m args below meth c (T.setVm vm') locs cells slots ∧ ∀ target, Steps p.tables e below ((T.setVm vm').setTop { g with pc := h, stack := [.ref q] }) target → Steps p.tables e below ((T.setTop g).pushFrame (.throwing q)) target := by
  subst hg
  have hS1 : ((T.setTop g).pushFrame (.throwing q)).vm = T.vm := Stand.throwing_vm T g q
  have hS2 : ((T.setTop g).pushFrame (.throwing q)).heap = T.heap := Stand.throwing_heap T g q
  obtain ⟨vm', hW', hw⟩ := tc_go (e := e) (f := g) (a := q) (fun k hq => by rw [hv] at hq; cases hq) hk c.exceptionTable.toList ((T.setTop g).pushFrame (.throwing q)) hR (by rw [hS1]; exact X.warmed) (by rw [hS2]; exact hcell)
  refine ⟨vm', X.noted hW', fun target hrest => ?_⟩
  have hm : ((T.setTop g).pushFrame (.throwing q)).vm.method? g.method = some meth := by rw [hS1]; exact X.method'
  have hfind : ∀ (Q : Handler → Pre) (E : CtlPost) (d : Bool) (acts : List Action), wp (findHandler g q) Q E e d acts ((T.setTop g).pushFrame (.throwing q)) ↔ Q (.found h) d acts (((T.setTop g).pushFrame (.throwing q)).setVm vm') := fun Q E d acts => by rw [W.findHandler_eq hm X.code]; exact hw Q E d acts
  obtain ⟨hgo, hws⟩ := X.here.throwing (g := g) q
  refine Steps.head hgo hws ?_
  have hstep : (stepThrowing e ((T.setTop g).pushFrame (.throwing q)) q (.java g :: T.frames.tail)).Is ((((T.setTop g).pushFrame (.throwing q)).setVm vm').setFrames (.java { g with pc := h, stack := [.ref q] } :: T.frames.tail)) [] := by
    simp only [stepThrowing, searchFrame, vmDo]
    generalize hr : Sem.go _ e false [] ((T.setTop g).pushFrame (.throwing q)) = res
    obtain ⟨as, rfl, ha⟩ := Sem.eq_ok_of hr (a := Handler.found h) (s' := ((T.setTop g).pushFrame (.throwing q)).setVm vm') (acts' := []) (by simp [hfind _ _ _ _])
    exact ⟨rfl, ha⟩
  rw [stepThread_throwing (frames_entered X.here.top _), hstep.1]
  obtain ⟨g₀, hg0⟩ := Option.isSome_iff_exists.mp X.here.top
  obtain ⟨r, hr⟩ := State.topJava?_eq_some.mp hg0
  have hr' : (T.setVm vm').frames = .java g₀ :: r := hr
  rw [State.setTop_of_frames _ hr'] at hrest
  have e1 : ∀ (u : State) (F G : List Frame), ((u.setFrames F).setVm vm').setFrames G = (u.setVm vm').setFrames G := fun u F G => by
    show ((u.setVm vm').setFrames F).setFrames G = _
    rw [State.setFrames_setFrames]
  rw [hr, List.tail_cons, State.pushFrame, e1, State.setTop_of_frames _ hr, e1]
  exact hrest
end TD
end
