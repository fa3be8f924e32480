/-! PURE: the model's table of sets of desks -/
theorem bs_d2 (n e : Nat) : n / 2 ^ (e + 1) = n / 2 / 2 ^ e := by
  rw [Nat.div_div_eq_div_mul, Nat.pow_succ, Nat.mul_comm]
theorem bs_add : ∀ (d s e : Nat), s / 2 ^ d % 2 = 0 → ((s + 2 ^ d) / 2 ^ e % 2 = 1 ↔ s / 2 ^ e % 2 = 1 ∨ e = d) := by
  intro d
  induction d with
  | zero =>
    intro s e h
    have h : s / 1 % 2 = 0 := h
    rw [Nat.div_one] at h
    cases e with
    | zero =>
      show (s + 1) / 1 % 2 = 1 ↔ _
      rw [Nat.div_one]
      exact ⟨fun _ => Or.inr rfl, fun _ => by omega⟩
    | succ e =>
      rw [bs_d2, bs_d2]
      have : (s + 2 ^ 0) / 2 = s / 2 := by show (s + 1) / 2 = s / 2; omega
      rw [this]
      exact ⟨fun z => Or.inl z, fun z => z.resolve_right (by omega)⟩
  | succ d ih =>
    intro s e h
    rw [bs_d2] at h
    have e2 : 2 ^ (d + 1) = 2 * 2 ^ d := by rw [Nat.pow_succ, Nat.mul_comm]
    cases e with
    | zero =>
      have : (s + 2 ^ (d + 1)) / 2 ^ 0 % 2 = s / 2 ^ 0 % 2 := by
        show (s + 2 ^ (d + 1)) / 1 % 2 = s / 1 % 2
        rw [Nat.div_one, Nat.div_one, e2]; omega
      rw [this]
      exact ⟨fun z => Or.inl z, fun z => z.resolve_right (by omega)⟩
    | succ e =>
      rw [bs_d2, bs_d2]
      have : (s + 2 ^ (d + 1)) / 2 = s / 2 + 2 ^ d := by rw [e2]; omega
      rw [this, ih (s / 2) e h]
      constructor
      · rintro (z | z)
        · exact Or.inl z
        · exact Or.inr (by omega)
      · rintro (z | z)
        · exact Or.inl z
        · exact Or.inr (by omega)
theorem bt_0 : ∀ f, bt_L f 0 = 0
  | 0 => rfl
  | f + 1 => by
    unfold bt_L
    rw [if_pos rfl]
theorem bt_s (f n : Nat) : bt_L (f + 1) n = n % 2 + bt_L f (n / 2) := by
  show (if n = 0 then 0 else n % 2 + bt_L f (n / 2)) = _
  by_cases h : n = 0
  · subst h
    rw [if_pos rfl, bt_0]
  · rw [if_neg h]
theorem bt_add : ∀ (f s d : Nat), s / 2 ^ d % 2 = 0 → s + 2 ^ d < 2 ^ f → bt_L f (s + 2 ^ d) = bt_L f s + 1 := by
  intro f
  induction f with
  | zero =>
    intro s d _ h
    have : 0 < 2 ^ d := Nat.pow_pos (by omega)
    have h : s + 2 ^ d < 1 := h
    omega
  | succ f ih =>
    intro s d h hl
    rw [bt_s, bt_s]
    cases d with
    | zero =>
      have h : s / 1 % 2 = 0 := h
      rw [Nat.div_one] at h
      show (s + 1) % 2 + bt_L f ((s + 1) / 2) = _
      rw [show (s + 1) / 2 = s / 2 by omega]
      omega
    | succ d =>
      have e2 : 2 ^ (d + 1) = 2 * 2 ^ d := by rw [Nat.pow_succ, Nat.mul_comm]
      have e3 : 2 ^ (f + 1) = 2 * 2 ^ f := by rw [Nat.pow_succ, Nat.mul_comm]
      rw [bs_d2] at h
      have : (s + 2 ^ (d + 1)) / 2 = s / 2 + 2 ^ d := by rw [e2]; omega
      rw [this, ih (s / 2) d h (by omega)]
      have : (s + 2 ^ (d + 1)) % 2 = s % 2 := by rw [e2]; omega
      rw [this]
      omega
theorem bs_and {s k : Nat} : s &&& 2 ^ k = 0 ↔ s / 2 ^ k % 2 = 0 := by
  constructor
  · intro h
    have h1 : s.testBit k = false := by
      have e := congrArg (fun z => Nat.testBit z k) h
      simpa [Nat.testBit_and, Nat.testBit_two_pow_self] using e
    rw [Nat.testBit_eq_decide_div_mod_eq] at h1
    have h2 : ¬ s / 2 ^ k % 2 = 1 := by simpa using h1
    omega
  · intro h
    have h1 : s.testBit k = false := by rw [Nat.testBit_eq_decide_div_mod_eq]; simp [h]
    apply Nat.eq_of_testBit_eq
    intro i
    rw [Nat.testBit_and, Nat.testBit_two_pow, Nat.zero_testBit]
    by_cases hi : k = i
    · rw [← hi, h1]; rfl
    · simp [hi]
theorem sm_dc {f f' : Nat → Int} {n : Nat} : ∀ {m : Nat}, n ≤ m → (∀ i, n ≤ i → i < m → f i = f' i) → sm_S f m - sm_S f n = sm_S f' m - sm_S f' n := by
  intro m
  induction m with
  | zero => intro h _; rw [show n = 0 by omega]; show (0 : Int) - 0 = 0 - 0; rfl
  | succ m ih =>
    intro h hf
    by_cases e : n = m + 1
    · subst e; omega
    · have := ih (by omega) (fun i h1 h2 => hf i h1 (by omega))
      have h2 := hf m (by omega) (by omega)
      show sm_S f m + f m - sm_S f n = sm_S f' m + f' m - sm_S f' n
      omega
theorem sm_dr {f : Nat → Int} {n : Nat} : ∀ {m : Nat}, n ≤ m → (∀ i, n ≤ i → i < m → -1 ≤ f i ∧ f i ≤ 16000) → -((m : Int) - n) ≤ sm_S f m - sm_S f n ∧ sm_S f m - sm_S f n ≤ 16000 * ((m : Int) - n) := by
  intro m
  induction m with
  | zero => intro h _; rw [show n = 0 by omega]; exact ⟨by omega, by omega⟩
  | succ m ih =>
    intro h hf
    by_cases e : n = m + 1
    · subst e; omega
    · have := ih (by omega) (fun i h1 h2 => hf i h1 (by omega))
      have h2 := hf m (by omega) (by omega)
      show -(((m + 1 : Nat) : Int) - n) ≤ sm_S f m + f m - sm_S f n ∧ sm_S f m + f m - sm_S f n ≤ 16000 * (((m + 1 : Nat) : Int) - n)
      omega
/-- the persons from n on get desks that aren't in the set s -/
def cp (mn Dn : Nat) (al : Nat → Nat → Prop) (s n : Nat) (g : Nat → Nat) : Prop :=
  (∀ i, n ≤ i → i < mn → g i < Dn ∧ s / 2 ^ (g i) % 2 = 0 ∧ al i (g i)) ∧ (∀ i j, n ≤ i → i < mn → n ≤ j → j < mn → g i = g j → i = j)
def tl (mn : Nat) (vl : Nat → Nat → Int) (g : Nat → Nat) (n : Nat) : Int := sm_S (fun i => vl i (g i)) mn - sm_S (fun i => vl i (g i)) n
def gd (mn Dn : Nat) (vl : Nat → Nat → Int) (al : Nat → Nat → Prop) (s : Nat) (b : Int32) : Prop :=
  (b = -1000000000 ∧ ∀ g, ¬ cp mn Dn al s (bt_L 31 s) g) ∨ (∃ g, cp mn Dn al s (bt_L 31 s) g ∧ b.toInt = tl mn vl g (bt_L 31 s) ∧ ∀ g', cp mn Dn al s (bt_L 31 s) g' → tl mn vl g' (bt_L 31 s) ≤ b.toInt)
def gdk (mn Dn : Nat) (vl : Nat → Nat → Int) (al : Nat → Nat → Prop) (s n k : Nat) (b : Int32) : Prop :=
  (b = -1000000000 ∧ ∀ g, cp mn Dn al s n g → ¬ g n < k) ∨ (∃ g, cp mn Dn al s n g ∧ g n < k ∧ b.toInt = tl mn vl g n ∧ ∀ g', cp mn Dn al s n g' → g' n < k → tl mn vl g' n ≤ b.toInt)
theorem tl_s {mn : Nat} {vl : Nat → Nat → Int} {g : Nat → Nat} {n : Nat} : tl mn vl g n = vl n (g n) + tl mn vl g (n + 1) := by
  unfold tl
  show _ = vl n (g n) + (_ - (sm_S (fun i => vl i (g i)) n + vl n (g n)))
  omega
theorem tl_c {mn : Nat} {vl : Nat → Nat → Int} {g g' : Nat → Nat} {n : Nat} (hn : n ≤ mn) (h : ∀ i, n ≤ i → i < mn → g i = g' i) : tl mn vl g n = tl mn vl g' n :=
  sm_dc hn (fun i h1 h2 => by show vl i (g i) = vl i (g' i); rw [h i h1 h2])
theorem tl_r {mn Dn : Nat} {vl : Nat → Nat → Int} {al : Nat → Nat → Prop} {s n : Nat} {g : Nat → Nat} (hmn : mn ≤ 10) (hv : ∀ i d, i < mn → d < Dn → -1 ≤ vl i d ∧ vl i d ≤ 16000) (hn : n ≤ mn) (h : cp mn Dn al s n g) : -10 ≤ tl mn vl g n ∧ tl mn vl g n ≤ 160000 := by
  have := sm_dr (f := fun i => vl i (g i)) hn (fun i h1 h2 => hv i (g i) h2 (h.1 i h1 h2).1)
  unfold tl
  omega
theorem cp_dn {mn Dn : Nat} {al : Nat → Nat → Prop} {s n : Nat} {g : Nat → Nat} (hn : n < mn) (h : cp mn Dn al s n g) : cp mn Dn al (s + 2 ^ (g n)) (n + 1) g := by
  refine ⟨fun i h1 h2 => ?_, fun i j h1 h2 h3 h4 e => h.2 i j (by omega) h2 (by omega) h4 e⟩
  obtain ⟨a, b, c⟩ := h.1 i (by omega) h2
  refine ⟨a, ?_, c⟩
  have h0 := (h.1 n (Nat.le_refl n) hn).2.1
  have := bs_add (g n) s (g i) h0
  have hne : ¬ g i = g n := fun e => by
    have := h.2 i n (by omega) h2 (Nat.le_refl n) hn e
    omega
  by_cases q : (s + 2 ^ (g n)) / 2 ^ (g i) % 2 = 1
  · rcases this.mp q with q | q
    · omega
    · exact absurd q hne
  · omega
theorem cp_up {mn Dn : Nat} {al : Nat → Nat → Prop} {s n k : Nat} {g : Nat → Nat} (hk : k < Dn) (hb : s / 2 ^ k % 2 = 0) (ha : al n k) (h : cp mn Dn al (s + 2 ^ k) (n + 1) g) : cp mn Dn al s n (fun i => if i = n then k else g i) := by
  have hi : ∀ i, n + 1 ≤ i → i < mn → s / 2 ^ (g i) % 2 = 0 ∧ g i ≠ k := fun i h1 h2 => by
    have h0 := (h.1 i h1 h2).2.1
    have := bs_add k s (g i) hb
    refine ⟨?_, fun e => ?_⟩
    · by_cases q : s / 2 ^ (g i) % 2 = 1
      · have := this.mpr (Or.inl q); omega
      · omega
    · have := this.mpr (Or.inr e); omega
  refine ⟨fun i h1 h2 => ?_, fun i j h1 h2 h3 h4 e => ?_⟩
  · show (if i = n then k else g i) < Dn ∧ s / 2 ^ (if i = n then k else g i) % 2 = 0 ∧ al i (if i = n then k else g i)
    by_cases e : i = n
    · rw [if_pos e]; exact ⟨hk, hb, e ▸ ha⟩
    · rw [if_neg e]; exact ⟨(h.1 i (by omega) h2).1, (hi i (by omega) h2).1, (h.1 i (by omega) h2).2.2⟩
  · have e : (if i = n then k else g i) = (if j = n then k else g j) := e
    by_cases ei : i = n
    · by_cases ej : j = n
      · rw [ei, ej]
      · rw [if_pos ei, if_neg ej] at e
        exact absurd e.symm (hi j (by omega) h4).2
    · by_cases ej : j = n
      · rw [if_neg ei, if_pos ej] at e
        exact absurd e (hi i (by omega) h2).2
      · rw [if_neg ei, if_neg ej] at e
        exact h.2 i j (by omega) h2 (by omega) h4 e
/-- the model's lists, as the table sees them -/
def fbB (M : ms_S) (mn Dn : Nat) (vl : Nat → Nat → Int) (al : Nat → Nat → Prop) : Prop :=
  ∀ i k, i < mn → k < Dn → (M 2 (14 * (M 6 i).toNatClampNeg + k) = 0 ↔ al i k) ∧ (mo_val M (M 6 i).toNatClampNeg k).toInt = vl i k
theorem fbB_n {M M' : ms_S} {mn Dn : Nat} {vl : Nat → Nat → Int} {al : Nat → Nat → Prop} (h : fbB M mn Dn vl al) (h5 : ∀ t i, t ≠ 5 → M' t i = M t i) : fbB M' mn Dn vl al := fun i k hi hk => by
  have := h i k hi hk
  unfold mo_val mo_mv at *
  rw [h5 6 i (by decide), h5 2 _ (by decide), h5 1 _ (by decide), h5 3 _ (by decide)]
  exact this
theorem fb_Is (M : ms_S) (s n s' : Nat) (h : s' ≠ s) : ∀ k, fb_I M s n k 5 s' = M 5 s'
  | 0 => rfl
  | k + 1 => by
    have ih := fb_Is M s n s' h k
    show fb_step (fb_I M s n k) s n k 5 s' = _
    unfold fb_step
    split
    · split
      · split
        · exact ih
        · split
          · rw [ms_w_n (fun q => h q.2)]; exact ih
          · rw [ms_w_n (fun q => h q.2)]; exact ih
      · exact ih
    · exact ih
theorem gdk_no {mn Dn : Nat} {vl : Nat → Nat → Int} {al : Nat → Nat → Prop} {s n k : Nat} {b : Int32} (h : gdk mn Dn vl al s n k b) (hno : ∀ g, cp mn Dn al s n g → g n ≠ k) : gdk mn Dn vl al s n (k + 1) b := by
  have hs : ∀ g, cp mn Dn al s n g → g n < k + 1 → g n < k := fun g hg hl => by have := hno g hg; omega
  rcases h with ⟨h1, h2⟩ | ⟨g, h1, h2, h3, h4⟩
  · exact Or.inl ⟨h1, fun g hg hl => h2 g hg (hs g hg hl)⟩
  · exact Or.inr ⟨g, h1, by omega, h3, fun g' hg' hl => h4 g' hg' (hs g' hg' hl)⟩
theorem fb_Ig {M : ms_S} {mn Dn : Nat} {vl : Nat → Nat → Int} {al : Nat → Nat → Prop} {s n : Nat} (hmn : mn ≤ 10) (hDn : Dn ≤ 14) (hv : ∀ i d, i < mn → d < Dn → -1 ≤ vl i d ∧ vl i d ≤ 16000) (hB : fbB M mn Dn vl al) (hs : s < 2 ^ Dn) (hn : n = bt_L 31 s) (hnm : n < mn) (h0 : M 5 s = -1000000000)
    (hb : ∀ s', s < s' → s' < 2 ^ Dn → bt_L 31 s' ≤ mn → gd mn Dn vl al s' (M 5 s')) : ∀ k, k ≤ Dn → gdk mn Dn vl al s n k (fb_I M s n k 5 s) := by
  intro k
  induction k with
  | zero => intro _; exact Or.inl ⟨h0, fun g _ h => absurd h (Nat.not_lt_zero _)⟩
  | succ k ih =>
    intro hk
    have ih := ih (by omega)
    have hBk := fbB_n hB (fun t i ht => fb_In M s n t i ht k) n k hnm (by omega)
    show gdk mn Dn vl al s n (k + 1) (fb_step (fb_I M s n k) s n k 5 s)
    unfold fb_step
    split
    · rename_i hbit
      have hbit := bs_and.mp hbit
      have hlt := bx_lt2 hs (show k < Dn by omega) (by omega)
      have hpos : 0 < 2 ^ k := Nat.pow_pos (by omega)
      have h14 : 2 ^ Dn ≤ 2 ^ 14 := Nat.pow_le_pow_right (by omega) hDn
      have hbt : bt_L 31 (s + 2 ^ k) = n + 1 := by rw [hn]; exact bt_add 31 s k hbit (by omega)
      have hgd := hb (s + 2 ^ k) (by omega) hlt (by omega)
      have e5 := fb_Is M s n (s + 2 ^ k) (by omega) k
      unfold gd at hgd
      rw [hbt] at hgd
      split
      · rename_i hbar
        have hal := hBk.1.mp hbar
        split
        · rename_i hnv
          rw [e5] at hnv
          refine gdk_no ih (fun g hg e => ?_)
          rcases hgd with ⟨-, q⟩ | ⟨g1, c1, c2, c3⟩
          · exact q g (e ▸ cp_dn hnm hg)
          · have := tl_r hmn hv (show n + 1 ≤ mn by omega) c1
            have hnv := Int32.le_iff_toInt_le.mp hnv
            have : (-1000000000 : Int32).toInt = -1000000000 := rfl
            omega
        · rename_i hnv
          rw [e5] at hnv
          rcases hgd with ⟨q, -⟩ | ⟨g1, c1, c2, c3⟩
          · exact absurd (by rw [q]; exact Int32.le_refl _) hnv
          · have r1 := tl_r hmn hv (show n + 1 ≤ mn by omega) c1
            have r2 := hv n k hnm (by omega)
            have ev : (mo_val (fb_I M s n k) ((fb_I M s n k) 6 n).toNatClampNeg k + M 5 (s + 2 ^ k)).toInt = vl n k + tl mn vl g1 (n + 1) := by
              rw [i_add (by rw [hBk.2, c2]; omega) (by rw [hBk.2, c2]; omega), hBk.2, c2]
            have hG := cp_up (show k < Dn by omega) hbit hal c1
            have tG : tl mn vl (fun i => if i = n then k else g1 i) n = vl n k + tl mn vl g1 (n + 1) := by
              rw [tl_s]
              show vl n (if n = n then k else g1 n) + _ = _
              rw [if_pos rfl, tl_c (show n + 1 ≤ mn by omega) (g' := g1) (fun i h1 _ => if_neg (by omega))]
            have hmax : ∀ g', cp mn Dn al s n g' → g' n = k → tl mn vl g' n ≤ vl n k + tl mn vl g1 (n + 1) := fun g' hg' e => by
              have := c3 g' (e ▸ cp_dn hnm hg')
              rw [tl_s, e]
              omega
            have hgk : (fun i => if i = n then k else g1 i) n < k + 1 := by
              show (if n = n then k else g1 n) < k + 1
              rw [if_pos rfl]; omega
            rw [e5]
            split
            · rename_i hle
              have hle := Int32.le_iff_toInt_le.mp hle
              rw [ev] at hle
              rw [ms_w_s]
              rcases ih with ⟨i1, -⟩ | ⟨g0, i1, i2, i3, i4⟩
              · exfalso
                rw [i1] at hle
                have : (-1000000000 : Int32).toInt = -1000000000 := rfl
                omega
              · refine Or.inr ⟨g0, i1, by omega, i3, fun g' hg' hl => ?_⟩
                by_cases e : g' n = k
                · have := hmax g' hg' e
                  omega
                · exact i4 g' hg' (by omega)
            · rename_i hle
              have hle : ¬ vl n k + tl mn vl g1 (n + 1) ≤ (fb_I M s n k 5 s).toInt := fun z => hle (Int32.le_iff_toInt_le.mpr (by rw [ev]; exact z))
              rw [ms_w_s]
              refine Or.inr ⟨fun i => if i = n then k else g1 i, hG, hgk, by rw [ev, tG], fun g' hg' hl => ?_⟩
              rw [ev]
              by_cases e : g' n = k
              · exact hmax g' hg' e
              · rcases ih with ⟨-, i2⟩ | ⟨g0, i1, i2, i3, i4⟩
                · exact absurd (by omega) (i2 g' hg')
                · have := i4 g' hg' (by omega)
                  omega
      · rename_i hbar
        exact gdk_no ih (fun g hg e => hbar (hBk.1.mpr (e ▸ (hg.1 n (Nat.le_refl n) hnm).2.2)))
    · rename_i hbit
      exact gdk_no ih (fun g hg e => hbit (bs_and.mpr (e ▸ (hg.1 n (Nat.le_refl n) hnm).2.1)))
theorem fb_Dg {M : ms_S} {mn Dn : Nat} {vl : Nat → Nat → Int} {al : Nat → Nat → Prop} {s : Nat} (hmn : mn ≤ 10) (hDn : Dn ≤ 14) (hv : ∀ i d, i < mn → d < Dn → -1 ≤ vl i d ∧ vl i d ≤ 16000) (hB : fbB M mn Dn vl al) (hs : s < 2 ^ Dn)
    (hb : ∀ s', s < s' → s' < 2 ^ Dn → bt_L 31 s' ≤ mn → gd mn Dn vl al s' (M 5 s')) : ∀ s', s ≤ s' → s' < 2 ^ Dn → bt_L 31 s' ≤ mn → gd mn Dn vl al s' (fb_D M mn Dn s 5 s') := by
  intro s' h1 h2 h3
  have e1 : ∀ s', s' ≠ s → fb_1 M mn s 5 s' = M 5 s' := fun s' h => ms_w_n (fun q => h q.2)
  unfold fb_D
  by_cases e : s' = s
  · subst e
    split
    · rename_i hlt
      have h0 : fb_1 M mn s' 5 s' = -1000000000 := by
        unfold fb_1
        rw [ms_w_s, if_neg (by omega)]
      have := fb_Ig (M := fb_1 M mn s') hmn hDn hv (fbB_n hB (fun t i ht => fb_1n M mn s' t i ht)) hs rfl hlt h0 (fun s2 a b c => by rw [e1 s2 (by omega)]; exact hb s2 a b c) Dn (Nat.le_refl _)
      rcases this with ⟨i1, i2⟩ | ⟨g, i1, i2, i3, i4⟩
      · exact Or.inl ⟨i1, fun g hg => i2 g hg (hg.1 _ (Nat.le_refl _) hlt).1⟩
      · exact Or.inr ⟨g, i1, i3, fun g' hg' => i4 g' hg' (hg'.1 _ (Nat.le_refl _) hlt).1⟩
    · rename_i hlt
      have he : bt_L 31 s' = mn := by omega
      have h0 : fb_1 M mn s' 5 s' = 0 := by
        unfold fb_1
        rw [ms_w_s, if_pos he]
      rw [h0]
      have ht : ∀ g, tl mn vl g (bt_L 31 s') = 0 := fun g => by unfold tl; rw [he]; omega
      refine Or.inr ⟨fun _ => 0, ⟨fun i a b => absurd a (by omega), fun i j a b => absurd a (by omega)⟩, by rw [ht]; rfl, fun g' _ => by rw [ht]; exact Int.le_refl _⟩
  · have hb' := hb s' (by omega) h2 h3
    split
    · rw [fb_Is _ s _ s' e, e1 s' e]; exact hb'
    · rw [e1 s' e]; exact hb'
theorem fb_Sg {mn Dn : Nat} {vl : Nat → Nat → Int} {al : Nat → Nat → Prop} (hmn : mn ≤ 10) (hDn : Dn ≤ 14) (hv : ∀ i d, i < mn → d < Dn → -1 ≤ vl i d ∧ vl i d ≤ 16000) : ∀ (s : Nat) (M : ms_S), s ≤ 2 ^ Dn → fbB M mn Dn vl al →
    (∀ s', s ≤ s' → s' < 2 ^ Dn → bt_L 31 s' ≤ mn → gd mn Dn vl al s' (M 5 s')) → ∀ s', s' < 2 ^ Dn → bt_L 31 s' ≤ mn → gd mn Dn vl al s' (fb_S mn Dn s M 5 s') := by
  intro s
  induction s with
  | zero => intro M _ _ h s' h1 h2; exact h s' (Nat.zero_le _) h1 h2
  | succ s ih =>
    intro M hs hB h
    show ∀ s', s' < 2 ^ Dn → bt_L 31 s' ≤ mn → gd mn Dn vl al s' (fb_S mn Dn s (fb_D M mn Dn s) 5 s')
    exact ih (fb_D M mn Dn s) (by omega) (fbB_n hB (fun t i ht => fb_Dn M mn Dn s t i ht)) (fb_Dg hmn hDn hv hB (by omega) (fun s' a => h s' (by omega)))
