/-! PURE: the model's seating is the class's -/
def seC (M : ms_S) (s p k : Nat) : Prop := ¬ s / 2 ^ k % 2 = 1 ∧ M 2 (14 * p + k) = 0 ∧ ¬ M 5 (s + 2 ^ k) = -1000000000 ∧ mo_val M p k + M 5 (s + 2 ^ k) = M 5 s
theorem se_p {M : ms_S} {s p d0 : Nat} (hC : seC M s p d0) : ∀ n k, k ≤ d0 → d0 < k + n → (∀ k', k ≤ k' → k' < d0 → ¬ seC M s p k') → se_d M s p n k = d0 ∧ se_T M s p n k
  | 0, k, h1, h2, _ => absurd h2 (by omega)
  | n + 1, k, h1, h2, h3 => by
    by_cases e : k = d0
    · subst e
      obtain ⟨a, b, c, d⟩ := hC
      refine ⟨?_, fun z => absurd z a, fun z => absurd b z, fun z => absurd z c, fun z => absurd d z⟩
      unfold se_d
      rw [if_neg a, if_pos b, if_neg c, if_pos d]
    · have ih := se_p hC n (k + 1) (by omega) (by omega) (fun k' a b => h3 k' (by omega) b)
      have hn := h3 k (Nat.le_refl k) (by omega)
      refine ⟨?_, fun _ => ih.2, fun _ => ih.2, fun _ => ih.2, fun _ => ih.2⟩
      unfold se_d
      split
      · exact ih.1
      · rename_i a
        split
        · rename_i b
          split
          · exact ih.1
          · rename_i c
            split
            · rename_i d
              exact absurd ⟨a, b, c, d⟩ hn
            · exact ih.1
        · exact ih.1
def lw (i d : Nat) : Int := (d : Int) * 16 ^ (9 - i)
theorem lw_b {g : Nat → Nat} {p : Nat} : ∀ {m : Nat}, p + 1 ≤ m → m ≤ 10 → (∀ i, p + 1 ≤ i → i < m → g i ≤ 15) → 0 ≤ sm_S (fun i => lw i (g i)) m - sm_S (fun i => lw i (g i)) (p + 1) ∧ sm_S (fun i => lw i (g i)) m - sm_S (fun i => lw i (g i)) (p + 1) + 16 ^ (10 - m) ≤ 16 ^ (9 - p) := by
  intro m
  induction m with
  | zero => intro h; exact absurd h (by omega)
  | succ m ih =>
    intro h1 h2 h3
    by_cases e : m + 1 = p + 1
    · rw [e, show 10 - (p + 1) = 9 - p by omega]
      omega
    · obtain ⟨a, b⟩ := ih (by omega) (by omega) (fun i x y => h3 i x (by omega))
      have hg := h3 m (by omega) (by omega)
      have h0 := j_pow0 m (by omega)
      have e1 : (16 : Int) ^ (10 - m) = 16 ^ (9 - m) * 16 := by rw [show 10 - m = 9 - m + 1 by omega, Int.pow_succ]
      have e2 : (16 : Int) ^ (10 - (m + 1)) = 16 ^ (9 - m) := by rw [show 10 - (m + 1) = 9 - m by omega]
      have h4 : (g m : Int) * 16 ^ (9 - m) ≤ 15 * 16 ^ (9 - m) := Int.mul_le_mul_of_nonneg_right (by omega) (by omega)
      have h5 : 0 ≤ (g m : Int) * 16 ^ (9 - m) := Int.mul_nonneg (by omega) (by omega)
      show 0 ≤ sm_S (fun i => lw i (g i)) m + lw m (g m) - sm_S (fun i => lw i (g i)) (p + 1) ∧ sm_S (fun i => lw i (g i)) m + lw m (g m) - sm_S (fun i => lw i (g i)) (p + 1) + 16 ^ (10 - (m + 1)) ≤ 16 ^ (9 - p)
      unfold lw at *
      rw [e2]
      rw [e1] at b
      constructor
      · omega
      · omega
theorem nv_ne {b : Int32} {x : Int} (h : b.toInt = x) (hx : -10 ≤ x) : ¬ b = -1000000000 := fun e => by
  rw [e] at h
  have : (-1000000000 : Int32).toInt = -1000000000 := rfl
  omega
theorem so_main {S : ds_S} {Pn Dn : Nat} {M1 : ms_S} {g : Nat → Nat} (hP : Pn ≤ 10) (hD : Dn ≤ 14) (hw : wishR S) (hl : rl M1 S Pn Dn)
    (htab : ∀ s', s' < 2 ^ Dn → bt_L 31 s' ≤ Pn → gd Pn Dn (vI S) (alN S) s' (M1 5 s')) : ∀ (n p s : Nat) (M' : ms_S), p + n = Pn → (∀ t i, t ≠ 4 → M' t i = M1 t i) → s < 2 ^ Dn → bt_L 31 s = p → cp Pn Dn (alN S) s p g →
    (∀ g', cp Pn Dn (alN S) s p g' → tl Pn (vI S) g' p ≤ tl Pn (vI S) g p ∧ (tl Pn (vI S) g' p = tl Pn (vI S) g p → tl Pn lw g p ≤ tl Pn lw g' p)) →
    so_T Dn n p s M' ∧ (∀ i, i < p → so_L Dn n p s M' 4 i = M' 4 i) ∧ (∀ i, p ≤ i → i < Pn → so_L Dn n p s M' 4 i = nI (g i)) := by
  intro n
  induction n with
  | zero => intro p s M' h1 _ _ _ _ _; exact ⟨trivial, fun _ _ => rfl, fun i a b => absurd a (by omega)⟩
  | succ n ih =>
    intro p s M' hpn hM hs hbt hcp hopt
    have hv : ∀ i d, i < Pn → d < Dn → -1 ≤ vI S i d ∧ vI S i d ≤ 16000 := fun i d hi hd => vI_r hw (by omega) (by omega)
    have hp : p < Pn := by omega
    obtain ⟨hg1, hg2, hg3⟩ := hcp.1 p (Nat.le_refl p) hp
    have hl' : rl M' S Pn Dn := fun q hq => ⟨(hM 3 q (by decide)).trans (hl q hq).1, fun d hd => ⟨(hM 1 _ (by decide)).trans ((hl q hq).2 d hd).1, (hM 2 _ (by decide)).trans ((hl q hq).2 d hd).2⟩⟩
    have h5 : ∀ i, M' 5 i = M1 5 i := fun i => hM 5 i (by decide)
    have h14 : 2 ^ Dn ≤ 2 ^ 14 := Nat.pow_le_pow_right (by omega) hD
    -- the table at s
    have hb : (M1 5 s).toInt = tl Pn (vI S) g p := by
      have h := htab s hs (by omega)
      unfold gd at h
      rw [hbt] at h
      rcases h with ⟨-, q⟩ | ⟨g1, c1, c2, c3⟩
      · exact absurd hcp (q g)
      · have := c3 g hcp
        have := (hopt g1 c1).1
        omega
    -- and behind it
    have hst : ∀ k, k < Dn → ¬ s / 2 ^ k % 2 = 1 → s + 2 ^ k < 2 ^ Dn ∧ bt_L 31 (s + 2 ^ k) = p + 1 ∧ ((M1 5 (s + 2 ^ k) = -1000000000 ∧ ∀ g, ¬ cp Pn Dn (alN S) (s + 2 ^ k) (p + 1) g) ∨ (∃ g, cp Pn Dn (alN S) (s + 2 ^ k) (p + 1) g ∧ (M1 5 (s + 2 ^ k)).toInt = tl Pn (vI S) g (p + 1) ∧ ∀ g', cp Pn Dn (alN S) (s + 2 ^ k) (p + 1) g' → tl Pn (vI S) g' (p + 1) ≤ (M1 5 (s + 2 ^ k)).toInt)) := by
      intro k hk hbit
      have hlt := bx_lt2 hs hk hbit
      have hbt' : bt_L 31 (s + 2 ^ k) = p + 1 := by
        rw [← hbt]
        exact bt_add 31 s k (by omega) (by omega)
      have h := htab (s + 2 ^ k) hlt (by omega)
      unfold gd at h
      rw [hbt'] at h
      exact ⟨hlt, hbt', h⟩
    have hG : ∀ k g1, k < Dn → ¬ s / 2 ^ k % 2 = 1 → alN S p k → cp Pn Dn (alN S) (s + 2 ^ k) (p + 1) g1 → cp Pn Dn (alN S) s p (fun i => if i = p then k else g1 i) ∧ (∀ vl : Nat → Nat → Int, tl Pn vl (fun i => if i = p then k else g1 i) p = vl p k + tl Pn vl g1 (p + 1)) := by
      intro k g1 hk hbit ha hc
      refine ⟨cp_up hk (by omega) ha hc, fun vl => ?_⟩
      rw [tl_s]
      show vl p (if p = p then k else g1 p) + _ = _
      rw [if_pos rfl, tl_c (show p + 1 ≤ Pn by omega) (g' := g1) (fun i h1 _ => if_neg (by omega))]
    have hCg : seC M' s p (g p) := by
      obtain ⟨k1, k2, k3⟩ := hst (g p) hg1 (by omega)
      rcases k3 with ⟨-, q⟩ | ⟨g1, c1, c2, c3⟩
      · exact absurd (cp_dn hp hcp) (q g)
      · have r1 := tl_r hP hv (show p + 1 ≤ Pn by omega) c1
        obtain ⟨G1, G2⟩ := hG (g p) g1 hg1 (by omega) hg3 c1
        have x1 := (hopt _ G1).1
        rw [G2 (vI S), tl_s (g := g)] at x1
        have x2 := c3 g (cp_dn hp hcp)
        have r2 := hv p (g p) hp hg1
        refine ⟨by omega, by rw [((hl' p hp).2 (g p) hg1).2]; exact hg3, by rw [h5]; exact nv_ne c2 r1.1, ?_⟩
        apply Int32.toInt_inj.mp
        have ev := mo_valE hP hD hl' hw hp hg1
        rw [h5, h5, i_add (by rw [ev, c2]; omega) (by rw [ev, c2]; omega), ev, hb, tl_s (g := g)]
        omega
    have hCn : ∀ k, 0 ≤ k → k < g p → ¬ seC M' s p k := by
      rintro k - hk ⟨a, b, c, d⟩
      rw [h5] at c
      obtain ⟨k1, k2, k3⟩ := hst k (by omega) a
      rcases k3 with ⟨q, -⟩ | ⟨g1, c1, c2, c3⟩
      · exact c q
      · have r1 := tl_r hP hv (show p + 1 ≤ Pn by omega) c1
        have r2 := hv p k hp (by omega)
        have ha : alN S p k := by rw [((hl' p hp).2 k (by omega)).2] at b; exact b
        obtain ⟨G1, G2⟩ := hG k g1 (by omega) a ha c1
        have ev := mo_valE hP hD hl' hw hp (show k < Dn by omega)
        have d := congrArg Int32.toInt d
        rw [h5, h5, i_add (by rw [ev, c2]; omega) (by rw [ev, c2]; omega), ev, hb, c2] at d
        have x1 := (hopt _ G1).2 (by rw [G2 (vI S)]; exact d)
        rw [G2 lw, tl_s (g := g)] at x1
        have y1 := lw_b (g := g1) (p := p) (m := Pn) (by omega) hP (fun i q1 q2 => by have := (c1.1 i q1 q2).1; omega)
        have y2 := lw_b (g := g) (p := p) (m := Pn) (by omega) hP (fun i q1 q2 => by have := (hcp.1 i (by omega) q2).1; omega)
        have y3 : (0 : Int) < 16 ^ (10 - Pn) := Int.pow_pos (by omega)
        have y4 := j_pow0 p (by omega)
        have y5 : ((k : Int) + 1) * 16 ^ (9 - p) ≤ (g p : Int) * 16 ^ (9 - p) := Int.mul_le_mul_of_nonneg_right (by omega) (by omega)
        rw [Int.add_mul, Int.one_mul] at y5
        unfold tl at x1
        unfold lw at *
        omega
    obtain ⟨e1, e2⟩ := se_p hCg Dn 0 (Nat.zero_le _) (by omega) hCn
    have eL : so_L Dn (n + 1) p s M' = so_L Dn n (p + 1) (s + 2 ^ (g p)) (ms_w M' 4 p (nI (g p))) := by
      show so_L Dn n (p + 1) (s + 2 ^ (se_d M' s p Dn 0)) (ms_w M' 4 p (nI (se_d M' s p Dn 0))) = _
      rw [e1]
    have eT : so_T Dn (n + 1) p s M' = (se_T M' s p Dn 0 ∧ so_T Dn n (p + 1) (s + 2 ^ (g p)) (ms_w M' 4 p (nI (g p)))) := by
      show (se_T M' s p Dn 0 ∧ so_T Dn n (p + 1) (s + 2 ^ (se_d M' s p Dn 0)) (ms_w M' 4 p (nI (se_d M' s p Dn 0)))) = _
      rw [e1]
    obtain ⟨k1, k2, -⟩ := hst (g p) hg1 (by omega)
    obtain ⟨i1, i2, i3⟩ := ih (p + 1) (s + 2 ^ (g p)) (ms_w M' 4 p (nI (g p))) (by omega) (fun t i ht => (ms_w_n (fun z => ht z.1)).trans (hM t i ht)) k1 k2 (cp_dn hp hcp) (fun g' hg' => by
      obtain ⟨G1, G2⟩ := hG (g p) g' hg1 (by omega) hg3 hg'
      obtain ⟨x1, x2⟩ := hopt _ G1
      rw [G2 (vI S), G2 lw, tl_s (g := g), tl_s (vl := lw) (g := g)] at x2
      rw [G2 (vI S), tl_s (g := g)] at x1
      exact ⟨by omega, fun e => by have := x2 (by rw [e]); omega⟩)
    rw [eL, eT]
    refine ⟨⟨e2, i1⟩, fun i hi => ?_, fun i h1 h2 => ?_⟩
    · rw [i2 i (by omega)]
      exact ms_w_n (by omega)
    · by_cases e : i = p
      · rw [i2 i (by omega), e]
        exact ms_w_s _ _ _ _
      · exact i3 i (by omega) h2
noncomputable def mW (but : Int32) (Pn : Nat) (S : ds_S) (g : Nat → Nat) : Int := sm_S (fun p => sm_c (mb but Pn p) (S.1 10 p (g p)).toInt) 10
theorem mV_W (but : Int32) {Pn N : Nat} {S : ds_S} {g : Nat → Nat} (hN : N ≤ 14) (hw : wishR S) (hg : as_ok 10 N (mb but Pn) (alN S) g) : ∃ m : Int, 0 ≤ m ∧ m ≤ 10 ∧ mV but Pn S g = 16 * mW but Pn S g - m ∧ 0 ≤ mW but Pn S g ∧ mW but Pn S g ≤ 10000 := by
  refine ⟨sm_S (fun p => sm_c (mb but Pn p) (if pe_wm S p (nI (g p)) = 0 then 0 else 1)) 10, sm_nonneg (fun p _ => ?_), ?_, ?_, sm_nonneg (fun p hp => ?_), ?_⟩
  · by_cases h : mb but Pn p
    · rw [sm_ct h]; split <;> omega
    · rw [sm_cf h]; omega
  · have h1 : sm_S (fun p => sm_c (mb but Pn p) (if pe_wm S p (nI (g p)) = 0 then 0 else 1)) 10 ≤ sm_S (fun _ => 1) 10 := sm_le (fun p _ => by
      by_cases h : mb but Pn p
      · rw [sm_ct h]; split <;> omega
      · rw [sm_cf h]; omega)
    have h2 : sm_S (fun _ => 1) 10 = 10 := by decide
    omega
  · unfold mV mW
    rw [← sm_mul, ← sm_sub]
    refine sm_congr (fun p _ => ?_)
    by_cases h : mb but Pn p
    · rw [sm_ct h, sm_ct h, sm_ct h]; rfl
    · rw [sm_cf h, sm_cf h, sm_cf h]; rfl
  · by_cases h : mb but Pn p
    · rw [sm_ct h]; exact (hw p (g p) hp (by have := (hg.1 p hp h).1; omega)).1
    · rw [sm_cf h]; omega
  · have h1 : mW but Pn S g ≤ sm_S (fun _ => 1000) 10 := sm_le (fun p hp => by
      by_cases h : mb but Pn p
      · rw [sm_ct h]; exact (hw p (g p) hp (by have := (hg.1 p hp h).1; omega)).2
      · rw [sm_cf h]; omega)
    have h2 : sm_S (fun _ => 1000) 10 = 10000 := by decide
    omega
theorem mo_wiE {x : Int32} {W m : Int} (h : x.toInt = 16 * W - m) (h0 : 0 ≤ m) (h1 : m ≤ 10) (hW0 : 0 ≤ W) (hW1 : W ≤ 10000) : (mo_wi x).toInt = W := by
  have e1 : (x + 15).toInt = x.toInt + 15 := i_add (by show _ ≤ x.toInt + (15 : Int); omega) (by show x.toInt + (15 : Int) < _; omega)
  unfold mo_wi
  rw [Int32.toInt_div, e1, h]
  show ((16 * W - m + 15).tdiv 16).bmod (2 ^ 32) = W
  have e2 : (16 * W - m + 15).tdiv 16 = W := by
    rw [Int.tdiv_eq_ediv_of_nonneg (by omega)]
    omega
  rw [e2]
  exact Int.bmod_eq_of_le (by omega) (by omega)
/-- both find the same worth -/
theorem wi_end {M : ms_S} {S : ds_S} {Pn Dn : Nat} {but : Int32} {g : Nat → Nat} (hP : Pn ≤ 10) (hD : Dn ≤ 14) (hl : rl M S Pn Dn) (hw : wishR S) (hg : as_ok 10 Dn (mb but Pn) (alN S) g) (hmin : ∀ g', as_ok 10 Dn (mb but Pn) (alN S) g' → as_T 10 (mb but Pn) (cI S) g ≤ as_T 10 (mb but Pn) (cI S) g') :
    (mo_wi (fb_S (fb_O M but Pn).2 Dn (2 ^ Dn) (fb_O M but Pn).1 5 0)).toInt = mW but Pn S g ∧ ¬ fb_S (fb_O M but Pn).2 Dn (2 ^ Dn) (fb_O M but Pn).1 5 0 ≤ -1000000000 ∧ 0 ≤ mW but Pn S g ∧ mW but Pn S g ≤ 10000 := by
  obtain ⟨o, r, hO⟩ := fb_Ox M but hP
  obtain ⟨h1, h2, h3⟩ := (tab_0 hP hD hl hw rfl hO).2 g hg (fun g' hg' => (ch_opt hD hg hmin g' hg').1)
  obtain ⟨m, a, b, c, d, e⟩ := mV_W but hD hw hg
  refine ⟨mo_wiE (h1.trans c) a b d e, fun z => ?_, d, e⟩
  have z := Int32.le_iff_toInt_le.mp z
  have : (-1000000000 : Int32).toInt = -1000000000 := rfl
  omega
theorem cp_id {Pn N : Nat} {S : ds_S} {g : Nat → Nat} (hP : Pn ≤ 10) : as_ok 10 N (mb (-1) Pn) (alN S) g ↔ cp Pn N (alN S) 0 0 g := by
  constructor
  · intro h
    exact cp_as (o := id) (r := id) (T := (fb_O (fun _ _ => 0) (-1) Pn).1) hP (fb_Oi _ hP) h
  · intro h
    exact as_cp (o := id) (r := id) (T := (fb_O (fun _ _ => 0) (-1) Pn).1) (fb_Oi _ hP) h
theorem tl_0 {Pn : Nat} (hP : Pn ≤ 10) (vl : Nat → Nat → Int) (g : Nat → Nat) : tl Pn vl g 0 = sm_S (fun p => sm_c (mb (-1) Pn p) (vl p (g p))) 10 := by
  rw [← (fb_Oi (fun _ _ => 0) hP).2.2 (fun p => vl p (g p))]
  unfold tl
  show sm_S (fun i => vl i (g i)) Pn - 0 = sm_S (fun i => vl i (g i)) Pn
  omega
/-- the seating -/
theorem seat_end {M : ms_S} {S : ds_S} {Pn Dn : Nat} {g : Nat → Nat} (hP : Pn ≤ 10) (hD : Dn ≤ 14) (hl : rl M S Pn Dn) (hw : wishR S) (hg : as_ok 10 Dn (mb (-1) Pn) (alN S) g) (hmin : ∀ g', as_ok 10 Dn (mb (-1) Pn) (alN S) g' → as_T 10 (mb (-1) Pn) (cI S) g ≤ as_T 10 (mb (-1) Pn) (cI S) g') :
    ¬ se_B M Pn Dn 5 0 ≤ -1000000000 ∧ so_T Dn Pn 0 0 (se_1 M Pn Dn) ∧ (∀ p, p < Pn → se_2 M Pn Dn 4 p = nI (g p)) ∧ (mo_wi (se_B M Pn Dn 5 0)).toInt = mW (-1) Pn S g := by
  have hl0 : rl (ms_w M 20 0 0) S Pn Dn := fun p hp => ⟨(ms_w_n (by omega)).trans (hl p hp).1, fun d hd => ⟨(ms_w_n (by omega)).trans ((hl p hp).2 d hd).1, (ms_w_n (by omega)).trans ((hl p hp).2 d hd).2⟩⟩
  obtain ⟨w1, w2, -, -⟩ := wi_end hP hD hl0 hw hg hmin
  have hid := (fb_Oid (ms_w M 20 0 0) Pn hP).1
  have htab := tab_g hP hD hl0 hw hid (fb_Oi _ hP)
  have hB : ∀ i, se_1 M Pn Dn 5 i = fb_S Pn Dn (2 ^ Dn) (fb_O (ms_w M 20 0 0) (-1) Pn).1 5 i := fun i => by
    unfold se_1 se_B
    rw [ms_w_n (by omega), ms_w_n (by omega), hid]
  have hl1 : rl (se_1 M Pn Dn) S Pn Dn := fun p hp => ⟨(se_1n M Pn Dn 3 p (by decide) (by decide) (by decide) (by decide) (by decide) (by decide)).trans (hl p hp).1, fun d hd => ⟨(se_1n M Pn Dn 1 _ (by decide) (by decide) (by decide) (by decide) (by decide) (by decide)).trans ((hl p hp).2 d hd).1, (se_1n M Pn Dn 2 _ (by decide) (by decide) (by decide) (by decide) (by decide) (by decide)).trans ((hl p hp).2 d hd).2⟩⟩
  obtain ⟨a, -, b⟩ := so_main (g := g) hP hD hw hl1 (fun s' h1 h2 => by rw [hB]; exact htab s' h1 h2) Pn 0 0 (se_1 M Pn Dn) (by omega) (fun _ _ _ => rfl) (Nat.pow_pos (by omega)) (bt_0 31) ((cp_id hP).mp hg) (fun g' hg' => by
    have := ch_opt hD hg hmin g' ((cp_id hP).mpr hg')
    rw [tl_0 hP, tl_0 hP, tl_0 hP, tl_0 hP]
    exact this)
  exact ⟨w2, a, fun p hp => b p (Nat.zero_le _) hp, w1⟩
theorem seat_no {M : ms_S} {S : ds_S} {Pn Dn : Nat} (hP : Pn ≤ 10) (hD : Dn ≤ 14) (hl : rl M S Pn Dn) (hw : wishR S) (hno : ∀ g, ¬ as_ok 10 Dn (mb (-1) Pn) (alN S) g) : se_B M Pn Dn 5 0 ≤ -1000000000 := by
  have hl0 : rl (ms_w M 20 0 0) S Pn Dn := fun p hp => ⟨(ms_w_n (by omega)).trans (hl p hp).1, fun d hd => ⟨(ms_w_n (by omega)).trans ((hl p hp).2 d hd).1, (ms_w_n (by omega)).trans ((hl p hp).2 d hd).2⟩⟩
  obtain ⟨o, r, hO⟩ := fb_Ox (ms_w M 20 0 0) (-1) hP
  have := (tab_0 hP hD hl0 hw rfl hO).1 hno
  unfold se_B
  rw [this]
  exact Int32.le_refl _
