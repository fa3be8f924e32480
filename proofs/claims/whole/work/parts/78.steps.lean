/-! PURE: a walk has at most 15 steps -/
def hom (nd pl : Nat → Int32) (p : Nat) : Prop := pl p = nd p
noncomputable def hmc (Pn : Nat) (nd pl : Nat → Int32) : Int := sm_S (fun p => sm_c (hom nd pl p) 1) Pn
def upd1 (f : Nat → Int32) (x : Nat) (v : Int32) : Nat → Int32 := fun i => if i = x then v else f i
noncomputable def nhm (nd pl : Nat → Int32) (p : Nat) : Int := sm_c (¬ hom nd pl p) 1
/-- k steps were made: a of them aside, p the last who went there, q who sat at its desk then -/
def wkI (Pn : Nat) (nd pl : Nat → Int32) (k : Nat) : Prop :=
  (k : Int) ≤ hmc Pn nd pl ∨ ∃ a p q : Nat, p < Pn ∧ q < Pn ∧ p ≠ q ∧ (k : Int) ≤ hmc Pn nd pl + a ∧ 2 * (a : Int) ≤ hmc Pn nd pl + nhm nd pl p + nhm nd pl q ∧ (pl q = nd p ∨ hom nd pl q) ∧ (hom nd pl p ∨ ∀ r, r < Pn → ¬ hom nd pl r → nd r ≠ pl p)
theorem upd1_s (f : Nat → Int32) (x : Nat) (v : Int32) : upd1 f x v x = v := if_pos rfl
theorem upd1_n {f : Nat → Int32} {x : Nat} {v : Int32} {i : Nat} (h : i ≠ x) : upd1 f x v i = f i := if_neg h
theorem nhm_r (nd pl : Nat → Int32) (p : Nat) : (hom nd pl p ∧ nhm nd pl p = 0) ∨ (¬ hom nd pl p ∧ nhm nd pl p = 1) := by
  unfold nhm
  by_cases h : hom nd pl p
  · exact Or.inl ⟨h, sm_cf (fun z => z h)⟩
  · exact Or.inr ⟨h, sm_ct h⟩
theorem wk_home {Pn k x : Nat} {nd pl : Nat → Int32} (hx : x < Pn) (hn : ¬ hom nd pl x) (h : wkI Pn nd pl k) : wkI Pn nd (upd1 pl x (nd x)) (k + 1) := by
  have hh : ∀ r, hom nd (upd1 pl x (nd x)) r ↔ hom nd pl r ∨ r = x := fun r => by
    unfold hom
    by_cases e : r = x
    · subst e; rw [upd1_s]; exact ⟨fun _ => Or.inr rfl, fun _ => rfl⟩
    · rw [upd1_n e]; exact ⟨fun z => Or.inl z, fun z => z.resolve_right e⟩
  have hc : hmc Pn nd (upd1 pl x (nd x)) = hmc Pn nd pl + 1 := cn_add hx hn (fun d _ => hh d)
  have hne : ∀ r, r ≠ x → nhm nd (upd1 pl x (nd x)) r = nhm nd pl r := fun r hr => by
    unfold nhm
    exact sm_ce ⟨fun z y => z ((hh r).mpr (Or.inl y)), fun z y => z (((hh r).mp y).resolve_right hr)⟩ (fun _ => rfl)
  rcases h with h | ⟨a, p, q, h1, h2, h3, h4, h5, h6, h7⟩
  · exact Or.inl (by rw [hc]; omega)
  · refine Or.inr ⟨a, p, q, h1, h2, h3, by rw [hc]; omega, ?_, ?_, ?_⟩
    · rw [hc]
      have n1 := nhm_r nd pl p
      have n2 := nhm_r nd pl q
      have n3 := nhm_r nd (upd1 pl x (nd x)) p
      have n4 := nhm_r nd (upd1 pl x (nd x)) q
      by_cases ep : p = x
      · rw [hne q (fun e => h3 (ep.trans e.symm))]
        omega
      · rw [hne p ep]
        omega
    · by_cases e : q = x
      · exact Or.inr ((hh q).mpr (Or.inr e))
      · rcases h6 with h6 | h6
        · exact Or.inl (by rw [upd1_n e]; exact h6)
        · exact Or.inr ((hh q).mpr (Or.inl h6))
    · by_cases e : p = x
      · exact Or.inl ((hh p).mpr (Or.inr e))
      · rcases h7 with h7 | h7
        · exact Or.inl ((hh p).mpr (Or.inl h7))
        · exact Or.inr (fun r hr hn' => by rw [upd1_n e]; exact h7 r hr (fun z => hn' ((hh r).mpr (Or.inl z))))
theorem wk_aside {Pn k x : Nat} {nd pl : Nat → Int32} {d : Int32} (hinj : ∀ p q, p < Pn → q < Pn → nd p = nd q → p = q) (hm1 : ∀ p, p < Pn → nd p ≠ -1) (hdist : ∀ p q, p < Pn → q < Pn → pl p = pl q → pl p = -1 ∨ p = q)
    (hblk : ∀ r, r < Pn → ¬ hom nd pl r → ∃ s, s < Pn ∧ pl s = nd r) (hx : x < Pn) (hn : ¬ hom nd pl x) (hfree : ∀ r, r < Pn → pl r ≠ d) (h : wkI Pn nd pl k) : wkI Pn nd (upd1 pl x d) (k + 1) := by
  obtain ⟨q0, hq0, eq0⟩ := hblk x hx hn
  have hqx : q0 ≠ x := fun e => hn (by unfold hom; rw [e] at eq0; exact eq0)
  have hdx : d ≠ nd x := fun e => hfree q0 hq0 (eq0.trans e.symm)
  have hh : ∀ r, hom nd (upd1 pl x d) r ↔ hom nd pl r := fun r => by
    by_cases e : r = x
    · subst e
      unfold hom at *
      rw [upd1_s]
      exact ⟨fun z => absurd z hdx, fun z => absurd z hn⟩
    · unfold hom
      rw [upd1_n e]
  have hc : hmc Pn nd (upd1 pl x d) = hmc Pn nd pl := sm_congr (fun p _ => sm_ce (hh p) (fun _ => rfl))
  have hqn : ¬ hom nd pl q0 := fun z => hqx (hinj q0 x hq0 hx (z.symm.trans eq0))
  have hold : ∃ a : Nat, (k : Int) ≤ hmc Pn nd pl + a ∧ 2 * (a : Int) ≤ hmc Pn nd pl := by
    rcases h with h | ⟨a, p, q, h1, h2, h3, h4, h5, h6, h7⟩
    · refine ⟨0, by omega, ?_⟩
      have : (0 : Int) ≤ hmc Pn nd pl := sm_nonneg (fun p _ => by
        by_cases z : hom nd pl p
        · rw [sm_ct z]; omega
        · rw [sm_cf z]; omega)
      omega
    · have hp : hom nd pl p := by
        rcases h7 with h7 | h7
        · exact h7
        · refine Classical.byContradiction (fun hnp => ?_)
          have hex : ∀ r, ∃ s, r < Pn → ¬ hom nd pl r → s < Pn ∧ pl s = nd r := fun r => by
            by_cases z : r < Pn ∧ ¬ hom nd pl r
            · obtain ⟨s, s1, s2⟩ := hblk r z.1 z.2
              exact ⟨s, fun _ _ => ⟨s1, s2⟩⟩
            · exact ⟨0, fun y1 y2 => absurd ⟨y1, y2⟩ z⟩
          have hoc : ∀ r, r < Pn → ¬ hom nd pl r → Classical.choose (hex r) < Pn ∧ pl (Classical.choose (hex r)) = nd r := fun r => Classical.choose_spec (hex r)
          have hcn := as_count (N := Pn) (D := Pn) (A := fun r => ¬ hom nd pl r) (B := fun r => ¬ hom nd pl r ∧ r ≠ p) (g := fun r => Classical.choose (hex r)) (fun r hr hnr => by
              obtain ⟨s1, s2⟩ := hoc r hr hnr
              refine ⟨s1, fun z => ?_, fun z => ?_⟩
              · have z : pl (Classical.choose (hex r)) = nd (Classical.choose (hex r)) := z
                have := hinj _ r s1 hr (z.symm.trans s2)
                rw [this] at z
                exact hnr z
              · have z : Classical.choose (hex r) = p := z
                rw [z] at s2
                exact h7 r hr hnr s2.symm) (fun r r' hr hr' hnr hnr' e => by
              obtain ⟨s1, s2⟩ := hoc r hr hnr
              obtain ⟨s1', s2'⟩ := hoc r' hr' hnr'
              have e : Classical.choose (hex r) = Classical.choose (hex r') := e
              rw [e] at s2
              exact hinj r r' hr hr' (s2.symm.trans s2'))
          have hca := cn_add (P := fun r => ¬ hom nd pl r ∧ r ≠ p) (Q := fun r => ¬ hom nd pl r) h1 (fun z => z.2 rfl) (fun r _ => ⟨fun z => by
              by_cases e : r = p
              · exact Or.inr e
              · exact Or.inl ⟨z, e⟩, fun z => by
              rcases z with z | z
              · exact z.1
              · rw [z]; exact hnp⟩)
          omega
      have hq : hom nd pl q := by
        rcases h6 with h6 | h6
        · exfalso
          have e : pl p = pl q := by rw [h6]; exact hp
          rcases hdist p q h1 h2 e with z | z
          · exact hm1 p h1 (hp.symm.trans z)
          · exact h3 z
        · exact h6
      have n1 := nhm_r nd pl p
      have n2 := nhm_r nd pl q
      refine ⟨a, h4, ?_⟩
      rcases n1 with n1 | n1
      · rcases n2 with n2 | n2
        · omega
        · exact absurd hq n2.1
      · exact absurd hp n1.1
  obtain ⟨a, a1, a2⟩ := hold
  refine Or.inr ⟨a + 1, x, q0, hx, hq0, fun e => hqx e.symm, by rw [hc]; omega, ?_, Or.inl (by rw [upd1_n hqx]; exact eq0), Or.inr (fun r hr hnr => ?_)⟩
  · rw [hc]
    have n1 := nhm_r nd (upd1 pl x d) x
    have n2 := nhm_r nd (upd1 pl x d) q0
    rcases n1 with n1 | n1
    · exact absurd ((hh x).mp n1.1) hn
    · rcases n2 with n2 | n2
      · exact absurd ((hh q0).mp n2.1) hqn
      · omega
  · rw [upd1_s]
    intro e
    obtain ⟨s, s1, s2⟩ := hblk r hr (fun z => hnr ((hh r).mpr z))
    exact hfree s s1 (s2.trans e)
theorem wk_15 {Pn : Nat} {nd pl : Nat → Int32} (hP : Pn ≤ 10) (h : wkI Pn nd pl 15) : ∀ p, p < Pn → hom nd pl p := by
  have hle : hmc Pn nd pl ≤ Pn := cn_le Pn
  rcases h with h | ⟨a, p, q, h1, h2, h3, h4, h5, h6, h7⟩
  · exfalso; omega
  · have hs : hmc Pn nd pl + nhm nd pl p + nhm nd pl q ≤ Pn := by
      have n1 := nhm_r nd pl p
      have n2 := nhm_r nd pl q
      rcases n1 with n1 | n1
      · rcases n2 with n2 | n2
        · omega
        · have := cn_add (P := hom nd pl) (Q := fun r => hom nd pl r ∨ r = q) h2 n2.1 (fun _ _ => Iff.rfl)
          have := cn_le (P := fun r => hom nd pl r ∨ r = q) Pn
          unfold hmc at *
          omega
      · rcases n2 with n2 | n2
        · have := cn_add (P := hom nd pl) (Q := fun r => hom nd pl r ∨ r = p) h1 n1.1 (fun _ _ => Iff.rfl)
          have := cn_le (P := fun r => hom nd pl r ∨ r = p) Pn
          unfold hmc at *
          omega
        · have := cn_add (P := hom nd pl) (Q := fun r => hom nd pl r ∨ r = p) h1 n1.1 (fun _ _ => Iff.rfl)
          have := cn_add (P := fun r => hom nd pl r ∨ r = p) (Q := fun r => (hom nd pl r ∨ r = p) ∨ r = q) h2 (fun z => z.elim n2.1 (fun e => h3 e.symm)) (fun _ _ => Iff.rfl)
          have := cn_le (P := fun r => (hom nd pl r ∨ r = p) ∨ r = q) Pn
          unfold hmc at *
          omega
    have e : hmc Pn nd pl = Pn := by omega
    exact cn_all e
/-! bits of the mask of taken desks -/
def wbt (x : Int32) (d : Nat) : Bool := x.toBitVec.getLsbD d
theorem wb_1 : ∀ d, d < 14 → ∀ i, i < 32 → ((1 : Int32) <<< (nI d &&& 31)).toBitVec.getLsbD i = decide (d = i) := by decide +kernel
theorem wb_2 : ∀ a, a < 14 → ∀ d, d < 14 → (((1 : Int32) <<< (nI a &&& 31)) ^^^ (-1)).toBitVec.getLsbD d = !decide (a = d) := by decide +kernel
theorem wb_and (x y : Int32) (d : Nat) : wbt (x &&& y) d = (wbt x d && wbt y d) := by
  unfold wbt
  rw [Int32.toBitVec_and, BitVec.getLsbD_and]
theorem wb_or (x y : Int32) (d : Nat) : wbt (x ||| y) d = (wbt x d || wbt y d) := by
  unfold wbt
  rw [Int32.toBitVec_or, BitVec.getLsbD_or]
theorem wb_0 (d : Nat) : wbt 0 d = false := by
  unfold wbt
  exact BitVec.getLsbD_zero
theorem wb_z {x : Int32} {d : Nat} (hd : d < 14) : x &&& ((1 : Int32) <<< (nI d &&& 31)) = 0 ↔ wbt x d = false := by
  constructor
  · intro h
    have e : wbt (x &&& ((1 : Int32) <<< (nI d &&& 31))) d = false := by rw [h]; exact wb_0 d
    rw [wb_and] at e
    have e1 : wbt ((1 : Int32) <<< (nI d &&& 31)) d = true := by
      unfold wbt
      rw [wb_1 d hd d (by omega)]
      simp
    rw [e1, Bool.and_true] at e
    exact e
  · intro h
    apply Int32.toBitVec_inj.mp
    apply BitVec.eq_of_getLsbD_eq
    intro i hi
    show wbt (x &&& ((1 : Int32) <<< (nI d &&& 31))) i = wbt 0 i
    rw [wb_and, wb_0]
    have e1 : wbt ((1 : Int32) <<< (nI d &&& 31)) i = decide (d = i) := wb_1 d hd i hi
    rw [e1]
    by_cases e : d = i
    · subst e; rw [h]; rfl
    · rw [decide_eq_false e, Bool.and_false]
theorem wb_set {x : Int32} {a d : Nat} (ha : a < 14) (hd : d < 14) : wbt (x ||| ((1 : Int32) <<< (nI a &&& 31))) d = true ↔ wbt x d = true ∨ a = d := by
  rw [wb_or]
  have e1 : wbt ((1 : Int32) <<< (nI a &&& 31)) d = decide (a = d) := wb_1 a ha d (by omega)
  rw [e1, Bool.or_eq_true, decide_eq_true_iff]
theorem wb_clr {x : Int32} {a d : Nat} (ha : a < 14) (hd : d < 14) : wbt (x &&& (((1 : Int32) <<< (nI a &&& 31)) ^^^ (-1))) d = true ↔ wbt x d = true ∧ ¬ a = d := by
  rw [wb_and]
  have e1 : wbt (((1 : Int32) <<< (nI a &&& 31)) ^^^ (-1)) d = !decide (a = d) := wb_2 a ha d hd
  rw [e1, Bool.and_eq_true]
  by_cases e : a = d
  · rw [decide_eq_true e]; exact ⟨fun z => absurd z.2 (by decide), fun z => absurd e z.2⟩
  · rw [decide_eq_false e]; exact ⟨fun z => ⟨z.1, e⟩, fun z => ⟨z.1, rfl⟩⟩
