/-! PURE: rooms: chains of bookings as lists -/
def chn (nx : Nat → Option Nat) : Option Nat → List Nat → Prop
  | o, [] => o = none
  | o, k :: L => o = some k ∧ chn nx (nx k) L
theorem chn_ho {nx : Nat → Option Nat} : ∀ (L : List Nat) (n : Nat) (o : Option Nat), chn nx o L → L.length < n → ho_T nx n o
  | [], 0, _, _, h => absurd h (Nat.lt_irrefl 0)
  | [], n + 1, o, h, _ => by
    have h : o = none := h
    rw [h]
    trivial
  | k :: L, 0, _, _, h => absurd h (Nat.not_lt_zero _)
  | k :: L, n + 1, o, h, hl => by
    obtain ⟨e, h⟩ := h
    rw [e]
    exact chn_ho L n (nx k) h (Nat.lt_of_succ_lt_succ hl)
/-- what class and model know of the rooms -/
def rmL (S : ds_S) (M : ms_S) (nb Rn : Nat) (L : Nat → List Nat) : Prop :=
  (∀ r, chn (S.2.2 3) (S.2.2 2 r) (L r)) ∧
  (∀ r k, k ∈ L r ↔ k < nb ∧ ¬ M 14 k = 0 ∧ S.2.2 4 k = some r) ∧
  (∀ r, (L r).Pairwise (fun i j => (S.1 21 i 0).toInt ≤ (S.1 20 j 0).toInt)) ∧
  (∀ k, k < nb → ∃ r, r < Rn ∧ S.2.2 4 k = some r ∧ M 10 k = nI r ∧ M 11 k = S.1 20 k 0 ∧ M 12 k = S.1 21 k 0 ∧ M 13 k = S.1 19 r 0 - S.1 22 k 0 ∧ 0 ≤ (S.1 20 k 0).toInt ∧ (S.1 20 k 0).toInt < (S.1 21 k 0).toInt ∧ (S.1 21 k 0).toInt ≤ 10080 ∧ (M 14 k = 0 ∨ M 14 k = 1)) ∧
  (∀ r, r < Rn → M 9 r = S.1 19 r 0) ∧
  (∀ k k', S.2.2 3 k = some k' → k' < nb) ∧
  (∀ j, S.2.2 5 j = if j < nb then some j else none)
def rmI (S : ds_S) (M : ms_S) (nb Rn : Nat) : Prop := ∃ L, rmL S M nb Rn L
theorem rmL_frame {S S' : ds_S} {M M' : ms_S} {nb Rn : Nat} {L : Nat → List Nat} (h : rmL S M nb Rn L) (h1 : ∀ t i j, t = 19 ∨ t = 20 ∨ t = 21 ∨ t = 22 → S'.1 t i j = S.1 t i j) (h2 : ∀ t i, t = 2 ∨ t = 3 ∨ t = 4 ∨ t = 5 → S'.2.2 t i = S.2.2 t i) (h3 : ∀ t i, 9 ≤ t → t ≤ 14 → M' t i = M t i) : rmL S' M' nb Rn L := by
  have e3 : S'.2.2 3 = S.2.2 3 := funext (fun i => h2 3 i (by omega))
  have e20 : ∀ k, S'.1 20 k 0 = S.1 20 k 0 := fun k => h1 20 k 0 (by omega)
  have e21 : ∀ k, S'.1 21 k 0 = S.1 21 k 0 := fun k => h1 21 k 0 (by omega)
  obtain ⟨a1, a2, a3, a4, a5, a6, a7⟩ := h
  refine ⟨fun r => by rw [e3, h2 2 r (by omega)]; exact a1 r, fun r k => by rw [h3 14 k (by decide) (by decide), h2 4 k (by omega)]; exact a2 r k, fun r => ?_, fun k hk => ?_, fun r hr => by rw [h3 9 r (by decide) (by decide), h1 19 r 0 (by omega)]; exact a5 r hr, fun k k' e => a6 k k' (by rw [e3] at e; exact e), fun j => by rw [h2 5 j (by omega)]; exact a7 j⟩
  · refine List.Pairwise.imp (fun {i j} h => ?_) (a3 r)
    rw [e20, e21]
    exact h
  · obtain ⟨r, b⟩ := a4 k hk
    refine ⟨r, ?_⟩
    rw [e20, e21, h2 4 k (by omega), h3 10 k (by decide) (by decide), h3 11 k (by decide) (by decide), h3 12 k (by decide) (by decide), h3 13 k (by decide) (by decide), h3 14 k (by decide) (by decide), h1 19 r 0 (by omega), h1 22 k 0 (by omega)]
    exact b
theorem rmI_frame {S S' : ds_S} {M M' : ms_S} {nb Rn : Nat} (h : rmI S M nb Rn) (h1 : ∀ t i j, t = 19 ∨ t = 20 ∨ t = 21 ∨ t = 22 → S'.1 t i j = S.1 t i j) (h2 : ∀ t i, t = 2 ∨ t = 3 ∨ t = 4 ∨ t = 5 → S'.2.2 t i = S.2.2 t i) (h3 : ∀ t i, 9 ≤ t → t ≤ 14 → M' t i = M t i) : rmI S' M' nb Rn := by
  obtain ⟨L, h⟩ := h
  exact ⟨L, rmL_frame h h1 h2 h3⟩
theorem rm_len {S : ds_S} {M : ms_S} {nb Rn : Nat} {L : Nat → List Nat} (hR : Rn ≤ 8) (h : rmL S M nb Rn L) : ∃ n0, ∀ r, (L r).length < n0 := by
  have hx : ∀ m, ∃ n0, ∀ r, r < m → (L r).length < n0 := fun m => by
    induction m with
    | zero => exact ⟨0, fun r h => absurd h (Nat.not_lt_zero r)⟩
    | succ m ih =>
      obtain ⟨n0, h0⟩ := ih
      refine ⟨n0 + (L m).length + 1, fun r hr => ?_⟩
      by_cases e : r = m
      · rw [e]; omega
      · have := h0 r (by omega); omega
  obtain ⟨n0, h0⟩ := hx 8
  refine ⟨n0 + 1, fun r => ?_⟩
  by_cases hr : r < 8
  · have := h0 r hr; omega
  · cases e : L r with
    | nil => show 0 < n0 + 1; omega
    | cons k l =>
      exfalso
      obtain ⟨a, b, c⟩ := (h.2.1 r k).mp (by rw [e]; exact List.mem_cons_self)
      obtain ⟨r', d1, d2, -⟩ := h.2.2.2.1 k a
      rw [c] at d2
      cases d2
      omega
theorem rm_CH {S : ds_S} {M : ms_S} {nb Rn n0 : Nat} {L : Nat → List Nat} (h : rmL S M nb Rn L) (hn : ∀ r, (L r).length < n0) : (∀ k k', S.2.2 3 k = some k' → k' < nb) ∧ (∀ r k, S.2.2 2 r = some k → k < nb) ∧ (∀ r, ho_T (S.2.2 3) n0 (S.2.2 2 r)) := by
  refine ⟨h.2.2.2.2.2.1, fun r k e => ?_, fun r => chn_ho (L r) n0 _ (h.1 r) (hn r)⟩
  have hc := h.1 r
  cases el : L r with
  | nil =>
    rw [el] at hc
    have hc : S.2.2 2 r = none := hc
    rw [hc] at e
    cases e
  | cons k' l =>
    rw [el] at hc
    have e' := hc.1
    rw [e] at e'
    cases e'
    exact ((h.2.1 r k).mp (by rw [el]; exact List.mem_cons_self)).1
theorem bw_p {S : ds_S} {a b : Int32} : ∀ (L : List Nat) (n : Nat) (o : Option Nat), chn (S.2.2 3) o L → L.length < n → (bw_L S a b n o = none ∧ ∀ k, k ∈ L → b ≤ S.1 20 k 0 ∨ S.1 21 k 0 ≤ a) ∨ ∃ k, k ∈ L ∧ bw_L S a b n o = some k ∧ ¬ b ≤ S.1 20 k 0 ∧ ¬ S.1 21 k 0 ≤ a
  | [], 0, _, _, h => absurd h (Nat.lt_irrefl 0)
  | [], n + 1, o, h, _ => by
    have h : o = none := h
    rw [h]
    exact Or.inl ⟨rfl, fun k hk => absurd hk List.not_mem_nil⟩
  | k :: L, 0, _, _, h => absurd h (Nat.not_lt_zero _)
  | k :: L, n + 1, o, h, hl => by
    obtain ⟨e, h⟩ := h
    rw [e]
    have ih := bw_p (S := S) (a := a) (b := b) L n (S.2.2 3 k) h (Nat.lt_of_succ_lt_succ hl)
    unfold bw_L
    by_cases c1 : b ≤ S.1 20 k 0
    · rw [if_pos c1]
      rcases ih with ⟨i1, i2⟩ | ⟨k', i1, i2⟩
      · refine Or.inl ⟨i1, fun k' hk' => ?_⟩
        rcases List.mem_cons.mp hk' with q | q
        · rw [q]; exact Or.inl c1
        · exact i2 k' q
      · exact Or.inr ⟨k', List.mem_cons_of_mem _ i1, i2⟩
    · rw [if_neg c1]
      by_cases c2 : S.1 21 k 0 ≤ a
      · rw [if_pos c2]
        rcases ih with ⟨i1, i2⟩ | ⟨k', i1, i2⟩
        · refine Or.inl ⟨i1, fun k' hk' => ?_⟩
          rcases List.mem_cons.mp hk' with q | q
          · rw [q]; exact Or.inr c2
          · exact i2 k' q
        · exact Or.inr ⟨k', List.mem_cons_of_mem _ i1, i2⟩
      · rw [if_neg c2]
        exact Or.inr ⟨k, List.mem_cons_self, rfl, c1, c2⟩
theorem mm_p {M : ms_S} {x a b : Int32} : ∀ n, n ≤ 300 → (mm_L M x a b n = -1 ∧ ∀ k, k < n → ¬ M 14 k = 0 → M 10 k = x → b ≤ M 11 k ∨ M 12 k ≤ a) ∨ ∃ k, k < n ∧ mm_L M x a b n = nI k ∧ ¬ M 14 k = 0 ∧ M 10 k = x ∧ ¬ b ≤ M 11 k ∧ ¬ M 12 k ≤ a
  | 0, _ => Or.inl ⟨rfl, fun k h => absurd h (Nat.not_lt_zero k)⟩
  | n + 1, hn => by
    have ih := mm_p (M := M) (x := x) (a := a) (b := b) n (by omega)
    have skip : (¬ M 14 n = 0 → M 10 n = x → b ≤ M 11 n ∨ M 12 n ≤ a) → (mm_L M x a b n = -1 ∧ ∀ k, k < n + 1 → ¬ M 14 k = 0 → M 10 k = x → b ≤ M 11 k ∨ M 12 k ≤ a) ∨ ∃ k, k < n + 1 ∧ mm_L M x a b n = nI k ∧ ¬ M 14 k = 0 ∧ M 10 k = x ∧ ¬ b ≤ M 11 k ∧ ¬ M 12 k ≤ a := fun hs => by
      rcases ih with ⟨i1, i2⟩ | ⟨k, i1, i2⟩
      · refine Or.inl ⟨i1, fun k hk => ?_⟩
        by_cases e : k = n
        · rw [e]; exact hs
        · exact i2 k (by omega)
      · exact Or.inr ⟨k, by omega, i2⟩
    unfold mm_L
    by_cases c0 : M 14 n = 0
    · rw [if_pos c0]; exact skip (fun z => absurd c0 z)
    · rw [if_neg c0]
      by_cases c1 : M 10 n = x
      · rw [if_pos c1]
        by_cases c2 : b ≤ M 11 n
        · rw [if_pos c2]; exact skip (fun _ _ => Or.inl c2)
        · rw [if_neg c2]
          by_cases c3 : M 12 n ≤ a
          · rw [if_pos c3]; exact skip (fun _ _ => Or.inr c3)
          · rw [if_neg c3]; exact Or.inr ⟨n, by omega, rfl, c0, c1, c2, c3⟩
      · rw [if_neg c1]; exact skip (fun _ z => absurd z c1)
theorem rm_room {S : ds_S} {M : ms_S} {nb Rn : Nat} {L : Nat → List Nat} (hR : Rn ≤ 8) (h : rmL S M nb Rn L) {r k : Nat} (hr : r < 8) : k ∈ L r ↔ k < nb ∧ ¬ M 14 k = 0 ∧ M 10 k = nI r := by
  rw [h.2.1 r k]
  constructor
  · rintro ⟨a, b, c⟩
    obtain ⟨r', d1, d2, d3, -⟩ := h.2.2.2.1 k a
    rw [c] at d2
    cases d2
    exact ⟨a, b, d3⟩
  · rintro ⟨a, b, c⟩
    obtain ⟨r', d1, d2, d3, -⟩ := h.2.2.2.1 k a
    rw [d3] at c
    have : r' = r := nI_14 (by omega) (by omega) c
    rw [this] at d2
    exact ⟨a, b, d2⟩
/-- what both find in a room between two minutes -/
theorem mt_iff {S : ds_S} {M : ms_S} {nb Rn n0 : Nat} {L : Nat → List Nat} (hR : Rn ≤ 8) (hb : nb ≤ 300) (h : rmL S M nb Rn L) (hn : ∀ r, (L r).length < n0) {r : Nat} (hr : r < 8) (a b : Int32) :
    (bw_L S a b n0 (S.2.2 2 r) = none ∧ mm_L M (nI r) a b nb = -1 ∧ ∀ k, k ∈ L r → b ≤ S.1 20 k 0 ∨ S.1 21 k 0 ≤ a) ∨
    (∃ k k', k ∈ L r ∧ k' ∈ L r ∧ bw_L S a b n0 (S.2.2 2 r) = some k ∧ mm_L M (nI r) a b nb = nI k' ∧ ¬ b ≤ S.1 20 k 0 ∧ ¬ S.1 21 k 0 ≤ a ∧ ¬ b ≤ S.1 20 k' 0 ∧ ¬ S.1 21 k' 0 ≤ a) := by
  have hf : ∀ k, k < nb → M 11 k = S.1 20 k 0 ∧ M 12 k = S.1 21 k 0 := fun k hk => by
    obtain ⟨r', -, -, -, d4, d5, -⟩ := h.2.2.2.1 k hk
    exact ⟨d4, d5⟩
  rcases bw_p (a := a) (b := b) (L r) n0 _ (h.1 r) (hn r) with ⟨b1, b2⟩ | ⟨k, b1, b2, b3, b4⟩
  · rcases mm_p (M := M) (x := nI r) (a := a) (b := b) nb hb with ⟨m1, m2⟩ | ⟨k', m1, m2, m3, m4, m5, m6⟩
    · exact Or.inl ⟨b1, m1, b2⟩
    · exfalso
      have := b2 k' ((rm_room hR h hr).mpr ⟨m1, m3, m4⟩)
      rw [(hf k' m1).1] at m5
      rw [(hf k' m1).2] at m6
      exact this.elim m5 m6
  · rcases mm_p (M := M) (x := nI r) (a := a) (b := b) nb hb with ⟨m1, m2⟩ | ⟨k', m1, m2, m3, m4, m5, m6⟩
    · exfalso
      obtain ⟨c1, c2, c3⟩ := (rm_room hR h hr).mp b1
      have := m2 k c1 c2 c3
      rw [(hf k c1).1, (hf k c1).2] at this
      exact this.elim b3 b4
    · rw [(hf k' m1).1] at m5
      rw [(hf k' m1).2] at m6
      exact Or.inr ⟨k, k', b1, (rm_room hR h hr).mpr ⟨m1, m3, m4⟩, b2, m2, b3, b4, m5, m6⟩
theorem pw_tri {R : Nat → Nat → Prop} : ∀ {L : List Nat}, L.Pairwise R → ∀ i j, i ∈ L → j ∈ L → i = j ∨ R i j ∨ R j i
  | [], _, i, _, h, _ => absurd h List.not_mem_nil
  | k :: L, h, i, j, hi, hj => by
    obtain ⟨h1, h2⟩ := List.pairwise_cons.mp h
    rcases List.mem_cons.mp hi with ei | hi
    · rcases List.mem_cons.mp hj with ej | hj
      · exact Or.inl (ei.trans ej.symm)
      · rw [ei]; exact Or.inr (Or.inl (h1 j hj))
    · rcases List.mem_cons.mp hj with ej | hj
      · rw [ej]; exact Or.inr (Or.inr (h1 i hi))
      · exact pw_tri h2 i j hi hj
theorem rm_rng {S : ds_S} {M : ms_S} {nb Rn : Nat} {L : Nat → List Nat} (h : rmL S M nb Rn L) {r k : Nat} (hk : k ∈ L r) : 0 ≤ (S.1 20 k 0).toInt ∧ (S.1 20 k 0).toInt < (S.1 21 k 0).toInt ∧ (S.1 21 k 0).toInt ≤ 10080 := by
  obtain ⟨r', -, -, -, -, -, -, d1, d2, d3, -⟩ := h.2.2.2.1 k ((h.2.1 r k).mp hk).1
  exact ⟨d1, d2, d3⟩
/-- inside -/
theorem in_eq {S : ds_S} {M : ms_S} {nb Rn n0 : Nat} {L : Nat → List Nat} (hR : Rn ≤ 8) (hb : nb ≤ 300) (h : rmL S M nb Rn L) (hn : ∀ r, (L r).length < n0) {r : Nat} (hr : r < 8) {y : Int32} (h0 : 0 ≤ y.toInt) (h1 : y.toInt < 10080) :
    (match bw_L S y (y + 1) n0 (S.2.2 2 r) with | none => -1 | some k => nI k) = mm_L M (nI r) y (y + 1) nb := by
  have e1 : (y + 1).toInt = y.toInt + 1 := i_add (by show _ ≤ y.toInt + (1 : Int); omega) (by show y.toInt + (1 : Int) < _; omega)
  rcases mt_iff hR hb h hn hr y (y + 1) with ⟨b1, b2, -⟩ | ⟨k, k', b1, b2, b3, b4, b5, b6, b7, b8⟩
  · rw [b1, b2]
  · rw [b3, b4]
    show nI k = nI k'
    rw [Int32.le_iff_toInt_le, e1] at b5 b7
    rw [Int32.le_iff_toInt_le] at b6 b8
    rcases pw_tri (h.2.2.1 r) k k' b1 b2 with q | q | q
    · rw [q]
    · exfalso; omega
    · exfalso; omega
/-- the best room -/
theorem br_eq {S : ds_S} {M : ms_S} {nb Rn n0 : Nat} {L : Nat → List Nat} (hR : Rn ≤ 8) (hb : nb ≤ 300) (h : rmL S M nb Rn L) (hn : ∀ r, (L r).length < n0) (a b h9 : Int32) : ∀ n k o, k + n = Rn → (∀ j, o = some j → j < k) → br_L S a b h9 n0 n k o = bk_L M a b h9 nb n k o ∧ (∀ j, br_L S a b h9 n0 n k o = some j → j < Rn ∧ (o = some j ∨ ∀ i, i ∈ L j → b ≤ S.1 20 i 0 ∨ S.1 21 i 0 ≤ a))
  | 0, k, o, hk, ho => ⟨rfl, fun j e => ⟨by have := ho j e; omega, Or.inl e⟩⟩
  | n + 1, k, o, hk, ho => by
    have hkR : k < Rn := by omega
    have h9k := h.2.2.2.2.1 k hkR
    have ihs := br_eq hR hb h hn a b h9 n (k + 1) (some k) (by omega) (fun j e => by cases e; omega)
    have iho := br_eq hR hb h hn a b h9 n (k + 1) o (by omega) (fun j e => by have := ho j e; omega)
    unfold br_L bk_L
    rw [h9k]
    by_cases c1 : S.1 19 k 0 < h9
    · rw [if_pos c1, if_pos c1]
      exact iho
    · rw [if_neg c1, if_neg c1]
      rcases mt_iff hR hb h hn (show k < 8 by omega) a b with ⟨b1, b2, b3⟩ | ⟨i, i', b1, b2, b3, b4, -⟩
      · rw [b1]
        have hfin : ∀ j, br_L S a b h9 n0 n (k + 1) (some k) = some j → j < Rn ∧ (o = some j ∨ ∀ i, i ∈ L j → b ≤ S.1 20 i 0 ∨ S.1 21 i 0 ≤ a) := fun j e => by
          obtain ⟨f1, f2⟩ := ihs.2 j e
          refine ⟨f1, Or.inr ?_⟩
          rcases f2 with f2 | f2
          · cases f2; exact b3
          · exact f2
        cases o with
        | none =>
          rw [if_pos b2]
          exact ⟨ihs.1, hfin⟩
        | some j =>
          have hj := ho j rfl
          have hm := h.2.2.2.2.1 j (by omega)
          show (if S.1 19 j 0 ≤ S.1 19 k 0 then br_L S a b h9 n0 n (k + 1) (some j) else br_L S a b h9 n0 n (k + 1) (some k)) = (if M 9 j ≤ S.1 19 k 0 then bk_L M a b h9 nb n (k + 1) (some j) else (if mm_L M (nI k) a b nb = -1 then bk_L M a b h9 nb n (k + 1) (some k) else bk_L M a b h9 nb n (k + 1) (some j))) ∧ ∀ j', (if S.1 19 j 0 ≤ S.1 19 k 0 then br_L S a b h9 n0 n (k + 1) (some j) else br_L S a b h9 n0 n (k + 1) (some k)) = some j' → _
          rw [hm, if_pos b2]
          by_cases c2 : S.1 19 j 0 ≤ S.1 19 k 0
          · rw [if_pos c2, if_pos c2]; exact iho
          · rw [if_neg c2, if_neg c2]; exact ⟨ihs.1, hfin⟩
      · have b4' : ¬ mm_L M (nI k) a b nb = -1 := by
          rw [b4]
          intro e
          have hi' := ((h.2.1 k i').mp b2).1
          exact nI_m1 (by omega) e
        rw [b3]
        cases o with
        | none =>
          rw [if_neg b4']
          exact iho
        | some j =>
          have hj := ho j rfl
          have hm := h.2.2.2.2.1 j (by omega)
          show br_L S a b h9 n0 n (k + 1) (some j) = (if M 9 j ≤ S.1 19 k 0 then bk_L M a b h9 nb n (k + 1) (some j) else (if mm_L M (nI k) a b nb = -1 then bk_L M a b h9 nb n (k + 1) (some k) else bk_L M a b h9 nb n (k + 1) (some j))) ∧ ∀ j', br_L S a b h9 n0 n (k + 1) (some j) = some j' → _
          rw [hm, if_neg b4']
          by_cases c2 : S.1 19 j 0 ≤ S.1 19 k 0
          · rw [if_pos c2]; exact iho
          · rw [if_neg c2]; exact iho
