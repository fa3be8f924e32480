/-! PURE: a booking comes into a chain, or goes -/
theorem chn_upd {nx nx' : Nat → Option Nat} : ∀ (L : List Nat) (o : Option Nat), chn nx o L → (∀ i, i ∈ L → nx' i = nx i) → chn nx' o L
  | [], _, h, _ => h
  | k :: L, o, h, hu => ⟨h.1, by
    rw [hu k List.mem_cons_self]
    exact chn_upd L (nx k) h.2 (fun i hi => hu i (List.mem_cons_of_mem _ hi))⟩
theorem chn_ins {nx nx' : Nat → Option Nat} {k g : Nat} (L2 : List Nat) (h1 : nx' k = some g) (h2 : nx' g = nx k) (h3 : ∀ i, i ∈ L2 → nx' i = nx i) : ∀ (L0 : List Nat) (o : Option Nat), chn nx o (L0 ++ k :: L2) → (∀ i, i ∈ L0 → nx' i = nx i) → chn nx' o (L0 ++ k :: g :: L2)
  | [], o, h, _ => ⟨h.1, h1, by rw [h2]; exact chn_upd L2 _ h.2 h3⟩
  | x :: L0, o, h, h4 => ⟨h.1, by
    rw [h4 x List.mem_cons_self]
    exact chn_ins L2 h1 h2 h3 L0 (nx x) h.2 (fun i hi => h4 i (List.mem_cons_of_mem _ hi))⟩
theorem chn_del {nx nx' : Nat → Option Nat} {k g : Nat} (L2 : List Nat) (h1 : nx' k = nx g) (h3 : ∀ i, i ∈ L2 → nx' i = nx i) : ∀ (L0 : List Nat) (o : Option Nat), chn nx o (L0 ++ k :: g :: L2) → (∀ i, i ∈ L0 → nx' i = nx i) → chn nx' o (L0 ++ k :: L2)
  | [], o, h, _ => ⟨h.1, by rw [h1]; exact chn_upd L2 _ h.2.2 h3⟩
  | x :: L0, o, h, h4 => ⟨h.1, by
    rw [h4 x List.mem_cons_self]
    exact chn_del L2 h1 h3 L0 (nx x) h.2 (fun i hi => h4 i (List.mem_cons_of_mem _ hi))⟩
theorem chn_nx {nx : Nat → Option Nat} {k g : Nat} : ∀ (L : List Nat) (o : Option Nat), chn nx o L → k ∈ L → nx k = some g → ∃ L0 L2, L = L0 ++ k :: g :: L2
  | [], _, _, h, _ => absurd h List.not_mem_nil
  | x :: L, o, h, hk, e => by
    by_cases ex : x = k
    · subst ex
      have h2 := h.2
      cases L with
      | nil =>
        have h2 : nx x = none := h2
        rw [h2] at e
        cases e
      | cons y L =>
        have h3 := h2.1
        rw [e] at h3
        cases h3
        exact ⟨[], L, rfl⟩
    · obtain ⟨L0, L2, e2⟩ := chn_nx L (nx x) h.2 ((List.mem_cons.mp hk).resolve_left (fun z => ex z.symm)) e
      exact ⟨x :: L0, L2, by rw [e2]; rfl⟩
theorem chn_pre {nx : Nat → Option Nat} {g : Nat} : ∀ (L : List Nat) (o : Option Nat), chn nx o L → g ∈ L → o = some g ∨ ∃ k, k ∈ L ∧ nx k = some g
  | [], _, _, h => absurd h List.not_mem_nil
  | x :: L, o, h, hg => by
    rcases List.mem_cons.mp hg with e | e
    · rw [e]; exact Or.inl h.1
    · rcases chn_pre L (nx x) h.2 e with q | ⟨k, q1, q2⟩
      · exact Or.inr ⟨x, List.mem_cons_self, q⟩
      · exact Or.inr ⟨k, List.mem_cons_of_mem _ q1, q2⟩
theorem chn_suc {nx : Nat → Option Nat} {k g : Nat} (L : List Nat) (o : Option Nat) (h : chn nx o L) (hk : k ∈ L) (e : nx k = some g) : g ∈ L := by
  obtain ⟨L0, L2, e2⟩ := chn_nx L o h hk e
  rw [e2]
  exact List.mem_append_right _ (List.mem_cons_of_mem _ List.mem_cons_self)
theorem ab_p {S : ds_S} {g : Nat} : ∀ (L : List Nat) (n : Nat) (bf o : Option Nat), chn (S.2.2 3) o L → L.length < n → ∃ L1 L2, L = L1 ++ L2 ∧ (∀ i, i ∈ L1 → ¬ S.1 20 g 0 ≤ S.1 20 i 0) ∧ (∀ j l, L2 = j :: l → S.1 20 g 0 ≤ S.1 20 j 0) ∧ ((L1 = [] ∧ ab_L S g n bf o = bf) ∨ ∃ L0 k, L1 = L0 ++ [k] ∧ ab_L S g n bf o = some k)
  | [], 0, _, _, _, h => absurd h (Nat.lt_irrefl 0)
  | [], n + 1, bf, o, h, _ => by
    have h : o = none := h
    rw [h]
    exact ⟨[], [], rfl, fun i hi => absurd hi List.not_mem_nil, fun j l e => (by cases e), Or.inl ⟨rfl, rfl⟩⟩
  | k :: L, 0, _, _, _, h => absurd h (Nat.not_lt_zero _)
  | k :: L, n + 1, bf, o, h, hl => by
    obtain ⟨e, h⟩ := h
    rw [e]
    unfold ab_L
    by_cases c : S.1 20 g 0 ≤ S.1 20 k 0
    · rw [if_pos c]
      exact ⟨[], k :: L, rfl, fun i hi => absurd hi List.not_mem_nil, fun j l e => (by cases e; exact c), Or.inl ⟨rfl, rfl⟩⟩
    · rw [if_neg c]
      obtain ⟨L1, L2, a1, a2, a3, a4⟩ := ab_p L n (some k) (S.2.2 3 k) h (Nat.lt_of_succ_lt_succ hl)
      refine ⟨k :: L1, L2, by rw [a1]; rfl, fun i hi => ?_, a3, Or.inr ?_⟩
      · rcases List.mem_cons.mp hi with q | q
        · rw [q]; exact c
        · exact a2 i q
      · rcases a4 with ⟨b1, b2⟩ | ⟨L0, k', b1, b2⟩
        · exact ⟨[], k, by rw [b1]; rfl, b2⟩
        · exact ⟨k :: L0, k', by rw [b1]; rfl, b2⟩
theorem bkZ_1 {S : ds_S} {nb ro n0 : Nat} {a b h9 : Int32} (t i j : Nat) : (bk_Z S nb ro n0 a b h9).1 t i j = if t = 3 ∧ i = 0 ∧ j = 0 then nI nb + 1 else (if t = 22 ∧ i = nb ∧ j = 0 then h9 else (if t = 21 ∧ i = nb ∧ j = 0 then b else (if t = 20 ∧ i = nb ∧ j = 0 then a else S.1 t i j))) := by
  have e : ∀ bf, (ab_F (bk_S S nb ro a b h9) ro nb bf).1 = (bk_S S nb ro a b h9).1 := fun bf => by
    cases bf <;> rfl
  show ds_u3 (ab_F (bk_S S nb ro a b h9) ro nb (ab_L (bk_S S nb ro a b h9) nb n0 none ((bk_S S nb ro a b h9).2.2 2 ro))).1 3 0 0 (nI nb + 1) t i j = _
  rw [e]
  rfl
/-- a booking more -/
theorem book_rm {S : ds_S} {M : ms_S} {nb Rn n0 ro : Nat} {L : Nat → List Nat} {a b h9 : Int32} (hR : Rn ≤ 8) (h : rmL S M nb Rn L) (hn : ∀ r, (L r).length < n0) (hro : ro < Rn) (hfree : ∀ i, i ∈ L ro → b ≤ S.1 20 i 0 ∨ S.1 21 i 0 ≤ a) (ha : 0 ≤ a.toInt) (hab : a.toInt < b.toInt) (hb : b.toInt ≤ 10080) :
    rmI (bk_Z S nb ro n0 a b h9) (bk_F (ms_w M 20 0 0) a b h9 nb ro) (nb + 1) Rn := by
  obtain ⟨a1, a2, a3, a4, a5, a6, a7⟩ := h
  have hlt : ∀ r k, k ∈ L r → k < nb := fun r k hk => ((a2 r k).mp hk).1
  have hS3 : ∀ k, k < nb → (bk_S S nb ro a b h9).2.2 3 k = S.2.2 3 k := fun k hk => by
    show ds_u2 (ds_u2 S.2.2 4 nb (some ro)) 3 nb none 3 k = _
    rw [ds_u2_n (by omega), ds_u2_n (by omega)]
  have hS2 : ∀ r, (bk_S S nb ro a b h9).2.2 2 r = S.2.2 2 r := fun r => by
    show ds_u2 (ds_u2 S.2.2 4 nb (some ro)) 3 nb none 2 r = _
    rw [ds_u2_n (by omega), ds_u2_n (by omega)]
  have hS20 : (bk_S S nb ro a b h9).1 20 nb 0 = a := by
    show ds_u3 (ds_u3 (ds_u3 S.1 20 nb 0 a) 21 nb 0 b) 22 nb 0 h9 20 nb 0 = a
    rw [ds_u3_n (by omega), ds_u3_n (by omega)]
    exact ds_u3_s S.1 20 nb 0 a
  have hS20' : ∀ k, k < nb → (bk_S S nb ro a b h9).1 20 k 0 = S.1 20 k 0 := fun k hk => by
    show ds_u3 (ds_u3 (ds_u3 S.1 20 nb 0 a) 21 nb 0 b) 22 nb 0 h9 20 k 0 = _
    rw [ds_u3_n (by omega), ds_u3_n (by omega), ds_u3_n (by omega)]
  have hch : ∀ r, chn ((bk_S S nb ro a b h9).2.2 3) ((bk_S S nb ro a b h9).2.2 2 r) (L r) := fun r => by
    rw [hS2]
    exact chn_upd (L r) _ (a1 r) (fun i hi => hS3 i (hlt r i hi))
  obtain ⟨L1, L2, c1, c2, c3, c4⟩ := ab_p (S := bk_S S nb ro a b h9) (g := nb) (L ro) n0 none _ (hch ro) (hn ro)
  rw [hS20] at c2 c3
  have hZ20 : ∀ k, (bk_Z S nb ro n0 a b h9).1 20 k 0 = if k = nb then a else S.1 20 k 0 := fun k => by
    rw [bkZ_1]
    by_cases e : k = nb
    · simp [e]
    · simp [e]
  have hZ21 : ∀ k, (bk_Z S nb ro n0 a b h9).1 21 k 0 = if k = nb then b else S.1 21 k 0 := fun k => by
    rw [bkZ_1]
    by_cases e : k = nb
    · simp [e]
    · simp [e]
  have hZ22 : ∀ k, (bk_Z S nb ro n0 a b h9).1 22 k 0 = if k = nb then h9 else S.1 22 k 0 := fun k => by
    rw [bkZ_1]
    by_cases e : k = nb
    · simp [e]
    · simp [e]
  have hZ19 : ∀ r, (bk_Z S nb ro n0 a b h9).1 19 r 0 = S.1 19 r 0 := fun r => by
    rw [bkZ_1]
    simp
  have hF : ∀ t i, 9 ≤ t → t ≤ 14 → bk_F (ms_w M 20 0 0) a b h9 nb ro t i = if i = nb ∧ 10 ≤ t then (if t = 10 then nI ro else if t = 11 then a else if t = 12 then b else if t = 13 then M 9 ro - h9 else 1) else M t i := fun t i h1 h2 => by
    have e9 : ms_w M 20 0 0 9 ro = M 9 ro := ms_w_n (by omega)
    unfold bk_F
    rw [e9]
    rcases (show t = 9 ∨ t = 10 ∨ t = 11 ∨ t = 12 ∨ t = 13 ∨ t = 14 by omega) with e | e | e | e | e | e <;> subst e <;> by_cases ei : i = nb <;> simp [ms_w, ei]
  -- the new chain
  have hnew : ∃ Lr, chn ((bk_Z S nb ro n0 a b h9).2.2 3) ((bk_Z S nb ro n0 a b h9).2.2 2 ro) Lr ∧ Lr = L1 ++ nb :: L2 ∧ (∀ r, r ≠ ro → chn ((bk_Z S nb ro n0 a b h9).2.2 3) ((bk_Z S nb ro n0 a b h9).2.2 2 r) (L r)) ∧ (∀ k k', (bk_Z S nb ro n0 a b h9).2.2 3 k = some k' → k' < nb + 1) ∧ (∀ k, (bk_Z S nb ro n0 a b h9).2.2 4 k = if k = nb then some ro else S.2.2 4 k) ∧ (∀ j, (bk_Z S nb ro n0 a b h9).2.2 5 j = if j = nb then some nb else S.2.2 5 j) := by
    have h4 : ∀ k, (bk_S S nb ro a b h9).2.2 4 k = if k = nb then some ro else S.2.2 4 k := fun k => by
      show ds_u2 (ds_u2 S.2.2 4 nb (some ro)) 3 nb none 4 k = _
      by_cases e : k = nb
      · subst e; rw [ds_u2_n (by omega), ds_u2_s, if_pos rfl]
      · rw [ds_u2_n (by omega), ds_u2_n (by omega), if_neg e]
    have h5 : ∀ k, (bk_S S nb ro a b h9).2.2 5 k = S.2.2 5 k := fun k => by
      show ds_u2 (ds_u2 S.2.2 4 nb (some ro)) 3 nb none 5 k = _
      rw [ds_u2_n (by omega), ds_u2_n (by omega)]
    have h3all : ∀ k k', (bk_S S nb ro a b h9).2.2 3 k = some k' → k' < nb := fun k k' e => by
      have e : ds_u2 (ds_u2 S.2.2 4 nb (some ro)) 3 nb none 3 k = some k' := e
      by_cases ek : k = nb
      · subst ek; rw [ds_u2_s] at e; cases e
      · rw [ds_u2_n (by omega), ds_u2_n (by omega)] at e; exact a6 k k' e
    have h2all : ∀ r k, (bk_S S nb ro a b h9).2.2 2 r = some k → k < nb := fun r k e => by
      have hc := hch r
      cases el : L r with
      | nil =>
        rw [el] at hc
        have hc : (bk_S S nb ro a b h9).2.2 2 r = none := hc
        rw [hc] at e
        cases e
      | cons k' l =>
        rw [el] at hc
        have e' := hc.1
        rw [e] at e'
        cases e'
        exact hlt r k (by rw [el]; exact List.mem_cons_self)
    rcases c4 with ⟨c4, c5⟩ | ⟨L0, k0, c4, c5⟩
    · have eZ : (bk_Z S nb ro n0 a b h9).2.2 = ds_u2 (ds_u2 (ds_u2 (bk_S S nb ro a b h9).2.2 3 nb ((bk_S S nb ro a b h9).2.2 2 ro)) 2 ro (some nb)) 5 nb (some nb) := by
        unfold bk_Z
        rw [c5]
        rfl
      have z3 : ∀ k, (bk_Z S nb ro n0 a b h9).2.2 3 k = if k = nb then (bk_S S nb ro a b h9).2.2 2 ro else (bk_S S nb ro a b h9).2.2 3 k := fun k => by
        rw [eZ, ds_u2_n (by omega), ds_u2_n (by omega)]
        by_cases e : k = nb
        · rw [e, ds_u2_s, if_pos rfl]
        · rw [ds_u2_n (by omega), if_neg e]
      have z2 : ∀ r, (bk_Z S nb ro n0 a b h9).2.2 2 r = if r = ro then some nb else (bk_S S nb ro a b h9).2.2 2 r := fun r => by
        rw [eZ, ds_u2_n (by omega)]
        by_cases e : r = ro
        · rw [e, ds_u2_s, if_pos rfl]
        · rw [ds_u2_n (by omega), ds_u2_n (by omega), if_neg e]
      have zup : ∀ r, chn ((bk_Z S nb ro n0 a b h9).2.2 3) ((bk_S S nb ro a b h9).2.2 2 r) (L r) := fun r => chn_upd (L r) _ (hch r) (fun i hi => by rw [z3, if_neg (by have := hlt r i hi; omega)])
      refine ⟨nb :: L ro, ⟨by rw [z2, if_pos rfl], by rw [z3, if_pos rfl]; exact zup ro⟩, by rw [c1, c4]; rfl, fun r hr => by rw [z2, if_neg hr]; exact zup r, fun k k' e => ?_, fun k => ?_, fun j => ?_⟩
      · rw [z3] at e
        split at e
        · have := h2all ro k' e; omega
        · have := h3all k k' e; omega
      · rw [eZ, ds_u2_n (by omega), ds_u2_n (by omega), ds_u2_n (by omega)]; exact h4 k
      · rw [eZ]
        by_cases e : j = nb
        · rw [e, ds_u2_s, if_pos rfl]
        · rw [ds_u2_n (by omega), ds_u2_n (by omega), ds_u2_n (by omega), if_neg e]; exact h5 j
    · have hk0 : k0 ∈ L ro := by
        rw [c1, c4]
        exact List.mem_append_left _ (List.mem_append_right _ List.mem_cons_self)
      have hk0n := hlt ro k0 hk0
      have eZ : (bk_Z S nb ro n0 a b h9).2.2 = ds_u2 (ds_u2 (ds_u2 (bk_S S nb ro a b h9).2.2 3 nb ((bk_S S nb ro a b h9).2.2 3 k0)) 3 k0 (some nb)) 5 nb (some nb) := by
        unfold bk_Z
        rw [c5]
        rfl
      have z3 : ∀ k, (bk_Z S nb ro n0 a b h9).2.2 3 k = if k = k0 then some nb else (if k = nb then (bk_S S nb ro a b h9).2.2 3 k0 else (bk_S S nb ro a b h9).2.2 3 k) := fun k => by
        rw [eZ, ds_u2_n (by omega)]
        by_cases e : k = k0
        · rw [e, ds_u2_s, if_pos rfl]
        · rw [ds_u2_n (by omega), if_neg e]
          by_cases e2 : k = nb
          · rw [e2, ds_u2_s, if_pos rfl]
          · rw [ds_u2_n (by omega), if_neg e2]
      have z2 : ∀ r, (bk_Z S nb ro n0 a b h9).2.2 2 r = (bk_S S nb ro a b h9).2.2 2 r := fun r => by
        rw [eZ, ds_u2_n (by omega), ds_u2_n (by omega), ds_u2_n (by omega)]
      have hsame : ∀ i, i < nb → i ≠ k0 → (bk_Z S nb ro n0 a b h9).2.2 3 i = (bk_S S nb ro a b h9).2.2 3 i := fun i h1 h2 => by
        rw [z3, if_neg h2, if_neg (by omega)]
      have hpw := a3 ro
      have hirr : ∀ i, i ∈ L ro → ¬ (S.1 21 i 0).toInt ≤ (S.1 20 i 0).toInt := fun i hi z => by
        obtain ⟨r', -, -, -, -, -, -, -, d2, -⟩ := a4 i (hlt ro i hi)
        omega
      have e1 : L ro = L0 ++ k0 :: L2 := by rw [c1, c4, List.append_assoc]; rfl
      have hn0 : ∀ i, i ∈ L0 → i ≠ k0 := fun i hi z => by
        rw [e1] at hpw
        have := (List.pairwise_append.mp hpw).2.2 i hi k0 List.mem_cons_self
        rw [z] at this
        exact hirr k0 hk0 this
      have hn2 : ∀ i, i ∈ L2 → i ≠ k0 := fun i hi z => by
        rw [e1] at hpw
        have := (List.pairwise_cons.mp (List.pairwise_append.mp hpw).2.1).1 i hi
        rw [z] at this
        exact hirr k0 hk0 this
      refine ⟨L1 ++ nb :: L2, ?_, rfl, fun r hr => ?_, fun k k' e => ?_, fun k => ?_, fun j => ?_⟩
      · rw [z2, c4, List.append_assoc]
        have hc := hch ro
        rw [e1] at hc
        exact chn_ins L2 (by rw [z3, if_pos rfl]) (by rw [z3, if_neg (by omega), if_pos rfl]) (fun i hi => hsame i (hlt ro i (by rw [e1]; exact List.mem_append_right _ (List.mem_cons_of_mem _ hi))) (hn2 i hi)) L0 _ hc (fun i hi => hsame i (hlt ro i (by rw [e1]; exact List.mem_append_left _ hi)) (hn0 i hi))
      · rw [z2]
        refine chn_upd (L r) _ (hch r) (fun i hi => hsame i (hlt r i hi) (fun z => hr ?_))
        have x1 := ((a2 r i).mp hi).2.2
        have x2 := ((a2 ro k0).mp hk0).2.2
        rw [z, x2] at x1
        cases x1
        rfl
      · rw [z3] at e
        split at e
        · cases e; omega
        · split at e
          · have := h3all k0 k' e; omega
          · have := h3all k k' e; omega
      · rw [eZ, ds_u2_n (by omega), ds_u2_n (by omega), ds_u2_n (by omega)]; exact h4 k
      · rw [eZ]
        by_cases e : j = nb
        · rw [e, ds_u2_s, if_pos rfl]
        · rw [ds_u2_n (by omega), ds_u2_n (by omega), ds_u2_n (by omega), if_neg e]; exact h5 j
  obtain ⟨Lr, n1, n2, n3, n4, n5, n6⟩ := hnew
  have hmem : ∀ k, k ∈ Lr ↔ k ∈ L ro ∨ k = nb := fun k => by
    rw [n2, c1, List.mem_append, List.mem_append, List.mem_cons]
    constructor
    · rintro (z | z | z)
      · exact Or.inl (Or.inl z)
      · exact Or.inr z
      · exact Or.inl (Or.inr z)
    · rintro ((z | z) | z)
      · exact Or.inl z
      · exact Or.inr (Or.inr z)
      · exact Or.inr (Or.inl z)
  have hpwZ : ∀ l : List Nat, (∀ k, k ∈ l → k < nb) → l.Pairwise (fun i j => (S.1 21 i 0).toInt ≤ (S.1 20 j 0).toInt) → l.Pairwise (fun i j => ((bk_Z S nb ro n0 a b h9).1 21 i 0).toInt ≤ ((bk_Z S nb ro n0 a b h9).1 20 j 0).toInt) := fun l hl hp => by
    refine List.Pairwise.imp_of_mem (fun {i j} hi hj hij => ?_) hp
    have x1 := hl i hi
    have x2 := hl j hj
    rw [hZ21, hZ20, if_neg (by omega), if_neg (by omega)]
    exact hij
  obtain ⟨LN, hLN1, hLN2⟩ : ∃ LN : Nat → List Nat, LN ro = Lr ∧ ∀ r, r ≠ ro → LN r = L r := ⟨fun r => if r = ro then Lr else L r, if_pos rfl, fun r hr => if_neg hr⟩
  refine ⟨LN, fun r => ?_, fun r k => ?_, fun r => ?_, fun k hk => ?_, fun r hr => ?_, n4, fun j => ?_⟩
  · by_cases e : r = ro
    · rw [e, hLN1]; exact n1
    · rw [hLN2 r e]; exact n3 r e
  · rw [hF 14 k (by decide) (by decide), n5]
    by_cases e : k = nb
    · have hnot : ¬ k ∈ L r := fun z => by have := hlt r k z; omega
      rw [if_pos ⟨e, by decide⟩, if_pos e]
      by_cases er : r = ro
      · rw [er, hLN1, hmem]
        exact ⟨fun _ => ⟨by omega, (by show ¬ (1 : Int32) = 0; decide), rfl⟩, fun _ => Or.inr e⟩
      · rw [hLN2 r er]
        exact ⟨fun z => absurd z hnot, fun z => absurd z.2.2 (fun q => er (by cases q; rfl))⟩
    · rw [if_neg (fun z => e z.1), if_neg e]
      have hk' : (k < nb + 1 ∧ ¬ M 14 k = 0 ∧ S.2.2 4 k = some r) ↔ (k < nb ∧ ¬ M 14 k = 0 ∧ S.2.2 4 k = some r) := ⟨fun z => ⟨by omega, z.2⟩, fun z => ⟨by omega, z.2⟩⟩
      rw [hk', ← a2 r k]
      by_cases er : r = ro
      · rw [er, hLN1, hmem]
        exact ⟨fun z => z.resolve_right e, fun z => Or.inl z⟩
      · rw [hLN2 r er]
  · by_cases er : r = ro
    · rw [er, hLN1, n2]
      have hL1 : ∀ i, i ∈ L1 → i ∈ L ro := fun i hi => by rw [c1]; exact List.mem_append_left _ hi
      have hL2 : ∀ i, i ∈ L2 → i ∈ L ro := fun i hi => by rw [c1]; exact List.mem_append_right _ hi
      have hpw := a3 ro
      rw [c1] at hpw
      obtain ⟨q1, q2, q3⟩ := List.pairwise_append.mp hpw
      refine List.pairwise_append.mpr ⟨hpwZ L1 (fun k hk => hlt ro k (hL1 k hk)) q1, List.pairwise_cons.mpr ⟨fun j hj => ?_, hpwZ L2 (fun k hk => hlt ro k (hL2 k hk)) q2⟩, fun i hi j hj => ?_⟩
      · have x2 := hlt ro j (hL2 j hj)
        rw [hZ21, hZ20, if_pos rfl, if_neg (by omega)]
        have hfj := hfree j (hL2 j hj)
        rw [Int32.le_iff_toInt_le, Int32.le_iff_toInt_le] at hfj
        have hge : a.toInt ≤ (S.1 20 j 0).toInt := by
          cases e2 : L2 with
          | nil => rw [e2] at hj; exact absurd hj List.not_mem_nil
          | cons y l =>
            have hy := c3 y l e2
            have x3 := hlt ro y (hL2 y (by rw [e2]; exact List.mem_cons_self))
            rw [hS20' y x3, Int32.le_iff_toInt_le] at hy
            rw [e2] at hj q2
            rcases List.mem_cons.mp hj with z | z
            · rw [z]; exact hy
            · have := (List.pairwise_cons.mp q2).1 j z
              obtain ⟨r', -, -, -, -, -, -, -, d2, -⟩ := a4 y x3
              omega
        obtain ⟨r', -, -, -, -, -, -, -, d2, -⟩ := a4 j x2
        omega
      · have x1 := hlt ro i (hL1 i hi)
        rcases List.mem_cons.mp hj with z | z
        · rw [hZ21, hZ20, if_neg (by omega), if_pos z]
          have := c2 i hi
          rw [hS20' i x1, Int32.le_iff_toInt_le] at this
          have hfi := hfree i (hL1 i hi)
          rw [Int32.le_iff_toInt_le, Int32.le_iff_toInt_le] at hfi
          omega
        · have x2 := hlt ro j (hL2 j z)
          rw [hZ21, hZ20, if_neg (by omega), if_neg (by omega)]
          exact q3 i hi j z
    · rw [hLN2 r er]
      exact hpwZ (L r) (fun k hk => hlt r k hk) (a3 r)
  · by_cases e : k = nb
    · subst e
      have f10 : bk_F (ms_w M 20 0 0) a b h9 k ro 10 k = nI ro := by rw [hF 10 k (by decide) (by decide)]; simp
      have f11 : bk_F (ms_w M 20 0 0) a b h9 k ro 11 k = a := by rw [hF 11 k (by decide) (by decide)]; simp
      have f12 : bk_F (ms_w M 20 0 0) a b h9 k ro 12 k = b := by rw [hF 12 k (by decide) (by decide)]; simp
      have f13 : bk_F (ms_w M 20 0 0) a b h9 k ro 13 k = M 9 ro - h9 := by rw [hF 13 k (by decide) (by decide)]; simp
      have f14 : bk_F (ms_w M 20 0 0) a b h9 k ro 14 k = 1 := by rw [hF 14 k (by decide) (by decide)]; simp
      refine ⟨ro, hro, ?_⟩
      rw [n5, if_pos rfl, f10, f11, f12, f13, f14, hZ20, hZ21, hZ22, hZ19, if_pos rfl, if_pos rfl, if_pos rfl, a5 ro hro]
      exact ⟨rfl, rfl, rfl, rfl, rfl, ha, hab, hb, Or.inr rfl⟩
    · obtain ⟨r, b1⟩ := a4 k (by omega)
      refine ⟨r, ?_⟩
      rw [n5, if_neg e, hF 10 k (by decide) (by decide), hF 11 k (by decide) (by decide), hF 12 k (by decide) (by decide), hF 13 k (by decide) (by decide), hF 14 k (by decide) (by decide), if_neg (fun z => e z.1), if_neg (fun z => e z.1), if_neg (fun z => e z.1), if_neg (fun z => e z.1), if_neg (fun z => e z.1), hZ20, hZ21, hZ22, hZ19, if_neg e, if_neg e, if_neg e]
      exact b1
  · rw [hF 9 r (by decide) (by decide), if_neg (fun z => absurd z.2 (by decide)), hZ19]
    exact a5 r hr
  · rw [n6, a7]
    by_cases e : j = nb
    · rw [if_pos e, if_pos (by omega), e]
    · rw [if_neg e]
      by_cases e2 : j < nb
      · rw [if_pos e2, if_pos (by omega)]
      · rw [if_neg e2, if_neg (by omega)]

theorem rm_p {S : ds_S} {g : Nat} : ∀ (L : List Nat) (n : Nat) (o : Option Nat), chn (S.2.2 3) o L → L.length < n → (rm_L S g n o = none ∧ ∀ k, k ∈ L → ¬ S.2.2 3 k = some g) ∨ ∃ k, k ∈ L ∧ rm_L S g n o = some k ∧ S.2.2 3 k = some g
  | [], 0, _, _, h => absurd h (Nat.lt_irrefl 0)
  | [], n + 1, o, h, _ => by
    have h : o = none := h
    rw [h]
    exact Or.inl ⟨rfl, fun k hk => absurd hk List.not_mem_nil⟩
  | k :: L, 0, _, _, h => absurd h (Nat.not_lt_zero _)
  | k :: L, n + 1, o, h, hl => by
    obtain ⟨e, h⟩ := h
    rw [e]
    unfold rm_L
    by_cases c : S.2.2 3 k = some g
    · rw [if_pos c]
      exact Or.inr ⟨k, List.mem_cons_self, rfl, c⟩
    · rw [if_neg c]
      rcases rm_p L n (S.2.2 3 k) h (Nat.lt_of_succ_lt_succ hl) with ⟨i1, i2⟩ | ⟨k', i1, i2⟩
      · refine Or.inl ⟨i1, fun k' hk' => ?_⟩
        rcases List.mem_cons.mp hk' with q | q
        · rw [q]; exact c
        · exact i2 k' q
      · exact Or.inr ⟨k', List.mem_cons_of_mem _ i1, i2⟩
/-- a booking goes -/
theorem cancel_rm {S : ds_S} {M : ms_S} {nb Rn n0 g ro : Nat} {L : Nat → List Nat} (h : rmL S M nb Rn L) (hn : ∀ r, (L r).length < n0) (hg : g < nb) (hro : S.2.2 4 g = some ro) :
    (rm_F S ro g n0).1 = M 14 g ∧ rmI (rm_F S ro g n0).2 (ms_w (ms_w M 20 0 0) 14 g 0) nb Rn ∧ (∀ t i j, (rm_F S ro g n0).2.1 t i j = S.1 t i j) ∧ (∀ t i, t ≠ 2 → t ≠ 3 → (rm_F S ro g n0).2.2.2 t i = S.2.2 t i) := by
  have h0 := h
  obtain ⟨a1, a2, a3, a4, a5, a6, a7⟩ := h
  have e14 : ∀ k, ms_w (ms_w M 20 0 0) 14 g 0 14 k = if k = g then 0 else M 14 k := fun k => by
    by_cases e : k = g
    · rw [e, ms_w_s, if_pos rfl]
    · rw [ms_w_n (fun z => e z.2), ms_w_n (by omega), if_neg e]
  have eM : ∀ t i, 9 ≤ t → t ≤ 13 → ms_w (ms_w M 20 0 0) 14 g 0 t i = M t i := fun t i x1 x2 => by
    rw [ms_w_n (by omega), ms_w_n (by omega)]
  have hirr : ∀ r i, i ∈ L r → ¬ (S.1 21 i 0).toInt ≤ (S.1 20 i 0).toInt := fun r i hi z => by
    have := rm_rng h0 hi
    omega
  by_cases hin : g ∈ L ro
  · have h14 : ¬ M 14 g = 0 := ((a2 ro g).mp hin).2.1
    have h141 : M 14 g = 1 := by
      obtain ⟨r', -, -, -, -, -, -, -, -, -, d⟩ := a4 g hg
      exact d.resolve_left h14
    -- what the new list must be
    have key : ∀ (S' : ds_S) (Ln : List Nat), (∀ t i j, S'.1 t i j = S.1 t i j) → (∀ t i, t ≠ 2 → t ≠ 3 → S'.2.2 t i = S.2.2 t i) → (∀ k k', S'.2.2 3 k = some k' → k' < nb) → chn (S'.2.2 3) (S'.2.2 2 ro) Ln → (∀ r, r ≠ ro → chn (S'.2.2 3) (S'.2.2 2 r) (L r)) → (∀ k, k ∈ Ln ↔ k ∈ L ro ∧ k ≠ g) → Ln.Pairwise (fun i j => (S.1 21 i 0).toInt ≤ (S.1 20 j 0).toInt) → rmI S' (ms_w (ms_w M 20 0 0) 14 g 0) nb Rn := by
      intro S' Ln q1 q2 q3 q4 q5 q6 q7
      obtain ⟨LN, hLN1, hLN2⟩ : ∃ LN : Nat → List Nat, LN ro = Ln ∧ ∀ r, r ≠ ro → LN r = L r := ⟨fun r => if r = ro then Ln else L r, if_pos rfl, fun r hr => if_neg hr⟩
      refine ⟨LN, fun r => ?_, fun r k => ?_, fun r => ?_, fun k hk => ?_, fun r hr => ?_, q3, fun j => ?_⟩
      · by_cases e : r = ro
        · rw [e, hLN1]; exact q4
        · rw [hLN2 r e]; exact q5 r e
      · rw [e14, q2 4 k (by decide) (by decide)]
        by_cases ek : k = g
        · rw [if_pos ek]
          have hno : ¬ k ∈ LN r := by
            by_cases e : r = ro
            · rw [e, hLN1, q6]; exact fun z => z.2 ek
            · rw [hLN2 r e, a2, ek, hro]
              exact fun z => e (by have := z.2.2; cases this; rfl)
          exact ⟨fun z => absurd z hno, fun z => absurd rfl z.2.1⟩
        · rw [if_neg ek, ← a2 r k]
          by_cases e : r = ro
          · rw [e, hLN1, q6]; exact ⟨fun z => z.1, fun z => ⟨z, ek⟩⟩
          · rw [hLN2 r e]
      · have e20 : ∀ k, S'.1 20 k 0 = S.1 20 k 0 := fun k => q1 20 k 0
        have e21 : ∀ k, S'.1 21 k 0 = S.1 21 k 0 := fun k => q1 21 k 0
        have hx : (LN r).Pairwise (fun i j => (S.1 21 i 0).toInt ≤ (S.1 20 j 0).toInt) := by
          by_cases e : r = ro
          · rw [e, hLN1]; exact q7
          · rw [hLN2 r e]; exact a3 r
        refine List.Pairwise.imp (fun {i j} z => ?_) hx
        rw [e20, e21]
        exact z
      · obtain ⟨r, b1, b2, b3, b4, b5, b6, b7, b8, b9, b10⟩ := a4 k hk
        refine ⟨r, b1, ?_⟩
        rw [q2 4 k (by decide) (by decide), eM 10 k (by decide) (by decide), eM 11 k (by decide) (by decide), eM 12 k (by decide) (by decide), eM 13 k (by decide) (by decide), e14, q1, q1, q1, q1]
        refine ⟨b2, b3, b4, b5, b6, b7, b8, b9, ?_⟩
        by_cases ek : k = g
        · rw [if_pos ek]; exact Or.inl rfl
        · rw [if_neg ek]; exact b10
      · rw [eM 9 r (by decide) (by decide), q1]; exact a5 r hr
      · rw [q2 5 j (by decide) (by decide)]; exact a7 j
    have hothers : ∀ r, r ≠ ro → ∀ k, k ∈ L ro → ¬ k ∈ L r := fun r hr k hk z => by
      have x1 := ((a2 r k).mp z).2.2
      have x2 := ((a2 ro k).mp hk).2.2
      rw [x2] at x1
      cases x1
      exact hr rfl
    by_cases hf : S.2.2 2 ro = some g
    · have e : rm_F S ro g n0 = (1, ds_wR S 2 ro (S.2.2 3 g)) := if_pos hf
      rw [e]
      have w3 : (ds_wR S 2 ro (S.2.2 3 g)).2.2 3 = S.2.2 3 := funext (fun i => wR_n (by omega))
      refine ⟨h141.symm, ?_, fun _ _ _ => rfl, fun t i h2 _ => wR_n (fun z => h2 z.1)⟩
      have hc := a1 ro
      cases el : L ro with
      | nil => rw [el] at hin; exact absurd hin List.not_mem_nil
      | cons x l =>
        rw [el] at hc
        have ex := hc.1
        rw [hf] at ex
        cases ex
        have hp := a3 ro
        rw [el] at hp
        have hgl : ¬ g ∈ l := fun z => hirr ro g hin ((List.pairwise_cons.mp hp).1 g z)
        refine key _ l (fun _ _ _ => rfl) (fun t i h2 _ => wR_n (fun z => h2 z.1)) (fun k k' z => a6 k k' (by rw [w3] at z; exact z)) ?_ (fun r hr => ?_) (fun k => ?_) (List.pairwise_cons.mp hp).2
        · rw [w3]
          have : (ds_wR S 2 ro (S.2.2 3 g)).2.2 2 ro = S.2.2 3 g := ds_u2_s S.2.2 2 ro _
          rw [this]
          exact hc.2
        · rw [w3, wR_n (fun z => hr z.2)]; exact a1 r
        · rw [el, List.mem_cons]
          exact ⟨fun z => ⟨Or.inr z, fun q => hgl (q ▸ z)⟩, fun z => z.1.resolve_left z.2⟩
    · have hpre := (chn_pre (L ro) _ (a1 ro) hin).resolve_left hf
      rcases rm_p (g := g) (L ro) n0 _ (a1 ro) (hn ro) with ⟨i1, i2⟩ | ⟨k, i1, i2, i3⟩
      · obtain ⟨k, k1, k2⟩ := hpre
        exact absurd k2 (i2 k k1)
      · have e : rm_F S ro g n0 = (1, ds_wR S 3 k (S.2.2 3 g)) := by
          unfold rm_F
          rw [if_neg hf, i2]
        rw [e]
        refine ⟨h141.symm, ?_, fun _ _ _ => rfl, fun t i _ h3 => wR_n (fun z => h3 z.1)⟩
        obtain ⟨L0, L2, el⟩ := chn_nx (L ro) _ (a1 ro) i1 i3
        have hp := a3 ro
        rw [el] at hp
        obtain ⟨p1, p2, p3⟩ := List.pairwise_append.mp hp
        obtain ⟨p4, p5⟩ := List.pairwise_cons.mp p2
        obtain ⟨p6, p7⟩ := List.pairwise_cons.mp p5
        have hk0 : ∀ i, i ∈ L0 → i ≠ k := fun i hi z => hirr ro k i1 (by have := p3 i hi k List.mem_cons_self; rw [z] at this; exact this)
        have hk2 : ∀ i, i ∈ L2 → i ≠ k := fun i hi z => hirr ro k i1 (by have := p4 i (List.mem_cons_of_mem _ hi); rw [z] at this; exact this)
        have hg0 : ∀ i, i ∈ L0 → i ≠ g := fun i hi z => hirr ro g hin (by have := p3 i hi g (List.mem_cons_of_mem _ List.mem_cons_self); rw [z] at this; exact this)
        have hg2 : ∀ i, i ∈ L2 → i ≠ g := fun i hi z => hirr ro g hin (by have := p6 i hi; rw [z] at this; exact this)
        have hkg : k ≠ g := fun z => hirr ro g hin (by have := p4 g List.mem_cons_self; rw [z] at this; exact this)
        have w3 : ∀ i, i ≠ k → (ds_wR S 3 k (S.2.2 3 g)).2.2 3 i = S.2.2 3 i := fun i hi => wR_n (fun z => hi z.2)
        have w3k : (ds_wR S 3 k (S.2.2 3 g)).2.2 3 k = S.2.2 3 g := ds_u2_s S.2.2 3 k _
        refine key _ (L0 ++ k :: L2) (fun _ _ _ => rfl) (fun t i _ h3 => wR_n (fun z => h3 z.1)) (fun k1 k' z => ?_) ?_ (fun r hr => ?_) (fun x => ?_) ?_
        · by_cases ek : k1 = k
          · rw [ek, w3k] at z; exact a6 g k' z
          · rw [w3 k1 ek] at z; exact a6 k1 k' z
        · rw [wR_n (by omega)]
          have hc := a1 ro
          rw [el] at hc
          exact chn_del L2 w3k (fun i hi => w3 i (hk2 i hi)) L0 _ hc (fun i hi => w3 i (hk0 i hi))
        · rw [wR_n (by omega)]
          exact chn_upd (L r) _ (a1 r) (fun i hi => w3 i (fun z => hothers r hr k i1 (z ▸ hi)))
        · rw [el, List.mem_append, List.mem_append, List.mem_cons, List.mem_cons, List.mem_cons]
          constructor
          · rintro (z | z | z)
            · exact ⟨Or.inl z, hg0 x z⟩
            · exact ⟨Or.inr (Or.inl z), fun q => hkg (z.symm.trans q)⟩
            · exact ⟨Or.inr (Or.inr (Or.inr z)), hg2 x z⟩
          · rintro ⟨z | z | z | z, q⟩
            · exact Or.inl z
            · exact Or.inr (Or.inl z)
            · exact absurd z q
            · exact Or.inr (Or.inr z)
        · exact List.pairwise_append.mpr ⟨p1, List.pairwise_cons.mpr ⟨fun j hj => p4 j (List.mem_cons_of_mem _ hj), p7⟩, fun i hi j hj => by
            rcases List.mem_cons.mp hj with z | z
            · rw [z]; exact p3 i hi k List.mem_cons_self
            · exact p3 i hi j (List.mem_cons_of_mem _ (List.mem_cons_of_mem _ z))⟩
  · have h14 : M 14 g = 0 := Classical.byContradiction (fun z => hin ((a2 ro g).mpr ⟨hg, z, hro⟩))
    have hf : ¬ S.2.2 2 ro = some g := fun z => by
      have hc := a1 ro
      cases el : L ro with
      | nil =>
        rw [el] at hc
        have hc : S.2.2 2 ro = none := hc
        rw [hc] at z
        cases z
      | cons x l =>
        rw [el] at hc
        have ex := hc.1
        rw [z] at ex
        cases ex
        exact hin (by rw [el]; exact List.mem_cons_self)
    have e : rm_F S ro g n0 = (0, S) := by
      unfold rm_F
      rw [if_neg hf]
      rcases rm_p (g := g) (L ro) n0 _ (a1 ro) (hn ro) with ⟨i1, i2⟩ | ⟨k, i1, i2, i3⟩
      · rw [i1]
      · exact absurd (chn_suc (L ro) _ (a1 ro) i1 i3) hin
    rw [e]
    refine ⟨h14.symm, ⟨L, rmL_frame h0 (fun _ _ _ _ => rfl) (fun _ _ _ => rfl) (fun t i x1 x2 => ?_)⟩, fun _ _ _ => rfl, fun _ _ _ _ => rfl⟩
    by_cases et : t = 14
    · rw [et, e14]
      by_cases ei : i = g
      · rw [if_pos ei, ei, h14]
      · rw [if_neg ei]
    · exact eM t i x1 (by omega)
