/-! THE CLASS'S WORLD: ad kind index = address; S = (ints by tag, index, place; longs by tag, index; references by tag, index: an index or none) -/
abbrev ds_S : Type := (Nat → Nat → Nat → Int32) × (Nat → Nat → Int64) × (Nat → Nat → Option Nat)
def ds_u3 (f : Nat → Nat → Nat → Int32) (t i j : Nat) (x : Int32) : Nat → Nat → Nat → Int32 := fun t' i' j' => if t' = t ∧ i' = i ∧ j' = j then x else f t' i' j'
def ds_u2 {α : Type} (f : Nat → Nat → α) (t i : Nat) (x : α) : Nat → Nat → α := fun t' i' => if t' = t ∧ i' = i then x else f t' i'
def ds_wI (S : ds_S) (t i j : Nat) (x : Int32) : ds_S := (ds_u3 S.1 t i j x, S.2)
def ds_wJ (S : ds_S) (t i : Nat) (x : Int64) : ds_S := (S.1, ds_u2 S.2.1 t i x, S.2.2)
def ds_wR (S : ds_S) (t i : Nat) (x : Option Nat) : ds_S := (S.1, S.2.1, ds_u2 S.2.2 t i x)
theorem ds_u3_s (f : Nat → Nat → Nat → Int32) (t i j : Nat) (x : Int32) : ds_u3 f t i j x t i j = x := if_pos ⟨rfl, rfl, rfl⟩
theorem ds_u3_n {f : Nat → Nat → Nat → Int32} {t i j : Nat} {x : Int32} {t' i' j' : Nat} (h : ¬ (t' = t ∧ i' = i ∧ j' = j)) : ds_u3 f t i j x t' i' j' = f t' i' j' := if_neg h
theorem ds_u2_s {α : Type} (f : Nat → Nat → α) (t i : Nat) (x : α) : ds_u2 f t i x t i = x := if_pos ⟨rfl, rfl⟩
theorem ds_u2_n {α : Type} {f : Nat → Nat → α} {t i : Nat} {x : α} {t' i' : Nat} (h : ¬ (t' = t ∧ i' = i)) : ds_u2 f t i x t' i' = f t' i' := if_neg h
def ds_dm (nb k i : Nat) : Prop := match k with
  | 0 => i = 0
  | 1 => i = 0
  | 2 => i = 0
  | 3 => i = 0
  | 4 => i = 0
  | 5 => i = 0
  | 6 => i = 0
  | 7 => i = 0
  | 8 => i = 0
  | 9 => i = 0
  | 10 => i < 10
  | 11 => i < 10
  | 12 => i < 10
  | 13 => i < 14
  | 14 => i < 8
  | 15 => i < nb
  | _ => False
def ds_ce (ad : Nat → Nat → Nat) (cA : Nat → ClassId) (nb : Nat) (S : ds_S) (k i : Nat) : va_E := match k with
  | 0 => .inr (6, [.ref (ad 1 0), .ref (ad 2 0), .ref (ad 4 0), .ref (ad 8 0), .ref (ad 9 0), .int (S.1 0 i 0), .int (S.1 1 i 0), .int (S.1 2 i 0), .int (S.1 3 i 0), .int (S.1 4 i 0), .int (S.1 5 i 0)])
  | 1 => .inl (cA 2, 10, .inr (.inr (.inr (.inr (fun j => some (ad 10 j))))))
  | 2 => .inr (1, [.ref (ad 3 0), .int (S.1 6 i 0)])
  | 3 => .inl (cA 3, 14, .inr (.inr (.inr (.inr (fun j => some (ad 13 j))))))
  | 4 => .inr (5, [.ref (ad 5 0), .ref (ad 6 0), .ref (ad 7 0), .int (S.1 7 i 0), .int (S.1 8 i 0), .int (S.1 9 i 0)])
  | 5 => .inl (cA 0, 15, .inl (fun j => S.1 16 i j))
  | 6 => .inl (cA 0, 15, .inl (fun j => S.1 17 i j))
  | 7 => .inl (cA 0, 15, .inl (fun j => S.1 18 i j))
  | 8 => .inl (cA 4, 8, .inr (.inr (.inr (.inr (fun j => some (ad 14 j))))))
  | 9 => .inl (cA 5, 300, .inr (.inr (.inr (.inr (fun j => (S.2.2 5 j).map (ad 15))))))
  | 10 => .inr (2, [.int (nI i), .ref (ad 11 i), .ref (ad 12 i), .int (S.1 12 i 0), .int (S.1 13 i 0), .int (S.1 14 i 0), .long (S.2.1 0 i)])
  | 11 => .inl (cA 0, 14, .inl (fun j => S.1 10 i j))
  | 12 => .inl (cA 1, 14, .inl (fun j => S.1 11 i j))
  | 13 => .inr (4, [va_rf ((S.2.2 0 i).map (ad 10)), .long (S.2.1 1 i), .long (S.2.1 2 i), va_rf ((S.2.2 1 i).map (ad 13)), .int (S.1 15 i 0)])
  | 14 => .inr (3, [.int (nI i), .int (S.1 19 i 0), va_rf ((S.2.2 2 i).map (ad 15))])
  | 15 => .inr (0, [.int (nI i), va_rf ((S.2.2 4 i).map (ad 14)), .int (S.1 20 i 0), .int (S.1 21 i 0), .int (S.1 22 i 0), va_rf ((S.2.2 3 i).map (ad 15))])
  | _ => .inr (0, [])
def ds_ty (cA : Nat → ClassId) : List (ClassId × FieldType) := [(cA 0, .int), (cA 1, .boolean), (cA 2, .object "DeskMoves$Person"), (cA 3, .object "DeskMoves$Spot"), (cA 4, .object "DeskMoves$Room"), (cA 5, .object "DeskMoves$Booking"), (cA 6, .long)]
def ds_P (D : va_G) (ad : Nat → Nat → Nat) (cA : Nat → ClassId) (nb : Nat) (S : ds_S) (H : Heap) : Prop := ∀ k i, ds_dm nb k i → va_at D cl_all (ad k i, ds_ce ad cA nb S k i) H
def ds_I (ad : Nat → Nat → Nat) (nb : Nat) : Prop := ∀ k i k' i', ds_dm nb k i → ds_dm nb k' i' → ad k i = ad k' i' → k = k' ∧ i = i'
def ds_A (ad : Nat → Nat → Nat) (nb : Nat) : Nat → Prop := fun q => ∃ k i, ds_dm nb k i ∧ q = ad k i
theorem ds_in {ad : Nat → Nat → Nat} {nb k i sz : Nat} (h : ds_dm nb k i) : ct_A (ds_A ad nb) sz (ad k i) := Or.inl ⟨k, i, h, rfl⟩
theorem ds_wr {D : va_G} {ad : Nat → Nat → Nat} {cA : Nat → ClassId} {nb k i : Nat} {S S' : ds_S} {x : va_E} (hI : ds_I ad nb) (hd : ds_dm nb k i) (he : ds_ce ad cA nb S' k i = x) (hs : ∀ k' i', ¬ (k' = k ∧ i' = i) → ds_ce ad cA nb S' k' i' = ds_ce ad cA nb S k' i') : aw_Wr D (ds_P D ad cA nb S) (ds_P D ad cA nb S') (ad k i) x := by
  intro H H1 hP ha hz hq k' i' hd'
  by_cases h : k' = k ∧ i' = i
  · obtain ⟨rfl, rfl⟩ := h
    rw [he]
    exact ha
  · rw [hs k' i' h]
    exact (hP k' i' hd').kept (hq _ (fun e => h (hI _ _ _ _ hd' hd e)))
theorem nr_z {x : Int32} (h : x = 0 ∨ x = 1) : narrow .boolean (.int x) = .int x ∧ fits .boolean (.int x) = true := by rcases h with rfl | rfl <;> exact ⟨rfl, rfl⟩
theorem nr_vz {x : Int32} (h : x = 0 ∨ x = 1) : vp_nar .boolean x = x := by rcases h with rfl | rfl <;> rfl
theorem dw_De_deskCount {D : va_G} {ad : Nat → Nat → Nat} {cA : Nat → ClassId} {nb : Nat} {S : ds_S} {i : Nat} {x : Int32} (hI : ds_I ad nb) (hi : ds_dm nb 0 i) : aw_Wr D (ds_P D ad cA nb S) (ds_P D ad cA nb (ds_wI S 0 i 0 x)) (ad 0 i) (.inr (6, [.ref (ad 1 0), .ref (ad 2 0), .ref (ad 4 0), .ref (ad 8 0), .ref (ad 9 0), .int x, .int (S.1 1 i 0), .int (S.1 2 i 0), .int (S.1 3 i 0), .int (S.1 4 i 0), .int (S.1 5 i 0)])) := by
  refine ds_wr hI hi (by simp [ds_ce, ds_wI, ds_u3]) ?_
  intro k' i' h
  have h' : k' = 0 → ¬ i' = i := fun e1 e2 => h ⟨e1, e2⟩
  unfold ds_ce
  split <;> simp_all [ds_wI, ds_u3]
theorem dw_De_personCount {D : va_G} {ad : Nat → Nat → Nat} {cA : Nat → ClassId} {nb : Nat} {S : ds_S} {i : Nat} {x : Int32} (hI : ds_I ad nb) (hi : ds_dm nb 0 i) : aw_Wr D (ds_P D ad cA nb S) (ds_P D ad cA nb (ds_wI S 1 i 0 x)) (ad 0 i) (.inr (6, [.ref (ad 1 0), .ref (ad 2 0), .ref (ad 4 0), .ref (ad 8 0), .ref (ad 9 0), .int (S.1 0 i 0), .int x, .int (S.1 2 i 0), .int (S.1 3 i 0), .int (S.1 4 i 0), .int (S.1 5 i 0)])) := by
  refine ds_wr hI hi (by simp [ds_ce, ds_wI, ds_u3]) ?_
  intro k' i' h
  have h' : k' = 0 → ¬ i' = i := fun e1 e2 => h ⟨e1, e2⟩
  unfold ds_ce
  split <;> simp_all [ds_wI, ds_u3]
theorem dw_De_roomCount {D : va_G} {ad : Nat → Nat → Nat} {cA : Nat → ClassId} {nb : Nat} {S : ds_S} {i : Nat} {x : Int32} (hI : ds_I ad nb) (hi : ds_dm nb 0 i) : aw_Wr D (ds_P D ad cA nb S) (ds_P D ad cA nb (ds_wI S 2 i 0 x)) (ad 0 i) (.inr (6, [.ref (ad 1 0), .ref (ad 2 0), .ref (ad 4 0), .ref (ad 8 0), .ref (ad 9 0), .int (S.1 0 i 0), .int (S.1 1 i 0), .int x, .int (S.1 3 i 0), .int (S.1 4 i 0), .int (S.1 5 i 0)])) := by
  refine ds_wr hI hi (by simp [ds_ce, ds_wI, ds_u3]) ?_
  intro k' i' h
  have h' : k' = 0 → ¬ i' = i := fun e1 e2 => h ⟨e1, e2⟩
  unfold ds_ce
  split <;> simp_all [ds_wI, ds_u3]
theorem dw_De_bookingCount {D : va_G} {ad : Nat → Nat → Nat} {cA : Nat → ClassId} {nb : Nat} {S : ds_S} {i : Nat} {x : Int32} (hI : ds_I ad nb) (hi : ds_dm nb 0 i) : aw_Wr D (ds_P D ad cA nb S) (ds_P D ad cA nb (ds_wI S 3 i 0 x)) (ad 0 i) (.inr (6, [.ref (ad 1 0), .ref (ad 2 0), .ref (ad 4 0), .ref (ad 8 0), .ref (ad 9 0), .int (S.1 0 i 0), .int (S.1 1 i 0), .int (S.1 2 i 0), .int x, .int (S.1 4 i 0), .int (S.1 5 i 0)])) := by
  refine ds_wr hI hi (by simp [ds_ce, ds_wI, ds_u3]) ?_
  intro k' i' h
  have h' : k' = 0 → ¬ i' = i := fun e1 e2 => h ⟨e1, e2⟩
  unfold ds_ce
  split <;> simp_all [ds_wI, ds_u3]
theorem dw_De_seatingMade {D : va_G} {ad : Nat → Nat → Nat} {cA : Nat → ClassId} {nb : Nat} {S : ds_S} {i : Nat} {x : Int32} (hI : ds_I ad nb) (hi : ds_dm nb 0 i) : aw_Wr D (ds_P D ad cA nb S) (ds_P D ad cA nb (ds_wI S 4 i 0 x)) (ad 0 i) (.inr (6, [.ref (ad 1 0), .ref (ad 2 0), .ref (ad 4 0), .ref (ad 8 0), .ref (ad 9 0), .int (S.1 0 i 0), .int (S.1 1 i 0), .int (S.1 2 i 0), .int (S.1 3 i 0), .int x, .int (S.1 5 i 0)])) := by
  refine ds_wr hI hi (by simp [ds_ce, ds_wI, ds_u3]) ?_
  intro k' i' h
  have h' : k' = 0 → ¬ i' = i := fun e1 e2 => h ⟨e1, e2⟩
  unfold ds_ce
  split <;> simp_all [ds_wI, ds_u3]
theorem dw_De_seatingWorth {D : va_G} {ad : Nat → Nat → Nat} {cA : Nat → ClassId} {nb : Nat} {S : ds_S} {i : Nat} {x : Int32} (hI : ds_I ad nb) (hi : ds_dm nb 0 i) : aw_Wr D (ds_P D ad cA nb S) (ds_P D ad cA nb (ds_wI S 5 i 0 x)) (ad 0 i) (.inr (6, [.ref (ad 1 0), .ref (ad 2 0), .ref (ad 4 0), .ref (ad 8 0), .ref (ad 9 0), .int (S.1 0 i 0), .int (S.1 1 i 0), .int (S.1 2 i 0), .int (S.1 3 i 0), .int (S.1 4 i 0), .int x])) := by
  refine ds_wr hI hi (by simp [ds_ce, ds_wI, ds_u3]) ?_
  intro k' i' h
  have h' : k' = 0 → ¬ i' = i := fun e1 e2 => h ⟨e1, e2⟩
  unfold ds_ce
  split <;> simp_all [ds_wI, ds_u3]
theorem dw_Ma_spotCount {D : va_G} {ad : Nat → Nat → Nat} {cA : Nat → ClassId} {nb : Nat} {S : ds_S} {i : Nat} {x : Int32} (hI : ds_I ad nb) (hi : ds_dm nb 2 i) : aw_Wr D (ds_P D ad cA nb S) (ds_P D ad cA nb (ds_wI S 6 i 0 x)) (ad 2 i) (.inr (1, [.ref (ad 3 0), .int x])) := by
  refine ds_wr hI hi (by simp [ds_ce, ds_wI, ds_u3]) ?_
  intro k' i' h
  have h' : k' = 2 → ¬ i' = i := fun e1 e2 => h ⟨e1, e2⟩
  unfold ds_ce
  split <;> simp_all [ds_wI, ds_u3]
theorem dw_Wa_count {D : va_G} {ad : Nat → Nat → Nat} {cA : Nat → ClassId} {nb : Nat} {S : ds_S} {i : Nat} {x : Int32} (hI : ds_I ad nb) (hi : ds_dm nb 4 i) : aw_Wr D (ds_P D ad cA nb S) (ds_P D ad cA nb (ds_wI S 7 i 0 x)) (ad 4 i) (.inr (5, [.ref (ad 5 0), .ref (ad 6 0), .ref (ad 7 0), .int x, .int (S.1 8 i 0), .int (S.1 9 i 0)])) := by
  refine ds_wr hI hi (by simp [ds_ce, ds_wI, ds_u3]) ?_
  intro k' i' h
  have h' : k' = 4 → ¬ i' = i := fun e1 e2 => h ⟨e1, e2⟩
  unfold ds_ce
  split <;> simp_all [ds_wI, ds_u3]
theorem dw_Wa_stuck {D : va_G} {ad : Nat → Nat → Nat} {cA : Nat → ClassId} {nb : Nat} {S : ds_S} {i : Nat} {x : Int32} (hI : ds_I ad nb) (hi : ds_dm nb 4 i) : aw_Wr D (ds_P D ad cA nb S) (ds_P D ad cA nb (ds_wI S 8 i 0 x)) (ad 4 i) (.inr (5, [.ref (ad 5 0), .ref (ad 6 0), .ref (ad 7 0), .int (S.1 7 i 0), .int x, .int (S.1 9 i 0)])) := by
  refine ds_wr hI hi (by simp [ds_ce, ds_wI, ds_u3]) ?_
  intro k' i' h
  have h' : k' = 4 → ¬ i' = i := fun e1 e2 => h ⟨e1, e2⟩
  unfold ds_ce
  split <;> simp_all [ds_wI, ds_u3]
theorem dw_Wa_taken {D : va_G} {ad : Nat → Nat → Nat} {cA : Nat → ClassId} {nb : Nat} {S : ds_S} {i : Nat} {x : Int32} (hI : ds_I ad nb) (hi : ds_dm nb 4 i) : aw_Wr D (ds_P D ad cA nb S) (ds_P D ad cA nb (ds_wI S 9 i 0 x)) (ad 4 i) (.inr (5, [.ref (ad 5 0), .ref (ad 6 0), .ref (ad 7 0), .int (S.1 7 i 0), .int (S.1 8 i 0), .int x])) := by
  refine ds_wr hI hi (by simp [ds_ce, ds_wI, ds_u3]) ?_
  intro k' i' h
  have h' : k' = 4 → ¬ i' = i := fun e1 e2 => h ⟨e1, e2⟩
  unfold ds_ce
  split <;> simp_all [ds_wI, ds_u3]
theorem dw_Pe_oldDesk {D : va_G} {ad : Nat → Nat → Nat} {cA : Nat → ClassId} {nb : Nat} {S : ds_S} {i : Nat} {x : Int32} (hI : ds_I ad nb) (hi : ds_dm nb 10 i) : aw_Wr D (ds_P D ad cA nb S) (ds_P D ad cA nb (ds_wI S 12 i 0 x)) (ad 10 i) (.inr (2, [.int (nI i), .ref (ad 11 i), .ref (ad 12 i), .int x, .int (S.1 13 i 0), .int (S.1 14 i 0), .long (S.2.1 0 i)])) := by
  refine ds_wr hI hi (by simp [ds_ce, ds_wI, ds_u3]) ?_
  intro k' i' h
  have h' : k' = 10 → ¬ i' = i := fun e1 e2 => h ⟨e1, e2⟩
  unfold ds_ce
  split <;> simp_all [ds_wI, ds_u3]
theorem dw_Pe_newDesk {D : va_G} {ad : Nat → Nat → Nat} {cA : Nat → ClassId} {nb : Nat} {S : ds_S} {i : Nat} {x : Int32} (hI : ds_I ad nb) (hi : ds_dm nb 10 i) : aw_Wr D (ds_P D ad cA nb S) (ds_P D ad cA nb (ds_wI S 13 i 0 x)) (ad 10 i) (.inr (2, [.int (nI i), .ref (ad 11 i), .ref (ad 12 i), .int (S.1 12 i 0), .int x, .int (S.1 14 i 0), .long (S.2.1 0 i)])) := by
  refine ds_wr hI hi (by simp [ds_ce, ds_wI, ds_u3]) ?_
  intro k' i' h
  have h' : k' = 10 → ¬ i' = i := fun e1 e2 => h ⟨e1, e2⟩
  unfold ds_ce
  split <;> simp_all [ds_wI, ds_u3]
theorem dw_Pe_place {D : va_G} {ad : Nat → Nat → Nat} {cA : Nat → ClassId} {nb : Nat} {S : ds_S} {i : Nat} {x : Int32} (hI : ds_I ad nb) (hi : ds_dm nb 10 i) : aw_Wr D (ds_P D ad cA nb S) (ds_P D ad cA nb (ds_wI S 14 i 0 x)) (ad 10 i) (.inr (2, [.int (nI i), .ref (ad 11 i), .ref (ad 12 i), .int (S.1 12 i 0), .int (S.1 13 i 0), .int x, .long (S.2.1 0 i)])) := by
  refine ds_wr hI hi (by simp [ds_ce, ds_wI, ds_u3]) ?_
  intro k' i' h
  have h' : k' = 10 → ¬ i' = i := fun e1 e2 => h ⟨e1, e2⟩
  unfold ds_ce
  split <;> simp_all [ds_wI, ds_u3]
theorem dw_Pe_price {D : va_G} {ad : Nat → Nat → Nat} {cA : Nat → ClassId} {nb : Nat} {S : ds_S} {i : Nat} {x : Int64} (hI : ds_I ad nb) (hi : ds_dm nb 10 i) : aw_Wr D (ds_P D ad cA nb S) (ds_P D ad cA nb (ds_wJ S 0 i x)) (ad 10 i) (.inr (2, [.int (nI i), .ref (ad 11 i), .ref (ad 12 i), .int (S.1 12 i 0), .int (S.1 13 i 0), .int (S.1 14 i 0), .long x])) := by
  refine ds_wr hI hi (by simp [ds_ce, ds_wJ, ds_u2]) ?_
  intro k' i' h
  have h' : k' = 10 → ¬ i' = i := fun e1 e2 => h ⟨e1, e2⟩
  unfold ds_ce
  split <;> simp_all [ds_wJ, ds_u2]
theorem dw_Sp_sitter {D : va_G} {ad : Nat → Nat → Nat} {cA : Nat → ClassId} {nb : Nat} {S : ds_S} {i : Nat} {x : Option Nat} (hI : ds_I ad nb) (hi : ds_dm nb 13 i) : aw_Wr D (ds_P D ad cA nb S) (ds_P D ad cA nb (ds_wR S 0 i x)) (ad 13 i) (.inr (4, [va_rf (x.map (ad 10)), .long (S.2.1 1 i), .long (S.2.1 2 i), va_rf ((S.2.2 1 i).map (ad 13)), .int (S.1 15 i 0)])) := by
  refine ds_wr hI hi (by simp [ds_ce, ds_wR, ds_u2]) ?_
  intro k' i' h
  have h' : k' = 13 → ¬ i' = i := fun e1 e2 => h ⟨e1, e2⟩
  unfold ds_ce
  split <;> simp_all [ds_wR, ds_u2]
theorem dw_Sp_price {D : va_G} {ad : Nat → Nat → Nat} {cA : Nat → ClassId} {nb : Nat} {S : ds_S} {i : Nat} {x : Int64} (hI : ds_I ad nb) (hi : ds_dm nb 13 i) : aw_Wr D (ds_P D ad cA nb S) (ds_P D ad cA nb (ds_wJ S 1 i x)) (ad 13 i) (.inr (4, [va_rf ((S.2.2 0 i).map (ad 10)), .long x, .long (S.2.1 2 i), va_rf ((S.2.2 1 i).map (ad 13)), .int (S.1 15 i 0)])) := by
  refine ds_wr hI hi (by simp [ds_ce, ds_wJ, ds_u2]) ?_
  intro k' i' h
  have h' : k' = 13 → ¬ i' = i := fun e1 e2 => h ⟨e1, e2⟩
  unfold ds_ce
  split <;> simp_all [ds_wJ, ds_u2]
theorem dw_Sp_distance {D : va_G} {ad : Nat → Nat → Nat} {cA : Nat → ClassId} {nb : Nat} {S : ds_S} {i : Nat} {x : Int64} (hI : ds_I ad nb) (hi : ds_dm nb 13 i) : aw_Wr D (ds_P D ad cA nb S) (ds_P D ad cA nb (ds_wJ S 2 i x)) (ad 13 i) (.inr (4, [va_rf ((S.2.2 0 i).map (ad 10)), .long (S.2.1 1 i), .long x, va_rf ((S.2.2 1 i).map (ad 13)), .int (S.1 15 i 0)])) := by
  refine ds_wr hI hi (by simp [ds_ce, ds_wJ, ds_u2]) ?_
  intro k' i' h
  have h' : k' = 13 → ¬ i' = i := fun e1 e2 => h ⟨e1, e2⟩
  unfold ds_ce
  split <;> simp_all [ds_wJ, ds_u2]
theorem dw_Sp_before {D : va_G} {ad : Nat → Nat → Nat} {cA : Nat → ClassId} {nb : Nat} {S : ds_S} {i : Nat} {x : Option Nat} (hI : ds_I ad nb) (hi : ds_dm nb 13 i) : aw_Wr D (ds_P D ad cA nb S) (ds_P D ad cA nb (ds_wR S 1 i x)) (ad 13 i) (.inr (4, [va_rf ((S.2.2 0 i).map (ad 10)), .long (S.2.1 1 i), .long (S.2.1 2 i), va_rf (x.map (ad 13)), .int (S.1 15 i 0)])) := by
  refine ds_wr hI hi (by simp [ds_ce, ds_wR, ds_u2]) ?_
  intro k' i' h
  have h' : k' = 13 → ¬ i' = i := fun e1 e2 => h ⟨e1, e2⟩
  unfold ds_ce
  split <;> simp_all [ds_wR, ds_u2]
theorem dw_Sp_reached {D : va_G} {ad : Nat → Nat → Nat} {cA : Nat → ClassId} {nb : Nat} {S : ds_S} {i : Nat} {x : Int32} (hI : ds_I ad nb) (hi : ds_dm nb 13 i) : aw_Wr D (ds_P D ad cA nb S) (ds_P D ad cA nb (ds_wI S 15 i 0 x)) (ad 13 i) (.inr (4, [va_rf ((S.2.2 0 i).map (ad 10)), .long (S.2.1 1 i), .long (S.2.1 2 i), va_rf ((S.2.2 1 i).map (ad 13)), .int x])) := by
  refine ds_wr hI hi (by simp [ds_ce, ds_wI, ds_u3]) ?_
  intro k' i' h
  have h' : k' = 13 → ¬ i' = i := fun e1 e2 => h ⟨e1, e2⟩
  unfold ds_ce
  split <;> simp_all [ds_wI, ds_u3]
theorem dw_Ro_places {D : va_G} {ad : Nat → Nat → Nat} {cA : Nat → ClassId} {nb : Nat} {S : ds_S} {i : Nat} {x : Int32} (hI : ds_I ad nb) (hi : ds_dm nb 14 i) : aw_Wr D (ds_P D ad cA nb S) (ds_P D ad cA nb (ds_wI S 19 i 0 x)) (ad 14 i) (.inr (3, [.int (nI i), .int x, va_rf ((S.2.2 2 i).map (ad 15))])) := by
  refine ds_wr hI hi (by simp [ds_ce, ds_wI, ds_u3]) ?_
  intro k' i' h
  have h' : k' = 14 → ¬ i' = i := fun e1 e2 => h ⟨e1, e2⟩
  unfold ds_ce
  split <;> simp_all [ds_wI, ds_u3]
theorem dw_Ro_first {D : va_G} {ad : Nat → Nat → Nat} {cA : Nat → ClassId} {nb : Nat} {S : ds_S} {i : Nat} {x : Option Nat} (hI : ds_I ad nb) (hi : ds_dm nb 14 i) : aw_Wr D (ds_P D ad cA nb S) (ds_P D ad cA nb (ds_wR S 2 i x)) (ad 14 i) (.inr (3, [.int (nI i), .int (S.1 19 i 0), va_rf (x.map (ad 15))])) := by
  refine ds_wr hI hi (by simp [ds_ce, ds_wR, ds_u2]) ?_
  intro k' i' h
  have h' : k' = 14 → ¬ i' = i := fun e1 e2 => h ⟨e1, e2⟩
  unfold ds_ce
  split <;> simp_all [ds_wR, ds_u2]
theorem dw_Bk_bookedRoom {D : va_G} {ad : Nat → Nat → Nat} {cA : Nat → ClassId} {nb : Nat} {S : ds_S} {i : Nat} {x : Option Nat} (hI : ds_I ad nb) (hi : ds_dm nb 15 i) : aw_Wr D (ds_P D ad cA nb S) (ds_P D ad cA nb (ds_wR S 4 i x)) (ad 15 i) (.inr (0, [.int (nI i), va_rf (x.map (ad 14)), .int (S.1 20 i 0), .int (S.1 21 i 0), .int (S.1 22 i 0), va_rf ((S.2.2 3 i).map (ad 15))])) := by
  refine ds_wr hI hi (by simp [ds_ce, ds_wR, ds_u2]) ?_
  intro k' i' h
  have h' : k' = 15 → ¬ i' = i := fun e1 e2 => h ⟨e1, e2⟩
  unfold ds_ce
  split <;> simp_all [ds_wR, ds_u2]
theorem dw_Bk_from {D : va_G} {ad : Nat → Nat → Nat} {cA : Nat → ClassId} {nb : Nat} {S : ds_S} {i : Nat} {x : Int32} (hI : ds_I ad nb) (hi : ds_dm nb 15 i) : aw_Wr D (ds_P D ad cA nb S) (ds_P D ad cA nb (ds_wI S 20 i 0 x)) (ad 15 i) (.inr (0, [.int (nI i), va_rf ((S.2.2 4 i).map (ad 14)), .int x, .int (S.1 21 i 0), .int (S.1 22 i 0), va_rf ((S.2.2 3 i).map (ad 15))])) := by
  refine ds_wr hI hi (by simp [ds_ce, ds_wI, ds_u3]) ?_
  intro k' i' h
  have h' : k' = 15 → ¬ i' = i := fun e1 e2 => h ⟨e1, e2⟩
  unfold ds_ce
  split <;> simp_all [ds_wI, ds_u3]
theorem dw_Bk_to {D : va_G} {ad : Nat → Nat → Nat} {cA : Nat → ClassId} {nb : Nat} {S : ds_S} {i : Nat} {x : Int32} (hI : ds_I ad nb) (hi : ds_dm nb 15 i) : aw_Wr D (ds_P D ad cA nb S) (ds_P D ad cA nb (ds_wI S 21 i 0 x)) (ad 15 i) (.inr (0, [.int (nI i), va_rf ((S.2.2 4 i).map (ad 14)), .int (S.1 20 i 0), .int x, .int (S.1 22 i 0), va_rf ((S.2.2 3 i).map (ad 15))])) := by
  refine ds_wr hI hi (by simp [ds_ce, ds_wI, ds_u3]) ?_
  intro k' i' h
  have h' : k' = 15 → ¬ i' = i := fun e1 e2 => h ⟨e1, e2⟩
  unfold ds_ce
  split <;> simp_all [ds_wI, ds_u3]
theorem dw_Bk_heads {D : va_G} {ad : Nat → Nat → Nat} {cA : Nat → ClassId} {nb : Nat} {S : ds_S} {i : Nat} {x : Int32} (hI : ds_I ad nb) (hi : ds_dm nb 15 i) : aw_Wr D (ds_P D ad cA nb S) (ds_P D ad cA nb (ds_wI S 22 i 0 x)) (ad 15 i) (.inr (0, [.int (nI i), va_rf ((S.2.2 4 i).map (ad 14)), .int (S.1 20 i 0), .int (S.1 21 i 0), .int x, va_rf ((S.2.2 3 i).map (ad 15))])) := by
  refine ds_wr hI hi (by simp [ds_ce, ds_wI, ds_u3]) ?_
  intro k' i' h
  have h' : k' = 15 → ¬ i' = i := fun e1 e2 => h ⟨e1, e2⟩
  unfold ds_ce
  split <;> simp_all [ds_wI, ds_u3]
theorem dw_Bk_next {D : va_G} {ad : Nat → Nat → Nat} {cA : Nat → ClassId} {nb : Nat} {S : ds_S} {i : Nat} {x : Option Nat} (hI : ds_I ad nb) (hi : ds_dm nb 15 i) : aw_Wr D (ds_P D ad cA nb S) (ds_P D ad cA nb (ds_wR S 3 i x)) (ad 15 i) (.inr (0, [.int (nI i), va_rf ((S.2.2 4 i).map (ad 14)), .int (S.1 20 i 0), .int (S.1 21 i 0), .int (S.1 22 i 0), va_rf (x.map (ad 15))])) := by
  refine ds_wr hI hi (by simp [ds_ce, ds_wR, ds_u2]) ?_
  intro k' i' h
  have h' : k' = 15 → ¬ i' = i := fun e1 e2 => h ⟨e1, e2⟩
  unfold ds_ce
  split <;> simp_all [ds_wR, ds_u2]
theorem dw_arr5 {D : va_G} {ad : Nat → Nat → Nat} {cA : Nat → ClassId} {nb : Nat} {S : ds_S} {i j : Nat} {x : Int32} (hI : ds_I ad nb) (hi : ds_dm nb 5 i) : aw_Wr D (ds_P D ad cA nb S) (ds_P D ad cA nb (ds_wI S 16 i j x)) (ad 5 i) (.inl (cA 0, 15, .inl (upd (fun j => S.1 16 i j) j x))) := by
  refine ds_wr hI hi ?_ ?_
  · simp only [ds_ce, ds_wI, ds_u3, upd]
    congr 4
    funext q
    by_cases hq : q = j <;> simp [hq, upd]
  · intro k' i' h
    have h' : k' = 5 → ¬ i' = i := fun e1 e2 => h ⟨e1, e2⟩
    unfold ds_ce
    split <;> simp_all [ds_wI, ds_u3]
theorem dw_arr6 {D : va_G} {ad : Nat → Nat → Nat} {cA : Nat → ClassId} {nb : Nat} {S : ds_S} {i j : Nat} {x : Int32} (hI : ds_I ad nb) (hi : ds_dm nb 6 i) : aw_Wr D (ds_P D ad cA nb S) (ds_P D ad cA nb (ds_wI S 17 i j x)) (ad 6 i) (.inl (cA 0, 15, .inl (upd (fun j => S.1 17 i j) j x))) := by
  refine ds_wr hI hi ?_ ?_
  · simp only [ds_ce, ds_wI, ds_u3, upd]
    congr 4
    funext q
    by_cases hq : q = j <;> simp [hq, upd]
  · intro k' i' h
    have h' : k' = 6 → ¬ i' = i := fun e1 e2 => h ⟨e1, e2⟩
    unfold ds_ce
    split <;> simp_all [ds_wI, ds_u3]
theorem dw_arr7 {D : va_G} {ad : Nat → Nat → Nat} {cA : Nat → ClassId} {nb : Nat} {S : ds_S} {i j : Nat} {x : Int32} (hI : ds_I ad nb) (hi : ds_dm nb 7 i) : aw_Wr D (ds_P D ad cA nb S) (ds_P D ad cA nb (ds_wI S 18 i j x)) (ad 7 i) (.inl (cA 0, 15, .inl (upd (fun j => S.1 18 i j) j x))) := by
  refine ds_wr hI hi ?_ ?_
  · simp only [ds_ce, ds_wI, ds_u3, upd]
    congr 4
    funext q
    by_cases hq : q = j <;> simp [hq, upd]
  · intro k' i' h
    have h' : k' = 7 → ¬ i' = i := fun e1 e2 => h ⟨e1, e2⟩
    unfold ds_ce
    split <;> simp_all [ds_wI, ds_u3]
theorem dw_arr11 {D : va_G} {ad : Nat → Nat → Nat} {cA : Nat → ClassId} {nb : Nat} {S : ds_S} {i j : Nat} {x : Int32} (hI : ds_I ad nb) (hi : ds_dm nb 11 i) : aw_Wr D (ds_P D ad cA nb S) (ds_P D ad cA nb (ds_wI S 10 i j x)) (ad 11 i) (.inl (cA 0, 14, .inl (upd (fun j => S.1 10 i j) j x))) := by
  refine ds_wr hI hi ?_ ?_
  · simp only [ds_ce, ds_wI, ds_u3, upd]
    congr 4
    funext q
    by_cases hq : q = j <;> simp [hq, upd]
  · intro k' i' h
    have h' : k' = 11 → ¬ i' = i := fun e1 e2 => h ⟨e1, e2⟩
    unfold ds_ce
    split <;> simp_all [ds_wI, ds_u3]
theorem dw_arr12 {D : va_G} {ad : Nat → Nat → Nat} {cA : Nat → ClassId} {nb : Nat} {S : ds_S} {i j : Nat} {x : Int32} (hI : ds_I ad nb) (hi : ds_dm nb 12 i) : aw_Wr D (ds_P D ad cA nb S) (ds_P D ad cA nb (ds_wI S 11 i j x)) (ad 12 i) (.inl (cA 1, 14, .inl (upd (fun j => S.1 11 i j) j x))) := by
  refine ds_wr hI hi ?_ ?_
  · simp only [ds_ce, ds_wI, ds_u3, upd]
    congr 4
    funext q
    by_cases hq : q = j <;> simp [hq, upd]
  · intro k' i' h
    have h' : k' = 12 → ¬ i' = i := fun e1 e2 => h ⟨e1, e2⟩
    unfold ds_ce
    split <;> simp_all [ds_wI, ds_u3]
theorem dw_arr9 {D : va_G} {ad : Nat → Nat → Nat} {cA : Nat → ClassId} {nb : Nat} {S : ds_S} {i j g : Nat} (hI : ds_I ad nb) (hi : ds_dm nb 9 i) : aw_Wr D (ds_P D ad cA nb S) (ds_P D ad cA nb (ds_wR S 5 j (some g))) (ad 9 i) (.inl (cA 5, 300, .inr (.inr (.inr (.inr (va_up (fun j => (S.2.2 5 j).map (ad 15)) j (some (ad 15 g)))))))) := by
  intro H H1 hP ha hz hq k' i' hd'
  have h0 : i = 0 := hi
  by_cases h9 : k' = 9
  · subst h9
    have h1 : i' = 0 := hd'
    subst h0; subst h1
    have e : ds_ce ad cA nb (ds_wR S 5 j (some g)) 9 0 = .inl (cA 5, 300, .inr (.inr (.inr (.inr (va_up (fun j => (S.2.2 5 j).map (ad 15)) j (some (ad 15 g))))))) := by
      simp only [ds_ce, ds_wR, ds_u2]
      congr 7
      funext q
      by_cases hq : q = j <;> simp [hq, va_up]
    rw [e]
    exact ha
  · have e : ds_ce ad cA nb (ds_wR S 5 j (some g)) k' i' = ds_ce ad cA nb S k' i' := by
      unfold ds_ce
      split <;> simp_all [ds_wR, ds_u2]
    rw [e]
    exact (hP k' i' hd').kept (hq _ (fun e => h9 (hI _ _ _ _ hd' hi e).1))
