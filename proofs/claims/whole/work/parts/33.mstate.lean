/-! THE MODEL'S WORLD: ad kind = address; M tag index = the ints (tags 1 .. 14 the arrays, 20 .. 29 the fields) -/
abbrev ms_S : Type := Nat → Nat → Int32
def ms_w (M : ms_S) (t i : Nat) (x : Int32) : ms_S := fun t' i' => if t' = t ∧ i' = i then x else M t' i'
theorem ms_w_s (M : ms_S) (t i : Nat) (x : Int32) : ms_w M t i x t i = x := if_pos ⟨rfl, rfl⟩
theorem ms_w_n {M : ms_S} {t i : Nat} {x : Int32} {t' i' : Nat} (h : ¬ (t' = t ∧ i' = i)) : ms_w M t i x t' i' = M t' i' := if_neg h
def ms_ce (ad : Nat → Nat) (cA : Nat → ClassId) (M : ms_S) (k : Nat) : va_E := match k with
  | 0 => .inr (7, [.int (M 20 0), .int (M 21 0), .int (M 22 0), .ref (ad 1), .ref (ad 2), .ref (ad 3), .int (M 23 0), .int (M 24 0), .ref (ad 4), .ref (ad 5), .ref (ad 6), .int (M 25 0), .int (M 26 0), .int (M 27 0), .ref (ad 7), .ref (ad 8), .int (M 28 0), .ref (ad 9), .int (M 29 0), .ref (ad 10), .ref (ad 11), .ref (ad 12), .ref (ad 13), .ref (ad 14)])
  | 1 => .inl (cA 0, 140, .inl (fun j => M 1 j))
  | 2 => .inl (cA 1, 140, .inl (fun j => M 2 j))
  | 3 => .inl (cA 0, 10, .inl (fun j => M 3 j))
  | 4 => .inl (cA 0, 10, .inl (fun j => M 4 j))
  | 5 => .inl (cA 0, 16384, .inl (fun j => M 5 j))
  | 6 => .inl (cA 0, 10, .inl (fun j => M 6 j))
  | 7 => .inl (cA 0, 600, .inl (fun j => M 7 j))
  | 8 => .inl (cA 0, 10, .inl (fun j => M 8 j))
  | 9 => .inl (cA 0, 8, .inl (fun j => M 9 j))
  | 10 => .inl (cA 0, 300, .inl (fun j => M 10 j))
  | 11 => .inl (cA 0, 300, .inl (fun j => M 11 j))
  | 12 => .inl (cA 0, 300, .inl (fun j => M 12 j))
  | 13 => .inl (cA 0, 300, .inl (fun j => M 13 j))
  | 14 => .inl (cA 1, 300, .inl (fun j => M 14 j))
  | _ => .inr (0, [])
def ms_P (D : va_G) (ad : Nat → Nat) (cA : Nat → ClassId) (M : ms_S) (H : Heap) : Prop := ∀ k, k < 15 → va_at D cl_all (ad k, ms_ce ad cA M k) H
def ms_I (ad : Nat → Nat) : Prop := ∀ k k', k < 15 → k' < 15 → ad k = ad k' → k = k'
def ms_A (ad : Nat → Nat) : Nat → Prop := fun q => ∃ k, k < 15 ∧ q = ad k
theorem ms_in {ad : Nat → Nat} {k sz : Nat} (h : k < 15) : ct_A (ms_A ad) sz (ad k) := Or.inl ⟨k, h, rfl⟩
theorem ms_wr {D : va_G} {ad : Nat → Nat} {cA : Nat → ClassId} {k : Nat} {M M' : ms_S} {x : va_E} (hI : ms_I ad) (hd : k < 15) (he : ms_ce ad cA M' k = x) (hs : ∀ k', ¬ k' = k → ms_ce ad cA M' k' = ms_ce ad cA M k') : aw_Wr D (ms_P D ad cA M) (ms_P D ad cA M') (ad k) x := by
  intro H H1 hP ha hz hq k' hd'
  by_cases h : k' = k
  · subst h
    rw [he]
    exact ha
  · rw [hs k' h]
    exact (hP k' hd').kept (hq _ (fun e => h (hI _ _ hd' hd e)))
theorem mw_thrown {D : va_G} {ad : Nat → Nat} {cA : Nat → ClassId} {M : ms_S} {x : Int32} (hI : ms_I ad) : aw_Wr D (ms_P D ad cA M) (ms_P D ad cA (ms_w M 20 0 x)) (ad 0) (.inr (7, [.int x, .int (M 21 0), .int (M 22 0), .ref (ad 1), .ref (ad 2), .ref (ad 3), .int (M 23 0), .int (M 24 0), .ref (ad 4), .ref (ad 5), .ref (ad 6), .int (M 25 0), .int (M 26 0), .int (M 27 0), .ref (ad 7), .ref (ad 8), .int (M 28 0), .ref (ad 9), .int (M 29 0), .ref (ad 10), .ref (ad 11), .ref (ad 12), .ref (ad 13), .ref (ad 14)])) := by
  refine ms_wr hI (by decide) (by simp [ms_ce, ms_w]) ?_
  intro k' h
  unfold ms_ce
  split <;> simp_all [ms_w]
theorem mw_desks {D : va_G} {ad : Nat → Nat} {cA : Nat → ClassId} {M : ms_S} {x : Int32} (hI : ms_I ad) : aw_Wr D (ms_P D ad cA M) (ms_P D ad cA (ms_w M 21 0 x)) (ad 0) (.inr (7, [.int (M 20 0), .int x, .int (M 22 0), .ref (ad 1), .ref (ad 2), .ref (ad 3), .int (M 23 0), .int (M 24 0), .ref (ad 4), .ref (ad 5), .ref (ad 6), .int (M 25 0), .int (M 26 0), .int (M 27 0), .ref (ad 7), .ref (ad 8), .int (M 28 0), .ref (ad 9), .int (M 29 0), .ref (ad 10), .ref (ad 11), .ref (ad 12), .ref (ad 13), .ref (ad 14)])) := by
  refine ms_wr hI (by decide) (by simp [ms_ce, ms_w]) ?_
  intro k' h
  unfold ms_ce
  split <;> simp_all [ms_w]
theorem mw_persons {D : va_G} {ad : Nat → Nat} {cA : Nat → ClassId} {M : ms_S} {x : Int32} (hI : ms_I ad) : aw_Wr D (ms_P D ad cA M) (ms_P D ad cA (ms_w M 22 0 x)) (ad 0) (.inr (7, [.int (M 20 0), .int (M 21 0), .int x, .ref (ad 1), .ref (ad 2), .ref (ad 3), .int (M 23 0), .int (M 24 0), .ref (ad 4), .ref (ad 5), .ref (ad 6), .int (M 25 0), .int (M 26 0), .int (M 27 0), .ref (ad 7), .ref (ad 8), .int (M 28 0), .ref (ad 9), .int (M 29 0), .ref (ad 10), .ref (ad 11), .ref (ad 12), .ref (ad 13), .ref (ad 14)])) := by
  refine ms_wr hI (by decide) (by simp [ms_ce, ms_w]) ?_
  intro k' h
  unfold ms_ce
  split <;> simp_all [ms_w]
theorem mw_made {D : va_G} {ad : Nat → Nat} {cA : Nat → ClassId} {M : ms_S} {x : Int32} (hI : ms_I ad) : aw_Wr D (ms_P D ad cA M) (ms_P D ad cA (ms_w M 23 0 x)) (ad 0) (.inr (7, [.int (M 20 0), .int (M 21 0), .int (M 22 0), .ref (ad 1), .ref (ad 2), .ref (ad 3), .int x, .int (M 24 0), .ref (ad 4), .ref (ad 5), .ref (ad 6), .int (M 25 0), .int (M 26 0), .int (M 27 0), .ref (ad 7), .ref (ad 8), .int (M 28 0), .ref (ad 9), .int (M 29 0), .ref (ad 10), .ref (ad 11), .ref (ad 12), .ref (ad 13), .ref (ad 14)])) := by
  refine ms_wr hI (by decide) (by simp [ms_ce, ms_w]) ?_
  intro k' h
  unfold ms_ce
  split <;> simp_all [ms_w]
theorem mw_worth {D : va_G} {ad : Nat → Nat} {cA : Nat → ClassId} {M : ms_S} {x : Int32} (hI : ms_I ad) : aw_Wr D (ms_P D ad cA M) (ms_P D ad cA (ms_w M 24 0 x)) (ad 0) (.inr (7, [.int (M 20 0), .int (M 21 0), .int (M 22 0), .ref (ad 1), .ref (ad 2), .ref (ad 3), .int (M 23 0), .int x, .ref (ad 4), .ref (ad 5), .ref (ad 6), .int (M 25 0), .int (M 26 0), .int (M 27 0), .ref (ad 7), .ref (ad 8), .int (M 28 0), .ref (ad 9), .int (M 29 0), .ref (ad 10), .ref (ad 11), .ref (ad 12), .ref (ad 13), .ref (ad 14)])) := by
  refine ms_wr hI (by decide) (by simp [ms_ce, ms_w]) ?_
  intro k' h
  unfold ms_ce
  split <;> simp_all [ms_w]
theorem mw_many {D : va_G} {ad : Nat → Nat} {cA : Nat → ClassId} {M : ms_S} {x : Int32} (hI : ms_I ad) : aw_Wr D (ms_P D ad cA M) (ms_P D ad cA (ms_w M 25 0 x)) (ad 0) (.inr (7, [.int (M 20 0), .int (M 21 0), .int (M 22 0), .ref (ad 1), .ref (ad 2), .ref (ad 3), .int (M 23 0), .int (M 24 0), .ref (ad 4), .ref (ad 5), .ref (ad 6), .int x, .int (M 26 0), .int (M 27 0), .ref (ad 7), .ref (ad 8), .int (M 28 0), .ref (ad 9), .int (M 29 0), .ref (ad 10), .ref (ad 11), .ref (ad 12), .ref (ad 13), .ref (ad 14)])) := by
  refine ms_wr hI (by decide) (by simp [ms_ce, ms_w]) ?_
  intro k' h
  unfold ms_ce
  split <;> simp_all [ms_w]
theorem mw_gone {D : va_G} {ad : Nat → Nat} {cA : Nat → ClassId} {M : ms_S} {x : Int32} (hI : ms_I ad) : aw_Wr D (ms_P D ad cA M) (ms_P D ad cA (ms_w M 26 0 x)) (ad 0) (.inr (7, [.int (M 20 0), .int (M 21 0), .int (M 22 0), .ref (ad 1), .ref (ad 2), .ref (ad 3), .int (M 23 0), .int (M 24 0), .ref (ad 4), .ref (ad 5), .ref (ad 6), .int (M 25 0), .int x, .int (M 27 0), .ref (ad 7), .ref (ad 8), .int (M 28 0), .ref (ad 9), .int (M 29 0), .ref (ad 10), .ref (ad 11), .ref (ad 12), .ref (ad 13), .ref (ad 14)])) := by
  refine ms_wr hI (by decide) (by simp [ms_ce, ms_w]) ?_
  intro k' h
  unfold ms_ce
  split <;> simp_all [ms_w]
theorem mw_stuck {D : va_G} {ad : Nat → Nat} {cA : Nat → ClassId} {M : ms_S} {x : Int32} (hI : ms_I ad) : aw_Wr D (ms_P D ad cA M) (ms_P D ad cA (ms_w M 27 0 x)) (ad 0) (.inr (7, [.int (M 20 0), .int (M 21 0), .int (M 22 0), .ref (ad 1), .ref (ad 2), .ref (ad 3), .int (M 23 0), .int (M 24 0), .ref (ad 4), .ref (ad 5), .ref (ad 6), .int (M 25 0), .int (M 26 0), .int x, .ref (ad 7), .ref (ad 8), .int (M 28 0), .ref (ad 9), .int (M 29 0), .ref (ad 10), .ref (ad 11), .ref (ad 12), .ref (ad 13), .ref (ad 14)])) := by
  refine ms_wr hI (by decide) (by simp [ms_ce, ms_w]) ?_
  intro k' h
  unfold ms_ce
  split <;> simp_all [ms_w]
theorem mw_rooms {D : va_G} {ad : Nat → Nat} {cA : Nat → ClassId} {M : ms_S} {x : Int32} (hI : ms_I ad) : aw_Wr D (ms_P D ad cA M) (ms_P D ad cA (ms_w M 28 0 x)) (ad 0) (.inr (7, [.int (M 20 0), .int (M 21 0), .int (M 22 0), .ref (ad 1), .ref (ad 2), .ref (ad 3), .int (M 23 0), .int (M 24 0), .ref (ad 4), .ref (ad 5), .ref (ad 6), .int (M 25 0), .int (M 26 0), .int (M 27 0), .ref (ad 7), .ref (ad 8), .int x, .ref (ad 9), .int (M 29 0), .ref (ad 10), .ref (ad 11), .ref (ad 12), .ref (ad 13), .ref (ad 14)])) := by
  refine ms_wr hI (by decide) (by simp [ms_ce, ms_w]) ?_
  intro k' h
  unfold ms_ce
  split <;> simp_all [ms_w]
theorem mw_bookings {D : va_G} {ad : Nat → Nat} {cA : Nat → ClassId} {M : ms_S} {x : Int32} (hI : ms_I ad) : aw_Wr D (ms_P D ad cA M) (ms_P D ad cA (ms_w M 29 0 x)) (ad 0) (.inr (7, [.int (M 20 0), .int (M 21 0), .int (M 22 0), .ref (ad 1), .ref (ad 2), .ref (ad 3), .int (M 23 0), .int (M 24 0), .ref (ad 4), .ref (ad 5), .ref (ad 6), .int (M 25 0), .int (M 26 0), .int (M 27 0), .ref (ad 7), .ref (ad 8), .int (M 28 0), .ref (ad 9), .int x, .ref (ad 10), .ref (ad 11), .ref (ad 12), .ref (ad 13), .ref (ad 14)])) := by
  refine ms_wr hI (by decide) (by simp [ms_ce, ms_w]) ?_
  intro k' h
  unfold ms_ce
  split <;> simp_all [ms_w]
theorem mw_arr1 {D : va_G} {ad : Nat → Nat} {cA : Nat → ClassId} {M : ms_S} {j : Nat} {x : Int32} (hI : ms_I ad) : aw_Wr D (ms_P D ad cA M) (ms_P D ad cA (ms_w M 1 j x)) (ad 1) (.inl (cA 0, 140, .inl (upd (fun j => M 1 j) j x))) := by
  refine ms_wr hI (by decide) ?_ ?_
  · simp only [ms_ce, ms_w, upd]
    congr 4
    funext q
    by_cases hq : q = j <;> simp [hq, upd]
  · intro k' h
    unfold ms_ce
    split <;> simp_all [ms_w]
theorem mw_arr2 {D : va_G} {ad : Nat → Nat} {cA : Nat → ClassId} {M : ms_S} {j : Nat} {x : Int32} (hI : ms_I ad) : aw_Wr D (ms_P D ad cA M) (ms_P D ad cA (ms_w M 2 j x)) (ad 2) (.inl (cA 1, 140, .inl (upd (fun j => M 2 j) j x))) := by
  refine ms_wr hI (by decide) ?_ ?_
  · simp only [ms_ce, ms_w, upd]
    congr 4
    funext q
    by_cases hq : q = j <;> simp [hq, upd]
  · intro k' h
    unfold ms_ce
    split <;> simp_all [ms_w]
theorem mw_arr3 {D : va_G} {ad : Nat → Nat} {cA : Nat → ClassId} {M : ms_S} {j : Nat} {x : Int32} (hI : ms_I ad) : aw_Wr D (ms_P D ad cA M) (ms_P D ad cA (ms_w M 3 j x)) (ad 3) (.inl (cA 0, 10, .inl (upd (fun j => M 3 j) j x))) := by
  refine ms_wr hI (by decide) ?_ ?_
  · simp only [ms_ce, ms_w, upd]
    congr 4
    funext q
    by_cases hq : q = j <;> simp [hq, upd]
  · intro k' h
    unfold ms_ce
    split <;> simp_all [ms_w]
theorem mw_arr4 {D : va_G} {ad : Nat → Nat} {cA : Nat → ClassId} {M : ms_S} {j : Nat} {x : Int32} (hI : ms_I ad) : aw_Wr D (ms_P D ad cA M) (ms_P D ad cA (ms_w M 4 j x)) (ad 4) (.inl (cA 0, 10, .inl (upd (fun j => M 4 j) j x))) := by
  refine ms_wr hI (by decide) ?_ ?_
  · simp only [ms_ce, ms_w, upd]
    congr 4
    funext q
    by_cases hq : q = j <;> simp [hq, upd]
  · intro k' h
    unfold ms_ce
    split <;> simp_all [ms_w]
theorem mw_arr5 {D : va_G} {ad : Nat → Nat} {cA : Nat → ClassId} {M : ms_S} {j : Nat} {x : Int32} (hI : ms_I ad) : aw_Wr D (ms_P D ad cA M) (ms_P D ad cA (ms_w M 5 j x)) (ad 5) (.inl (cA 0, 16384, .inl (upd (fun j => M 5 j) j x))) := by
  refine ms_wr hI (by decide) ?_ ?_
  · simp only [ms_ce, ms_w, upd]
    congr 4
    funext q
    by_cases hq : q = j <;> simp [hq, upd]
  · intro k' h
    unfold ms_ce
    split <;> simp_all [ms_w]
theorem mw_arr6 {D : va_G} {ad : Nat → Nat} {cA : Nat → ClassId} {M : ms_S} {j : Nat} {x : Int32} (hI : ms_I ad) : aw_Wr D (ms_P D ad cA M) (ms_P D ad cA (ms_w M 6 j x)) (ad 6) (.inl (cA 0, 10, .inl (upd (fun j => M 6 j) j x))) := by
  refine ms_wr hI (by decide) ?_ ?_
  · simp only [ms_ce, ms_w, upd]
    congr 4
    funext q
    by_cases hq : q = j <;> simp [hq, upd]
  · intro k' h
    unfold ms_ce
    split <;> simp_all [ms_w]
theorem mw_arr7 {D : va_G} {ad : Nat → Nat} {cA : Nat → ClassId} {M : ms_S} {j : Nat} {x : Int32} (hI : ms_I ad) : aw_Wr D (ms_P D ad cA M) (ms_P D ad cA (ms_w M 7 j x)) (ad 7) (.inl (cA 0, 600, .inl (upd (fun j => M 7 j) j x))) := by
  refine ms_wr hI (by decide) ?_ ?_
  · simp only [ms_ce, ms_w, upd]
    congr 4
    funext q
    by_cases hq : q = j <;> simp [hq, upd]
  · intro k' h
    unfold ms_ce
    split <;> simp_all [ms_w]
theorem mw_arr8 {D : va_G} {ad : Nat → Nat} {cA : Nat → ClassId} {M : ms_S} {j : Nat} {x : Int32} (hI : ms_I ad) : aw_Wr D (ms_P D ad cA M) (ms_P D ad cA (ms_w M 8 j x)) (ad 8) (.inl (cA 0, 10, .inl (upd (fun j => M 8 j) j x))) := by
  refine ms_wr hI (by decide) ?_ ?_
  · simp only [ms_ce, ms_w, upd]
    congr 4
    funext q
    by_cases hq : q = j <;> simp [hq, upd]
  · intro k' h
    unfold ms_ce
    split <;> simp_all [ms_w]
theorem mw_arr9 {D : va_G} {ad : Nat → Nat} {cA : Nat → ClassId} {M : ms_S} {j : Nat} {x : Int32} (hI : ms_I ad) : aw_Wr D (ms_P D ad cA M) (ms_P D ad cA (ms_w M 9 j x)) (ad 9) (.inl (cA 0, 8, .inl (upd (fun j => M 9 j) j x))) := by
  refine ms_wr hI (by decide) ?_ ?_
  · simp only [ms_ce, ms_w, upd]
    congr 4
    funext q
    by_cases hq : q = j <;> simp [hq, upd]
  · intro k' h
    unfold ms_ce
    split <;> simp_all [ms_w]
theorem mw_arr10 {D : va_G} {ad : Nat → Nat} {cA : Nat → ClassId} {M : ms_S} {j : Nat} {x : Int32} (hI : ms_I ad) : aw_Wr D (ms_P D ad cA M) (ms_P D ad cA (ms_w M 10 j x)) (ad 10) (.inl (cA 0, 300, .inl (upd (fun j => M 10 j) j x))) := by
  refine ms_wr hI (by decide) ?_ ?_
  · simp only [ms_ce, ms_w, upd]
    congr 4
    funext q
    by_cases hq : q = j <;> simp [hq, upd]
  · intro k' h
    unfold ms_ce
    split <;> simp_all [ms_w]
theorem mw_arr11 {D : va_G} {ad : Nat → Nat} {cA : Nat → ClassId} {M : ms_S} {j : Nat} {x : Int32} (hI : ms_I ad) : aw_Wr D (ms_P D ad cA M) (ms_P D ad cA (ms_w M 11 j x)) (ad 11) (.inl (cA 0, 300, .inl (upd (fun j => M 11 j) j x))) := by
  refine ms_wr hI (by decide) ?_ ?_
  · simp only [ms_ce, ms_w, upd]
    congr 4
    funext q
    by_cases hq : q = j <;> simp [hq, upd]
  · intro k' h
    unfold ms_ce
    split <;> simp_all [ms_w]
theorem mw_arr12 {D : va_G} {ad : Nat → Nat} {cA : Nat → ClassId} {M : ms_S} {j : Nat} {x : Int32} (hI : ms_I ad) : aw_Wr D (ms_P D ad cA M) (ms_P D ad cA (ms_w M 12 j x)) (ad 12) (.inl (cA 0, 300, .inl (upd (fun j => M 12 j) j x))) := by
  refine ms_wr hI (by decide) ?_ ?_
  · simp only [ms_ce, ms_w, upd]
    congr 4
    funext q
    by_cases hq : q = j <;> simp [hq, upd]
  · intro k' h
    unfold ms_ce
    split <;> simp_all [ms_w]
theorem mw_arr13 {D : va_G} {ad : Nat → Nat} {cA : Nat → ClassId} {M : ms_S} {j : Nat} {x : Int32} (hI : ms_I ad) : aw_Wr D (ms_P D ad cA M) (ms_P D ad cA (ms_w M 13 j x)) (ad 13) (.inl (cA 0, 300, .inl (upd (fun j => M 13 j) j x))) := by
  refine ms_wr hI (by decide) ?_ ?_
  · simp only [ms_ce, ms_w, upd]
    congr 4
    funext q
    by_cases hq : q = j <;> simp [hq, upd]
  · intro k' h
    unfold ms_ce
    split <;> simp_all [ms_w]
theorem mw_arr14 {D : va_G} {ad : Nat → Nat} {cA : Nat → ClassId} {M : ms_S} {j : Nat} {x : Int32} (hI : ms_I ad) : aw_Wr D (ms_P D ad cA M) (ms_P D ad cA (ms_w M 14 j x)) (ad 14) (.inl (cA 1, 300, .inl (upd (fun j => M 14 j) j x))) := by
  refine ms_wr hI (by decide) ?_ ?_
  · simp only [ms_ce, ms_w, upd]
    congr 4
    funext q
    by_cases hq : q = j <;> simp [hq, upd]
  · intro k' h
    unfold ms_ce
    split <;> simp_all [ms_w]
section RM
variable {p : Program} {l : Launch} {e : Env} {R : Room} {s : State} {m : MethodId} {args : Array Value} {below : List Frame} {meth : Method} {c : Code} {cc : ByteArray} {nL cells slots : Nat} {Q : State → Prop} {pc : Nat} {lv : List (Nat × Value)} {st : List Value} {D : va_G} {ad : Nat → Nat} {cA : Nat → ClassId} {sz : Nat} {M : ms_S}
theorem gm_thrown (C : CallFix p m c cc nL s args tb_G R_Mo) (hK : va_K D cl_all (ds_ty cA) s) {v : Int32} (hv : M 20 0 = v) (hd : decode cc pc = .ok (.getfield 57, 3)) (kk : AW p l e R s m args below meth c nL cells slots Q (ms_P D ad cA M) (ct_A (ms_A ad) sz) (pc + 3) lv (.int v :: st)) : AW p l e R s m args below meth c nL cells slots Q (ms_P D ad cA M) (ct_A (ms_A ad) sz) pc lv (.ref (ad 0) :: st) := by
  subst hv
  exact aw_get (k := 0) C hK i_Mo rfl (by decide) fl_Mo_Mo_thrown (fun H h => h 0 (by decide)) rfl hd kk
theorem pm_thrown (C : CallFix p m c cc nL s args tb_G R_Mo) (hK : va_K D cl_all (ds_ty cA) s) (hI : ms_I ad) {x : Int32}  (hd : decode cc pc = .ok (.putfield 57, 3)) (kk : AW p l e R s m args below meth c nL cells slots Q (ms_P D ad cA (ms_w M 20 0 x)) (ct_A (ms_A ad) sz) (pc + 3) lv st) : AW p l e R s m args below meth c nL cells slots Q (ms_P D ad cA M) (ct_A (ms_A ad) sz) pc lv (.int x :: .ref (ad 0) :: st) := aw_put (k := 0) C hK i_Mo t_Mo t_Mo_ok n_Mo rfl (by decide) fl_Mo_Mo_thrown rfl (t_Mo_ok 0 (by decide)) rfl rfl (ms_in (k := 0) (by decide)) (fun H h => h 0 (by decide)) (Nat.le_of_ble_eq_true rfl) hd (mw_thrown hI) kk
theorem gm_desks (C : CallFix p m c cc nL s args tb_G R_Mo) (hK : va_K D cl_all (ds_ty cA) s) {v : Int32} (hv : M 21 0 = v) (hd : decode cc pc = .ok (.getfield 53, 3)) (kk : AW p l e R s m args below meth c nL cells slots Q (ms_P D ad cA M) (ct_A (ms_A ad) sz) (pc + 3) lv (.int v :: st)) : AW p l e R s m args below meth c nL cells slots Q (ms_P D ad cA M) (ct_A (ms_A ad) sz) pc lv (.ref (ad 0) :: st) := by
  subst hv
  exact aw_get (k := 1) C hK i_Mo rfl (by decide) fl_Mo_Mo_desks (fun H h => h 0 (by decide)) rfl hd kk
theorem pm_desks (C : CallFix p m c cc nL s args tb_G R_Mo) (hK : va_K D cl_all (ds_ty cA) s) (hI : ms_I ad) {x : Int32}  (hd : decode cc pc = .ok (.putfield 53, 3)) (kk : AW p l e R s m args below meth c nL cells slots Q (ms_P D ad cA (ms_w M 21 0 x)) (ct_A (ms_A ad) sz) (pc + 3) lv st) : AW p l e R s m args below meth c nL cells slots Q (ms_P D ad cA M) (ct_A (ms_A ad) sz) pc lv (.int x :: .ref (ad 0) :: st) := aw_put (k := 1) C hK i_Mo t_Mo t_Mo_ok n_Mo rfl (by decide) fl_Mo_Mo_desks rfl (t_Mo_ok 1 (by decide)) rfl rfl (ms_in (k := 0) (by decide)) (fun H h => h 0 (by decide)) (Nat.le_of_ble_eq_true rfl) hd (mw_desks hI) kk
theorem gm_persons (C : CallFix p m c cc nL s args tb_G R_Mo) (hK : va_K D cl_all (ds_ty cA) s) {v : Int32} (hv : M 22 0 = v) (hd : decode cc pc = .ok (.getfield 60, 3)) (kk : AW p l e R s m args below meth c nL cells slots Q (ms_P D ad cA M) (ct_A (ms_A ad) sz) (pc + 3) lv (.int v :: st)) : AW p l e R s m args below meth c nL cells slots Q (ms_P D ad cA M) (ct_A (ms_A ad) sz) pc lv (.ref (ad 0) :: st) := by
  subst hv
  exact aw_get (k := 2) C hK i_Mo rfl (by decide) fl_Mo_Mo_persons (fun H h => h 0 (by decide)) rfl hd kk
theorem pm_persons (C : CallFix p m c cc nL s args tb_G R_Mo) (hK : va_K D cl_all (ds_ty cA) s) (hI : ms_I ad) {x : Int32}  (hd : decode cc pc = .ok (.putfield 60, 3)) (kk : AW p l e R s m args below meth c nL cells slots Q (ms_P D ad cA (ms_w M 22 0 x)) (ct_A (ms_A ad) sz) (pc + 3) lv st) : AW p l e R s m args below meth c nL cells slots Q (ms_P D ad cA M) (ct_A (ms_A ad) sz) pc lv (.int x :: .ref (ad 0) :: st) := aw_put (k := 2) C hK i_Mo t_Mo t_Mo_ok n_Mo rfl (by decide) fl_Mo_Mo_persons rfl (t_Mo_ok 2 (by decide)) rfl rfl (ms_in (k := 0) (by decide)) (fun H h => h 0 (by decide)) (Nat.le_of_ble_eq_true rfl) hd (mw_persons hI) kk
theorem gm_wishes (C : CallFix p m c cc nL s args tb_G R_Mo) (hK : va_K D cl_all (ds_ty cA) s) (hd : decode cc pc = .ok (.getfield 7, 3)) (kk : AW p l e R s m args below meth c nL cells slots Q (ms_P D ad cA M) (ct_A (ms_A ad) sz) (pc + 3) lv (.ref (ad 1) :: st)) : AW p l e R s m args below meth c nL cells slots Q (ms_P D ad cA M) (ct_A (ms_A ad) sz) pc lv (.ref (ad 0) :: st) := aw_get (k := 3) C hK i_Mo rfl (by decide) fl_Mo_Mo_wishes (fun H h => h 0 (by decide)) rfl hd kk
theorem gm_barred (C : CallFix p m c cc nL s args tb_G R_Mo) (hK : va_K D cl_all (ds_ty cA) s) (hd : decode cc pc = .ok (.getfield 13, 3)) (kk : AW p l e R s m args below meth c nL cells slots Q (ms_P D ad cA M) (ct_A (ms_A ad) sz) (pc + 3) lv (.ref (ad 2) :: st)) : AW p l e R s m args below meth c nL cells slots Q (ms_P D ad cA M) (ct_A (ms_A ad) sz) pc lv (.ref (ad 0) :: st) := aw_get (k := 4) C hK i_Mo rfl (by decide) fl_Mo_Mo_barred (fun H h => h 0 (by decide)) rfl hd kk
theorem gm_olds (C : CallFix p m c cc nL s args tb_G R_Mo) (hK : va_K D cl_all (ds_ty cA) s) (hd : decode cc pc = .ok (.getfield 17, 3)) (kk : AW p l e R s m args below meth c nL cells slots Q (ms_P D ad cA M) (ct_A (ms_A ad) sz) (pc + 3) lv (.ref (ad 3) :: st)) : AW p l e R s m args below meth c nL cells slots Q (ms_P D ad cA M) (ct_A (ms_A ad) sz) pc lv (.ref (ad 0) :: st) := aw_get (k := 5) C hK i_Mo rfl (by decide) fl_Mo_Mo_olds (fun H h => h 0 (by decide)) rfl hd kk
theorem gm_made (C : CallFix p m c cc nL s args tb_G R_Mo) (hK : va_K D cl_all (ds_ty cA) s) {v : Int32} (hv : M 23 0 = v) (hd : decode cc pc = .ok (.getfield 70, 3)) (kk : AW p l e R s m args below meth c nL cells slots Q (ms_P D ad cA M) (ct_A (ms_A ad) sz) (pc + 3) lv (.int v :: st)) : AW p l e R s m args below meth c nL cells slots Q (ms_P D ad cA M) (ct_A (ms_A ad) sz) pc lv (.ref (ad 0) :: st) := by
  subst hv
  exact aw_get (k := 6) C hK i_Mo rfl (by decide) fl_Mo_Mo_made (fun H h => h 0 (by decide)) rfl hd kk
theorem pm_made (C : CallFix p m c cc nL s args tb_G R_Mo) (hK : va_K D cl_all (ds_ty cA) s) (hI : ms_I ad) {x : Int32} (hz : x = 0 ∨ x = 1) (hd : decode cc pc = .ok (.putfield 70, 3)) (kk : AW p l e R s m args below meth c nL cells slots Q (ms_P D ad cA (ms_w M 23 0 x)) (ct_A (ms_A ad) sz) (pc + 3) lv st) : AW p l e R s m args below meth c nL cells slots Q (ms_P D ad cA M) (ct_A (ms_A ad) sz) pc lv (.int x :: .ref (ad 0) :: st) := aw_put (k := 6) C hK i_Mo t_Mo t_Mo_ok n_Mo rfl (by decide) fl_Mo_Mo_made rfl (t_Mo_ok 6 (by decide)) (nr_z hz).1 (nr_z hz).2 (ms_in (k := 0) (by decide)) (fun H h => h 0 (by decide)) (Nat.le_of_ble_eq_true rfl) hd (mw_made hI) kk
theorem gm_worth (C : CallFix p m c cc nL s args tb_G R_Mo) (hK : va_K D cl_all (ds_ty cA) s) {v : Int32} (hv : M 24 0 = v) (hd : decode cc pc = .ok (.getfield 103, 3)) (kk : AW p l e R s m args below meth c nL cells slots Q (ms_P D ad cA M) (ct_A (ms_A ad) sz) (pc + 3) lv (.int v :: st)) : AW p l e R s m args below meth c nL cells slots Q (ms_P D ad cA M) (ct_A (ms_A ad) sz) pc lv (.ref (ad 0) :: st) := by
  subst hv
  exact aw_get (k := 7) C hK i_Mo rfl (by decide) fl_Mo_Mo_worth (fun H h => h 0 (by decide)) rfl hd kk
theorem pm_worth (C : CallFix p m c cc nL s args tb_G R_Mo) (hK : va_K D cl_all (ds_ty cA) s) (hI : ms_I ad) {x : Int32}  (hd : decode cc pc = .ok (.putfield 103, 3)) (kk : AW p l e R s m args below meth c nL cells slots Q (ms_P D ad cA (ms_w M 24 0 x)) (ct_A (ms_A ad) sz) (pc + 3) lv st) : AW p l e R s m args below meth c nL cells slots Q (ms_P D ad cA M) (ct_A (ms_A ad) sz) pc lv (.int x :: .ref (ad 0) :: st) := aw_put (k := 7) C hK i_Mo t_Mo t_Mo_ok n_Mo rfl (by decide) fl_Mo_Mo_worth rfl (t_Mo_ok 7 (by decide)) rfl rfl (ms_in (k := 0) (by decide)) (fun H h => h 0 (by decide)) (Nat.le_of_ble_eq_true rfl) hd (mw_worth hI) kk
theorem gm_seats (C : CallFix p m c cc nL s args tb_G R_Mo) (hK : va_K D cl_all (ds_ty cA) s) (hd : decode cc pc = .ok (.getfield 20, 3)) (kk : AW p l e R s m args below meth c nL cells slots Q (ms_P D ad cA M) (ct_A (ms_A ad) sz) (pc + 3) lv (.ref (ad 4) :: st)) : AW p l e R s m args below meth c nL cells slots Q (ms_P D ad cA M) (ct_A (ms_A ad) sz) pc lv (.ref (ad 0) :: st) := aw_get (k := 8) C hK i_Mo rfl (by decide) fl_Mo_Mo_seats (fun H h => h 0 (by decide)) rfl hd kk
theorem gm_best (C : CallFix p m c cc nL s args tb_G R_Mo) (hK : va_K D cl_all (ds_ty cA) s) (hd : decode cc pc = .ok (.getfield 23, 3)) (kk : AW p l e R s m args below meth c nL cells slots Q (ms_P D ad cA M) (ct_A (ms_A ad) sz) (pc + 3) lv (.ref (ad 5) :: st)) : AW p l e R s m args below meth c nL cells slots Q (ms_P D ad cA M) (ct_A (ms_A ad) sz) pc lv (.ref (ad 0) :: st) := aw_get (k := 9) C hK i_Mo rfl (by decide) fl_Mo_Mo_best (fun H h => h 0 (by decide)) rfl hd kk
theorem gm_order (C : CallFix p m c cc nL s args tb_G R_Mo) (hK : va_K D cl_all (ds_ty cA) s) (hd : decode cc pc = .ok (.getfield 26, 3)) (kk : AW p l e R s m args below meth c nL cells slots Q (ms_P D ad cA M) (ct_A (ms_A ad) sz) (pc + 3) lv (.ref (ad 6) :: st)) : AW p l e R s m args below meth c nL cells slots Q (ms_P D ad cA M) (ct_A (ms_A ad) sz) pc lv (.ref (ad 0) :: st) := aw_get (k := 10) C hK i_Mo rfl (by decide) fl_Mo_Mo_order (fun H h => h 0 (by decide)) rfl hd kk
theorem gm_many (C : CallFix p m c cc nL s args tb_G R_Mo) (hK : va_K D cl_all (ds_ty cA) s) {v : Int32} (hv : M 25 0 = v) (hd : decode cc pc = .ok (.getfield 85, 3)) (kk : AW p l e R s m args below meth c nL cells slots Q (ms_P D ad cA M) (ct_A (ms_A ad) sz) (pc + 3) lv (.int v :: st)) : AW p l e R s m args below meth c nL cells slots Q (ms_P D ad cA M) (ct_A (ms_A ad) sz) pc lv (.ref (ad 0) :: st) := by
  subst hv
  exact aw_get (k := 11) C hK i_Mo rfl (by decide) fl_Mo_Mo_many (fun H h => h 0 (by decide)) rfl hd kk
theorem pm_many (C : CallFix p m c cc nL s args tb_G R_Mo) (hK : va_K D cl_all (ds_ty cA) s) (hI : ms_I ad) {x : Int32}  (hd : decode cc pc = .ok (.putfield 85, 3)) (kk : AW p l e R s m args below meth c nL cells slots Q (ms_P D ad cA (ms_w M 25 0 x)) (ct_A (ms_A ad) sz) (pc + 3) lv st) : AW p l e R s m args below meth c nL cells slots Q (ms_P D ad cA M) (ct_A (ms_A ad) sz) pc lv (.int x :: .ref (ad 0) :: st) := aw_put (k := 11) C hK i_Mo t_Mo t_Mo_ok n_Mo rfl (by decide) fl_Mo_Mo_many rfl (t_Mo_ok 11 (by decide)) rfl rfl (ms_in (k := 0) (by decide)) (fun H h => h 0 (by decide)) (Nat.le_of_ble_eq_true rfl) hd (mw_many hI) kk
theorem gm_gone (C : CallFix p m c cc nL s args tb_G R_Mo) (hK : va_K D cl_all (ds_ty cA) s) {v : Int32} (hv : M 26 0 = v) (hd : decode cc pc = .ok (.getfield 109, 3)) (kk : AW p l e R s m args below meth c nL cells slots Q (ms_P D ad cA M) (ct_A (ms_A ad) sz) (pc + 3) lv (.int v :: st)) : AW p l e R s m args below meth c nL cells slots Q (ms_P D ad cA M) (ct_A (ms_A ad) sz) pc lv (.ref (ad 0) :: st) := by
  subst hv
  exact aw_get (k := 12) C hK i_Mo rfl (by decide) fl_Mo_Mo_gone (fun H h => h 0 (by decide)) rfl hd kk
theorem pm_gone (C : CallFix p m c cc nL s args tb_G R_Mo) (hK : va_K D cl_all (ds_ty cA) s) (hI : ms_I ad) {x : Int32}  (hd : decode cc pc = .ok (.putfield 109, 3)) (kk : AW p l e R s m args below meth c nL cells slots Q (ms_P D ad cA (ms_w M 26 0 x)) (ct_A (ms_A ad) sz) (pc + 3) lv st) : AW p l e R s m args below meth c nL cells slots Q (ms_P D ad cA M) (ct_A (ms_A ad) sz) pc lv (.int x :: .ref (ad 0) :: st) := aw_put (k := 12) C hK i_Mo t_Mo t_Mo_ok n_Mo rfl (by decide) fl_Mo_Mo_gone rfl (t_Mo_ok 12 (by decide)) rfl rfl (ms_in (k := 0) (by decide)) (fun H h => h 0 (by decide)) (Nat.le_of_ble_eq_true rfl) hd (mw_gone hI) kk
theorem gm_stuck (C : CallFix p m c cc nL s args tb_G R_Mo) (hK : va_K D cl_all (ds_ty cA) s) {v : Int32} (hv : M 27 0 = v) (hd : decode cc pc = .ok (.getfield 119, 3)) (kk : AW p l e R s m args below meth c nL cells slots Q (ms_P D ad cA M) (ct_A (ms_A ad) sz) (pc + 3) lv (.int v :: st)) : AW p l e R s m args below meth c nL cells slots Q (ms_P D ad cA M) (ct_A (ms_A ad) sz) pc lv (.ref (ad 0) :: st) := by
  subst hv
  exact aw_get (k := 13) C hK i_Mo rfl (by decide) fl_Mo_Mo_stuck (fun H h => h 0 (by decide)) rfl hd kk
theorem pm_stuck (C : CallFix p m c cc nL s args tb_G R_Mo) (hK : va_K D cl_all (ds_ty cA) s) (hI : ms_I ad) {x : Int32} (hz : x = 0 ∨ x = 1) (hd : decode cc pc = .ok (.putfield 119, 3)) (kk : AW p l e R s m args below meth c nL cells slots Q (ms_P D ad cA (ms_w M 27 0 x)) (ct_A (ms_A ad) sz) (pc + 3) lv st) : AW p l e R s m args below meth c nL cells slots Q (ms_P D ad cA M) (ct_A (ms_A ad) sz) pc lv (.int x :: .ref (ad 0) :: st) := aw_put (k := 13) C hK i_Mo t_Mo t_Mo_ok n_Mo rfl (by decide) fl_Mo_Mo_stuck rfl (t_Mo_ok 13 (by decide)) (nr_z hz).1 (nr_z hz).2 (ms_in (k := 0) (by decide)) (fun H h => h 0 (by decide)) (Nat.le_of_ble_eq_true rfl) hd (mw_stuck hI) kk
theorem gm_path (C : CallFix p m c cc nL s args tb_G R_Mo) (hK : va_K D cl_all (ds_ty cA) s) (hd : decode cc pc = .ok (.getfield 29, 3)) (kk : AW p l e R s m args below meth c nL cells slots Q (ms_P D ad cA M) (ct_A (ms_A ad) sz) (pc + 3) lv (.ref (ad 7) :: st)) : AW p l e R s m args below meth c nL cells slots Q (ms_P D ad cA M) (ct_A (ms_A ad) sz) pc lv (.ref (ad 0) :: st) := aw_get (k := 14) C hK i_Mo rfl (by decide) fl_Mo_Mo_path (fun H h => h 0 (by decide)) rfl hd kk
theorem gm_place (C : CallFix p m c cc nL s args tb_G R_Mo) (hK : va_K D cl_all (ds_ty cA) s) (hd : decode cc pc = .ok (.getfield 32, 3)) (kk : AW p l e R s m args below meth c nL cells slots Q (ms_P D ad cA M) (ct_A (ms_A ad) sz) (pc + 3) lv (.ref (ad 8) :: st)) : AW p l e R s m args below meth c nL cells slots Q (ms_P D ad cA M) (ct_A (ms_A ad) sz) pc lv (.ref (ad 0) :: st) := aw_get (k := 15) C hK i_Mo rfl (by decide) fl_Mo_Mo_place (fun H h => h 0 (by decide)) rfl hd kk
theorem gm_rooms (C : CallFix p m c cc nL s args tb_G R_Mo) (hK : va_K D cl_all (ds_ty cA) s) {v : Int32} (hv : M 28 0 = v) (hd : decode cc pc = .ok (.getfield 67, 3)) (kk : AW p l e R s m args below meth c nL cells slots Q (ms_P D ad cA M) (ct_A (ms_A ad) sz) (pc + 3) lv (.int v :: st)) : AW p l e R s m args below meth c nL cells slots Q (ms_P D ad cA M) (ct_A (ms_A ad) sz) pc lv (.ref (ad 0) :: st) := by
  subst hv
  exact aw_get (k := 16) C hK i_Mo rfl (by decide) fl_Mo_Mo_rooms (fun H h => h 0 (by decide)) rfl hd kk
theorem pm_rooms (C : CallFix p m c cc nL s args tb_G R_Mo) (hK : va_K D cl_all (ds_ty cA) s) (hI : ms_I ad) {x : Int32}  (hd : decode cc pc = .ok (.putfield 67, 3)) (kk : AW p l e R s m args below meth c nL cells slots Q (ms_P D ad cA (ms_w M 28 0 x)) (ct_A (ms_A ad) sz) (pc + 3) lv st) : AW p l e R s m args below meth c nL cells slots Q (ms_P D ad cA M) (ct_A (ms_A ad) sz) pc lv (.int x :: .ref (ad 0) :: st) := aw_put (k := 16) C hK i_Mo t_Mo t_Mo_ok n_Mo rfl (by decide) fl_Mo_Mo_rooms rfl (t_Mo_ok 16 (by decide)) rfl rfl (ms_in (k := 0) (by decide)) (fun H h => h 0 (by decide)) (Nat.le_of_ble_eq_true rfl) hd (mw_rooms hI) kk
theorem gm_places (C : CallFix p m c cc nL s args tb_G R_Mo) (hK : va_K D cl_all (ds_ty cA) s) (hd : decode cc pc = .ok (.getfield 35, 3)) (kk : AW p l e R s m args below meth c nL cells slots Q (ms_P D ad cA M) (ct_A (ms_A ad) sz) (pc + 3) lv (.ref (ad 9) :: st)) : AW p l e R s m args below meth c nL cells slots Q (ms_P D ad cA M) (ct_A (ms_A ad) sz) pc lv (.ref (ad 0) :: st) := aw_get (k := 17) C hK i_Mo rfl (by decide) fl_Mo_Mo_places (fun H h => h 0 (by decide)) rfl hd kk
theorem gm_bookings (C : CallFix p m c cc nL s args tb_G R_Mo) (hK : va_K D cl_all (ds_ty cA) s) {v : Int32} (hv : M 29 0 = v) (hd : decode cc pc = .ok (.getfield 126, 3)) (kk : AW p l e R s m args below meth c nL cells slots Q (ms_P D ad cA M) (ct_A (ms_A ad) sz) (pc + 3) lv (.int v :: st)) : AW p l e R s m args below meth c nL cells slots Q (ms_P D ad cA M) (ct_A (ms_A ad) sz) pc lv (.ref (ad 0) :: st) := by
  subst hv
  exact aw_get (k := 18) C hK i_Mo rfl (by decide) fl_Mo_Mo_bookings (fun H h => h 0 (by decide)) rfl hd kk
theorem pm_bookings (C : CallFix p m c cc nL s args tb_G R_Mo) (hK : va_K D cl_all (ds_ty cA) s) (hI : ms_I ad) {x : Int32}  (hd : decode cc pc = .ok (.putfield 126, 3)) (kk : AW p l e R s m args below meth c nL cells slots Q (ms_P D ad cA (ms_w M 29 0 x)) (ct_A (ms_A ad) sz) (pc + 3) lv st) : AW p l e R s m args below meth c nL cells slots Q (ms_P D ad cA M) (ct_A (ms_A ad) sz) pc lv (.int x :: .ref (ad 0) :: st) := aw_put (k := 18) C hK i_Mo t_Mo t_Mo_ok n_Mo rfl (by decide) fl_Mo_Mo_bookings rfl (t_Mo_ok 18 (by decide)) rfl rfl (ms_in (k := 0) (by decide)) (fun H h => h 0 (by decide)) (Nat.le_of_ble_eq_true rfl) hd (mw_bookings hI) kk
theorem gm_room (C : CallFix p m c cc nL s args tb_G R_Mo) (hK : va_K D cl_all (ds_ty cA) s) (hd : decode cc pc = .ok (.getfield 38, 3)) (kk : AW p l e R s m args below meth c nL cells slots Q (ms_P D ad cA M) (ct_A (ms_A ad) sz) (pc + 3) lv (.ref (ad 10) :: st)) : AW p l e R s m args below meth c nL cells slots Q (ms_P D ad cA M) (ct_A (ms_A ad) sz) pc lv (.ref (ad 0) :: st) := aw_get (k := 19) C hK i_Mo rfl (by decide) fl_Mo_Mo_room (fun H h => h 0 (by decide)) rfl hd kk
theorem gm_from (C : CallFix p m c cc nL s args tb_G R_Mo) (hK : va_K D cl_all (ds_ty cA) s) (hd : decode cc pc = .ok (.getfield 41, 3)) (kk : AW p l e R s m args below meth c nL cells slots Q (ms_P D ad cA M) (ct_A (ms_A ad) sz) (pc + 3) lv (.ref (ad 11) :: st)) : AW p l e R s m args below meth c nL cells slots Q (ms_P D ad cA M) (ct_A (ms_A ad) sz) pc lv (.ref (ad 0) :: st) := aw_get (k := 20) C hK i_Mo rfl (by decide) fl_Mo_Mo_from (fun H h => h 0 (by decide)) rfl hd kk
theorem gm_to (C : CallFix p m c cc nL s args tb_G R_Mo) (hK : va_K D cl_all (ds_ty cA) s) (hd : decode cc pc = .ok (.getfield 44, 3)) (kk : AW p l e R s m args below meth c nL cells slots Q (ms_P D ad cA M) (ct_A (ms_A ad) sz) (pc + 3) lv (.ref (ad 12) :: st)) : AW p l e R s m args below meth c nL cells slots Q (ms_P D ad cA M) (ct_A (ms_A ad) sz) pc lv (.ref (ad 0) :: st) := aw_get (k := 21) C hK i_Mo rfl (by decide) fl_Mo_Mo_to (fun H h => h 0 (by decide)) rfl hd kk
theorem gm_left (C : CallFix p m c cc nL s args tb_G R_Mo) (hK : va_K D cl_all (ds_ty cA) s) (hd : decode cc pc = .ok (.getfield 47, 3)) (kk : AW p l e R s m args below meth c nL cells slots Q (ms_P D ad cA M) (ct_A (ms_A ad) sz) (pc + 3) lv (.ref (ad 13) :: st)) : AW p l e R s m args below meth c nL cells slots Q (ms_P D ad cA M) (ct_A (ms_A ad) sz) pc lv (.ref (ad 0) :: st) := aw_get (k := 22) C hK i_Mo rfl (by decide) fl_Mo_Mo_left (fun H h => h 0 (by decide)) rfl hd kk
theorem gm_there (C : CallFix p m c cc nL s args tb_G R_Mo) (hK : va_K D cl_all (ds_ty cA) s) (hd : decode cc pc = .ok (.getfield 50, 3)) (kk : AW p l e R s m args below meth c nL cells slots Q (ms_P D ad cA M) (ct_A (ms_A ad) sz) (pc + 3) lv (.ref (ad 14) :: st)) : AW p l e R s m args below meth c nL cells slots Q (ms_P D ad cA M) (ct_A (ms_A ad) sz) pc lv (.ref (ad 0) :: st) := aw_get (k := 23) C hK i_Mo rfl (by decide) fl_Mo_Mo_there (fun H h => h 0 (by decide)) rfl hd kk
theorem lm_1 (C : CallFix p m c cc nL s args tb_G R_Mo) (hK : va_K D cl_all (ds_ty cA) s) {x : Int32} (j : Nat) (hx : x = nI j) (hj : j < 140) {v : Int32} (hv : M 1 j = v) (hd : decode cc pc = .ok (.iaload, 1)) (kk : AW p l e R s m args below meth c nL cells slots Q (ms_P D ad cA M) (ct_A (ms_A ad) sz) (pc + 1) lv (.int v :: st)) : AW p l e R s m args below meth c nL cells slots Q (ms_P D ad cA M) (ct_A (ms_A ad) sz) pc lv (.int x :: .ref (ad 1) :: st) := by
  subst hv
  obtain ⟨h1, h2⟩ := ix_in hx hj (by decide)
  refine aw_iald C hK 0 (n := 140) rfl (fun H h => h 1 (by decide)) h1 hd ?_
  rw [h2]
  exact kk
theorem sm_1 (C : CallFix p m c cc nL s args tb_G R_Mo) (hK : va_K D cl_all (ds_ty cA) s) (hI : ms_I ad) {x y : Int32}  (j : Nat) (hx : x = nI j) (hj : j < 140) (hd : decode cc pc = .ok (.iastore, 1)) (kk : AW p l e R s m args below meth c nL cells slots Q (ms_P D ad cA (ms_w M 1 j y)) (ct_A (ms_A ad) sz) (pc + 1) lv st) : AW p l e R s m args below meth c nL cells slots Q (ms_P D ad cA M) (ct_A (ms_A ad) sz) pc lv (.int y :: .int x :: .ref (ad 1) :: st) := by
  obtain ⟨h1, h2⟩ := ix_in hx hj (by decide)
  refine aw_iast C hK 0 (n := 140) rfl (ms_in (k := 1) (by decide)) (fun H h => h 1 (by decide)) h1 hd ?_ kk
  rw [h2]
  exact mw_arr1 hI
theorem lm_2 (C : CallFix p m c cc nL s args tb_G R_Mo) (hK : va_K D cl_all (ds_ty cA) s) {x : Int32} (j : Nat) (hx : x = nI j) (hj : j < 140) {v : Int32} (hv : M 2 j = v) (hd : decode cc pc = .ok (.baload, 1)) (kk : AW p l e R s m args below meth c nL cells slots Q (ms_P D ad cA M) (ct_A (ms_A ad) sz) (pc + 1) lv (.int v :: st)) : AW p l e R s m args below meth c nL cells slots Q (ms_P D ad cA M) (ct_A (ms_A ad) sz) pc lv (.int x :: .ref (ad 2) :: st) := by
  subst hv
  obtain ⟨h1, h2⟩ := ix_in hx hj (by decide)
  refine aw_zald C hK 1 (n := 140) rfl (fun H h => h 2 (by decide)) h1 hd ?_
  rw [h2]
  exact kk
theorem sm_2 (C : CallFix p m c cc nL s args tb_G R_Mo) (hK : va_K D cl_all (ds_ty cA) s) (hI : ms_I ad) {x y : Int32} (hz : y = 0 ∨ y = 1) (j : Nat) (hx : x = nI j) (hj : j < 140) (hd : decode cc pc = .ok (.bastore, 1)) (kk : AW p l e R s m args below meth c nL cells slots Q (ms_P D ad cA (ms_w M 2 j y)) (ct_A (ms_A ad) sz) (pc + 1) lv st) : AW p l e R s m args below meth c nL cells slots Q (ms_P D ad cA M) (ct_A (ms_A ad) sz) pc lv (.int y :: .int x :: .ref (ad 2) :: st) := by
  obtain ⟨h1, h2⟩ := ix_in hx hj (by decide)
  refine aw_zast C hK 1 (n := 140) rfl (ms_in (k := 2) (by decide)) (fun H h => h 2 (by decide)) h1 hd ?_ kk
  rw [h2, nr_vz hz]
  exact mw_arr2 hI
theorem lm_3 (C : CallFix p m c cc nL s args tb_G R_Mo) (hK : va_K D cl_all (ds_ty cA) s) {x : Int32} (j : Nat) (hx : x = nI j) (hj : j < 10) {v : Int32} (hv : M 3 j = v) (hd : decode cc pc = .ok (.iaload, 1)) (kk : AW p l e R s m args below meth c nL cells slots Q (ms_P D ad cA M) (ct_A (ms_A ad) sz) (pc + 1) lv (.int v :: st)) : AW p l e R s m args below meth c nL cells slots Q (ms_P D ad cA M) (ct_A (ms_A ad) sz) pc lv (.int x :: .ref (ad 3) :: st) := by
  subst hv
  obtain ⟨h1, h2⟩ := ix_in hx hj (by decide)
  refine aw_iald C hK 0 (n := 10) rfl (fun H h => h 3 (by decide)) h1 hd ?_
  rw [h2]
  exact kk
theorem sm_3 (C : CallFix p m c cc nL s args tb_G R_Mo) (hK : va_K D cl_all (ds_ty cA) s) (hI : ms_I ad) {x y : Int32}  (j : Nat) (hx : x = nI j) (hj : j < 10) (hd : decode cc pc = .ok (.iastore, 1)) (kk : AW p l e R s m args below meth c nL cells slots Q (ms_P D ad cA (ms_w M 3 j y)) (ct_A (ms_A ad) sz) (pc + 1) lv st) : AW p l e R s m args below meth c nL cells slots Q (ms_P D ad cA M) (ct_A (ms_A ad) sz) pc lv (.int y :: .int x :: .ref (ad 3) :: st) := by
  obtain ⟨h1, h2⟩ := ix_in hx hj (by decide)
  refine aw_iast C hK 0 (n := 10) rfl (ms_in (k := 3) (by decide)) (fun H h => h 3 (by decide)) h1 hd ?_ kk
  rw [h2]
  exact mw_arr3 hI
theorem lm_4 (C : CallFix p m c cc nL s args tb_G R_Mo) (hK : va_K D cl_all (ds_ty cA) s) {x : Int32} (j : Nat) (hx : x = nI j) (hj : j < 10) {v : Int32} (hv : M 4 j = v) (hd : decode cc pc = .ok (.iaload, 1)) (kk : AW p l e R s m args below meth c nL cells slots Q (ms_P D ad cA M) (ct_A (ms_A ad) sz) (pc + 1) lv (.int v :: st)) : AW p l e R s m args below meth c nL cells slots Q (ms_P D ad cA M) (ct_A (ms_A ad) sz) pc lv (.int x :: .ref (ad 4) :: st) := by
  subst hv
  obtain ⟨h1, h2⟩ := ix_in hx hj (by decide)
  refine aw_iald C hK 0 (n := 10) rfl (fun H h => h 4 (by decide)) h1 hd ?_
  rw [h2]
  exact kk
theorem sm_4 (C : CallFix p m c cc nL s args tb_G R_Mo) (hK : va_K D cl_all (ds_ty cA) s) (hI : ms_I ad) {x y : Int32}  (j : Nat) (hx : x = nI j) (hj : j < 10) (hd : decode cc pc = .ok (.iastore, 1)) (kk : AW p l e R s m args below meth c nL cells slots Q (ms_P D ad cA (ms_w M 4 j y)) (ct_A (ms_A ad) sz) (pc + 1) lv st) : AW p l e R s m args below meth c nL cells slots Q (ms_P D ad cA M) (ct_A (ms_A ad) sz) pc lv (.int y :: .int x :: .ref (ad 4) :: st) := by
  obtain ⟨h1, h2⟩ := ix_in hx hj (by decide)
  refine aw_iast C hK 0 (n := 10) rfl (ms_in (k := 4) (by decide)) (fun H h => h 4 (by decide)) h1 hd ?_ kk
  rw [h2]
  exact mw_arr4 hI
theorem lm_5 (C : CallFix p m c cc nL s args tb_G R_Mo) (hK : va_K D cl_all (ds_ty cA) s) {x : Int32} (j : Nat) (hx : x = nI j) (hj : j < 16384) {v : Int32} (hv : M 5 j = v) (hd : decode cc pc = .ok (.iaload, 1)) (kk : AW p l e R s m args below meth c nL cells slots Q (ms_P D ad cA M) (ct_A (ms_A ad) sz) (pc + 1) lv (.int v :: st)) : AW p l e R s m args below meth c nL cells slots Q (ms_P D ad cA M) (ct_A (ms_A ad) sz) pc lv (.int x :: .ref (ad 5) :: st) := by
  subst hv
  obtain ⟨h1, h2⟩ := ix_in hx hj (by decide)
  refine aw_iald C hK 0 (n := 16384) rfl (fun H h => h 5 (by decide)) h1 hd ?_
  rw [h2]
  exact kk
theorem sm_5 (C : CallFix p m c cc nL s args tb_G R_Mo) (hK : va_K D cl_all (ds_ty cA) s) (hI : ms_I ad) {x y : Int32}  (j : Nat) (hx : x = nI j) (hj : j < 16384) (hd : decode cc pc = .ok (.iastore, 1)) (kk : AW p l e R s m args below meth c nL cells slots Q (ms_P D ad cA (ms_w M 5 j y)) (ct_A (ms_A ad) sz) (pc + 1) lv st) : AW p l e R s m args below meth c nL cells slots Q (ms_P D ad cA M) (ct_A (ms_A ad) sz) pc lv (.int y :: .int x :: .ref (ad 5) :: st) := by
  obtain ⟨h1, h2⟩ := ix_in hx hj (by decide)
  refine aw_iast C hK 0 (n := 16384) rfl (ms_in (k := 5) (by decide)) (fun H h => h 5 (by decide)) h1 hd ?_ kk
  rw [h2]
  exact mw_arr5 hI
theorem lm_6 (C : CallFix p m c cc nL s args tb_G R_Mo) (hK : va_K D cl_all (ds_ty cA) s) {x : Int32} (j : Nat) (hx : x = nI j) (hj : j < 10) {v : Int32} (hv : M 6 j = v) (hd : decode cc pc = .ok (.iaload, 1)) (kk : AW p l e R s m args below meth c nL cells slots Q (ms_P D ad cA M) (ct_A (ms_A ad) sz) (pc + 1) lv (.int v :: st)) : AW p l e R s m args below meth c nL cells slots Q (ms_P D ad cA M) (ct_A (ms_A ad) sz) pc lv (.int x :: .ref (ad 6) :: st) := by
  subst hv
  obtain ⟨h1, h2⟩ := ix_in hx hj (by decide)
  refine aw_iald C hK 0 (n := 10) rfl (fun H h => h 6 (by decide)) h1 hd ?_
  rw [h2]
  exact kk
theorem sm_6 (C : CallFix p m c cc nL s args tb_G R_Mo) (hK : va_K D cl_all (ds_ty cA) s) (hI : ms_I ad) {x y : Int32}  (j : Nat) (hx : x = nI j) (hj : j < 10) (hd : decode cc pc = .ok (.iastore, 1)) (kk : AW p l e R s m args below meth c nL cells slots Q (ms_P D ad cA (ms_w M 6 j y)) (ct_A (ms_A ad) sz) (pc + 1) lv st) : AW p l e R s m args below meth c nL cells slots Q (ms_P D ad cA M) (ct_A (ms_A ad) sz) pc lv (.int y :: .int x :: .ref (ad 6) :: st) := by
  obtain ⟨h1, h2⟩ := ix_in hx hj (by decide)
  refine aw_iast C hK 0 (n := 10) rfl (ms_in (k := 6) (by decide)) (fun H h => h 6 (by decide)) h1 hd ?_ kk
  rw [h2]
  exact mw_arr6 hI
theorem lm_7 (C : CallFix p m c cc nL s args tb_G R_Mo) (hK : va_K D cl_all (ds_ty cA) s) {x : Int32} (j : Nat) (hx : x = nI j) (hj : j < 600) {v : Int32} (hv : M 7 j = v) (hd : decode cc pc = .ok (.iaload, 1)) (kk : AW p l e R s m args below meth c nL cells slots Q (ms_P D ad cA M) (ct_A (ms_A ad) sz) (pc + 1) lv (.int v :: st)) : AW p l e R s m args below meth c nL cells slots Q (ms_P D ad cA M) (ct_A (ms_A ad) sz) pc lv (.int x :: .ref (ad 7) :: st) := by
  subst hv
  obtain ⟨h1, h2⟩ := ix_in hx hj (by decide)
  refine aw_iald C hK 0 (n := 600) rfl (fun H h => h 7 (by decide)) h1 hd ?_
  rw [h2]
  exact kk
theorem sm_7 (C : CallFix p m c cc nL s args tb_G R_Mo) (hK : va_K D cl_all (ds_ty cA) s) (hI : ms_I ad) {x y : Int32}  (j : Nat) (hx : x = nI j) (hj : j < 600) (hd : decode cc pc = .ok (.iastore, 1)) (kk : AW p l e R s m args below meth c nL cells slots Q (ms_P D ad cA (ms_w M 7 j y)) (ct_A (ms_A ad) sz) (pc + 1) lv st) : AW p l e R s m args below meth c nL cells slots Q (ms_P D ad cA M) (ct_A (ms_A ad) sz) pc lv (.int y :: .int x :: .ref (ad 7) :: st) := by
  obtain ⟨h1, h2⟩ := ix_in hx hj (by decide)
  refine aw_iast C hK 0 (n := 600) rfl (ms_in (k := 7) (by decide)) (fun H h => h 7 (by decide)) h1 hd ?_ kk
  rw [h2]
  exact mw_arr7 hI
theorem lm_8 (C : CallFix p m c cc nL s args tb_G R_Mo) (hK : va_K D cl_all (ds_ty cA) s) {x : Int32} (j : Nat) (hx : x = nI j) (hj : j < 10) {v : Int32} (hv : M 8 j = v) (hd : decode cc pc = .ok (.iaload, 1)) (kk : AW p l e R s m args below meth c nL cells slots Q (ms_P D ad cA M) (ct_A (ms_A ad) sz) (pc + 1) lv (.int v :: st)) : AW p l e R s m args below meth c nL cells slots Q (ms_P D ad cA M) (ct_A (ms_A ad) sz) pc lv (.int x :: .ref (ad 8) :: st) := by
  subst hv
  obtain ⟨h1, h2⟩ := ix_in hx hj (by decide)
  refine aw_iald C hK 0 (n := 10) rfl (fun H h => h 8 (by decide)) h1 hd ?_
  rw [h2]
  exact kk
theorem sm_8 (C : CallFix p m c cc nL s args tb_G R_Mo) (hK : va_K D cl_all (ds_ty cA) s) (hI : ms_I ad) {x y : Int32}  (j : Nat) (hx : x = nI j) (hj : j < 10) (hd : decode cc pc = .ok (.iastore, 1)) (kk : AW p l e R s m args below meth c nL cells slots Q (ms_P D ad cA (ms_w M 8 j y)) (ct_A (ms_A ad) sz) (pc + 1) lv st) : AW p l e R s m args below meth c nL cells slots Q (ms_P D ad cA M) (ct_A (ms_A ad) sz) pc lv (.int y :: .int x :: .ref (ad 8) :: st) := by
  obtain ⟨h1, h2⟩ := ix_in hx hj (by decide)
  refine aw_iast C hK 0 (n := 10) rfl (ms_in (k := 8) (by decide)) (fun H h => h 8 (by decide)) h1 hd ?_ kk
  rw [h2]
  exact mw_arr8 hI
theorem lm_9 (C : CallFix p m c cc nL s args tb_G R_Mo) (hK : va_K D cl_all (ds_ty cA) s) {x : Int32} (j : Nat) (hx : x = nI j) (hj : j < 8) {v : Int32} (hv : M 9 j = v) (hd : decode cc pc = .ok (.iaload, 1)) (kk : AW p l e R s m args below meth c nL cells slots Q (ms_P D ad cA M) (ct_A (ms_A ad) sz) (pc + 1) lv (.int v :: st)) : AW p l e R s m args below meth c nL cells slots Q (ms_P D ad cA M) (ct_A (ms_A ad) sz) pc lv (.int x :: .ref (ad 9) :: st) := by
  subst hv
  obtain ⟨h1, h2⟩ := ix_in hx hj (by decide)
  refine aw_iald C hK 0 (n := 8) rfl (fun H h => h 9 (by decide)) h1 hd ?_
  rw [h2]
  exact kk
theorem sm_9 (C : CallFix p m c cc nL s args tb_G R_Mo) (hK : va_K D cl_all (ds_ty cA) s) (hI : ms_I ad) {x y : Int32}  (j : Nat) (hx : x = nI j) (hj : j < 8) (hd : decode cc pc = .ok (.iastore, 1)) (kk : AW p l e R s m args below meth c nL cells slots Q (ms_P D ad cA (ms_w M 9 j y)) (ct_A (ms_A ad) sz) (pc + 1) lv st) : AW p l e R s m args below meth c nL cells slots Q (ms_P D ad cA M) (ct_A (ms_A ad) sz) pc lv (.int y :: .int x :: .ref (ad 9) :: st) := by
  obtain ⟨h1, h2⟩ := ix_in hx hj (by decide)
  refine aw_iast C hK 0 (n := 8) rfl (ms_in (k := 9) (by decide)) (fun H h => h 9 (by decide)) h1 hd ?_ kk
  rw [h2]
  exact mw_arr9 hI
theorem lm_10 (C : CallFix p m c cc nL s args tb_G R_Mo) (hK : va_K D cl_all (ds_ty cA) s) {x : Int32} (j : Nat) (hx : x = nI j) (hj : j < 300) {v : Int32} (hv : M 10 j = v) (hd : decode cc pc = .ok (.iaload, 1)) (kk : AW p l e R s m args below meth c nL cells slots Q (ms_P D ad cA M) (ct_A (ms_A ad) sz) (pc + 1) lv (.int v :: st)) : AW p l e R s m args below meth c nL cells slots Q (ms_P D ad cA M) (ct_A (ms_A ad) sz) pc lv (.int x :: .ref (ad 10) :: st) := by
  subst hv
  obtain ⟨h1, h2⟩ := ix_in hx hj (by decide)
  refine aw_iald C hK 0 (n := 300) rfl (fun H h => h 10 (by decide)) h1 hd ?_
  rw [h2]
  exact kk
theorem sm_10 (C : CallFix p m c cc nL s args tb_G R_Mo) (hK : va_K D cl_all (ds_ty cA) s) (hI : ms_I ad) {x y : Int32}  (j : Nat) (hx : x = nI j) (hj : j < 300) (hd : decode cc pc = .ok (.iastore, 1)) (kk : AW p l e R s m args below meth c nL cells slots Q (ms_P D ad cA (ms_w M 10 j y)) (ct_A (ms_A ad) sz) (pc + 1) lv st) : AW p l e R s m args below meth c nL cells slots Q (ms_P D ad cA M) (ct_A (ms_A ad) sz) pc lv (.int y :: .int x :: .ref (ad 10) :: st) := by
  obtain ⟨h1, h2⟩ := ix_in hx hj (by decide)
  refine aw_iast C hK 0 (n := 300) rfl (ms_in (k := 10) (by decide)) (fun H h => h 10 (by decide)) h1 hd ?_ kk
  rw [h2]
  exact mw_arr10 hI
theorem lm_11 (C : CallFix p m c cc nL s args tb_G R_Mo) (hK : va_K D cl_all (ds_ty cA) s) {x : Int32} (j : Nat) (hx : x = nI j) (hj : j < 300) {v : Int32} (hv : M 11 j = v) (hd : decode cc pc = .ok (.iaload, 1)) (kk : AW p l e R s m args below meth c nL cells slots Q (ms_P D ad cA M) (ct_A (ms_A ad) sz) (pc + 1) lv (.int v :: st)) : AW p l e R s m args below meth c nL cells slots Q (ms_P D ad cA M) (ct_A (ms_A ad) sz) pc lv (.int x :: .ref (ad 11) :: st) := by
  subst hv
  obtain ⟨h1, h2⟩ := ix_in hx hj (by decide)
  refine aw_iald C hK 0 (n := 300) rfl (fun H h => h 11 (by decide)) h1 hd ?_
  rw [h2]
  exact kk
theorem sm_11 (C : CallFix p m c cc nL s args tb_G R_Mo) (hK : va_K D cl_all (ds_ty cA) s) (hI : ms_I ad) {x y : Int32}  (j : Nat) (hx : x = nI j) (hj : j < 300) (hd : decode cc pc = .ok (.iastore, 1)) (kk : AW p l e R s m args below meth c nL cells slots Q (ms_P D ad cA (ms_w M 11 j y)) (ct_A (ms_A ad) sz) (pc + 1) lv st) : AW p l e R s m args below meth c nL cells slots Q (ms_P D ad cA M) (ct_A (ms_A ad) sz) pc lv (.int y :: .int x :: .ref (ad 11) :: st) := by
  obtain ⟨h1, h2⟩ := ix_in hx hj (by decide)
  refine aw_iast C hK 0 (n := 300) rfl (ms_in (k := 11) (by decide)) (fun H h => h 11 (by decide)) h1 hd ?_ kk
  rw [h2]
  exact mw_arr11 hI
theorem lm_12 (C : CallFix p m c cc nL s args tb_G R_Mo) (hK : va_K D cl_all (ds_ty cA) s) {x : Int32} (j : Nat) (hx : x = nI j) (hj : j < 300) {v : Int32} (hv : M 12 j = v) (hd : decode cc pc = .ok (.iaload, 1)) (kk : AW p l e R s m args below meth c nL cells slots Q (ms_P D ad cA M) (ct_A (ms_A ad) sz) (pc + 1) lv (.int v :: st)) : AW p l e R s m args below meth c nL cells slots Q (ms_P D ad cA M) (ct_A (ms_A ad) sz) pc lv (.int x :: .ref (ad 12) :: st) := by
  subst hv
  obtain ⟨h1, h2⟩ := ix_in hx hj (by decide)
  refine aw_iald C hK 0 (n := 300) rfl (fun H h => h 12 (by decide)) h1 hd ?_
  rw [h2]
  exact kk
theorem sm_12 (C : CallFix p m c cc nL s args tb_G R_Mo) (hK : va_K D cl_all (ds_ty cA) s) (hI : ms_I ad) {x y : Int32}  (j : Nat) (hx : x = nI j) (hj : j < 300) (hd : decode cc pc = .ok (.iastore, 1)) (kk : AW p l e R s m args below meth c nL cells slots Q (ms_P D ad cA (ms_w M 12 j y)) (ct_A (ms_A ad) sz) (pc + 1) lv st) : AW p l e R s m args below meth c nL cells slots Q (ms_P D ad cA M) (ct_A (ms_A ad) sz) pc lv (.int y :: .int x :: .ref (ad 12) :: st) := by
  obtain ⟨h1, h2⟩ := ix_in hx hj (by decide)
  refine aw_iast C hK 0 (n := 300) rfl (ms_in (k := 12) (by decide)) (fun H h => h 12 (by decide)) h1 hd ?_ kk
  rw [h2]
  exact mw_arr12 hI
theorem lm_13 (C : CallFix p m c cc nL s args tb_G R_Mo) (hK : va_K D cl_all (ds_ty cA) s) {x : Int32} (j : Nat) (hx : x = nI j) (hj : j < 300) {v : Int32} (hv : M 13 j = v) (hd : decode cc pc = .ok (.iaload, 1)) (kk : AW p l e R s m args below meth c nL cells slots Q (ms_P D ad cA M) (ct_A (ms_A ad) sz) (pc + 1) lv (.int v :: st)) : AW p l e R s m args below meth c nL cells slots Q (ms_P D ad cA M) (ct_A (ms_A ad) sz) pc lv (.int x :: .ref (ad 13) :: st) := by
  subst hv
  obtain ⟨h1, h2⟩ := ix_in hx hj (by decide)
  refine aw_iald C hK 0 (n := 300) rfl (fun H h => h 13 (by decide)) h1 hd ?_
  rw [h2]
  exact kk
theorem sm_13 (C : CallFix p m c cc nL s args tb_G R_Mo) (hK : va_K D cl_all (ds_ty cA) s) (hI : ms_I ad) {x y : Int32}  (j : Nat) (hx : x = nI j) (hj : j < 300) (hd : decode cc pc = .ok (.iastore, 1)) (kk : AW p l e R s m args below meth c nL cells slots Q (ms_P D ad cA (ms_w M 13 j y)) (ct_A (ms_A ad) sz) (pc + 1) lv st) : AW p l e R s m args below meth c nL cells slots Q (ms_P D ad cA M) (ct_A (ms_A ad) sz) pc lv (.int y :: .int x :: .ref (ad 13) :: st) := by
  obtain ⟨h1, h2⟩ := ix_in hx hj (by decide)
  refine aw_iast C hK 0 (n := 300) rfl (ms_in (k := 13) (by decide)) (fun H h => h 13 (by decide)) h1 hd ?_ kk
  rw [h2]
  exact mw_arr13 hI
theorem lm_14 (C : CallFix p m c cc nL s args tb_G R_Mo) (hK : va_K D cl_all (ds_ty cA) s) {x : Int32} (j : Nat) (hx : x = nI j) (hj : j < 300) {v : Int32} (hv : M 14 j = v) (hd : decode cc pc = .ok (.baload, 1)) (kk : AW p l e R s m args below meth c nL cells slots Q (ms_P D ad cA M) (ct_A (ms_A ad) sz) (pc + 1) lv (.int v :: st)) : AW p l e R s m args below meth c nL cells slots Q (ms_P D ad cA M) (ct_A (ms_A ad) sz) pc lv (.int x :: .ref (ad 14) :: st) := by
  subst hv
  obtain ⟨h1, h2⟩ := ix_in hx hj (by decide)
  refine aw_zald C hK 1 (n := 300) rfl (fun H h => h 14 (by decide)) h1 hd ?_
  rw [h2]
  exact kk
theorem sm_14 (C : CallFix p m c cc nL s args tb_G R_Mo) (hK : va_K D cl_all (ds_ty cA) s) (hI : ms_I ad) {x y : Int32} (hz : y = 0 ∨ y = 1) (j : Nat) (hx : x = nI j) (hj : j < 300) (hd : decode cc pc = .ok (.bastore, 1)) (kk : AW p l e R s m args below meth c nL cells slots Q (ms_P D ad cA (ms_w M 14 j y)) (ct_A (ms_A ad) sz) (pc + 1) lv st) : AW p l e R s m args below meth c nL cells slots Q (ms_P D ad cA M) (ct_A (ms_A ad) sz) pc lv (.int y :: .int x :: .ref (ad 14) :: st) := by
  obtain ⟨h1, h2⟩ := ix_in hx hj (by decide)
  refine aw_zast C hK 1 (n := 300) rfl (ms_in (k := 14) (by decide)) (fun H h => h 14 (by decide)) h1 hd ?_ kk
  rw [h2, nr_vz hz]
  exact mw_arr14 hI
end RM
