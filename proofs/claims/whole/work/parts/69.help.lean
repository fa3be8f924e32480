theorem cx_arrL {D : va_G} {H : Heap} {q n : Nat} {cA : ClassId} {f g : Nat → Int64} (hfg : ∀ j, j < n → f j = g j) (h : va_at D cl_all (q, .inl (cA, n, .inr (.inl f))) H) : va_at D cl_all (q, .inl (cA, n, .inr (.inl g))) H := by
  have h : H[q]? = some (vp_cell cA (n, .inr (.inl f))) := h
  show H[q]? = some (vp_cell cA (n, .inr (.inl g)))
  rw [h, vp_cell_l, vp_cell_l]
  unfold arrV
  congr 3
  funext j
  show Value.long (f j.val) = Value.long (g j.val)
  rw [hfg j.val j.isLt]
def lw_out (D : va_G) (cA : Nat → ClassId) (oa : Nat) (v : Int64) (H : Heap) : Prop := va_at D cl_all (oa, .inl (cA 6, 1, .inr (.inl (fun _ => v)))) H
theorem lw_out.kept {D : va_G} {cA : Nat → ClassId} {oa : Nat} {v : Int64} {H H1 : Heap} (h : lw_out D cA oa v H) (hq : H1[oa]? = H[oa]?) : lw_out D cA oa v H1 := va_at.kept h hq
theorem lw_out.lt {D : va_G} {cA : Nat → ClassId} {oa : Nat} {v : Int64} {H : Heap} (h : lw_out D cA oa v H) : oa < H.size := va_at.lt h
def hz_b (r : Int32) : Int64 := if r = 0 then 0 else 1
set_option maxHeartbeats 4000000 in
set_option maxRecDepth 100000 in
theorem k_La_desk (l : Launch) (D : va_G) (ad : Nat → Nat → Nat) (cA : Nat → ClassId) (nb : Nat) (S : ds_S) (oa : Nat) (v : Int64) (hoa : ∀ k i, ds_dm nb k i → ad k i ≠ oa) (post : Int32 → ds_S → Prop) (hc : Ct_i l y_De_desk b_De_desk 1 (some .int) ({ frames := 6, cells := 0, slots := 0, locals := 91 } : Room) 0 0 D (ds_ty cA) (ds_A ad nb) [.ref (ad 0 0)] (ds_P D ad cA nb S) post (ds_P D ad cA nb)) : Lh l y_La_desk b_La_desk 3 (some .int) [(0, 8, 11, 13)] ({ frames := 7, cells := 0, slots := 0, locals := 111 } : Room) 0 0 D (ds_ty cA) (fun q => ds_A ad nb q ∨ q = oa) [.ref (ad 0 0), .ref oa] (fun H => ds_P D ad cA nb S H ∧ lw_out D cA oa v H) (fun (sz9 : Nat) (r : Int32) (u : ds_S × Int64) => r = 0 ∧ ∃ r9 z9, sz9 ≤ z9 ∧ post r9 u.1 ∧ u.2 = r9.toInt64) (fun (u : ds_S × Int64) H => ds_P D ad cA nb u.1 H ∧ lw_out D cA oa u.2 H) := by
  intro sz
  refine lh_of (by decide) (Nat.le_of_ble_eq_true rfl) ?_
  intro p e s m args below meth c hsz C hr hlk htab hK hZ hN
  refine aw_lv (lv' := [(0, .ref (ad 0 0)), (1, .ref oa)]) [0, 1] rfl ?_
  refine aw_aload_n C d_La_desk_0 rfl (j := 1) rfl ?_
  refine aw_iconst (v := 0) C d_La_desk_1 (by decide) ?_
  refine aw_aload_n C d_La_desk_2 rfl (j := 0) rfl ?_
  refine aw_callVi (P9 := fun r u H => ds_P D ad cA nb u H ∧ lw_out D cA oa v H) [] C hK hc (cw_La_De_desk C.2.2.2.2 rfl rfl (by decide)) rfl (fun H h => aw_recv hK rfl (h.1 0 0 rfl)) (fun H h => h.1) (fun q h => Or.inl (Or.inl h)) (fun q h => Or.inr (by rw [← hsz]; exact h)) rfl (Nat.le_of_ble_eq_true rfl) d_La_desk_3 (by decide) (fun H H1 r u h _ hB _ hk => ⟨hB, h.2.kept (hk oa h.2.lt (fun ⟨k, i, hd, e⟩ => hoa k i hd e.symm))⟩) ?_
  intro r9 u9 hp9
  refine aw_i2l (v := r9.toInt64) C d_La_desk_6 rfl ?_
  refine aw_last (P' := fun H => ds_P D ad cA nb u9 H ∧ lw_out D cA oa r9.toInt64 H) C hK 6 rfl (Or.inl (Or.inr rfl)) (fun H h => h.2) (ix_in (k := 0) rfl (by decide) (by decide)).1 d_La_desk_7 (fun H H1 h ha hz hq => ⟨fun k i hd => (h.1 k i hd).kept (hq _ (hoa k i hd)), cx_arrL (fun j hj => by obtain rfl : j = 0 := (by omega); exact if_pos rfl) ha⟩) ?_
  refine aw_goto (tgt := 14) C d_La_desk_8 (by decide) ?_
  refine aw_iconst (v := 0) C d_La_desk_14 (by decide) ?_
  exact aw_iret (post := (fun (sz9 : Nat) (r : Int32) (u : ds_S × Int64) => r = 0 ∧ ∃ r9 z9, sz9 ≤ z9 ∧ post r9 u.1 ∧ u.2 = r9.toInt64) sz) (B := (fun (u : ds_S × Int64) H => ds_P D ad cA nb u.1 H ∧ lw_out D cA oa u.2 H)) C hr hlk (u9, r9.toInt64) ⟨rfl, r9, sz, Nat.le_refl sz, hp9, rfl⟩ (fun H h => h) d_La_desk_15
set_option maxHeartbeats 4000000 in
set_option maxRecDepth 100000 in
theorem q_La_desk_Is (l : Launch) (D : va_G) (ad : Nat → Nat → Nat) (cA : Nat → ClassId) (nb : Nat) (S : ds_S) (oa : Nat) (hc : Ct_t l y_De_desk b_De_desk 1 (some .int) ({ frames := 6, cells := 1, slots := 6, locals := 91 } : Room) 1 6 D (ds_ty cA) [.ref (ad 0 0)] (ds_P D ad cA nb S) R_Is) : Lh l y_La_desk b_La_desk 3 (some .int) [(0, 8, 11, 13)] ({ frames := 7, cells := 1, slots := 6, locals := 111 } : Room) 1 6 D (ds_ty cA) (fun _ => False) [.ref (ad 0 0), .ref oa] (ds_P D ad cA nb S) (fun (_ : Nat) (r : Int32) (_ : Unit) => r = 1) (fun (_ : Unit) (_ : Heap) => True) := by
  intro sz
  refine lh_of (by decide) (Nat.le_of_ble_eq_true rfl) ?_
  intro p e s m args below meth c hsz C hr hlk htab hK hZ hN
  refine aw_lv (lv' := [(0, .ref (ad 0 0)), (1, .ref oa)]) [0, 1] rfl ?_
  refine aw_aload_n C d_La_desk_0 rfl (j := 1) rfl ?_
  refine aw_iconst (v := 0) C d_La_desk_1 (by decide) ?_
  refine aw_aload_n C d_La_desk_2 rfl (j := 0) rfl ?_
  refine aw_callVC (P9 := fun _ => True) (h9 := 11) [] C hK hZ hc (cw_La_De_desk C.2.2.2.2 rfl rfl (by decide)) rfl (fun H h => aw_recv hK rfl (h 0 0 rfl)) (fun H h => h) (fun q h hA => hA.elim id (fun h2 => by omega)) (fun q h => Or.inr (by rw [← hsz]; exact h)) rfl (Nat.le_of_ble_eq_true rfl) d_La_desk_3 (by decide) (fun _ _ _ _ _ => trivial) (tc_first (own := R_La) (E := R_Is) C.2.2.2.1 (C.2.2.2.2 _ cl_La_Is) (C.2.2.2.2 _ nx_Is) htab (by decide) (by decide) (by decide)) ?_
  intro q9
  refine aw_astore_n (i := 2) (lv' := [(2, .ref q9), (0, .ref (ad 0 0)), (1, .ref oa)]) C d_La_desk_11 rfl (by decide) rfl ?_
  refine aw_iconst (v := 1) C d_La_desk_12 (by decide) ?_
  exact aw_iret (post := (fun (_ : Nat) (r : Int32) (_ : Unit) => r = 1) sz) (B := (fun (_ : Unit) (_ : Heap) => True)) C hr hlk () rfl (fun H h => trivial) d_La_desk_13
set_option maxHeartbeats 4000000 in
set_option maxRecDepth 100000 in
theorem k_La_person (l : Launch) (D : va_G) (ad : Nat → Nat → Nat) (cA : Nat → ClassId) (nb : Nat) (S : ds_S) (oa : Nat) (v : Int64) (hoa : ∀ k i, ds_dm nb k i → ad k i ≠ oa) (post : Int32 → ds_S → Prop) (hc : Ct_i l y_De_person b_De_person 1 (some .int) ({ frames := 6, cells := 0, slots := 0, locals := 91 } : Room) 0 0 D (ds_ty cA) (ds_A ad nb) [.ref (ad 0 0)] (ds_P D ad cA nb S) post (ds_P D ad cA nb)) : Lh l y_La_person b_La_person 3 (some .int) [(0, 8, 11, 13)] ({ frames := 7, cells := 0, slots := 0, locals := 111 } : Room) 0 0 D (ds_ty cA) (fun q => ds_A ad nb q ∨ q = oa) [.ref (ad 0 0), .ref oa] (fun H => ds_P D ad cA nb S H ∧ lw_out D cA oa v H) (fun (sz9 : Nat) (r : Int32) (u : ds_S × Int64) => r = 0 ∧ ∃ r9 z9, sz9 ≤ z9 ∧ post r9 u.1 ∧ u.2 = r9.toInt64) (fun (u : ds_S × Int64) H => ds_P D ad cA nb u.1 H ∧ lw_out D cA oa u.2 H) := by
  intro sz
  refine lh_of (by decide) (Nat.le_of_ble_eq_true rfl) ?_
  intro p e s m args below meth c hsz C hr hlk htab hK hZ hN
  refine aw_lv (lv' := [(0, .ref (ad 0 0)), (1, .ref oa)]) [0, 1] rfl ?_
  refine aw_aload_n C d_La_person_0 rfl (j := 1) rfl ?_
  refine aw_iconst (v := 0) C d_La_person_1 (by decide) ?_
  refine aw_aload_n C d_La_person_2 rfl (j := 0) rfl ?_
  refine aw_callVi (P9 := fun r u H => ds_P D ad cA nb u H ∧ lw_out D cA oa v H) [] C hK hc (cw_La_De_person C.2.2.2.2 rfl rfl (by decide)) rfl (fun H h => aw_recv hK rfl (h.1 0 0 rfl)) (fun H h => h.1) (fun q h => Or.inl (Or.inl h)) (fun q h => Or.inr (by rw [← hsz]; exact h)) rfl (Nat.le_of_ble_eq_true rfl) d_La_person_3 (by decide) (fun H H1 r u h _ hB _ hk => ⟨hB, h.2.kept (hk oa h.2.lt (fun ⟨k, i, hd, e⟩ => hoa k i hd e.symm))⟩) ?_
  intro r9 u9 hp9
  refine aw_i2l (v := r9.toInt64) C d_La_person_6 rfl ?_
  refine aw_last (P' := fun H => ds_P D ad cA nb u9 H ∧ lw_out D cA oa r9.toInt64 H) C hK 6 rfl (Or.inl (Or.inr rfl)) (fun H h => h.2) (ix_in (k := 0) rfl (by decide) (by decide)).1 d_La_person_7 (fun H H1 h ha hz hq => ⟨fun k i hd => (h.1 k i hd).kept (hq _ (hoa k i hd)), cx_arrL (fun j hj => by obtain rfl : j = 0 := (by omega); exact if_pos rfl) ha⟩) ?_
  refine aw_goto (tgt := 14) C d_La_person_8 (by decide) ?_
  refine aw_iconst (v := 0) C d_La_person_14 (by decide) ?_
  exact aw_iret (post := (fun (sz9 : Nat) (r : Int32) (u : ds_S × Int64) => r = 0 ∧ ∃ r9 z9, sz9 ≤ z9 ∧ post r9 u.1 ∧ u.2 = r9.toInt64) sz) (B := (fun (u : ds_S × Int64) H => ds_P D ad cA nb u.1 H ∧ lw_out D cA oa u.2 H)) C hr hlk (u9, r9.toInt64) ⟨rfl, r9, sz, Nat.le_refl sz, hp9, rfl⟩ (fun H h => h) d_La_person_15
set_option maxHeartbeats 4000000 in
set_option maxRecDepth 100000 in
theorem q_La_person_Is (l : Launch) (D : va_G) (ad : Nat → Nat → Nat) (cA : Nat → ClassId) (nb : Nat) (S : ds_S) (oa : Nat) (hc : Ct_t l y_De_person b_De_person 1 (some .int) ({ frames := 6, cells := 1, slots := 6, locals := 91 } : Room) 1 6 D (ds_ty cA) [.ref (ad 0 0)] (ds_P D ad cA nb S) R_Is) : Lh l y_La_person b_La_person 3 (some .int) [(0, 8, 11, 13)] ({ frames := 7, cells := 1, slots := 6, locals := 111 } : Room) 1 6 D (ds_ty cA) (fun _ => False) [.ref (ad 0 0), .ref oa] (ds_P D ad cA nb S) (fun (_ : Nat) (r : Int32) (_ : Unit) => r = 1) (fun (_ : Unit) (_ : Heap) => True) := by
  intro sz
  refine lh_of (by decide) (Nat.le_of_ble_eq_true rfl) ?_
  intro p e s m args below meth c hsz C hr hlk htab hK hZ hN
  refine aw_lv (lv' := [(0, .ref (ad 0 0)), (1, .ref oa)]) [0, 1] rfl ?_
  refine aw_aload_n C d_La_person_0 rfl (j := 1) rfl ?_
  refine aw_iconst (v := 0) C d_La_person_1 (by decide) ?_
  refine aw_aload_n C d_La_person_2 rfl (j := 0) rfl ?_
  refine aw_callVC (P9 := fun _ => True) (h9 := 11) [] C hK hZ hc (cw_La_De_person C.2.2.2.2 rfl rfl (by decide)) rfl (fun H h => aw_recv hK rfl (h 0 0 rfl)) (fun H h => h) (fun q h hA => hA.elim id (fun h2 => by omega)) (fun q h => Or.inr (by rw [← hsz]; exact h)) rfl (Nat.le_of_ble_eq_true rfl) d_La_person_3 (by decide) (fun _ _ _ _ _ => trivial) (tc_first (own := R_La) (E := R_Is) C.2.2.2.1 (C.2.2.2.2 _ cl_La_Is) (C.2.2.2.2 _ nx_Is) htab (by decide) (by decide) (by decide)) ?_
  intro q9
  refine aw_astore_n (i := 2) (lv' := [(2, .ref q9), (0, .ref (ad 0 0)), (1, .ref oa)]) C d_La_person_11 rfl (by decide) rfl ?_
  refine aw_iconst (v := 1) C d_La_person_12 (by decide) ?_
  exact aw_iret (post := (fun (_ : Nat) (r : Int32) (_ : Unit) => r = 1) sz) (B := (fun (_ : Unit) (_ : Heap) => True)) C hr hlk () rfl (fun H h => trivial) d_La_person_13
set_option maxHeartbeats 4000000 in
set_option maxRecDepth 100000 in
theorem k_La_wish (l : Launch) (D : va_G) (ad : Nat → Nat → Nat) (cA : Nat → ClassId) (nb : Nat) (S : ds_S) (oa : Nat) (v : Int64) (x0 x1 x2 : Int32) (hoa : ∀ k i, ds_dm nb k i → ad k i ≠ oa) (post : Int32 → ds_S → Prop) (hc : Ct_i l y_De_wish b_De_wish 5 (some .int) ({ frames := 7, cells := 0, slots := 0, locals := 112 } : Room) 0 0 D (ds_ty cA) (ds_A ad nb) [.ref (ad 0 0), .int x0, .int x1, .int x2] (ds_P D ad cA nb S) post (ds_P D ad cA nb)) : Lh l y_La_wish b_La_wish 6 (some .int) [(0, 12, 15, 22)] ({ frames := 8, cells := 0, slots := 0, locals := 136 } : Room) 0 0 D (ds_ty cA) (fun q => ds_A ad nb q ∨ q = oa) [.ref (ad 0 0), .int x0, .int x1, .int x2, .ref oa] (fun H => ds_P D ad cA nb S H ∧ lw_out D cA oa v H) (fun (sz9 : Nat) (r : Int32) (u : ds_S × Int64) => r = 0 ∧ ∃ r9 z9, sz9 ≤ z9 ∧ post r9 u.1 ∧ u.2 = r9.toInt64) (fun (u : ds_S × Int64) H => ds_P D ad cA nb u.1 H ∧ lw_out D cA oa u.2 H) := by
  intro sz
  refine lh_of (by decide) (Nat.le_of_ble_eq_true rfl) ?_
  intro p e s m args below meth c hsz C hr hlk htab hK hZ hN
  refine aw_lv (lv' := [(0, .ref (ad 0 0)), (1, .int x0), (2, .int x1), (3, .int x2), (4, .ref oa)]) [0, 1, 2, 3, 4] rfl ?_
  refine aw_aload C d_La_wish_0 (j := 4) rfl ?_
  refine aw_iconst (v := 0) C d_La_wish_2 (by decide) ?_
  refine aw_aload_n C d_La_wish_3 rfl (j := 0) rfl ?_
  refine aw_iload_n C d_La_wish_4 rfl (j := 1) rfl ?_
  refine aw_iload_n C d_La_wish_5 rfl (j := 2) rfl ?_
  refine aw_iload_n C d_La_wish_6 rfl (j := 3) rfl ?_
  refine aw_callVi (P9 := fun r u H => ds_P D ad cA nb u H ∧ lw_out D cA oa v H) [.int x0, .int x1, .int x2] C hK hc (cw_La_De_wish C.2.2.2.2 rfl rfl (by decide)) rfl (fun H h => aw_recv hK rfl (h.1 0 0 rfl)) (fun H h => h.1) (fun q h => Or.inl (Or.inl h)) (fun q h => Or.inr (by rw [← hsz]; exact h)) rfl (Nat.le_of_ble_eq_true rfl) d_La_wish_7 (by decide) (fun H H1 r u h _ hB _ hk => ⟨hB, h.2.kept (hk oa h.2.lt (fun ⟨k, i, hd, e⟩ => hoa k i hd e.symm))⟩) ?_
  intro r9 u9 hp9
  refine aw_i2l (v := r9.toInt64) C d_La_wish_10 rfl ?_
  refine aw_last (P' := fun H => ds_P D ad cA nb u9 H ∧ lw_out D cA oa r9.toInt64 H) C hK 6 rfl (Or.inl (Or.inr rfl)) (fun H h => h.2) (ix_in (k := 0) rfl (by decide) (by decide)).1 d_La_wish_11 (fun H H1 h ha hz hq => ⟨fun k i hd => (h.1 k i hd).kept (hq _ (hoa k i hd)), cx_arrL (fun j hj => by obtain rfl : j = 0 := (by omega); exact if_pos rfl) ha⟩) ?_
  refine aw_goto (tgt := 19) C d_La_wish_12 (by decide) ?_
  refine aw_iconst (v := 0) C d_La_wish_19 (by decide) ?_
  exact aw_iret (post := (fun (sz9 : Nat) (r : Int32) (u : ds_S × Int64) => r = 0 ∧ ∃ r9 z9, sz9 ≤ z9 ∧ post r9 u.1 ∧ u.2 = r9.toInt64) sz) (B := (fun (u : ds_S × Int64) H => ds_P D ad cA nb u.1 H ∧ lw_out D cA oa u.2 H)) C hr hlk (u9, r9.toInt64) ⟨rfl, r9, sz, Nat.le_refl sz, hp9, rfl⟩ (fun H h => h) d_La_wish_20
set_option maxHeartbeats 4000000 in
set_option maxRecDepth 100000 in
theorem q_La_wish_Ia (l : Launch) (D : va_G) (ad : Nat → Nat → Nat) (cA : Nat → ClassId) (nb : Nat) (S : ds_S) (oa : Nat) (x0 x1 x2 : Int32) (hc : Ct_t l y_De_wish b_De_wish 5 (some .int) ({ frames := 7, cells := 1, slots := 6, locals := 112 } : Room) 1 6 D (ds_ty cA) [.ref (ad 0 0), .int x0, .int x1, .int x2] (ds_P D ad cA nb S) R_Ia) : Lh l y_La_wish b_La_wish 6 (some .int) [(0, 12, 15, 22)] ({ frames := 8, cells := 1, slots := 6, locals := 136 } : Room) 1 6 D (ds_ty cA) (fun _ => False) [.ref (ad 0 0), .int x0, .int x1, .int x2, .ref oa] (ds_P D ad cA nb S) (fun (_ : Nat) (r : Int32) (_ : Unit) => r = 1) (fun (_ : Unit) (_ : Heap) => True) := by
  intro sz
  refine lh_of (by decide) (Nat.le_of_ble_eq_true rfl) ?_
  intro p e s m args below meth c hsz C hr hlk htab hK hZ hN
  refine aw_lv (lv' := [(0, .ref (ad 0 0)), (1, .int x0), (2, .int x1), (3, .int x2), (4, .ref oa)]) [0, 1, 2, 3, 4] rfl ?_
  refine aw_aload C d_La_wish_0 (j := 4) rfl ?_
  refine aw_iconst (v := 0) C d_La_wish_2 (by decide) ?_
  refine aw_aload_n C d_La_wish_3 rfl (j := 0) rfl ?_
  refine aw_iload_n C d_La_wish_4 rfl (j := 1) rfl ?_
  refine aw_iload_n C d_La_wish_5 rfl (j := 2) rfl ?_
  refine aw_iload_n C d_La_wish_6 rfl (j := 3) rfl ?_
  refine aw_callVC (P9 := fun _ => True) (h9 := 15) [.int x0, .int x1, .int x2] C hK hZ hc (cw_La_De_wish C.2.2.2.2 rfl rfl (by decide)) rfl (fun H h => aw_recv hK rfl (h 0 0 rfl)) (fun H h => h) (fun q h hA => hA.elim id (fun h2 => by omega)) (fun q h => Or.inr (by rw [← hsz]; exact h)) rfl (Nat.le_of_ble_eq_true rfl) d_La_wish_7 (by decide) (fun _ _ _ _ _ => trivial) (tc_first (own := R_La) (E := R_Ia) C.2.2.2.1 (C.2.2.2.2 _ cl_La_Ia) (C.2.2.2.2 _ nx_Ia) htab (by decide) (by decide) (by decide)) ?_
  intro q9
  refine aw_astore (i := 5) (lv' := [(5, .ref q9), (0, .ref (ad 0 0)), (1, .int x0), (2, .int x1), (3, .int x2), (4, .ref oa)]) C d_La_wish_15 (by decide) rfl ?_
  refine aw_iconst (v := 1) C d_La_wish_17 (by decide) ?_
  exact aw_iret (post := (fun (_ : Nat) (r : Int32) (_ : Unit) => r = 1) sz) (B := (fun (_ : Unit) (_ : Heap) => True)) C hr hlk () rfl (fun H h => trivial) d_La_wish_18
set_option maxHeartbeats 4000000 in
set_option maxRecDepth 100000 in
theorem k_La_bar (l : Launch) (D : va_G) (ad : Nat → Nat → Nat) (cA : Nat → ClassId) (nb : Nat) (S : ds_S) (oa : Nat) (v : Int64) (x0 x1 x2 : Int32) (hoa : ∀ k i, ds_dm nb k i → ad k i ≠ oa) (post : Int32 → ds_S → Prop) (hc : Ct_i l y_De_bar b_De_bar 5 (some .boolean) ({ frames := 7, cells := 0, slots := 0, locals := 112 } : Room) 0 0 D (ds_ty cA) (ds_A ad nb) [.ref (ad 0 0), .int x0, .int x1, .int x2] (ds_P D ad cA nb S) post (ds_P D ad cA nb)) (h01 : ∀ r u, post r u → r = 0 ∨ r = 1) : Lh l y_La_bar b_La_bar 6 (some .int) [(0, 19, 22, 22)] ({ frames := 8, cells := 0, slots := 0, locals := 136 } : Room) 0 0 D (ds_ty cA) (fun q => ds_A ad nb q ∨ q = oa) [.ref (ad 0 0), .int x0, .int x1, .int x2, .ref oa] (fun H => ds_P D ad cA nb S H ∧ lw_out D cA oa v H) (fun (sz9 : Nat) (r : Int32) (u : ds_S × Int64) => r = 0 ∧ ∃ r9 z9, sz9 ≤ z9 ∧ post r9 u.1 ∧ u.2 = hz_b r9) (fun (u : ds_S × Int64) H => ds_P D ad cA nb u.1 H ∧ lw_out D cA oa u.2 H) := by
  intro sz
  refine lh_of (by decide) (Nat.le_of_ble_eq_true rfl) ?_
  intro p e s m args below meth c hsz C hr hlk htab hK hZ hN
  refine aw_lv (lv' := [(0, .ref (ad 0 0)), (1, .int x0), (2, .int x1), (3, .int x2), (4, .ref oa)]) [0, 1, 2, 3, 4] rfl ?_
  refine aw_aload C d_La_bar_0 (j := 4) rfl ?_
  refine aw_iconst (v := 0) C d_La_bar_2 (by decide) ?_
  refine aw_aload_n C d_La_bar_3 rfl (j := 0) rfl ?_
  refine aw_iload_n C d_La_bar_4 rfl (j := 1) rfl ?_
  refine aw_iload_n C d_La_bar_5 rfl (j := 2) rfl ?_
  refine aw_iload_n C d_La_bar_6 rfl (j := 3) rfl ?_
  refine aw_callVi (P9 := fun r u H => ds_P D ad cA nb u H ∧ lw_out D cA oa v H) [.int x0, .int x1, .int x2] C hK hc (cw_La_De_bar C.2.2.2.2 rfl rfl (by decide)) rfl (fun H h => aw_recv hK rfl (h.1 0 0 rfl)) (fun H h => h.1) (fun q h => Or.inl (Or.inl h)) (fun q h => Or.inr (by rw [← hsz]; exact h)) rfl (Nat.le_of_ble_eq_true rfl) d_La_bar_7 (by decide) (fun H H1 r u h _ hB _ hk => ⟨hB, h.2.kept (hk oa h.2.lt (fun ⟨k, i, hd, e⟩ => hoa k i hd e.symm))⟩) ?_
  intro r9 u9 hp9
  refine aw_if_eq (tgt := 17) C d_La_bar_10 (by decide) (fun c_10 => ?_) (fun c_10 => ?_)
  · have e9 : hz_b r9 = 0 := if_pos c_10
    refine aw_lconst (v := 0) C d_La_bar_17 (by decide) ?_
    refine aw_last (P' := fun H => ds_P D ad cA nb u9 H ∧ lw_out D cA oa 0 H) C hK 6 rfl (Or.inl (Or.inr rfl)) (fun H h => h.2) (ix_in (k := 0) rfl (by decide) (by decide)).1 d_La_bar_18 (fun H H1 h ha hz hq => ⟨fun k i hd => (h.1 k i hd).kept (hq _ (hoa k i hd)), cx_arrL (fun j hj => by obtain rfl : j = 0 := (by omega); exact if_pos rfl) ha⟩) ?_
    refine aw_goto (tgt := 26) C d_La_bar_19 (by decide) ?_
    refine aw_iconst (v := 0) C d_La_bar_26 (by decide) ?_
    exact aw_iret (post := (fun (sz9 : Nat) (r : Int32) (u : ds_S × Int64) => r = 0 ∧ ∃ r9 z9, sz9 ≤ z9 ∧ post r9 u.1 ∧ u.2 = hz_b r9) sz) (B := (fun (u : ds_S × Int64) H => ds_P D ad cA nb u.1 H ∧ lw_out D cA oa u.2 H)) C hr hlk (u9, 0) ⟨rfl, r9, sz, Nat.le_refl sz, hp9, e9.symm⟩ (fun H h => h) d_La_bar_27
  · have e9 : hz_b r9 = 1 := if_neg c_10
    refine aw_lconst (v := 1) C d_La_bar_13 (by decide) ?_
    refine aw_goto (tgt := 18) C d_La_bar_14 (by decide) ?_
    refine aw_last (P' := fun H => ds_P D ad cA nb u9 H ∧ lw_out D cA oa 1 H) C hK 6 rfl (Or.inl (Or.inr rfl)) (fun H h => h.2) (ix_in (k := 0) rfl (by decide) (by decide)).1 d_La_bar_18 (fun H H1 h ha hz hq => ⟨fun k i hd => (h.1 k i hd).kept (hq _ (hoa k i hd)), cx_arrL (fun j hj => by obtain rfl : j = 0 := (by omega); exact if_pos rfl) ha⟩) ?_
    refine aw_goto (tgt := 26) C d_La_bar_19 (by decide) ?_
    refine aw_iconst (v := 0) C d_La_bar_26 (by decide) ?_
    exact aw_iret (post := (fun (sz9 : Nat) (r : Int32) (u : ds_S × Int64) => r = 0 ∧ ∃ r9 z9, sz9 ≤ z9 ∧ post r9 u.1 ∧ u.2 = hz_b r9) sz) (B := (fun (u : ds_S × Int64) H => ds_P D ad cA nb u.1 H ∧ lw_out D cA oa u.2 H)) C hr hlk (u9, 1) ⟨rfl, r9, sz, Nat.le_refl sz, hp9, e9.symm⟩ (fun H h => h) d_La_bar_27
set_option maxHeartbeats 4000000 in
set_option maxRecDepth 100000 in
theorem q_La_bar_Ia (l : Launch) (D : va_G) (ad : Nat → Nat → Nat) (cA : Nat → ClassId) (nb : Nat) (S : ds_S) (oa : Nat) (x0 x1 x2 : Int32) (hc : Ct_t l y_De_bar b_De_bar 5 (some .boolean) ({ frames := 7, cells := 1, slots := 6, locals := 112 } : Room) 1 6 D (ds_ty cA) [.ref (ad 0 0), .int x0, .int x1, .int x2] (ds_P D ad cA nb S) R_Ia) : Lh l y_La_bar b_La_bar 6 (some .int) [(0, 19, 22, 22)] ({ frames := 8, cells := 1, slots := 6, locals := 136 } : Room) 1 6 D (ds_ty cA) (fun _ => False) [.ref (ad 0 0), .int x0, .int x1, .int x2, .ref oa] (ds_P D ad cA nb S) (fun (_ : Nat) (r : Int32) (_ : Unit) => r = 1) (fun (_ : Unit) (_ : Heap) => True) := by
  intro sz
  refine lh_of (by decide) (Nat.le_of_ble_eq_true rfl) ?_
  intro p e s m args below meth c hsz C hr hlk htab hK hZ hN
  refine aw_lv (lv' := [(0, .ref (ad 0 0)), (1, .int x0), (2, .int x1), (3, .int x2), (4, .ref oa)]) [0, 1, 2, 3, 4] rfl ?_
  refine aw_aload C d_La_bar_0 (j := 4) rfl ?_
  refine aw_iconst (v := 0) C d_La_bar_2 (by decide) ?_
  refine aw_aload_n C d_La_bar_3 rfl (j := 0) rfl ?_
  refine aw_iload_n C d_La_bar_4 rfl (j := 1) rfl ?_
  refine aw_iload_n C d_La_bar_5 rfl (j := 2) rfl ?_
  refine aw_iload_n C d_La_bar_6 rfl (j := 3) rfl ?_
  refine aw_callVC (P9 := fun _ => True) (h9 := 22) [.int x0, .int x1, .int x2] C hK hZ hc (cw_La_De_bar C.2.2.2.2 rfl rfl (by decide)) rfl (fun H h => aw_recv hK rfl (h 0 0 rfl)) (fun H h => h) (fun q h hA => hA.elim id (fun h2 => by omega)) (fun q h => Or.inr (by rw [← hsz]; exact h)) rfl (Nat.le_of_ble_eq_true rfl) d_La_bar_7 (by decide) (fun _ _ _ _ _ => trivial) (tc_first (own := R_La) (E := R_Ia) C.2.2.2.1 (C.2.2.2.2 _ cl_La_Ia) (C.2.2.2.2 _ nx_Ia) htab (by decide) (by decide) (by decide)) ?_
  intro q9
  refine aw_astore (i := 5) (lv' := [(5, .ref q9), (0, .ref (ad 0 0)), (1, .int x0), (2, .int x1), (3, .int x2), (4, .ref oa)]) C d_La_bar_22 (by decide) rfl ?_
  refine aw_iconst (v := 1) C d_La_bar_24 (by decide) ?_
  exact aw_iret (post := (fun (_ : Nat) (r : Int32) (_ : Unit) => r = 1) sz) (B := (fun (_ : Unit) (_ : Heap) => True)) C hr hlk () rfl (fun H h => trivial) d_La_bar_25
set_option maxHeartbeats 4000000 in
set_option maxRecDepth 100000 in
theorem k_La_sits (l : Launch) (D : va_G) (ad : Nat → Nat → Nat) (cA : Nat → ClassId) (nb : Nat) (S : ds_S) (oa : Nat) (v : Int64) (x0 x1 : Int32) (hoa : ∀ k i, ds_dm nb k i → ad k i ≠ oa) (post : Int32 → ds_S → Prop) (hc : Ct_i l y_De_sits b_De_sits 4 (some .int) ({ frames := 7, cells := 0, slots := 0, locals := 114 } : Room) 0 0 D (ds_ty cA) (ds_A ad nb) [.ref (ad 0 0), .int x0, .int x1] (ds_P D ad cA nb S) post (ds_P D ad cA nb)) : Lh l y_La_sits b_La_sits 5 (some .int) [(0, 10, 13, 22), (0, 10, 17, 13)] ({ frames := 8, cells := 0, slots := 0, locals := 137 } : Room) 0 0 D (ds_ty cA) (fun q => ds_A ad nb q ∨ q = oa) [.ref (ad 0 0), .int x0, .int x1, .ref oa] (fun H => ds_P D ad cA nb S H ∧ lw_out D cA oa v H) (fun (sz9 : Nat) (r : Int32) (u : ds_S × Int64) => r = 0 ∧ ∃ r9 z9, sz9 ≤ z9 ∧ post r9 u.1 ∧ u.2 = r9.toInt64) (fun (u : ds_S × Int64) H => ds_P D ad cA nb u.1 H ∧ lw_out D cA oa u.2 H) := by
  intro sz
  refine lh_of (by decide) (Nat.le_of_ble_eq_true rfl) ?_
  intro p e s m args below meth c hsz C hr hlk htab hK hZ hN
  refine aw_lv (lv' := [(0, .ref (ad 0 0)), (1, .int x0), (2, .int x1), (3, .ref oa)]) [0, 1, 2, 3] rfl ?_
  refine aw_aload_n C d_La_sits_0 rfl (j := 3) rfl ?_
  refine aw_iconst (v := 0) C d_La_sits_1 (by decide) ?_
  refine aw_aload_n C d_La_sits_2 rfl (j := 0) rfl ?_
  refine aw_iload_n C d_La_sits_3 rfl (j := 1) rfl ?_
  refine aw_iload_n C d_La_sits_4 rfl (j := 2) rfl ?_
  refine aw_callVi (P9 := fun r u H => ds_P D ad cA nb u H ∧ lw_out D cA oa v H) [.int x0, .int x1] C hK hc (cw_La_De_sits C.2.2.2.2 rfl rfl (by decide)) rfl (fun H h => aw_recv hK rfl (h.1 0 0 rfl)) (fun H h => h.1) (fun q h => Or.inl (Or.inl h)) (fun q h => Or.inr (by rw [← hsz]; exact h)) rfl (Nat.le_of_ble_eq_true rfl) d_La_sits_5 (by decide) (fun H H1 r u h _ hB _ hk => ⟨hB, h.2.kept (hk oa h.2.lt (fun ⟨k, i, hd, e⟩ => hoa k i hd e.symm))⟩) ?_
  intro r9 u9 hp9
  refine aw_i2l (v := r9.toInt64) C d_La_sits_8 rfl ?_
  refine aw_last (P' := fun H => ds_P D ad cA nb u9 H ∧ lw_out D cA oa r9.toInt64 H) C hK 6 rfl (Or.inl (Or.inr rfl)) (fun H h => h.2) (ix_in (k := 0) rfl (by decide) (by decide)).1 d_La_sits_9 (fun H H1 h ha hz hq => ⟨fun k i hd => (h.1 k i hd).kept (hq _ (hoa k i hd)), cx_arrL (fun j hj => by obtain rfl : j = 0 := (by omega); exact if_pos rfl) ha⟩) ?_
  refine aw_goto (tgt := 21) C d_La_sits_10 (by decide) ?_
  refine aw_iconst (v := 0) C d_La_sits_21 (by decide) ?_
  exact aw_iret (post := (fun (sz9 : Nat) (r : Int32) (u : ds_S × Int64) => r = 0 ∧ ∃ r9 z9, sz9 ≤ z9 ∧ post r9 u.1 ∧ u.2 = r9.toInt64) sz) (B := (fun (u : ds_S × Int64) H => ds_P D ad cA nb u.1 H ∧ lw_out D cA oa u.2 H)) C hr hlk (u9, r9.toInt64) ⟨rfl, r9, sz, Nat.le_refl sz, hp9, rfl⟩ (fun H h => h) d_La_sits_22
set_option maxHeartbeats 4000000 in
set_option maxRecDepth 100000 in
theorem q_La_sits_Ia (l : Launch) (D : va_G) (ad : Nat → Nat → Nat) (cA : Nat → ClassId) (nb : Nat) (S : ds_S) (oa : Nat) (x0 x1 : Int32) (hc : Ct_t l y_De_sits b_De_sits 4 (some .int) ({ frames := 7, cells := 1, slots := 6, locals := 114 } : Room) 1 6 D (ds_ty cA) [.ref (ad 0 0), .int x0, .int x1] (ds_P D ad cA nb S) R_Ia) : Lh l y_La_sits b_La_sits 5 (some .int) [(0, 10, 13, 22), (0, 10, 17, 13)] ({ frames := 8, cells := 1, slots := 6, locals := 137 } : Room) 1 6 D (ds_ty cA) (fun _ => False) [.ref (ad 0 0), .int x0, .int x1, .ref oa] (ds_P D ad cA nb S) (fun (_ : Nat) (r : Int32) (_ : Unit) => r = 1) (fun (_ : Unit) (_ : Heap) => True) := by
  intro sz
  refine lh_of (by decide) (Nat.le_of_ble_eq_true rfl) ?_
  intro p e s m args below meth c hsz C hr hlk htab hK hZ hN
  refine aw_lv (lv' := [(0, .ref (ad 0 0)), (1, .int x0), (2, .int x1), (3, .ref oa)]) [0, 1, 2, 3] rfl ?_
  refine aw_aload_n C d_La_sits_0 rfl (j := 3) rfl ?_
  refine aw_iconst (v := 0) C d_La_sits_1 (by decide) ?_
  refine aw_aload_n C d_La_sits_2 rfl (j := 0) rfl ?_
  refine aw_iload_n C d_La_sits_3 rfl (j := 1) rfl ?_
  refine aw_iload_n C d_La_sits_4 rfl (j := 2) rfl ?_
  refine aw_callVC (P9 := fun _ => True) (h9 := 13) [.int x0, .int x1] C hK hZ hc (cw_La_De_sits C.2.2.2.2 rfl rfl (by decide)) rfl (fun H h => aw_recv hK rfl (h 0 0 rfl)) (fun H h => h) (fun q h hA => hA.elim id (fun h2 => by omega)) (fun q h => Or.inr (by rw [← hsz]; exact h)) rfl (Nat.le_of_ble_eq_true rfl) d_La_sits_5 (by decide) (fun _ _ _ _ _ => trivial) (tc_first (own := R_La) (E := R_Ia) C.2.2.2.1 (C.2.2.2.2 _ cl_La_Ia) (C.2.2.2.2 _ nx_Ia) htab (by decide) (by decide) (by decide)) ?_
  intro q9
  refine aw_astore (i := 4) (lv' := [(4, .ref q9), (0, .ref (ad 0 0)), (1, .int x0), (2, .int x1), (3, .ref oa)]) C d_La_sits_13 (by decide) rfl ?_
  refine aw_iconst (v := 1) C d_La_sits_15 (by decide) ?_
  exact aw_iret (post := (fun (_ : Nat) (r : Int32) (_ : Unit) => r = 1) sz) (B := (fun (_ : Unit) (_ : Heap) => True)) C hr hlk () rfl (fun H h => trivial) d_La_sits_16
set_option maxHeartbeats 4000000 in
set_option maxRecDepth 100000 in
theorem q_La_sits_Is (l : Launch) (D : va_G) (ad : Nat → Nat → Nat) (cA : Nat → ClassId) (nb : Nat) (S : ds_S) (oa : Nat) (x0 x1 : Int32) (hc : Ct_t l y_De_sits b_De_sits 4 (some .int) ({ frames := 7, cells := 1, slots := 6, locals := 114 } : Room) 1 6 D (ds_ty cA) [.ref (ad 0 0), .int x0, .int x1] (ds_P D ad cA nb S) R_Is) : Lh l y_La_sits b_La_sits 5 (some .int) [(0, 10, 13, 22), (0, 10, 17, 13)] ({ frames := 8, cells := 1, slots := 6, locals := 137 } : Room) 1 6 D (ds_ty cA) (fun _ => False) [.ref (ad 0 0), .int x0, .int x1, .ref oa] (ds_P D ad cA nb S) (fun (_ : Nat) (r : Int32) (_ : Unit) => r = 2) (fun (_ : Unit) (_ : Heap) => True) := by
  intro sz
  refine lh_of (by decide) (Nat.le_of_ble_eq_true rfl) ?_
  intro p e s m args below meth c hsz C hr hlk htab hK hZ hN
  refine aw_lv (lv' := [(0, .ref (ad 0 0)), (1, .int x0), (2, .int x1), (3, .ref oa)]) [0, 1, 2, 3] rfl ?_
  refine aw_aload_n C d_La_sits_0 rfl (j := 3) rfl ?_
  refine aw_iconst (v := 0) C d_La_sits_1 (by decide) ?_
  refine aw_aload_n C d_La_sits_2 rfl (j := 0) rfl ?_
  refine aw_iload_n C d_La_sits_3 rfl (j := 1) rfl ?_
  refine aw_iload_n C d_La_sits_4 rfl (j := 2) rfl ?_
  refine aw_callVC (P9 := fun _ => True) (h9 := 17) [.int x0, .int x1] C hK hZ hc (cw_La_De_sits C.2.2.2.2 rfl rfl (by decide)) rfl (fun H h => aw_recv hK rfl (h 0 0 rfl)) (fun H h => h) (fun q h hA => hA.elim id (fun h2 => by omega)) (fun q h => Or.inr (by rw [← hsz]; exact h)) rfl (Nat.le_of_ble_eq_true rfl) d_La_sits_5 (by decide) (fun _ _ _ _ _ => trivial) (tc_second (own := R_La) (E := R_Is) (F := R_Ia) C.2.2.2.1 (C.2.2.2.2 _ cl_La_Ia) (C.2.2.2.2 _ cl_La_Is) (C.2.2.2.2 _ nx_Is) hN htab (by decide) (by decide) (by decide) (by decide)) ?_
  intro q9
  refine aw_astore (i := 4) (lv' := [(4, .ref q9), (0, .ref (ad 0 0)), (1, .int x0), (2, .int x1), (3, .ref oa)]) C d_La_sits_17 (by decide) rfl ?_
  refine aw_iconst (v := 2) C d_La_sits_19 (by decide) ?_
  exact aw_iret (post := (fun (_ : Nat) (r : Int32) (_ : Unit) => r = 2) sz) (B := (fun (_ : Unit) (_ : Heap) => True)) C hr hlk () rfl (fun H h => trivial) d_La_sits_20
set_option maxHeartbeats 4000000 in
set_option maxRecDepth 100000 in
theorem k_La_deskOf (l : Launch) (D : va_G) (ad : Nat → Nat → Nat) (cA : Nat → ClassId) (nb : Nat) (S : ds_S) (oa : Nat) (v : Int64) (x0 : Int32) (hoa : ∀ k i, ds_dm nb k i → ad k i ≠ oa) (post : Int32 → ds_S → Prop) (hc : Ct_i l y_De_deskOf b_De_deskOf 2 (some .int) ({ frames := 7, cells := 0, slots := 0, locals := 112 } : Room) 0 0 D (ds_ty cA) (ds_A ad nb) [.ref (ad 0 0), .int x0] (ds_P D ad cA nb S) post (ds_P D ad cA nb)) : Lh l y_La_deskOf b_La_deskOf 4 (some .int) [(0, 9, 12, 22)] ({ frames := 8, cells := 0, slots := 0, locals := 133 } : Room) 0 0 D (ds_ty cA) (fun q => ds_A ad nb q ∨ q = oa) [.ref (ad 0 0), .int x0, .ref oa] (fun H => ds_P D ad cA nb S H ∧ lw_out D cA oa v H) (fun (sz9 : Nat) (r : Int32) (u : ds_S × Int64) => r = 0 ∧ ∃ r9 z9, sz9 ≤ z9 ∧ post r9 u.1 ∧ u.2 = r9.toInt64) (fun (u : ds_S × Int64) H => ds_P D ad cA nb u.1 H ∧ lw_out D cA oa u.2 H) := by
  intro sz
  refine lh_of (by decide) (Nat.le_of_ble_eq_true rfl) ?_
  intro p e s m args below meth c hsz C hr hlk htab hK hZ hN
  refine aw_lv (lv' := [(0, .ref (ad 0 0)), (1, .int x0), (2, .ref oa)]) [0, 1, 2] rfl ?_
  refine aw_aload_n C d_La_deskOf_0 rfl (j := 2) rfl ?_
  refine aw_iconst (v := 0) C d_La_deskOf_1 (by decide) ?_
  refine aw_aload_n C d_La_deskOf_2 rfl (j := 0) rfl ?_
  refine aw_iload_n C d_La_deskOf_3 rfl (j := 1) rfl ?_
  refine aw_callVi (P9 := fun r u H => ds_P D ad cA nb u H ∧ lw_out D cA oa v H) [.int x0] C hK hc (cw_La_De_deskOf C.2.2.2.2 rfl rfl (by decide)) rfl (fun H h => aw_recv hK rfl (h.1 0 0 rfl)) (fun H h => h.1) (fun q h => Or.inl (Or.inl h)) (fun q h => Or.inr (by rw [← hsz]; exact h)) rfl (Nat.le_of_ble_eq_true rfl) d_La_deskOf_4 (by decide) (fun H H1 r u h _ hB _ hk => ⟨hB, h.2.kept (hk oa h.2.lt (fun ⟨k, i, hd, e⟩ => hoa k i hd e.symm))⟩) ?_
  intro r9 u9 hp9
  refine aw_i2l (v := r9.toInt64) C d_La_deskOf_7 rfl ?_
  refine aw_last (P' := fun H => ds_P D ad cA nb u9 H ∧ lw_out D cA oa r9.toInt64 H) C hK 6 rfl (Or.inl (Or.inr rfl)) (fun H h => h.2) (ix_in (k := 0) rfl (by decide) (by decide)).1 d_La_deskOf_8 (fun H H1 h ha hz hq => ⟨fun k i hd => (h.1 k i hd).kept (hq _ (hoa k i hd)), cx_arrL (fun j hj => by obtain rfl : j = 0 := (by omega); exact if_pos rfl) ha⟩) ?_
  refine aw_goto (tgt := 15) C d_La_deskOf_9 (by decide) ?_
  refine aw_iconst (v := 0) C d_La_deskOf_15 (by decide) ?_
  exact aw_iret (post := (fun (sz9 : Nat) (r : Int32) (u : ds_S × Int64) => r = 0 ∧ ∃ r9 z9, sz9 ≤ z9 ∧ post r9 u.1 ∧ u.2 = r9.toInt64) sz) (B := (fun (u : ds_S × Int64) H => ds_P D ad cA nb u.1 H ∧ lw_out D cA oa u.2 H)) C hr hlk (u9, r9.toInt64) ⟨rfl, r9, sz, Nat.le_refl sz, hp9, rfl⟩ (fun H h => h) d_La_deskOf_16
set_option maxHeartbeats 4000000 in
set_option maxRecDepth 100000 in
theorem q_La_deskOf_Ia (l : Launch) (D : va_G) (ad : Nat → Nat → Nat) (cA : Nat → ClassId) (nb : Nat) (S : ds_S) (oa : Nat) (x0 : Int32) (hc : Ct_t l y_De_deskOf b_De_deskOf 2 (some .int) ({ frames := 7, cells := 1, slots := 6, locals := 112 } : Room) 1 6 D (ds_ty cA) [.ref (ad 0 0), .int x0] (ds_P D ad cA nb S) R_Ia) : Lh l y_La_deskOf b_La_deskOf 4 (some .int) [(0, 9, 12, 22)] ({ frames := 8, cells := 1, slots := 6, locals := 133 } : Room) 1 6 D (ds_ty cA) (fun _ => False) [.ref (ad 0 0), .int x0, .ref oa] (ds_P D ad cA nb S) (fun (_ : Nat) (r : Int32) (_ : Unit) => r = 1) (fun (_ : Unit) (_ : Heap) => True) := by
  intro sz
  refine lh_of (by decide) (Nat.le_of_ble_eq_true rfl) ?_
  intro p e s m args below meth c hsz C hr hlk htab hK hZ hN
  refine aw_lv (lv' := [(0, .ref (ad 0 0)), (1, .int x0), (2, .ref oa)]) [0, 1, 2] rfl ?_
  refine aw_aload_n C d_La_deskOf_0 rfl (j := 2) rfl ?_
  refine aw_iconst (v := 0) C d_La_deskOf_1 (by decide) ?_
  refine aw_aload_n C d_La_deskOf_2 rfl (j := 0) rfl ?_
  refine aw_iload_n C d_La_deskOf_3 rfl (j := 1) rfl ?_
  refine aw_callVC (P9 := fun _ => True) (h9 := 12) [.int x0] C hK hZ hc (cw_La_De_deskOf C.2.2.2.2 rfl rfl (by decide)) rfl (fun H h => aw_recv hK rfl (h 0 0 rfl)) (fun H h => h) (fun q h hA => hA.elim id (fun h2 => by omega)) (fun q h => Or.inr (by rw [← hsz]; exact h)) rfl (Nat.le_of_ble_eq_true rfl) d_La_deskOf_4 (by decide) (fun _ _ _ _ _ => trivial) (tc_first (own := R_La) (E := R_Ia) C.2.2.2.1 (C.2.2.2.2 _ cl_La_Ia) (C.2.2.2.2 _ nx_Ia) htab (by decide) (by decide) (by decide)) ?_
  intro q9
  refine aw_astore_n (i := 3) (lv' := [(3, .ref q9), (0, .ref (ad 0 0)), (1, .int x0), (2, .ref oa)]) C d_La_deskOf_12 rfl (by decide) rfl ?_
  refine aw_iconst (v := 1) C d_La_deskOf_13 (by decide) ?_
  exact aw_iret (post := (fun (_ : Nat) (r : Int32) (_ : Unit) => r = 1) sz) (B := (fun (_ : Unit) (_ : Heap) => True)) C hr hlk () rfl (fun H h => trivial) d_La_deskOf_14
set_option maxHeartbeats 4000000 in
set_option maxRecDepth 100000 in
theorem k_La_steps (l : Launch) (D : va_G) (ad : Nat → Nat → Nat) (cA : Nat → ClassId) (nb : Nat) (S : ds_S) (oa : Nat) (v : Int64) (hoa : ∀ k i, ds_dm nb k i → ad k i ≠ oa) (post : Int32 → ds_S → Prop) (hc : Ct_i l y_De_steps b_De_steps 1 (some .int) ({ frames := 7, cells := 0, slots := 0, locals := 111 } : Room) 0 0 D (ds_ty cA) (ds_A ad nb) [.ref (ad 0 0)] (ds_P D ad cA nb S) post (ds_P D ad cA nb)) : Lh l y_La_steps b_La_steps 3 (some .int) [(0, 8, 11, 13)] ({ frames := 8, cells := 0, slots := 0, locals := 131 } : Room) 0 0 D (ds_ty cA) (fun q => ds_A ad nb q ∨ q = oa) [.ref (ad 0 0), .ref oa] (fun H => ds_P D ad cA nb S H ∧ lw_out D cA oa v H) (fun (sz9 : Nat) (r : Int32) (u : ds_S × Int64) => r = 0 ∧ ∃ r9 z9, sz9 ≤ z9 ∧ post r9 u.1 ∧ u.2 = r9.toInt64) (fun (u : ds_S × Int64) H => ds_P D ad cA nb u.1 H ∧ lw_out D cA oa u.2 H) := by
  intro sz
  refine lh_of (by decide) (Nat.le_of_ble_eq_true rfl) ?_
  intro p e s m args below meth c hsz C hr hlk htab hK hZ hN
  refine aw_lv (lv' := [(0, .ref (ad 0 0)), (1, .ref oa)]) [0, 1] rfl ?_
  refine aw_aload_n C d_La_steps_0 rfl (j := 1) rfl ?_
  refine aw_iconst (v := 0) C d_La_steps_1 (by decide) ?_
  refine aw_aload_n C d_La_steps_2 rfl (j := 0) rfl ?_
  refine aw_callVi (P9 := fun r u H => ds_P D ad cA nb u H ∧ lw_out D cA oa v H) [] C hK hc (cw_La_De_steps C.2.2.2.2 rfl rfl (by decide)) rfl (fun H h => aw_recv hK rfl (h.1 0 0 rfl)) (fun H h => h.1) (fun q h => Or.inl (Or.inl h)) (fun q h => Or.inr (by rw [← hsz]; exact h)) rfl (Nat.le_of_ble_eq_true rfl) d_La_steps_3 (by decide) (fun H H1 r u h _ hB _ hk => ⟨hB, h.2.kept (hk oa h.2.lt (fun ⟨k, i, hd, e⟩ => hoa k i hd e.symm))⟩) ?_
  intro r9 u9 hp9
  refine aw_i2l (v := r9.toInt64) C d_La_steps_6 rfl ?_
  refine aw_last (P' := fun H => ds_P D ad cA nb u9 H ∧ lw_out D cA oa r9.toInt64 H) C hK 6 rfl (Or.inl (Or.inr rfl)) (fun H h => h.2) (ix_in (k := 0) rfl (by decide) (by decide)).1 d_La_steps_7 (fun H H1 h ha hz hq => ⟨fun k i hd => (h.1 k i hd).kept (hq _ (hoa k i hd)), cx_arrL (fun j hj => by obtain rfl : j = 0 := (by omega); exact if_pos rfl) ha⟩) ?_
  refine aw_goto (tgt := 14) C d_La_steps_8 (by decide) ?_
  refine aw_iconst (v := 0) C d_La_steps_14 (by decide) ?_
  exact aw_iret (post := (fun (sz9 : Nat) (r : Int32) (u : ds_S × Int64) => r = 0 ∧ ∃ r9 z9, sz9 ≤ z9 ∧ post r9 u.1 ∧ u.2 = r9.toInt64) sz) (B := (fun (u : ds_S × Int64) H => ds_P D ad cA nb u.1 H ∧ lw_out D cA oa u.2 H)) C hr hlk (u9, r9.toInt64) ⟨rfl, r9, sz, Nat.le_refl sz, hp9, rfl⟩ (fun H h => h) d_La_steps_15
set_option maxHeartbeats 4000000 in
set_option maxRecDepth 100000 in
theorem q_La_steps_Is (l : Launch) (D : va_G) (ad : Nat → Nat → Nat) (cA : Nat → ClassId) (nb : Nat) (S : ds_S) (oa : Nat) (hc : Ct_t l y_De_steps b_De_steps 1 (some .int) ({ frames := 7, cells := 1, slots := 6, locals := 111 } : Room) 1 6 D (ds_ty cA) [.ref (ad 0 0)] (ds_P D ad cA nb S) R_Is) : Lh l y_La_steps b_La_steps 3 (some .int) [(0, 8, 11, 13)] ({ frames := 8, cells := 1, slots := 6, locals := 131 } : Room) 1 6 D (ds_ty cA) (fun _ => False) [.ref (ad 0 0), .ref oa] (ds_P D ad cA nb S) (fun (_ : Nat) (r : Int32) (_ : Unit) => r = 1) (fun (_ : Unit) (_ : Heap) => True) := by
  intro sz
  refine lh_of (by decide) (Nat.le_of_ble_eq_true rfl) ?_
  intro p e s m args below meth c hsz C hr hlk htab hK hZ hN
  refine aw_lv (lv' := [(0, .ref (ad 0 0)), (1, .ref oa)]) [0, 1] rfl ?_
  refine aw_aload_n C d_La_steps_0 rfl (j := 1) rfl ?_
  refine aw_iconst (v := 0) C d_La_steps_1 (by decide) ?_
  refine aw_aload_n C d_La_steps_2 rfl (j := 0) rfl ?_
  refine aw_callVC (P9 := fun _ => True) (h9 := 11) [] C hK hZ hc (cw_La_De_steps C.2.2.2.2 rfl rfl (by decide)) rfl (fun H h => aw_recv hK rfl (h 0 0 rfl)) (fun H h => h) (fun q h hA => hA.elim id (fun h2 => by omega)) (fun q h => Or.inr (by rw [← hsz]; exact h)) rfl (Nat.le_of_ble_eq_true rfl) d_La_steps_3 (by decide) (fun _ _ _ _ _ => trivial) (tc_first (own := R_La) (E := R_Is) C.2.2.2.1 (C.2.2.2.2 _ cl_La_Is) (C.2.2.2.2 _ nx_Is) htab (by decide) (by decide) (by decide)) ?_
  intro q9
  refine aw_astore_n (i := 2) (lv' := [(2, .ref q9), (0, .ref (ad 0 0)), (1, .ref oa)]) C d_La_steps_11 rfl (by decide) rfl ?_
  refine aw_iconst (v := 1) C d_La_steps_12 (by decide) ?_
  exact aw_iret (post := (fun (_ : Nat) (r : Int32) (_ : Unit) => r = 1) sz) (B := (fun (_ : Unit) (_ : Heap) => True)) C hr hlk () rfl (fun H h => trivial) d_La_steps_13
set_option maxHeartbeats 4000000 in
set_option maxRecDepth 100000 in
theorem k_La_step (l : Launch) (D : va_G) (ad : Nat → Nat → Nat) (cA : Nat → ClassId) (nb : Nat) (S : ds_S) (oa : Nat) (v : Int64) (x0 x1 : Int32) (hoa : ∀ k i, ds_dm nb k i → ad k i ≠ oa) (post : Int32 → ds_S → Prop) (hc : Ct_i l y_De_step b_De_step 3 (some .int) ({ frames := 7, cells := 0, slots := 0, locals := 111 } : Room) 0 0 D (ds_ty cA) (ds_A ad nb) [.ref (ad 0 0), .int x0, .int x1] (ds_P D ad cA nb S) post (ds_P D ad cA nb)) : Lh l y_La_step b_La_step 5 (some .int) [(0, 10, 13, 22), (0, 10, 17, 13)] ({ frames := 8, cells := 0, slots := 0, locals := 133 } : Room) 0 0 D (ds_ty cA) (fun q => ds_A ad nb q ∨ q = oa) [.ref (ad 0 0), .int x0, .int x1, .ref oa] (fun H => ds_P D ad cA nb S H ∧ lw_out D cA oa v H) (fun (sz9 : Nat) (r : Int32) (u : ds_S × Int64) => r = 0 ∧ ∃ r9 z9, sz9 ≤ z9 ∧ post r9 u.1 ∧ u.2 = r9.toInt64) (fun (u : ds_S × Int64) H => ds_P D ad cA nb u.1 H ∧ lw_out D cA oa u.2 H) := by
  intro sz
  refine lh_of (by decide) (Nat.le_of_ble_eq_true rfl) ?_
  intro p e s m args below meth c hsz C hr hlk htab hK hZ hN
  refine aw_lv (lv' := [(0, .ref (ad 0 0)), (1, .int x0), (2, .int x1), (3, .ref oa)]) [0, 1, 2, 3] rfl ?_
  refine aw_aload_n C d_La_step_0 rfl (j := 3) rfl ?_
  refine aw_iconst (v := 0) C d_La_step_1 (by decide) ?_
  refine aw_aload_n C d_La_step_2 rfl (j := 0) rfl ?_
  refine aw_iload_n C d_La_step_3 rfl (j := 1) rfl ?_
  refine aw_iload_n C d_La_step_4 rfl (j := 2) rfl ?_
  refine aw_callVi (P9 := fun r u H => ds_P D ad cA nb u H ∧ lw_out D cA oa v H) [.int x0, .int x1] C hK hc (cw_La_De_step C.2.2.2.2 rfl rfl (by decide)) rfl (fun H h => aw_recv hK rfl (h.1 0 0 rfl)) (fun H h => h.1) (fun q h => Or.inl (Or.inl h)) (fun q h => Or.inr (by rw [← hsz]; exact h)) rfl (Nat.le_of_ble_eq_true rfl) d_La_step_5 (by decide) (fun H H1 r u h _ hB _ hk => ⟨hB, h.2.kept (hk oa h.2.lt (fun ⟨k, i, hd, e⟩ => hoa k i hd e.symm))⟩) ?_
  intro r9 u9 hp9
  refine aw_i2l (v := r9.toInt64) C d_La_step_8 rfl ?_
  refine aw_last (P' := fun H => ds_P D ad cA nb u9 H ∧ lw_out D cA oa r9.toInt64 H) C hK 6 rfl (Or.inl (Or.inr rfl)) (fun H h => h.2) (ix_in (k := 0) rfl (by decide) (by decide)).1 d_La_step_9 (fun H H1 h ha hz hq => ⟨fun k i hd => (h.1 k i hd).kept (hq _ (hoa k i hd)), cx_arrL (fun j hj => by obtain rfl : j = 0 := (by omega); exact if_pos rfl) ha⟩) ?_
  refine aw_goto (tgt := 21) C d_La_step_10 (by decide) ?_
  refine aw_iconst (v := 0) C d_La_step_21 (by decide) ?_
  exact aw_iret (post := (fun (sz9 : Nat) (r : Int32) (u : ds_S × Int64) => r = 0 ∧ ∃ r9 z9, sz9 ≤ z9 ∧ post r9 u.1 ∧ u.2 = r9.toInt64) sz) (B := (fun (u : ds_S × Int64) H => ds_P D ad cA nb u.1 H ∧ lw_out D cA oa u.2 H)) C hr hlk (u9, r9.toInt64) ⟨rfl, r9, sz, Nat.le_refl sz, hp9, rfl⟩ (fun H h => h) d_La_step_22
set_option maxHeartbeats 4000000 in
set_option maxRecDepth 100000 in
theorem q_La_step_Ia (l : Launch) (D : va_G) (ad : Nat → Nat → Nat) (cA : Nat → ClassId) (nb : Nat) (S : ds_S) (oa : Nat) (x0 x1 : Int32) (hc : Ct_t l y_De_step b_De_step 3 (some .int) ({ frames := 7, cells := 1, slots := 6, locals := 111 } : Room) 1 6 D (ds_ty cA) [.ref (ad 0 0), .int x0, .int x1] (ds_P D ad cA nb S) R_Ia) : Lh l y_La_step b_La_step 5 (some .int) [(0, 10, 13, 22), (0, 10, 17, 13)] ({ frames := 8, cells := 1, slots := 6, locals := 133 } : Room) 1 6 D (ds_ty cA) (fun _ => False) [.ref (ad 0 0), .int x0, .int x1, .ref oa] (ds_P D ad cA nb S) (fun (_ : Nat) (r : Int32) (_ : Unit) => r = 1) (fun (_ : Unit) (_ : Heap) => True) := by
  intro sz
  refine lh_of (by decide) (Nat.le_of_ble_eq_true rfl) ?_
  intro p e s m args below meth c hsz C hr hlk htab hK hZ hN
  refine aw_lv (lv' := [(0, .ref (ad 0 0)), (1, .int x0), (2, .int x1), (3, .ref oa)]) [0, 1, 2, 3] rfl ?_
  refine aw_aload_n C d_La_step_0 rfl (j := 3) rfl ?_
  refine aw_iconst (v := 0) C d_La_step_1 (by decide) ?_
  refine aw_aload_n C d_La_step_2 rfl (j := 0) rfl ?_
  refine aw_iload_n C d_La_step_3 rfl (j := 1) rfl ?_
  refine aw_iload_n C d_La_step_4 rfl (j := 2) rfl ?_
  refine aw_callVC (P9 := fun _ => True) (h9 := 13) [.int x0, .int x1] C hK hZ hc (cw_La_De_step C.2.2.2.2 rfl rfl (by decide)) rfl (fun H h => aw_recv hK rfl (h 0 0 rfl)) (fun H h => h) (fun q h hA => hA.elim id (fun h2 => by omega)) (fun q h => Or.inr (by rw [← hsz]; exact h)) rfl (Nat.le_of_ble_eq_true rfl) d_La_step_5 (by decide) (fun _ _ _ _ _ => trivial) (tc_first (own := R_La) (E := R_Ia) C.2.2.2.1 (C.2.2.2.2 _ cl_La_Ia) (C.2.2.2.2 _ nx_Ia) htab (by decide) (by decide) (by decide)) ?_
  intro q9
  refine aw_astore (i := 4) (lv' := [(4, .ref q9), (0, .ref (ad 0 0)), (1, .int x0), (2, .int x1), (3, .ref oa)]) C d_La_step_13 (by decide) rfl ?_
  refine aw_iconst (v := 1) C d_La_step_15 (by decide) ?_
  exact aw_iret (post := (fun (_ : Nat) (r : Int32) (_ : Unit) => r = 1) sz) (B := (fun (_ : Unit) (_ : Heap) => True)) C hr hlk () rfl (fun H h => trivial) d_La_step_16
set_option maxHeartbeats 4000000 in
set_option maxRecDepth 100000 in
theorem q_La_step_Is (l : Launch) (D : va_G) (ad : Nat → Nat → Nat) (cA : Nat → ClassId) (nb : Nat) (S : ds_S) (oa : Nat) (x0 x1 : Int32) (hc : Ct_t l y_De_step b_De_step 3 (some .int) ({ frames := 7, cells := 1, slots := 6, locals := 111 } : Room) 1 6 D (ds_ty cA) [.ref (ad 0 0), .int x0, .int x1] (ds_P D ad cA nb S) R_Is) : Lh l y_La_step b_La_step 5 (some .int) [(0, 10, 13, 22), (0, 10, 17, 13)] ({ frames := 8, cells := 1, slots := 6, locals := 133 } : Room) 1 6 D (ds_ty cA) (fun _ => False) [.ref (ad 0 0), .int x0, .int x1, .ref oa] (ds_P D ad cA nb S) (fun (_ : Nat) (r : Int32) (_ : Unit) => r = 2) (fun (_ : Unit) (_ : Heap) => True) := by
  intro sz
  refine lh_of (by decide) (Nat.le_of_ble_eq_true rfl) ?_
  intro p e s m args below meth c hsz C hr hlk htab hK hZ hN
  refine aw_lv (lv' := [(0, .ref (ad 0 0)), (1, .int x0), (2, .int x1), (3, .ref oa)]) [0, 1, 2, 3] rfl ?_
  refine aw_aload_n C d_La_step_0 rfl (j := 3) rfl ?_
  refine aw_iconst (v := 0) C d_La_step_1 (by decide) ?_
  refine aw_aload_n C d_La_step_2 rfl (j := 0) rfl ?_
  refine aw_iload_n C d_La_step_3 rfl (j := 1) rfl ?_
  refine aw_iload_n C d_La_step_4 rfl (j := 2) rfl ?_
  refine aw_callVC (P9 := fun _ => True) (h9 := 17) [.int x0, .int x1] C hK hZ hc (cw_La_De_step C.2.2.2.2 rfl rfl (by decide)) rfl (fun H h => aw_recv hK rfl (h 0 0 rfl)) (fun H h => h) (fun q h hA => hA.elim id (fun h2 => by omega)) (fun q h => Or.inr (by rw [← hsz]; exact h)) rfl (Nat.le_of_ble_eq_true rfl) d_La_step_5 (by decide) (fun _ _ _ _ _ => trivial) (tc_second (own := R_La) (E := R_Is) (F := R_Ia) C.2.2.2.1 (C.2.2.2.2 _ cl_La_Ia) (C.2.2.2.2 _ cl_La_Is) (C.2.2.2.2 _ nx_Is) hN htab (by decide) (by decide) (by decide) (by decide)) ?_
  intro q9
  refine aw_astore (i := 4) (lv' := [(4, .ref q9), (0, .ref (ad 0 0)), (1, .int x0), (2, .int x1), (3, .ref oa)]) C d_La_step_17 (by decide) rfl ?_
  refine aw_iconst (v := 2) C d_La_step_19 (by decide) ?_
  exact aw_iret (post := (fun (_ : Nat) (r : Int32) (_ : Unit) => r = 2) sz) (B := (fun (_ : Unit) (_ : Heap) => True)) C hr hlk () rfl (fun H h => trivial) d_La_step_20
set_option maxHeartbeats 4000000 in
set_option maxRecDepth 100000 in
theorem k_La_settle (l : Launch) (D : va_G) (ad : Nat → Nat → Nat) (cA : Nat → ClassId) (nb : Nat) (S : ds_S) (oa : Nat) (v : Int64) (hoa : ∀ k i, ds_dm nb k i → ad k i ≠ oa) (post : Int32 → ds_S → Prop) (hc : Ct_i l y_De_settle b_De_settle 4 (some .int) ({ frames := 7, cells := 0, slots := 0, locals := 111 } : Room) 0 0 D (ds_ty cA) (ds_A ad nb) [.ref (ad 0 0)] (ds_P D ad cA nb S) post (ds_P D ad cA nb)) : Lh l y_La_settle b_La_settle 3 (some .int) [(0, 8, 11, 13)] ({ frames := 8, cells := 0, slots := 0, locals := 134 } : Room) 0 0 D (ds_ty cA) (fun q => ds_A ad nb q ∨ q = oa) [.ref (ad 0 0), .ref oa] (fun H => ds_P D ad cA nb S H ∧ lw_out D cA oa v H) (fun (sz9 : Nat) (r : Int32) (u : ds_S × Int64) => r = 0 ∧ ∃ r9 z9, sz9 ≤ z9 ∧ post r9 u.1 ∧ u.2 = r9.toInt64) (fun (u : ds_S × Int64) H => ds_P D ad cA nb u.1 H ∧ lw_out D cA oa u.2 H) := by
  intro sz
  refine lh_of (by decide) (Nat.le_of_ble_eq_true rfl) ?_
  intro p e s m args below meth c hsz C hr hlk htab hK hZ hN
  refine aw_lv (lv' := [(0, .ref (ad 0 0)), (1, .ref oa)]) [0, 1] rfl ?_
  refine aw_aload_n C d_La_settle_0 rfl (j := 1) rfl ?_
  refine aw_iconst (v := 0) C d_La_settle_1 (by decide) ?_
  refine aw_aload_n C d_La_settle_2 rfl (j := 0) rfl ?_
  refine aw_callVi (P9 := fun r u H => ds_P D ad cA nb u H ∧ lw_out D cA oa v H) [] C hK hc (cw_La_De_settle C.2.2.2.2 rfl rfl (by decide)) rfl (fun H h => aw_recv hK rfl (h.1 0 0 rfl)) (fun H h => h.1) (fun q h => Or.inl (Or.inl h)) (fun q h => Or.inr (by rw [← hsz]; exact h)) rfl (Nat.le_of_ble_eq_true rfl) d_La_settle_3 (by decide) (fun H H1 r u h _ hB _ hk => ⟨hB, h.2.kept (hk oa h.2.lt (fun ⟨k, i, hd, e⟩ => hoa k i hd e.symm))⟩) ?_
  intro r9 u9 hp9
  refine aw_i2l (v := r9.toInt64) C d_La_settle_6 rfl ?_
  refine aw_last (P' := fun H => ds_P D ad cA nb u9 H ∧ lw_out D cA oa r9.toInt64 H) C hK 6 rfl (Or.inl (Or.inr rfl)) (fun H h => h.2) (ix_in (k := 0) rfl (by decide) (by decide)).1 d_La_settle_7 (fun H H1 h ha hz hq => ⟨fun k i hd => (h.1 k i hd).kept (hq _ (hoa k i hd)), cx_arrL (fun j hj => by obtain rfl : j = 0 := (by omega); exact if_pos rfl) ha⟩) ?_
  refine aw_goto (tgt := 14) C d_La_settle_8 (by decide) ?_
  refine aw_iconst (v := 0) C d_La_settle_14 (by decide) ?_
  exact aw_iret (post := (fun (sz9 : Nat) (r : Int32) (u : ds_S × Int64) => r = 0 ∧ ∃ r9 z9, sz9 ≤ z9 ∧ post r9 u.1 ∧ u.2 = r9.toInt64) sz) (B := (fun (u : ds_S × Int64) H => ds_P D ad cA nb u.1 H ∧ lw_out D cA oa u.2 H)) C hr hlk (u9, r9.toInt64) ⟨rfl, r9, sz, Nat.le_refl sz, hp9, rfl⟩ (fun H h => h) d_La_settle_15
set_option maxHeartbeats 4000000 in
set_option maxRecDepth 100000 in
theorem q_La_settle_Is (l : Launch) (D : va_G) (ad : Nat → Nat → Nat) (cA : Nat → ClassId) (nb : Nat) (S : ds_S) (oa : Nat) (hc : Ct_t l y_De_settle b_De_settle 4 (some .int) ({ frames := 7, cells := 1, slots := 6, locals := 111 } : Room) 1 6 D (ds_ty cA) [.ref (ad 0 0)] (ds_P D ad cA nb S) R_Is) : Lh l y_La_settle b_La_settle 3 (some .int) [(0, 8, 11, 13)] ({ frames := 8, cells := 1, slots := 6, locals := 134 } : Room) 1 6 D (ds_ty cA) (fun _ => False) [.ref (ad 0 0), .ref oa] (ds_P D ad cA nb S) (fun (_ : Nat) (r : Int32) (_ : Unit) => r = 1) (fun (_ : Unit) (_ : Heap) => True) := by
  intro sz
  refine lh_of (by decide) (Nat.le_of_ble_eq_true rfl) ?_
  intro p e s m args below meth c hsz C hr hlk htab hK hZ hN
  refine aw_lv (lv' := [(0, .ref (ad 0 0)), (1, .ref oa)]) [0, 1] rfl ?_
  refine aw_aload_n C d_La_settle_0 rfl (j := 1) rfl ?_
  refine aw_iconst (v := 0) C d_La_settle_1 (by decide) ?_
  refine aw_aload_n C d_La_settle_2 rfl (j := 0) rfl ?_
  refine aw_callVC (P9 := fun _ => True) (h9 := 11) [] C hK hZ hc (cw_La_De_settle C.2.2.2.2 rfl rfl (by decide)) rfl (fun H h => aw_recv hK rfl (h 0 0 rfl)) (fun H h => h) (fun q h hA => hA.elim id (fun h2 => by omega)) (fun q h => Or.inr (by rw [← hsz]; exact h)) rfl (Nat.le_of_ble_eq_true rfl) d_La_settle_3 (by decide) (fun _ _ _ _ _ => trivial) (tc_first (own := R_La) (E := R_Is) C.2.2.2.1 (C.2.2.2.2 _ cl_La_Is) (C.2.2.2.2 _ nx_Is) htab (by decide) (by decide) (by decide)) ?_
  intro q9
  refine aw_astore_n (i := 2) (lv' := [(2, .ref q9), (0, .ref (ad 0 0)), (1, .ref oa)]) C d_La_settle_11 rfl (by decide) rfl ?_
  refine aw_iconst (v := 1) C d_La_settle_12 (by decide) ?_
  exact aw_iret (post := (fun (_ : Nat) (r : Int32) (_ : Unit) => r = 1) sz) (B := (fun (_ : Unit) (_ : Heap) => True)) C hr hlk () rfl (fun H h => trivial) d_La_settle_13
set_option maxHeartbeats 4000000 in
set_option maxRecDepth 100000 in
theorem k_La_worthOf (l : Launch) (D : va_G) (ad : Nat → Nat → Nat) (cA : Nat → ClassId) (nb : Nat) (S : ds_S) (oa : Nat) (v : Int64) (x0 : Int32) (hoa : ∀ k i, ds_dm nb k i → ad k i ≠ oa) (post : Int32 → ds_S → Prop) (hc : Ct_i l y_De_worthOf b_De_worthOf 2 (some .int) ({ frames := 7, cells := 0, slots := 0, locals := 120 } : Room) 0 0 D (ds_ty cA) (ds_A ad nb) [.ref (ad 0 0), .int x0] (ds_P D ad cA nb S) post (ds_P D ad cA nb)) : Lh l y_La_worthOf b_La_worthOf 4 (some .int) [(0, 9, 12, 22), (0, 9, 15, 13)] ({ frames := 8, cells := 0, slots := 0, locals := 141 } : Room) 0 0 D (ds_ty cA) (fun q => ds_A ad nb q ∨ q = oa) [.ref (ad 0 0), .int x0, .ref oa] (fun H => ds_P D ad cA nb S H ∧ lw_out D cA oa v H) (fun (sz9 : Nat) (r : Int32) (u : ds_S × Int64) => r = 0 ∧ ∃ r9 z9, sz9 ≤ z9 ∧ post r9 u.1 ∧ u.2 = r9.toInt64) (fun (u : ds_S × Int64) H => ds_P D ad cA nb u.1 H ∧ lw_out D cA oa u.2 H) := by
  intro sz
  refine lh_of (by decide) (Nat.le_of_ble_eq_true rfl) ?_
  intro p e s m args below meth c hsz C hr hlk htab hK hZ hN
  refine aw_lv (lv' := [(0, .ref (ad 0 0)), (1, .int x0), (2, .ref oa)]) [0, 1, 2] rfl ?_
  refine aw_aload_n C d_La_worthOf_0 rfl (j := 2) rfl ?_
  refine aw_iconst (v := 0) C d_La_worthOf_1 (by decide) ?_
  refine aw_aload_n C d_La_worthOf_2 rfl (j := 0) rfl ?_
  refine aw_iload_n C d_La_worthOf_3 rfl (j := 1) rfl ?_
  refine aw_callVi (P9 := fun r u H => ds_P D ad cA nb u H ∧ lw_out D cA oa v H) [.int x0] C hK hc (cw_La_De_worthOf C.2.2.2.2 rfl rfl (by decide)) rfl (fun H h => aw_recv hK rfl (h.1 0 0 rfl)) (fun H h => h.1) (fun q h => Or.inl (Or.inl h)) (fun q h => Or.inr (by rw [← hsz]; exact h)) rfl (Nat.le_of_ble_eq_true rfl) d_La_worthOf_4 (by decide) (fun H H1 r u h _ hB _ hk => ⟨hB, h.2.kept (hk oa h.2.lt (fun ⟨k, i, hd, e⟩ => hoa k i hd e.symm))⟩) ?_
  intro r9 u9 hp9
  refine aw_i2l (v := r9.toInt64) C d_La_worthOf_7 rfl ?_
  refine aw_last (P' := fun H => ds_P D ad cA nb u9 H ∧ lw_out D cA oa r9.toInt64 H) C hK 6 rfl (Or.inl (Or.inr rfl)) (fun H h => h.2) (ix_in (k := 0) rfl (by decide) (by decide)).1 d_La_worthOf_8 (fun H H1 h ha hz hq => ⟨fun k i hd => (h.1 k i hd).kept (hq _ (hoa k i hd)), cx_arrL (fun j hj => by obtain rfl : j = 0 := (by omega); exact if_pos rfl) ha⟩) ?_
  refine aw_goto (tgt := 18) C d_La_worthOf_9 (by decide) ?_
  refine aw_iconst (v := 0) C d_La_worthOf_18 (by decide) ?_
  exact aw_iret (post := (fun (sz9 : Nat) (r : Int32) (u : ds_S × Int64) => r = 0 ∧ ∃ r9 z9, sz9 ≤ z9 ∧ post r9 u.1 ∧ u.2 = r9.toInt64) sz) (B := (fun (u : ds_S × Int64) H => ds_P D ad cA nb u.1 H ∧ lw_out D cA oa u.2 H)) C hr hlk (u9, r9.toInt64) ⟨rfl, r9, sz, Nat.le_refl sz, hp9, rfl⟩ (fun H h => h) d_La_worthOf_19
set_option maxHeartbeats 4000000 in
set_option maxRecDepth 100000 in
theorem q_La_worthOf_Ia (l : Launch) (D : va_G) (ad : Nat → Nat → Nat) (cA : Nat → ClassId) (nb : Nat) (S : ds_S) (oa : Nat) (x0 : Int32) (hc : Ct_t l y_De_worthOf b_De_worthOf 2 (some .int) ({ frames := 7, cells := 1, slots := 6, locals := 120 } : Room) 1 6 D (ds_ty cA) [.ref (ad 0 0), .int x0] (ds_P D ad cA nb S) R_Ia) : Lh l y_La_worthOf b_La_worthOf 4 (some .int) [(0, 9, 12, 22), (0, 9, 15, 13)] ({ frames := 8, cells := 1, slots := 6, locals := 141 } : Room) 1 6 D (ds_ty cA) (fun _ => False) [.ref (ad 0 0), .int x0, .ref oa] (ds_P D ad cA nb S) (fun (_ : Nat) (r : Int32) (_ : Unit) => r = 1) (fun (_ : Unit) (_ : Heap) => True) := by
  intro sz
  refine lh_of (by decide) (Nat.le_of_ble_eq_true rfl) ?_
  intro p e s m args below meth c hsz C hr hlk htab hK hZ hN
  refine aw_lv (lv' := [(0, .ref (ad 0 0)), (1, .int x0), (2, .ref oa)]) [0, 1, 2] rfl ?_
  refine aw_aload_n C d_La_worthOf_0 rfl (j := 2) rfl ?_
  refine aw_iconst (v := 0) C d_La_worthOf_1 (by decide) ?_
  refine aw_aload_n C d_La_worthOf_2 rfl (j := 0) rfl ?_
  refine aw_iload_n C d_La_worthOf_3 rfl (j := 1) rfl ?_
  refine aw_callVC (P9 := fun _ => True) (h9 := 12) [.int x0] C hK hZ hc (cw_La_De_worthOf C.2.2.2.2 rfl rfl (by decide)) rfl (fun H h => aw_recv hK rfl (h 0 0 rfl)) (fun H h => h) (fun q h hA => hA.elim id (fun h2 => by omega)) (fun q h => Or.inr (by rw [← hsz]; exact h)) rfl (Nat.le_of_ble_eq_true rfl) d_La_worthOf_4 (by decide) (fun _ _ _ _ _ => trivial) (tc_first (own := R_La) (E := R_Ia) C.2.2.2.1 (C.2.2.2.2 _ cl_La_Ia) (C.2.2.2.2 _ nx_Ia) htab (by decide) (by decide) (by decide)) ?_
  intro q9
  refine aw_astore_n (i := 3) (lv' := [(3, .ref q9), (0, .ref (ad 0 0)), (1, .int x0), (2, .ref oa)]) C d_La_worthOf_12 rfl (by decide) rfl ?_
  refine aw_iconst (v := 1) C d_La_worthOf_13 (by decide) ?_
  exact aw_iret (post := (fun (_ : Nat) (r : Int32) (_ : Unit) => r = 1) sz) (B := (fun (_ : Unit) (_ : Heap) => True)) C hr hlk () rfl (fun H h => trivial) d_La_worthOf_14
set_option maxHeartbeats 4000000 in
set_option maxRecDepth 100000 in
theorem q_La_worthOf_Is (l : Launch) (D : va_G) (ad : Nat → Nat → Nat) (cA : Nat → ClassId) (nb : Nat) (S : ds_S) (oa : Nat) (x0 : Int32) (hc : Ct_t l y_De_worthOf b_De_worthOf 2 (some .int) ({ frames := 7, cells := 1, slots := 6, locals := 120 } : Room) 1 6 D (ds_ty cA) [.ref (ad 0 0), .int x0] (ds_P D ad cA nb S) R_Is) : Lh l y_La_worthOf b_La_worthOf 4 (some .int) [(0, 9, 12, 22), (0, 9, 15, 13)] ({ frames := 8, cells := 1, slots := 6, locals := 141 } : Room) 1 6 D (ds_ty cA) (fun _ => False) [.ref (ad 0 0), .int x0, .ref oa] (ds_P D ad cA nb S) (fun (_ : Nat) (r : Int32) (_ : Unit) => r = 2) (fun (_ : Unit) (_ : Heap) => True) := by
  intro sz
  refine lh_of (by decide) (Nat.le_of_ble_eq_true rfl) ?_
  intro p e s m args below meth c hsz C hr hlk htab hK hZ hN
  refine aw_lv (lv' := [(0, .ref (ad 0 0)), (1, .int x0), (2, .ref oa)]) [0, 1, 2] rfl ?_
  refine aw_aload_n C d_La_worthOf_0 rfl (j := 2) rfl ?_
  refine aw_iconst (v := 0) C d_La_worthOf_1 (by decide) ?_
  refine aw_aload_n C d_La_worthOf_2 rfl (j := 0) rfl ?_
  refine aw_iload_n C d_La_worthOf_3 rfl (j := 1) rfl ?_
  refine aw_callVC (P9 := fun _ => True) (h9 := 15) [.int x0] C hK hZ hc (cw_La_De_worthOf C.2.2.2.2 rfl rfl (by decide)) rfl (fun H h => aw_recv hK rfl (h 0 0 rfl)) (fun H h => h) (fun q h hA => hA.elim id (fun h2 => by omega)) (fun q h => Or.inr (by rw [← hsz]; exact h)) rfl (Nat.le_of_ble_eq_true rfl) d_La_worthOf_4 (by decide) (fun _ _ _ _ _ => trivial) (tc_second (own := R_La) (E := R_Is) (F := R_Ia) C.2.2.2.1 (C.2.2.2.2 _ cl_La_Ia) (C.2.2.2.2 _ cl_La_Is) (C.2.2.2.2 _ nx_Is) hN htab (by decide) (by decide) (by decide) (by decide)) ?_
  intro q9
  refine aw_astore_n (i := 3) (lv' := [(3, .ref q9), (0, .ref (ad 0 0)), (1, .int x0), (2, .ref oa)]) C d_La_worthOf_15 rfl (by decide) rfl ?_
  refine aw_iconst (v := 2) C d_La_worthOf_16 (by decide) ?_
  exact aw_iret (post := (fun (_ : Nat) (r : Int32) (_ : Unit) => r = 2) sz) (B := (fun (_ : Unit) (_ : Heap) => True)) C hr hlk () rfl (fun H h => trivial) d_La_worthOf_17
set_option maxHeartbeats 4000000 in
set_option maxRecDepth 100000 in
theorem k_La_room (l : Launch) (D : va_G) (ad : Nat → Nat → Nat) (cA : Nat → ClassId) (nb : Nat) (S : ds_S) (oa : Nat) (v : Int64) (x0 : Int32) (hoa : ∀ k i, ds_dm nb k i → ad k i ≠ oa) (post : Int32 → ds_S → Prop) (hc : Ct_i l y_De_room b_De_room 2 (some .int) ({ frames := 6, cells := 0, slots := 0, locals := 91 } : Room) 0 0 D (ds_ty cA) (ds_A ad nb) [.ref (ad 0 0), .int x0] (ds_P D ad cA nb S) post (ds_P D ad cA nb)) : Lh l y_La_room b_La_room 4 (some .int) [(0, 9, 12, 22), (0, 9, 15, 13)] ({ frames := 7, cells := 0, slots := 0, locals := 112 } : Room) 0 0 D (ds_ty cA) (fun q => ds_A ad nb q ∨ q = oa) [.ref (ad 0 0), .int x0, .ref oa] (fun H => ds_P D ad cA nb S H ∧ lw_out D cA oa v H) (fun (sz9 : Nat) (r : Int32) (u : ds_S × Int64) => r = 0 ∧ ∃ r9 z9, sz9 ≤ z9 ∧ post r9 u.1 ∧ u.2 = r9.toInt64) (fun (u : ds_S × Int64) H => ds_P D ad cA nb u.1 H ∧ lw_out D cA oa u.2 H) := by
  intro sz
  refine lh_of (by decide) (Nat.le_of_ble_eq_true rfl) ?_
  intro p e s m args below meth c hsz C hr hlk htab hK hZ hN
  refine aw_lv (lv' := [(0, .ref (ad 0 0)), (1, .int x0), (2, .ref oa)]) [0, 1, 2] rfl ?_
  refine aw_aload_n C d_La_room_0 rfl (j := 2) rfl ?_
  refine aw_iconst (v := 0) C d_La_room_1 (by decide) ?_
  refine aw_aload_n C d_La_room_2 rfl (j := 0) rfl ?_
  refine aw_iload_n C d_La_room_3 rfl (j := 1) rfl ?_
  refine aw_callVi (P9 := fun r u H => ds_P D ad cA nb u H ∧ lw_out D cA oa v H) [.int x0] C hK hc (cw_La_De_room C.2.2.2.2 rfl rfl (by decide)) rfl (fun H h => aw_recv hK rfl (h.1 0 0 rfl)) (fun H h => h.1) (fun q h => Or.inl (Or.inl h)) (fun q h => Or.inr (by rw [← hsz]; exact h)) rfl (Nat.le_of_ble_eq_true rfl) d_La_room_4 (by decide) (fun H H1 r u h _ hB _ hk => ⟨hB, h.2.kept (hk oa h.2.lt (fun ⟨k, i, hd, e⟩ => hoa k i hd e.symm))⟩) ?_
  intro r9 u9 hp9
  refine aw_i2l (v := r9.toInt64) C d_La_room_7 rfl ?_
  refine aw_last (P' := fun H => ds_P D ad cA nb u9 H ∧ lw_out D cA oa r9.toInt64 H) C hK 6 rfl (Or.inl (Or.inr rfl)) (fun H h => h.2) (ix_in (k := 0) rfl (by decide) (by decide)).1 d_La_room_8 (fun H H1 h ha hz hq => ⟨fun k i hd => (h.1 k i hd).kept (hq _ (hoa k i hd)), cx_arrL (fun j hj => by obtain rfl : j = 0 := (by omega); exact if_pos rfl) ha⟩) ?_
  refine aw_goto (tgt := 18) C d_La_room_9 (by decide) ?_
  refine aw_iconst (v := 0) C d_La_room_18 (by decide) ?_
  exact aw_iret (post := (fun (sz9 : Nat) (r : Int32) (u : ds_S × Int64) => r = 0 ∧ ∃ r9 z9, sz9 ≤ z9 ∧ post r9 u.1 ∧ u.2 = r9.toInt64) sz) (B := (fun (u : ds_S × Int64) H => ds_P D ad cA nb u.1 H ∧ lw_out D cA oa u.2 H)) C hr hlk (u9, r9.toInt64) ⟨rfl, r9, sz, Nat.le_refl sz, hp9, rfl⟩ (fun H h => h) d_La_room_19
set_option maxHeartbeats 4000000 in
set_option maxRecDepth 100000 in
theorem q_La_room_Ia (l : Launch) (D : va_G) (ad : Nat → Nat → Nat) (cA : Nat → ClassId) (nb : Nat) (S : ds_S) (oa : Nat) (x0 : Int32) (hc : Ct_t l y_De_room b_De_room 2 (some .int) ({ frames := 6, cells := 1, slots := 6, locals := 91 } : Room) 1 6 D (ds_ty cA) [.ref (ad 0 0), .int x0] (ds_P D ad cA nb S) R_Ia) : Lh l y_La_room b_La_room 4 (some .int) [(0, 9, 12, 22), (0, 9, 15, 13)] ({ frames := 7, cells := 1, slots := 6, locals := 112 } : Room) 1 6 D (ds_ty cA) (fun _ => False) [.ref (ad 0 0), .int x0, .ref oa] (ds_P D ad cA nb S) (fun (_ : Nat) (r : Int32) (_ : Unit) => r = 1) (fun (_ : Unit) (_ : Heap) => True) := by
  intro sz
  refine lh_of (by decide) (Nat.le_of_ble_eq_true rfl) ?_
  intro p e s m args below meth c hsz C hr hlk htab hK hZ hN
  refine aw_lv (lv' := [(0, .ref (ad 0 0)), (1, .int x0), (2, .ref oa)]) [0, 1, 2] rfl ?_
  refine aw_aload_n C d_La_room_0 rfl (j := 2) rfl ?_
  refine aw_iconst (v := 0) C d_La_room_1 (by decide) ?_
  refine aw_aload_n C d_La_room_2 rfl (j := 0) rfl ?_
  refine aw_iload_n C d_La_room_3 rfl (j := 1) rfl ?_
  refine aw_callVC (P9 := fun _ => True) (h9 := 12) [.int x0] C hK hZ hc (cw_La_De_room C.2.2.2.2 rfl rfl (by decide)) rfl (fun H h => aw_recv hK rfl (h 0 0 rfl)) (fun H h => h) (fun q h hA => hA.elim id (fun h2 => by omega)) (fun q h => Or.inr (by rw [← hsz]; exact h)) rfl (Nat.le_of_ble_eq_true rfl) d_La_room_4 (by decide) (fun _ _ _ _ _ => trivial) (tc_first (own := R_La) (E := R_Ia) C.2.2.2.1 (C.2.2.2.2 _ cl_La_Ia) (C.2.2.2.2 _ nx_Ia) htab (by decide) (by decide) (by decide)) ?_
  intro q9
  refine aw_astore_n (i := 3) (lv' := [(3, .ref q9), (0, .ref (ad 0 0)), (1, .int x0), (2, .ref oa)]) C d_La_room_12 rfl (by decide) rfl ?_
  refine aw_iconst (v := 1) C d_La_room_13 (by decide) ?_
  exact aw_iret (post := (fun (_ : Nat) (r : Int32) (_ : Unit) => r = 1) sz) (B := (fun (_ : Unit) (_ : Heap) => True)) C hr hlk () rfl (fun H h => trivial) d_La_room_14
set_option maxHeartbeats 4000000 in
set_option maxRecDepth 100000 in
theorem q_La_room_Is (l : Launch) (D : va_G) (ad : Nat → Nat → Nat) (cA : Nat → ClassId) (nb : Nat) (S : ds_S) (oa : Nat) (x0 : Int32) (hc : Ct_t l y_De_room b_De_room 2 (some .int) ({ frames := 6, cells := 1, slots := 6, locals := 91 } : Room) 1 6 D (ds_ty cA) [.ref (ad 0 0), .int x0] (ds_P D ad cA nb S) R_Is) : Lh l y_La_room b_La_room 4 (some .int) [(0, 9, 12, 22), (0, 9, 15, 13)] ({ frames := 7, cells := 1, slots := 6, locals := 112 } : Room) 1 6 D (ds_ty cA) (fun _ => False) [.ref (ad 0 0), .int x0, .ref oa] (ds_P D ad cA nb S) (fun (_ : Nat) (r : Int32) (_ : Unit) => r = 2) (fun (_ : Unit) (_ : Heap) => True) := by
  intro sz
  refine lh_of (by decide) (Nat.le_of_ble_eq_true rfl) ?_
  intro p e s m args below meth c hsz C hr hlk htab hK hZ hN
  refine aw_lv (lv' := [(0, .ref (ad 0 0)), (1, .int x0), (2, .ref oa)]) [0, 1, 2] rfl ?_
  refine aw_aload_n C d_La_room_0 rfl (j := 2) rfl ?_
  refine aw_iconst (v := 0) C d_La_room_1 (by decide) ?_
  refine aw_aload_n C d_La_room_2 rfl (j := 0) rfl ?_
  refine aw_iload_n C d_La_room_3 rfl (j := 1) rfl ?_
  refine aw_callVC (P9 := fun _ => True) (h9 := 15) [.int x0] C hK hZ hc (cw_La_De_room C.2.2.2.2 rfl rfl (by decide)) rfl (fun H h => aw_recv hK rfl (h 0 0 rfl)) (fun H h => h) (fun q h hA => hA.elim id (fun h2 => by omega)) (fun q h => Or.inr (by rw [← hsz]; exact h)) rfl (Nat.le_of_ble_eq_true rfl) d_La_room_4 (by decide) (fun _ _ _ _ _ => trivial) (tc_second (own := R_La) (E := R_Is) (F := R_Ia) C.2.2.2.1 (C.2.2.2.2 _ cl_La_Ia) (C.2.2.2.2 _ cl_La_Is) (C.2.2.2.2 _ nx_Is) hN htab (by decide) (by decide) (by decide) (by decide)) ?_
  intro q9
  refine aw_astore_n (i := 3) (lv' := [(3, .ref q9), (0, .ref (ad 0 0)), (1, .int x0), (2, .ref oa)]) C d_La_room_15 rfl (by decide) rfl ?_
  refine aw_iconst (v := 2) C d_La_room_16 (by decide) ?_
  exact aw_iret (post := (fun (_ : Nat) (r : Int32) (_ : Unit) => r = 2) sz) (B := (fun (_ : Unit) (_ : Heap) => True)) C hr hlk () rfl (fun H h => trivial) d_La_room_17
set_option maxHeartbeats 4000000 in
set_option maxRecDepth 100000 in
theorem k_La_book (l : Launch) (D : va_G) (ad : Nat → Nat → Nat) (cA : Nat → ClassId) (nb : Nat) (S : ds_S) (oa : Nat) (v : Int64) (x0 x1 x2 : Int32) (hoa : ∀ k i, ds_dm nb k i → ad k i ≠ oa) (post : Int32 → ds_S → Prop) (hc : Ct_i l y_De_book b_De_book 6 (some .int) ({ frames := 6, cells := 0, slots := 0, locals := 91 } : Room) 0 0 D (ds_ty cA) (ds_A ad nb) [.ref (ad 0 0), .int x0, .int x1, .int x2] (ds_P D ad cA nb S) post (ds_P D ad cA nb)) : Lh l y_La_book b_La_book 6 (some .int) [(0, 12, 15, 22), (0, 12, 19, 13)] ({ frames := 7, cells := 0, slots := 0, locals := 116 } : Room) 0 0 D (ds_ty cA) (fun q => ds_A ad nb q ∨ q = oa) [.ref (ad 0 0), .int x0, .int x1, .int x2, .ref oa] (fun H => ds_P D ad cA nb S H ∧ lw_out D cA oa v H) (fun (sz9 : Nat) (r : Int32) (u : ds_S × Int64) => r = 0 ∧ ∃ r9 z9, sz9 ≤ z9 ∧ post r9 u.1 ∧ u.2 = r9.toInt64) (fun (u : ds_S × Int64) H => ds_P D ad cA nb u.1 H ∧ lw_out D cA oa u.2 H) := by
  intro sz
  refine lh_of (by decide) (Nat.le_of_ble_eq_true rfl) ?_
  intro p e s m args below meth c hsz C hr hlk htab hK hZ hN
  refine aw_lv (lv' := [(0, .ref (ad 0 0)), (1, .int x0), (2, .int x1), (3, .int x2), (4, .ref oa)]) [0, 1, 2, 3, 4] rfl ?_
  refine aw_aload C d_La_book_0 (j := 4) rfl ?_
  refine aw_iconst (v := 0) C d_La_book_2 (by decide) ?_
  refine aw_aload_n C d_La_book_3 rfl (j := 0) rfl ?_
  refine aw_iload_n C d_La_book_4 rfl (j := 1) rfl ?_
  refine aw_iload_n C d_La_book_5 rfl (j := 2) rfl ?_
  refine aw_iload_n C d_La_book_6 rfl (j := 3) rfl ?_
  refine aw_callVi (P9 := fun r u H => ds_P D ad cA nb u H ∧ lw_out D cA oa v H) [.int x0, .int x1, .int x2] C hK hc (cw_La_De_book C.2.2.2.2 rfl rfl (by decide)) rfl (fun H h => aw_recv hK rfl (h.1 0 0 rfl)) (fun H h => h.1) (fun q h => Or.inl (Or.inl h)) (fun q h => Or.inr (by rw [← hsz]; exact h)) rfl (Nat.le_of_ble_eq_true rfl) d_La_book_7 (by decide) (fun H H1 r u h _ hB _ hk => ⟨hB, h.2.kept (hk oa h.2.lt (fun ⟨k, i, hd, e⟩ => hoa k i hd e.symm))⟩) ?_
  intro r9 u9 hp9
  refine aw_i2l (v := r9.toInt64) C d_La_book_10 rfl ?_
  refine aw_last (P' := fun H => ds_P D ad cA nb u9 H ∧ lw_out D cA oa r9.toInt64 H) C hK 6 rfl (Or.inl (Or.inr rfl)) (fun H h => h.2) (ix_in (k := 0) rfl (by decide) (by decide)).1 d_La_book_11 (fun H H1 h ha hz hq => ⟨fun k i hd => (h.1 k i hd).kept (hq _ (hoa k i hd)), cx_arrL (fun j hj => by obtain rfl : j = 0 := (by omega); exact if_pos rfl) ha⟩) ?_
  refine aw_goto (tgt := 23) C d_La_book_12 (by decide) ?_
  refine aw_iconst (v := 0) C d_La_book_23 (by decide) ?_
  exact aw_iret (post := (fun (sz9 : Nat) (r : Int32) (u : ds_S × Int64) => r = 0 ∧ ∃ r9 z9, sz9 ≤ z9 ∧ post r9 u.1 ∧ u.2 = r9.toInt64) sz) (B := (fun (u : ds_S × Int64) H => ds_P D ad cA nb u.1 H ∧ lw_out D cA oa u.2 H)) C hr hlk (u9, r9.toInt64) ⟨rfl, r9, sz, Nat.le_refl sz, hp9, rfl⟩ (fun H h => h) d_La_book_24
set_option maxHeartbeats 4000000 in
set_option maxRecDepth 100000 in
theorem k_La_book_some (l : Launch) (D : va_G) (ad : Nat → Nat → Nat) (cA : Nat → ClassId) (nb : Nat) (S : ds_S) (oa : Nat) (v : Int64) (x0 x1 x2 : Int32) (hoa : ∀ k i, ds_dm nb k i → ad k i ≠ oa) (post : Nat → Int32 → ((Nat → Nat → Nat) × ds_S) → Prop) (hc : Ct_is l y_De_book b_De_book 6 (some .int) ({ frames := 6, cells := 1, slots := 6, locals := 91 } : Room) 1 6 D (ds_ty cA) (ds_A ad nb) [.ref (ad 0 0), .int x0, .int x1, .int x2] (ds_P D ad cA nb S) post ((fun (u : ((Nat → Nat → Nat) × ds_S)) => ds_P D u.1 cA (nb + 1) u.2))) (hoa9 : ∀ z r u, oa < z → post z r u → ∀ k i, ds_dm (nb + 1) k i → u.1 k i ≠ oa) : Lh l y_La_book b_La_book 6 (some .int) [(0, 12, 15, 22), (0, 12, 19, 13)] ({ frames := 7, cells := 1, slots := 6, locals := 116 } : Room) 1 6 D (ds_ty cA) (fun q => ds_A ad nb q ∨ q = oa) [.ref (ad 0 0), .int x0, .int x1, .int x2, .ref oa] (fun H => ds_P D ad cA nb S H ∧ lw_out D cA oa v H) (fun (sz9 : Nat) (r : Int32) (u : ((Nat → Nat → Nat) × ds_S) × Int64) => r = 0 ∧ ∃ r9 z9, sz9 ≤ z9 ∧ post z9 r9 u.1 ∧ u.2 = r9.toInt64) (fun (u : ((Nat → Nat → Nat) × ds_S) × Int64) H => ds_P D u.1.1 cA (nb + 1) u.1.2 H ∧ lw_out D cA oa u.2 H) := by
  intro sz
  refine lh_of (by decide) (Nat.le_of_ble_eq_true rfl) ?_
  intro p e s m args below meth c hsz C hr hlk htab hK hZ hN
  refine aw_lv (lv' := [(0, .ref (ad 0 0)), (1, .int x0), (2, .int x1), (3, .int x2), (4, .ref oa)]) [0, 1, 2, 3, 4] rfl ?_
  refine aw_aload C d_La_book_0 (j := 4) rfl ?_
  refine aw_iconst (v := 0) C d_La_book_2 (by decide) ?_
  refine aw_aload_n C d_La_book_3 rfl (j := 0) rfl ?_
  refine aw_iload_n C d_La_book_4 rfl (j := 1) rfl ?_
  refine aw_iload_n C d_La_book_5 rfl (j := 2) rfl ?_
  refine aw_iload_n C d_La_book_6 rfl (j := 3) rfl ?_
  refine aw_callVs (P9 := fun r u H => (oa < H.size ∧ ∃ z, oa < z ∧ sz ≤ z ∧ post z r u) ∧ ds_P D u.1 cA (nb + 1) u.2 H ∧ lw_out D cA oa v H) [.int x0, .int x1, .int x2] C hK hc (cw_La_De_book C.2.2.2.2 rfl rfl (by decide)) rfl (fun H h => aw_recv hK rfl (h.1 0 0 rfl)) (fun H h => h.1) (fun q h => Or.inl (Or.inl h)) (fun q h => Or.inr (by rw [← hsz]; exact h)) rfl (Nat.le_of_ble_eq_true rfl) d_La_book_7 (by decide) (fun H H1 r u h hz0 hp hB hz hk => ⟨⟨Nat.lt_of_lt_of_le h.2.lt hz, H.size, h.2.lt, by rw [← hsz]; exact hz0, hp⟩, hB, h.2.kept (hk oa h.2.lt (fun ⟨k, i, hd, e⟩ => hoa k i hd e.symm))⟩) ?_
  intro r9 u9
  refine aw_have (F := ∃ z, oa < z ∧ sz ≤ z ∧ post z r9 u9) (fun H h => h.1.2) (fun hz9 => ?_)
  obtain ⟨z9, hz9, hzs9, hp9⟩ := hz9
  refine aw_P (P' := fun H => ds_P D u9.1 cA (nb + 1) u9.2 H ∧ lw_out D cA oa v H) (fun H h => h.2) ?_
  refine aw_i2l (v := r9.toInt64) C d_La_book_10 rfl ?_
  refine aw_last (P' := fun H => ds_P D u9.1 cA (nb + 1) u9.2 H ∧ lw_out D cA oa r9.toInt64 H) C hK 6 rfl (Or.inl (Or.inr rfl)) (fun H h => h.2) (ix_in (k := 0) rfl (by decide) (by decide)).1 d_La_book_11 (fun H H1 h ha hz hq => ⟨fun k i hd => (h.1 k i hd).kept (hq _ (hoa9 z9 r9 u9 hz9 hp9 k i hd)), cx_arrL (fun j hj => by obtain rfl : j = 0 := (by omega); exact if_pos rfl) ha⟩) ?_
  refine aw_goto (tgt := 23) C d_La_book_12 (by decide) ?_
  refine aw_iconst (v := 0) C d_La_book_23 (by decide) ?_
  exact aw_iret (post := (fun (sz9 : Nat) (r : Int32) (u : ((Nat → Nat → Nat) × ds_S) × Int64) => r = 0 ∧ ∃ r9 z9, sz9 ≤ z9 ∧ post z9 r9 u.1 ∧ u.2 = r9.toInt64) sz) (B := (fun (u : ((Nat → Nat → Nat) × ds_S) × Int64) H => ds_P D u.1.1 cA (nb + 1) u.1.2 H ∧ lw_out D cA oa u.2 H)) C hr hlk (u9, r9.toInt64) ⟨rfl, r9, z9, hzs9, hp9, rfl⟩ (fun H h => h) d_La_book_24
set_option maxHeartbeats 4000000 in
set_option maxRecDepth 100000 in
theorem q_La_book_Ia (l : Launch) (D : va_G) (ad : Nat → Nat → Nat) (cA : Nat → ClassId) (nb : Nat) (S : ds_S) (oa : Nat) (x0 x1 x2 : Int32) (hc : Ct_t l y_De_book b_De_book 6 (some .int) ({ frames := 6, cells := 1, slots := 6, locals := 91 } : Room) 1 6 D (ds_ty cA) [.ref (ad 0 0), .int x0, .int x1, .int x2] (ds_P D ad cA nb S) R_Ia) : Lh l y_La_book b_La_book 6 (some .int) [(0, 12, 15, 22), (0, 12, 19, 13)] ({ frames := 7, cells := 1, slots := 6, locals := 116 } : Room) 1 6 D (ds_ty cA) (fun _ => False) [.ref (ad 0 0), .int x0, .int x1, .int x2, .ref oa] (ds_P D ad cA nb S) (fun (_ : Nat) (r : Int32) (_ : Unit) => r = 1) (fun (_ : Unit) (_ : Heap) => True) := by
  intro sz
  refine lh_of (by decide) (Nat.le_of_ble_eq_true rfl) ?_
  intro p e s m args below meth c hsz C hr hlk htab hK hZ hN
  refine aw_lv (lv' := [(0, .ref (ad 0 0)), (1, .int x0), (2, .int x1), (3, .int x2), (4, .ref oa)]) [0, 1, 2, 3, 4] rfl ?_
  refine aw_aload C d_La_book_0 (j := 4) rfl ?_
  refine aw_iconst (v := 0) C d_La_book_2 (by decide) ?_
  refine aw_aload_n C d_La_book_3 rfl (j := 0) rfl ?_
  refine aw_iload_n C d_La_book_4 rfl (j := 1) rfl ?_
  refine aw_iload_n C d_La_book_5 rfl (j := 2) rfl ?_
  refine aw_iload_n C d_La_book_6 rfl (j := 3) rfl ?_
  refine aw_callVC (P9 := fun _ => True) (h9 := 15) [.int x0, .int x1, .int x2] C hK hZ hc (cw_La_De_book C.2.2.2.2 rfl rfl (by decide)) rfl (fun H h => aw_recv hK rfl (h 0 0 rfl)) (fun H h => h) (fun q h hA => hA.elim id (fun h2 => by omega)) (fun q h => Or.inr (by rw [← hsz]; exact h)) rfl (Nat.le_of_ble_eq_true rfl) d_La_book_7 (by decide) (fun _ _ _ _ _ => trivial) (tc_first (own := R_La) (E := R_Ia) C.2.2.2.1 (C.2.2.2.2 _ cl_La_Ia) (C.2.2.2.2 _ nx_Ia) htab (by decide) (by decide) (by decide)) ?_
  intro q9
  refine aw_astore (i := 5) (lv' := [(5, .ref q9), (0, .ref (ad 0 0)), (1, .int x0), (2, .int x1), (3, .int x2), (4, .ref oa)]) C d_La_book_15 (by decide) rfl ?_
  refine aw_iconst (v := 1) C d_La_book_17 (by decide) ?_
  exact aw_iret (post := (fun (_ : Nat) (r : Int32) (_ : Unit) => r = 1) sz) (B := (fun (_ : Unit) (_ : Heap) => True)) C hr hlk () rfl (fun H h => trivial) d_La_book_18
set_option maxHeartbeats 4000000 in
set_option maxRecDepth 100000 in
theorem q_La_book_Is (l : Launch) (D : va_G) (ad : Nat → Nat → Nat) (cA : Nat → ClassId) (nb : Nat) (S : ds_S) (oa : Nat) (x0 x1 x2 : Int32) (hc : Ct_t l y_De_book b_De_book 6 (some .int) ({ frames := 6, cells := 1, slots := 6, locals := 91 } : Room) 1 6 D (ds_ty cA) [.ref (ad 0 0), .int x0, .int x1, .int x2] (ds_P D ad cA nb S) R_Is) : Lh l y_La_book b_La_book 6 (some .int) [(0, 12, 15, 22), (0, 12, 19, 13)] ({ frames := 7, cells := 1, slots := 6, locals := 116 } : Room) 1 6 D (ds_ty cA) (fun _ => False) [.ref (ad 0 0), .int x0, .int x1, .int x2, .ref oa] (ds_P D ad cA nb S) (fun (_ : Nat) (r : Int32) (_ : Unit) => r = 2) (fun (_ : Unit) (_ : Heap) => True) := by
  intro sz
  refine lh_of (by decide) (Nat.le_of_ble_eq_true rfl) ?_
  intro p e s m args below meth c hsz C hr hlk htab hK hZ hN
  refine aw_lv (lv' := [(0, .ref (ad 0 0)), (1, .int x0), (2, .int x1), (3, .int x2), (4, .ref oa)]) [0, 1, 2, 3, 4] rfl ?_
  refine aw_aload C d_La_book_0 (j := 4) rfl ?_
  refine aw_iconst (v := 0) C d_La_book_2 (by decide) ?_
  refine aw_aload_n C d_La_book_3 rfl (j := 0) rfl ?_
  refine aw_iload_n C d_La_book_4 rfl (j := 1) rfl ?_
  refine aw_iload_n C d_La_book_5 rfl (j := 2) rfl ?_
  refine aw_iload_n C d_La_book_6 rfl (j := 3) rfl ?_
  refine aw_callVC (P9 := fun _ => True) (h9 := 19) [.int x0, .int x1, .int x2] C hK hZ hc (cw_La_De_book C.2.2.2.2 rfl rfl (by decide)) rfl (fun H h => aw_recv hK rfl (h 0 0 rfl)) (fun H h => h) (fun q h hA => hA.elim id (fun h2 => by omega)) (fun q h => Or.inr (by rw [← hsz]; exact h)) rfl (Nat.le_of_ble_eq_true rfl) d_La_book_7 (by decide) (fun _ _ _ _ _ => trivial) (tc_second (own := R_La) (E := R_Is) (F := R_Ia) C.2.2.2.1 (C.2.2.2.2 _ cl_La_Ia) (C.2.2.2.2 _ cl_La_Is) (C.2.2.2.2 _ nx_Is) hN htab (by decide) (by decide) (by decide) (by decide)) ?_
  intro q9
  refine aw_astore (i := 5) (lv' := [(5, .ref q9), (0, .ref (ad 0 0)), (1, .int x0), (2, .int x1), (3, .int x2), (4, .ref oa)]) C d_La_book_19 (by decide) rfl ?_
  refine aw_iconst (v := 2) C d_La_book_21 (by decide) ?_
  exact aw_iret (post := (fun (_ : Nat) (r : Int32) (_ : Unit) => r = 2) sz) (B := (fun (_ : Unit) (_ : Heap) => True)) C hr hlk () rfl (fun H h => trivial) d_La_book_22
set_option maxHeartbeats 4000000 in
set_option maxRecDepth 100000 in
theorem k_La_cancel (l : Launch) (D : va_G) (ad : Nat → Nat → Nat) (cA : Nat → ClassId) (nb : Nat) (S : ds_S) (oa : Nat) (v : Int64) (x0 : Int32) (hoa : ∀ k i, ds_dm nb k i → ad k i ≠ oa) (post : Int32 → ds_S → Prop) (hc : Ct_i l y_De_cancel b_De_cancel 3 (some .boolean) ({ frames := 7, cells := 0, slots := 0, locals := 113 } : Room) 0 0 D (ds_ty cA) (ds_A ad nb) [.ref (ad 0 0), .int x0] (ds_P D ad cA nb S) post (ds_P D ad cA nb)) (h01 : ∀ r u, post r u → r = 0 ∨ r = 1) : Lh l y_La_cancel b_La_cancel 4 (some .int) [(0, 16, 19, 22)] ({ frames := 8, cells := 0, slots := 0, locals := 135 } : Room) 0 0 D (ds_ty cA) (fun q => ds_A ad nb q ∨ q = oa) [.ref (ad 0 0), .int x0, .ref oa] (fun H => ds_P D ad cA nb S H ∧ lw_out D cA oa v H) (fun (sz9 : Nat) (r : Int32) (u : ds_S × Int64) => r = 0 ∧ ∃ r9 z9, sz9 ≤ z9 ∧ post r9 u.1 ∧ u.2 = hz_b r9) (fun (u : ds_S × Int64) H => ds_P D ad cA nb u.1 H ∧ lw_out D cA oa u.2 H) := by
  intro sz
  refine lh_of (by decide) (Nat.le_of_ble_eq_true rfl) ?_
  intro p e s m args below meth c hsz C hr hlk htab hK hZ hN
  refine aw_lv (lv' := [(0, .ref (ad 0 0)), (1, .int x0), (2, .ref oa)]) [0, 1, 2] rfl ?_
  refine aw_aload_n C d_La_cancel_0 rfl (j := 2) rfl ?_
  refine aw_iconst (v := 0) C d_La_cancel_1 (by decide) ?_
  refine aw_aload_n C d_La_cancel_2 rfl (j := 0) rfl ?_
  refine aw_iload_n C d_La_cancel_3 rfl (j := 1) rfl ?_
  refine aw_callVi (P9 := fun r u H => ds_P D ad cA nb u H ∧ lw_out D cA oa v H) [.int x0] C hK hc (cw_La_De_cancel C.2.2.2.2 rfl rfl (by decide)) rfl (fun H h => aw_recv hK rfl (h.1 0 0 rfl)) (fun H h => h.1) (fun q h => Or.inl (Or.inl h)) (fun q h => Or.inr (by rw [← hsz]; exact h)) rfl (Nat.le_of_ble_eq_true rfl) d_La_cancel_4 (by decide) (fun H H1 r u h _ hB _ hk => ⟨hB, h.2.kept (hk oa h.2.lt (fun ⟨k, i, hd, e⟩ => hoa k i hd e.symm))⟩) ?_
  intro r9 u9 hp9
  refine aw_if_eq (tgt := 14) C d_La_cancel_7 (by decide) (fun c_7 => ?_) (fun c_7 => ?_)
  · have e9 : hz_b r9 = 0 := if_pos c_7
    refine aw_lconst (v := 0) C d_La_cancel_14 (by decide) ?_
    refine aw_last (P' := fun H => ds_P D ad cA nb u9 H ∧ lw_out D cA oa 0 H) C hK 6 rfl (Or.inl (Or.inr rfl)) (fun H h => h.2) (ix_in (k := 0) rfl (by decide) (by decide)).1 d_La_cancel_15 (fun H H1 h ha hz hq => ⟨fun k i hd => (h.1 k i hd).kept (hq _ (hoa k i hd)), cx_arrL (fun j hj => by obtain rfl : j = 0 := (by omega); exact if_pos rfl) ha⟩) ?_
    refine aw_goto (tgt := 22) C d_La_cancel_16 (by decide) ?_
    refine aw_iconst (v := 0) C d_La_cancel_22 (by decide) ?_
    exact aw_iret (post := (fun (sz9 : Nat) (r : Int32) (u : ds_S × Int64) => r = 0 ∧ ∃ r9 z9, sz9 ≤ z9 ∧ post r9 u.1 ∧ u.2 = hz_b r9) sz) (B := (fun (u : ds_S × Int64) H => ds_P D ad cA nb u.1 H ∧ lw_out D cA oa u.2 H)) C hr hlk (u9, 0) ⟨rfl, r9, sz, Nat.le_refl sz, hp9, e9.symm⟩ (fun H h => h) d_La_cancel_23
  · have e9 : hz_b r9 = 1 := if_neg c_7
    refine aw_lconst (v := 1) C d_La_cancel_10 (by decide) ?_
    refine aw_goto (tgt := 15) C d_La_cancel_11 (by decide) ?_
    refine aw_last (P' := fun H => ds_P D ad cA nb u9 H ∧ lw_out D cA oa 1 H) C hK 6 rfl (Or.inl (Or.inr rfl)) (fun H h => h.2) (ix_in (k := 0) rfl (by decide) (by decide)).1 d_La_cancel_15 (fun H H1 h ha hz hq => ⟨fun k i hd => (h.1 k i hd).kept (hq _ (hoa k i hd)), cx_arrL (fun j hj => by obtain rfl : j = 0 := (by omega); exact if_pos rfl) ha⟩) ?_
    refine aw_goto (tgt := 22) C d_La_cancel_16 (by decide) ?_
    refine aw_iconst (v := 0) C d_La_cancel_22 (by decide) ?_
    exact aw_iret (post := (fun (sz9 : Nat) (r : Int32) (u : ds_S × Int64) => r = 0 ∧ ∃ r9 z9, sz9 ≤ z9 ∧ post r9 u.1 ∧ u.2 = hz_b r9) sz) (B := (fun (u : ds_S × Int64) H => ds_P D ad cA nb u.1 H ∧ lw_out D cA oa u.2 H)) C hr hlk (u9, 1) ⟨rfl, r9, sz, Nat.le_refl sz, hp9, e9.symm⟩ (fun H h => h) d_La_cancel_23
set_option maxHeartbeats 4000000 in
set_option maxRecDepth 100000 in
theorem q_La_cancel_Ia (l : Launch) (D : va_G) (ad : Nat → Nat → Nat) (cA : Nat → ClassId) (nb : Nat) (S : ds_S) (oa : Nat) (x0 : Int32) (hc : Ct_t l y_De_cancel b_De_cancel 3 (some .boolean) ({ frames := 7, cells := 1, slots := 6, locals := 113 } : Room) 1 6 D (ds_ty cA) [.ref (ad 0 0), .int x0] (ds_P D ad cA nb S) R_Ia) : Lh l y_La_cancel b_La_cancel 4 (some .int) [(0, 16, 19, 22)] ({ frames := 8, cells := 1, slots := 6, locals := 135 } : Room) 1 6 D (ds_ty cA) (fun _ => False) [.ref (ad 0 0), .int x0, .ref oa] (ds_P D ad cA nb S) (fun (_ : Nat) (r : Int32) (_ : Unit) => r = 1) (fun (_ : Unit) (_ : Heap) => True) := by
  intro sz
  refine lh_of (by decide) (Nat.le_of_ble_eq_true rfl) ?_
  intro p e s m args below meth c hsz C hr hlk htab hK hZ hN
  refine aw_lv (lv' := [(0, .ref (ad 0 0)), (1, .int x0), (2, .ref oa)]) [0, 1, 2] rfl ?_
  refine aw_aload_n C d_La_cancel_0 rfl (j := 2) rfl ?_
  refine aw_iconst (v := 0) C d_La_cancel_1 (by decide) ?_
  refine aw_aload_n C d_La_cancel_2 rfl (j := 0) rfl ?_
  refine aw_iload_n C d_La_cancel_3 rfl (j := 1) rfl ?_
  refine aw_callVC (P9 := fun _ => True) (h9 := 19) [.int x0] C hK hZ hc (cw_La_De_cancel C.2.2.2.2 rfl rfl (by decide)) rfl (fun H h => aw_recv hK rfl (h 0 0 rfl)) (fun H h => h) (fun q h hA => hA.elim id (fun h2 => by omega)) (fun q h => Or.inr (by rw [← hsz]; exact h)) rfl (Nat.le_of_ble_eq_true rfl) d_La_cancel_4 (by decide) (fun _ _ _ _ _ => trivial) (tc_first (own := R_La) (E := R_Ia) C.2.2.2.1 (C.2.2.2.2 _ cl_La_Ia) (C.2.2.2.2 _ nx_Ia) htab (by decide) (by decide) (by decide)) ?_
  intro q9
  refine aw_astore_n (i := 3) (lv' := [(3, .ref q9), (0, .ref (ad 0 0)), (1, .int x0), (2, .ref oa)]) C d_La_cancel_19 rfl (by decide) rfl ?_
  refine aw_iconst (v := 1) C d_La_cancel_20 (by decide) ?_
  exact aw_iret (post := (fun (_ : Nat) (r : Int32) (_ : Unit) => r = 1) sz) (B := (fun (_ : Unit) (_ : Heap) => True)) C hr hlk () rfl (fun H h => trivial) d_La_cancel_21
set_option maxHeartbeats 4000000 in
set_option maxRecDepth 100000 in
theorem k_La_roomOf (l : Launch) (D : va_G) (ad : Nat → Nat → Nat) (cA : Nat → ClassId) (nb : Nat) (S : ds_S) (oa : Nat) (v : Int64) (x0 : Int32) (hoa : ∀ k i, ds_dm nb k i → ad k i ≠ oa) (post : Int32 → ds_S → Prop) (hc : Ct_i l y_De_roomOf b_De_roomOf 2 (some .int) ({ frames := 7, cells := 0, slots := 0, locals := 113 } : Room) 0 0 D (ds_ty cA) (ds_A ad nb) [.ref (ad 0 0), .int x0] (ds_P D ad cA nb S) post (ds_P D ad cA nb)) : Lh l y_La_roomOf b_La_roomOf 4 (some .int) [(0, 9, 12, 22)] ({ frames := 8, cells := 0, slots := 0, locals := 134 } : Room) 0 0 D (ds_ty cA) (fun q => ds_A ad nb q ∨ q = oa) [.ref (ad 0 0), .int x0, .ref oa] (fun H => ds_P D ad cA nb S H ∧ lw_out D cA oa v H) (fun (sz9 : Nat) (r : Int32) (u : ds_S × Int64) => r = 0 ∧ ∃ r9 z9, sz9 ≤ z9 ∧ post r9 u.1 ∧ u.2 = r9.toInt64) (fun (u : ds_S × Int64) H => ds_P D ad cA nb u.1 H ∧ lw_out D cA oa u.2 H) := by
  intro sz
  refine lh_of (by decide) (Nat.le_of_ble_eq_true rfl) ?_
  intro p e s m args below meth c hsz C hr hlk htab hK hZ hN
  refine aw_lv (lv' := [(0, .ref (ad 0 0)), (1, .int x0), (2, .ref oa)]) [0, 1, 2] rfl ?_
  refine aw_aload_n C d_La_roomOf_0 rfl (j := 2) rfl ?_
  refine aw_iconst (v := 0) C d_La_roomOf_1 (by decide) ?_
  refine aw_aload_n C d_La_roomOf_2 rfl (j := 0) rfl ?_
  refine aw_iload_n C d_La_roomOf_3 rfl (j := 1) rfl ?_
  refine aw_callVi (P9 := fun r u H => ds_P D ad cA nb u H ∧ lw_out D cA oa v H) [.int x0] C hK hc (cw_La_De_roomOf C.2.2.2.2 rfl rfl (by decide)) rfl (fun H h => aw_recv hK rfl (h.1 0 0 rfl)) (fun H h => h.1) (fun q h => Or.inl (Or.inl h)) (fun q h => Or.inr (by rw [← hsz]; exact h)) rfl (Nat.le_of_ble_eq_true rfl) d_La_roomOf_4 (by decide) (fun H H1 r u h _ hB _ hk => ⟨hB, h.2.kept (hk oa h.2.lt (fun ⟨k, i, hd, e⟩ => hoa k i hd e.symm))⟩) ?_
  intro r9 u9 hp9
  refine aw_i2l (v := r9.toInt64) C d_La_roomOf_7 rfl ?_
  refine aw_last (P' := fun H => ds_P D ad cA nb u9 H ∧ lw_out D cA oa r9.toInt64 H) C hK 6 rfl (Or.inl (Or.inr rfl)) (fun H h => h.2) (ix_in (k := 0) rfl (by decide) (by decide)).1 d_La_roomOf_8 (fun H H1 h ha hz hq => ⟨fun k i hd => (h.1 k i hd).kept (hq _ (hoa k i hd)), cx_arrL (fun j hj => by obtain rfl : j = 0 := (by omega); exact if_pos rfl) ha⟩) ?_
  refine aw_goto (tgt := 15) C d_La_roomOf_9 (by decide) ?_
  refine aw_iconst (v := 0) C d_La_roomOf_15 (by decide) ?_
  exact aw_iret (post := (fun (sz9 : Nat) (r : Int32) (u : ds_S × Int64) => r = 0 ∧ ∃ r9 z9, sz9 ≤ z9 ∧ post r9 u.1 ∧ u.2 = r9.toInt64) sz) (B := (fun (u : ds_S × Int64) H => ds_P D ad cA nb u.1 H ∧ lw_out D cA oa u.2 H)) C hr hlk (u9, r9.toInt64) ⟨rfl, r9, sz, Nat.le_refl sz, hp9, rfl⟩ (fun H h => h) d_La_roomOf_16
set_option maxHeartbeats 4000000 in
set_option maxRecDepth 100000 in
theorem q_La_roomOf_Ia (l : Launch) (D : va_G) (ad : Nat → Nat → Nat) (cA : Nat → ClassId) (nb : Nat) (S : ds_S) (oa : Nat) (x0 : Int32) (hc : Ct_t l y_De_roomOf b_De_roomOf 2 (some .int) ({ frames := 7, cells := 1, slots := 6, locals := 113 } : Room) 1 6 D (ds_ty cA) [.ref (ad 0 0), .int x0] (ds_P D ad cA nb S) R_Ia) : Lh l y_La_roomOf b_La_roomOf 4 (some .int) [(0, 9, 12, 22)] ({ frames := 8, cells := 1, slots := 6, locals := 134 } : Room) 1 6 D (ds_ty cA) (fun _ => False) [.ref (ad 0 0), .int x0, .ref oa] (ds_P D ad cA nb S) (fun (_ : Nat) (r : Int32) (_ : Unit) => r = 1) (fun (_ : Unit) (_ : Heap) => True) := by
  intro sz
  refine lh_of (by decide) (Nat.le_of_ble_eq_true rfl) ?_
  intro p e s m args below meth c hsz C hr hlk htab hK hZ hN
  refine aw_lv (lv' := [(0, .ref (ad 0 0)), (1, .int x0), (2, .ref oa)]) [0, 1, 2] rfl ?_
  refine aw_aload_n C d_La_roomOf_0 rfl (j := 2) rfl ?_
  refine aw_iconst (v := 0) C d_La_roomOf_1 (by decide) ?_
  refine aw_aload_n C d_La_roomOf_2 rfl (j := 0) rfl ?_
  refine aw_iload_n C d_La_roomOf_3 rfl (j := 1) rfl ?_
  refine aw_callVC (P9 := fun _ => True) (h9 := 12) [.int x0] C hK hZ hc (cw_La_De_roomOf C.2.2.2.2 rfl rfl (by decide)) rfl (fun H h => aw_recv hK rfl (h 0 0 rfl)) (fun H h => h) (fun q h hA => hA.elim id (fun h2 => by omega)) (fun q h => Or.inr (by rw [← hsz]; exact h)) rfl (Nat.le_of_ble_eq_true rfl) d_La_roomOf_4 (by decide) (fun _ _ _ _ _ => trivial) (tc_first (own := R_La) (E := R_Ia) C.2.2.2.1 (C.2.2.2.2 _ cl_La_Ia) (C.2.2.2.2 _ nx_Ia) htab (by decide) (by decide) (by decide)) ?_
  intro q9
  refine aw_astore_n (i := 3) (lv' := [(3, .ref q9), (0, .ref (ad 0 0)), (1, .int x0), (2, .ref oa)]) C d_La_roomOf_12 rfl (by decide) rfl ?_
  refine aw_iconst (v := 1) C d_La_roomOf_13 (by decide) ?_
  exact aw_iret (post := (fun (_ : Nat) (r : Int32) (_ : Unit) => r = 1) sz) (B := (fun (_ : Unit) (_ : Heap) => True)) C hr hlk () rfl (fun H h => trivial) d_La_roomOf_14
set_option maxHeartbeats 4000000 in
set_option maxRecDepth 100000 in
theorem k_La_inside (l : Launch) (D : va_G) (ad : Nat → Nat → Nat) (cA : Nat → ClassId) (nb : Nat) (S : ds_S) (oa : Nat) (v : Int64) (x0 x1 : Int32) (hoa : ∀ k i, ds_dm nb k i → ad k i ≠ oa) (post : Int32 → ds_S → Prop) (hc : Ct_i l y_De_inside b_De_inside 4 (some .int) ({ frames := 7, cells := 0, slots := 0, locals := 112 } : Room) 0 0 D (ds_ty cA) (ds_A ad nb) [.ref (ad 0 0), .int x0, .int x1] (ds_P D ad cA nb S) post (ds_P D ad cA nb)) : Lh l y_La_inside b_La_inside 5 (some .int) [(0, 10, 13, 22)] ({ frames := 8, cells := 0, slots := 0, locals := 135 } : Room) 0 0 D (ds_ty cA) (fun q => ds_A ad nb q ∨ q = oa) [.ref (ad 0 0), .int x0, .int x1, .ref oa] (fun H => ds_P D ad cA nb S H ∧ lw_out D cA oa v H) (fun (sz9 : Nat) (r : Int32) (u : ds_S × Int64) => r = 0 ∧ ∃ r9 z9, sz9 ≤ z9 ∧ post r9 u.1 ∧ u.2 = r9.toInt64) (fun (u : ds_S × Int64) H => ds_P D ad cA nb u.1 H ∧ lw_out D cA oa u.2 H) := by
  intro sz
  refine lh_of (by decide) (Nat.le_of_ble_eq_true rfl) ?_
  intro p e s m args below meth c hsz C hr hlk htab hK hZ hN
  refine aw_lv (lv' := [(0, .ref (ad 0 0)), (1, .int x0), (2, .int x1), (3, .ref oa)]) [0, 1, 2, 3] rfl ?_
  refine aw_aload_n C d_La_inside_0 rfl (j := 3) rfl ?_
  refine aw_iconst (v := 0) C d_La_inside_1 (by decide) ?_
  refine aw_aload_n C d_La_inside_2 rfl (j := 0) rfl ?_
  refine aw_iload_n C d_La_inside_3 rfl (j := 1) rfl ?_
  refine aw_iload_n C d_La_inside_4 rfl (j := 2) rfl ?_
  refine aw_callVi (P9 := fun r u H => ds_P D ad cA nb u H ∧ lw_out D cA oa v H) [.int x0, .int x1] C hK hc (cw_La_De_inside C.2.2.2.2 rfl rfl (by decide)) rfl (fun H h => aw_recv hK rfl (h.1 0 0 rfl)) (fun H h => h.1) (fun q h => Or.inl (Or.inl h)) (fun q h => Or.inr (by rw [← hsz]; exact h)) rfl (Nat.le_of_ble_eq_true rfl) d_La_inside_5 (by decide) (fun H H1 r u h _ hB _ hk => ⟨hB, h.2.kept (hk oa h.2.lt (fun ⟨k, i, hd, e⟩ => hoa k i hd e.symm))⟩) ?_
  intro r9 u9 hp9
  refine aw_i2l (v := r9.toInt64) C d_La_inside_8 rfl ?_
  refine aw_last (P' := fun H => ds_P D ad cA nb u9 H ∧ lw_out D cA oa r9.toInt64 H) C hK 6 rfl (Or.inl (Or.inr rfl)) (fun H h => h.2) (ix_in (k := 0) rfl (by decide) (by decide)).1 d_La_inside_9 (fun H H1 h ha hz hq => ⟨fun k i hd => (h.1 k i hd).kept (hq _ (hoa k i hd)), cx_arrL (fun j hj => by obtain rfl : j = 0 := (by omega); exact if_pos rfl) ha⟩) ?_
  refine aw_goto (tgt := 17) C d_La_inside_10 (by decide) ?_
  refine aw_iconst (v := 0) C d_La_inside_17 (by decide) ?_
  exact aw_iret (post := (fun (sz9 : Nat) (r : Int32) (u : ds_S × Int64) => r = 0 ∧ ∃ r9 z9, sz9 ≤ z9 ∧ post r9 u.1 ∧ u.2 = r9.toInt64) sz) (B := (fun (u : ds_S × Int64) H => ds_P D ad cA nb u.1 H ∧ lw_out D cA oa u.2 H)) C hr hlk (u9, r9.toInt64) ⟨rfl, r9, sz, Nat.le_refl sz, hp9, rfl⟩ (fun H h => h) d_La_inside_18
set_option maxHeartbeats 4000000 in
set_option maxRecDepth 100000 in
theorem q_La_inside_Ia (l : Launch) (D : va_G) (ad : Nat → Nat → Nat) (cA : Nat → ClassId) (nb : Nat) (S : ds_S) (oa : Nat) (x0 x1 : Int32) (hc : Ct_t l y_De_inside b_De_inside 4 (some .int) ({ frames := 7, cells := 1, slots := 6, locals := 112 } : Room) 1 6 D (ds_ty cA) [.ref (ad 0 0), .int x0, .int x1] (ds_P D ad cA nb S) R_Ia) : Lh l y_La_inside b_La_inside 5 (some .int) [(0, 10, 13, 22)] ({ frames := 8, cells := 1, slots := 6, locals := 135 } : Room) 1 6 D (ds_ty cA) (fun _ => False) [.ref (ad 0 0), .int x0, .int x1, .ref oa] (ds_P D ad cA nb S) (fun (_ : Nat) (r : Int32) (_ : Unit) => r = 1) (fun (_ : Unit) (_ : Heap) => True) := by
  intro sz
  refine lh_of (by decide) (Nat.le_of_ble_eq_true rfl) ?_
  intro p e s m args below meth c hsz C hr hlk htab hK hZ hN
  refine aw_lv (lv' := [(0, .ref (ad 0 0)), (1, .int x0), (2, .int x1), (3, .ref oa)]) [0, 1, 2, 3] rfl ?_
  refine aw_aload_n C d_La_inside_0 rfl (j := 3) rfl ?_
  refine aw_iconst (v := 0) C d_La_inside_1 (by decide) ?_
  refine aw_aload_n C d_La_inside_2 rfl (j := 0) rfl ?_
  refine aw_iload_n C d_La_inside_3 rfl (j := 1) rfl ?_
  refine aw_iload_n C d_La_inside_4 rfl (j := 2) rfl ?_
  refine aw_callVC (P9 := fun _ => True) (h9 := 13) [.int x0, .int x1] C hK hZ hc (cw_La_De_inside C.2.2.2.2 rfl rfl (by decide)) rfl (fun H h => aw_recv hK rfl (h 0 0 rfl)) (fun H h => h) (fun q h hA => hA.elim id (fun h2 => by omega)) (fun q h => Or.inr (by rw [← hsz]; exact h)) rfl (Nat.le_of_ble_eq_true rfl) d_La_inside_5 (by decide) (fun _ _ _ _ _ => trivial) (tc_first (own := R_La) (E := R_Ia) C.2.2.2.1 (C.2.2.2.2 _ cl_La_Ia) (C.2.2.2.2 _ nx_Ia) htab (by decide) (by decide) (by decide)) ?_
  intro q9
  refine aw_astore (i := 4) (lv' := [(4, .ref q9), (0, .ref (ad 0 0)), (1, .int x0), (2, .int x1), (3, .ref oa)]) C d_La_inside_13 (by decide) rfl ?_
  refine aw_iconst (v := 1) C d_La_inside_15 (by decide) ?_
  exact aw_iret (post := (fun (_ : Nat) (r : Int32) (_ : Unit) => r = 1) sz) (B := (fun (_ : Unit) (_ : Heap) => True)) C hr hlk () rfl (fun H h => trivial) d_La_inside_16
set_option maxHeartbeats 4000000 in
set_option maxRecDepth 100000 in
theorem k_La_gap (l : Launch) (D : va_G) (ad : Nat → Nat → Nat) (cA : Nat → ClassId) (nb : Nat) (S : ds_S) (oa : Nat) (v : Int64) (x0 x1 x2 : Int32) (hoa : ∀ k i, ds_dm nb k i → ad k i ≠ oa) (post : Int32 → ds_S → Prop) (hc : Ct_i l y_De_gap b_De_gap 5 (some .int) ({ frames := 7, cells := 0, slots := 0, locals := 112 } : Room) 0 0 D (ds_ty cA) (ds_A ad nb) [.ref (ad 0 0), .int x0, .int x1, .int x2] (ds_P D ad cA nb S) post (ds_P D ad cA nb)) : Lh l y_La_gap b_La_gap 6 (some .int) [(0, 12, 15, 22)] ({ frames := 8, cells := 0, slots := 0, locals := 136 } : Room) 0 0 D (ds_ty cA) (fun q => ds_A ad nb q ∨ q = oa) [.ref (ad 0 0), .int x0, .int x1, .int x2, .ref oa] (fun H => ds_P D ad cA nb S H ∧ lw_out D cA oa v H) (fun (sz9 : Nat) (r : Int32) (u : ds_S × Int64) => r = 0 ∧ ∃ r9 z9, sz9 ≤ z9 ∧ post r9 u.1 ∧ u.2 = r9.toInt64) (fun (u : ds_S × Int64) H => ds_P D ad cA nb u.1 H ∧ lw_out D cA oa u.2 H) := by
  intro sz
  refine lh_of (by decide) (Nat.le_of_ble_eq_true rfl) ?_
  intro p e s m args below meth c hsz C hr hlk htab hK hZ hN
  refine aw_lv (lv' := [(0, .ref (ad 0 0)), (1, .int x0), (2, .int x1), (3, .int x2), (4, .ref oa)]) [0, 1, 2, 3, 4] rfl ?_
  refine aw_aload C d_La_gap_0 (j := 4) rfl ?_
  refine aw_iconst (v := 0) C d_La_gap_2 (by decide) ?_
  refine aw_aload_n C d_La_gap_3 rfl (j := 0) rfl ?_
  refine aw_iload_n C d_La_gap_4 rfl (j := 1) rfl ?_
  refine aw_iload_n C d_La_gap_5 rfl (j := 2) rfl ?_
  refine aw_iload_n C d_La_gap_6 rfl (j := 3) rfl ?_
  refine aw_callVi (P9 := fun r u H => ds_P D ad cA nb u H ∧ lw_out D cA oa v H) [.int x0, .int x1, .int x2] C hK hc (cw_La_De_gap C.2.2.2.2 rfl rfl (by decide)) rfl (fun H h => aw_recv hK rfl (h.1 0 0 rfl)) (fun H h => h.1) (fun q h => Or.inl (Or.inl h)) (fun q h => Or.inr (by rw [← hsz]; exact h)) rfl (Nat.le_of_ble_eq_true rfl) d_La_gap_7 (by decide) (fun H H1 r u h _ hB _ hk => ⟨hB, h.2.kept (hk oa h.2.lt (fun ⟨k, i, hd, e⟩ => hoa k i hd e.symm))⟩) ?_
  intro r9 u9 hp9
  refine aw_i2l (v := r9.toInt64) C d_La_gap_10 rfl ?_
  refine aw_last (P' := fun H => ds_P D ad cA nb u9 H ∧ lw_out D cA oa r9.toInt64 H) C hK 6 rfl (Or.inl (Or.inr rfl)) (fun H h => h.2) (ix_in (k := 0) rfl (by decide) (by decide)).1 d_La_gap_11 (fun H H1 h ha hz hq => ⟨fun k i hd => (h.1 k i hd).kept (hq _ (hoa k i hd)), cx_arrL (fun j hj => by obtain rfl : j = 0 := (by omega); exact if_pos rfl) ha⟩) ?_
  refine aw_goto (tgt := 19) C d_La_gap_12 (by decide) ?_
  refine aw_iconst (v := 0) C d_La_gap_19 (by decide) ?_
  exact aw_iret (post := (fun (sz9 : Nat) (r : Int32) (u : ds_S × Int64) => r = 0 ∧ ∃ r9 z9, sz9 ≤ z9 ∧ post r9 u.1 ∧ u.2 = r9.toInt64) sz) (B := (fun (u : ds_S × Int64) H => ds_P D ad cA nb u.1 H ∧ lw_out D cA oa u.2 H)) C hr hlk (u9, r9.toInt64) ⟨rfl, r9, sz, Nat.le_refl sz, hp9, rfl⟩ (fun H h => h) d_La_gap_20
set_option maxHeartbeats 4000000 in
set_option maxRecDepth 100000 in
theorem q_La_gap_Ia (l : Launch) (D : va_G) (ad : Nat → Nat → Nat) (cA : Nat → ClassId) (nb : Nat) (S : ds_S) (oa : Nat) (x0 x1 x2 : Int32) (hc : Ct_t l y_De_gap b_De_gap 5 (some .int) ({ frames := 7, cells := 1, slots := 6, locals := 112 } : Room) 1 6 D (ds_ty cA) [.ref (ad 0 0), .int x0, .int x1, .int x2] (ds_P D ad cA nb S) R_Ia) : Lh l y_La_gap b_La_gap 6 (some .int) [(0, 12, 15, 22)] ({ frames := 8, cells := 1, slots := 6, locals := 136 } : Room) 1 6 D (ds_ty cA) (fun _ => False) [.ref (ad 0 0), .int x0, .int x1, .int x2, .ref oa] (ds_P D ad cA nb S) (fun (_ : Nat) (r : Int32) (_ : Unit) => r = 1) (fun (_ : Unit) (_ : Heap) => True) := by
  intro sz
  refine lh_of (by decide) (Nat.le_of_ble_eq_true rfl) ?_
  intro p e s m args below meth c hsz C hr hlk htab hK hZ hN
  refine aw_lv (lv' := [(0, .ref (ad 0 0)), (1, .int x0), (2, .int x1), (3, .int x2), (4, .ref oa)]) [0, 1, 2, 3, 4] rfl ?_
  refine aw_aload C d_La_gap_0 (j := 4) rfl ?_
  refine aw_iconst (v := 0) C d_La_gap_2 (by decide) ?_
  refine aw_aload_n C d_La_gap_3 rfl (j := 0) rfl ?_
  refine aw_iload_n C d_La_gap_4 rfl (j := 1) rfl ?_
  refine aw_iload_n C d_La_gap_5 rfl (j := 2) rfl ?_
  refine aw_iload_n C d_La_gap_6 rfl (j := 3) rfl ?_
  refine aw_callVC (P9 := fun _ => True) (h9 := 15) [.int x0, .int x1, .int x2] C hK hZ hc (cw_La_De_gap C.2.2.2.2 rfl rfl (by decide)) rfl (fun H h => aw_recv hK rfl (h 0 0 rfl)) (fun H h => h) (fun q h hA => hA.elim id (fun h2 => by omega)) (fun q h => Or.inr (by rw [← hsz]; exact h)) rfl (Nat.le_of_ble_eq_true rfl) d_La_gap_7 (by decide) (fun _ _ _ _ _ => trivial) (tc_first (own := R_La) (E := R_Ia) C.2.2.2.1 (C.2.2.2.2 _ cl_La_Ia) (C.2.2.2.2 _ nx_Ia) htab (by decide) (by decide) (by decide)) ?_
  intro q9
  refine aw_astore (i := 5) (lv' := [(5, .ref q9), (0, .ref (ad 0 0)), (1, .int x0), (2, .int x1), (3, .int x2), (4, .ref oa)]) C d_La_gap_15 (by decide) rfl ?_
  refine aw_iconst (v := 1) C d_La_gap_17 (by decide) ?_
  exact aw_iret (post := (fun (_ : Nat) (r : Int32) (_ : Unit) => r = 1) sz) (B := (fun (_ : Unit) (_ : Heap) => True)) C hr hlk () rfl (fun H h => trivial) d_La_gap_18
