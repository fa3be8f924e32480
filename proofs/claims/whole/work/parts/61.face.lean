set_option maxHeartbeats 4000000 in
set_option maxRecDepth 100000 in
theorem c_De_desk (l : Launch) (D : va_G) (ad : Nat → Nat → Nat) (cA : Nat → ClassId) (nb : Nat) (S : ds_S) (hI : ds_I ad nb) (h0 : S.1 0 0 0 < 14) : Ct_i l y_De_desk b_De_desk 1 (some .int) ({ frames := 6, cells := 0, slots := 0, locals := 91 } : Room) 0 0 D (ds_ty cA) (ds_A ad nb) [.ref (ad 0 0)] (ds_P D ad cA nb S) (fun (r : Int32) (u : ds_S) => u = ds_wI (ds_wI S 4 0 0 0) 0 0 0 (S.1 0 0 0 + 1) ∧ r = S.1 0 0 0 + 1 - 1) (ds_P D ad cA nb) := by
  intro sz
  refine ct_of (by decide) (Nat.le_of_ble_eq_true rfl) ?_
  intro p e s m args below meth c hsz C hr hlk hnm hK
  refine aw_lv (lv' := [(0, .ref (ad 0 0))]) [0] rfl ?_
  refine aw_aload_n C d_De_desk_0 rfl (j := 0) rfl ?_
  refine gt_De_De_deskCount C hK  d_De_desk_1 ?_
  refine aw_bipush (v := 14) C d_De_desk_4 (by decide) ?_
  refine aw_icmp_lt (tgt := 19) C d_De_desk_6 (by decide) (fun c_6 => ?_) (fun c_6 => ?_)
  · refine aw_aload_n C d_De_desk_19 rfl (j := 0) rfl ?_
    refine aw_iconst (v := 0) C d_De_desk_20 (by decide) ?_
    refine pt_De_De_seatingMade (x := 0) C hK hI  (Or.inl rfl) d_De_desk_21 ?_
    refine aw_aload_n C d_De_desk_24 rfl (j := 0) rfl ?_
    refine aw_dup C d_De_desk_25 rfl ?_
    refine gt_De_De_deskCount C hK  d_De_desk_26 ?_
    refine aw_iconst (v := 1) C d_De_desk_29 (by decide) ?_
    refine aw_iadd C d_De_desk_30 ?_
    refine pt_De_De_deskCount (x := ((((ds_wI S 4 0 0 0).1 0 0 0)) + 1)) C hK hI   d_De_desk_31 ?_
    refine aw_aload_n C d_De_desk_34 rfl (j := 0) rfl ?_
    refine gt_De_De_deskCount C hK  d_De_desk_35 ?_
    refine aw_iconst (v := 1) C d_De_desk_38 (by decide) ?_
    refine aw_isub C d_De_desk_39 ?_
    exact aw_iret C hr hlk _ ⟨rfl, rfl⟩ (fun H h => h) d_De_desk_40
  · exact absurd h0 c_6
set_option maxHeartbeats 4000000 in
set_option maxRecDepth 100000 in
theorem t_De_desk (l : Launch) (D : va_G) (ad : Nat → Nat → Nat) (cA : Nat → ClassId) (nb : Nat) (S : ds_S) (hl : l.stackTraces = false) (h0 : ¬ S.1 0 0 0 < 14) : Ct_t l y_De_desk b_De_desk 1 (some .int) ({ frames := 6, cells := 1, slots := 6, locals := 91 } : Room) 1 6 D (ds_ty cA) [.ref (ad 0 0)] (ds_P D ad cA nb S) R_Is := by
  intro sz
  refine th_of (by decide) (Nat.le_of_ble_eq_true rfl) ?_
  intro p e s m args below meth c hsz C hlk hno hK hZ
  refine aw_lv (lv' := [(0, .ref (ad 0 0))]) [0] rfl ?_
  refine aw_aload_n C d_De_desk_0 rfl (j := 0) rfl ?_
  refine gt_De_De_deskCount C hK  d_De_desk_1 ?_
  refine aw_bipush (v := 14) C d_De_desk_4 (by decide) ?_
  refine aw_icmp_lt (tgt := 19) C d_De_desk_6 (by decide) (fun c_6 => ?_) (fun c_6 => ?_)
  · exact absurd c_6 h0
  · exact aw_throw C hl hZ hno hlk bf_Is cl_De_Is ii_Is nx_Is oa_Is sr_51 d_De_desk_9 d_De_desk_12 d_De_desk_13 d_De_desk_15 d_De_desk_18 (by decide) (by decide) (by decide) (by decide) (by decide) (by decide)
set_option maxHeartbeats 4000000 in
set_option maxRecDepth 100000 in
theorem c_De_person (l : Launch) (D : va_G) (ad : Nat → Nat → Nat) (cA : Nat → ClassId) (nb : Nat) (S : ds_S) (hI : ds_I ad nb) (h0 : S.1 1 0 0 < 10) : Ct_i l y_De_person b_De_person 1 (some .int) ({ frames := 6, cells := 0, slots := 0, locals := 91 } : Room) 0 0 D (ds_ty cA) (ds_A ad nb) [.ref (ad 0 0)] (ds_P D ad cA nb S) (fun (r : Int32) (u : ds_S) => u = ds_wI (ds_wI S 4 0 0 0) 1 0 0 (S.1 1 0 0 + 1) ∧ r = S.1 1 0 0 + 1 - 1) (ds_P D ad cA nb) := by
  intro sz
  refine ct_of (by decide) (Nat.le_of_ble_eq_true rfl) ?_
  intro p e s m args below meth c hsz C hr hlk hnm hK
  refine aw_lv (lv' := [(0, .ref (ad 0 0))]) [0] rfl ?_
  refine aw_aload_n C d_De_person_0 rfl (j := 0) rfl ?_
  refine gt_De_De_personCount C hK  d_De_person_1 ?_
  refine aw_bipush (v := 10) C d_De_person_4 (by decide) ?_
  refine aw_icmp_lt (tgt := 19) C d_De_person_6 (by decide) (fun c_6 => ?_) (fun c_6 => ?_)
  · refine aw_aload_n C d_De_person_19 rfl (j := 0) rfl ?_
    refine aw_iconst (v := 0) C d_De_person_20 (by decide) ?_
    refine pt_De_De_seatingMade (x := 0) C hK hI  (Or.inl rfl) d_De_person_21 ?_
    refine aw_aload_n C d_De_person_24 rfl (j := 0) rfl ?_
    refine aw_dup C d_De_person_25 rfl ?_
    refine gt_De_De_personCount C hK  d_De_person_26 ?_
    refine aw_iconst (v := 1) C d_De_person_29 (by decide) ?_
    refine aw_iadd C d_De_person_30 ?_
    refine pt_De_De_personCount (x := ((((ds_wI S 4 0 0 0).1 1 0 0)) + 1)) C hK hI   d_De_person_31 ?_
    refine aw_aload_n C d_De_person_34 rfl (j := 0) rfl ?_
    refine gt_De_De_personCount C hK  d_De_person_35 ?_
    refine aw_iconst (v := 1) C d_De_person_38 (by decide) ?_
    refine aw_isub C d_De_person_39 ?_
    exact aw_iret C hr hlk _ ⟨rfl, rfl⟩ (fun H h => h) d_De_person_40
  · exact absurd h0 c_6
set_option maxHeartbeats 4000000 in
set_option maxRecDepth 100000 in
theorem t_De_person (l : Launch) (D : va_G) (ad : Nat → Nat → Nat) (cA : Nat → ClassId) (nb : Nat) (S : ds_S) (hl : l.stackTraces = false) (h0 : ¬ S.1 1 0 0 < 10) : Ct_t l y_De_person b_De_person 1 (some .int) ({ frames := 6, cells := 1, slots := 6, locals := 91 } : Room) 1 6 D (ds_ty cA) [.ref (ad 0 0)] (ds_P D ad cA nb S) R_Is := by
  intro sz
  refine th_of (by decide) (Nat.le_of_ble_eq_true rfl) ?_
  intro p e s m args below meth c hsz C hlk hno hK hZ
  refine aw_lv (lv' := [(0, .ref (ad 0 0))]) [0] rfl ?_
  refine aw_aload_n C d_De_person_0 rfl (j := 0) rfl ?_
  refine gt_De_De_personCount C hK  d_De_person_1 ?_
  refine aw_bipush (v := 10) C d_De_person_4 (by decide) ?_
  refine aw_icmp_lt (tgt := 19) C d_De_person_6 (by decide) (fun c_6 => ?_) (fun c_6 => ?_)
  · exact absurd c_6 h0
  · exact aw_throw C hl hZ hno hlk bf_Is cl_De_Is ii_Is nx_Is oa_Is sr_63 d_De_person_9 d_De_person_12 d_De_person_13 d_De_person_15 d_De_person_18 (by decide) (by decide) (by decide) (by decide) (by decide) (by decide)
set_option maxHeartbeats 4000000 in
set_option maxRecDepth 100000 in
theorem c_De_wish (l : Launch) (D : va_G) (ad : Nat → Nat → Nat) (cA : Nat → ClassId) (nb : Nat) (S : ds_S) (p9 d9 : Nat) (w9 : Int32) (hI : ds_I ad nb) (hp : p9 < 10) (hd : d9 < 14) (h1 : (¬ nI p9 < 0 ∧ nI p9 < S.1 1 0 0)) (h2 : (¬ nI d9 < 0 ∧ nI d9 < S.1 0 0 0)) (h3 : ¬ w9 < 0 ∧ w9 ≤ 1000) : Ct_i l y_De_wish b_De_wish 5 (some .int) ({ frames := 7, cells := 0, slots := 0, locals := 112 } : Room) 0 0 D (ds_ty cA) (ds_A ad nb) [.ref (ad 0 0), .int (nI p9), .int (nI d9), .int w9] (ds_P D ad cA nb S) (fun (r : Int32) (u : ds_S) => u = ds_wI (ds_wI S 10 p9 d9 w9) 4 0 0 0 ∧ r = S.1 10 p9 d9) (ds_P D ad cA nb) := by
  intro sz
  refine ct_of (by decide) (Nat.le_of_ble_eq_true rfl) ?_
  intro p e s m args below meth c hsz C hr hlk hnm hK
  refine aw_lv (lv' := [(0, .ref (ad 0 0)), (1, .int (nI p9)), (2, .int (nI d9)), (3, .int w9)]) [0, 1, 2, 3] rfl ?_
  refine aw_aload_n C d_De_wish_0 rfl (j := 0) rfl ?_
  refine aw_iload_n C d_De_wish_1 rfl (j := 1) rfl ?_
  refine aw_callVv (P9 := fun u => ds_P D ad cA nb u) [.int (nI p9)] C hK (c_De_checkPerson l D ad cA nb S (nI p9) h1) (cw_De_De_checkPerson C.2.2.2.2 rfl rfl (by decide)) rfl (fun H h => aw_recv hK rfl (h 0 0 rfl)) (fun H h => h) (fun q h => h.elim) (fun q h => Or.inr (by rw [← hsz]; exact h)) rfl (Nat.le_of_ble_eq_true rfl) d_De_wish_2 (by decide) (fun H H1 u _ _ hB _ _ => hB) ?_
  rintro u rfl
  refine aw_aload_n C d_De_wish_5 rfl (j := 0) rfl ?_
  refine aw_iload_n C d_De_wish_6 rfl (j := 2) rfl ?_
  refine aw_callVv (P9 := fun u => ds_P D ad cA nb u) [.int (nI d9)] C hK (c_De_checkDesk l D ad cA nb S (nI d9) h2) (cw_De_De_checkDesk C.2.2.2.2 rfl rfl (by decide)) rfl (fun H h => aw_recv hK rfl (h 0 0 rfl)) (fun H h => h) (fun q h => h.elim) (fun q h => Or.inr (by rw [← hsz]; exact h)) rfl (Nat.le_of_ble_eq_true rfl) d_De_wish_7 (by decide) (fun H H1 u _ _ hB _ _ => hB) ?_
  rintro u rfl
  refine aw_iload_n C d_De_wish_10 rfl (j := 3) rfl ?_
  refine aw_if_lt (tgt := 21) C d_De_wish_11 (by decide) (fun c_11 => ?_) (fun c_11 => ?_)
  · exact absurd c_11 h3.1
  · refine aw_iload_n C d_De_wish_14 rfl (j := 3) rfl ?_
    refine aw_sipush (v := 1000) C d_De_wish_15 (by decide) ?_
    refine aw_icmp_le (tgt := 31) C d_De_wish_18 (by decide) (fun c_18 => ?_) (fun c_18 => ?_)
    · refine aw_aload_n C d_De_wish_31 rfl (j := 0) rfl ?_
      refine gt_De_De_persons C hK  d_De_wish_32 ?_
      refine aw_iload_n C d_De_wish_35 rfl (j := 1) rfl ?_
      refine al_1 C hK  p9 rfl hp d_De_wish_36 ?_
      refine gt_De_Pe_wishes C hK hp d_De_wish_37 ?_
      refine aw_iload_n C d_De_wish_40 rfl (j := 2) rfl ?_
      refine al_11 C hK hp d9 rfl hd d_De_wish_41 ?_
      refine aw_istore (i := 4) (lv' := [(4, .int (S.1 10 p9 d9)), (0, .ref (ad 0 0)), (1, .int (nI p9)), (2, .int (nI d9)), (3, .int w9)]) C d_De_wish_42 (by decide) rfl ?_
      refine aw_aload_n C d_De_wish_44 rfl (j := 1) rfl ?_
      refine gt_De_De_persons C hK  d_De_wish_45 ?_
      refine aw_iload_n C d_De_wish_48 rfl (j := 2) rfl ?_
      refine al_1 C hK  p9 rfl hp d_De_wish_49 ?_
      refine gt_De_Pe_wishes C hK hp d_De_wish_50 ?_
      refine aw_iload_n C d_De_wish_53 rfl (j := 3) rfl ?_
      refine aw_iload_n C d_De_wish_54 rfl (j := 4) rfl ?_
      refine as_11 C hK hI hp  d9 rfl hd d_De_wish_55 ?_
      refine aw_aload_n C d_De_wish_56 rfl (j := 1) rfl ?_
      refine aw_iconst (v := 0) C d_De_wish_57 (by decide) ?_
      refine pt_De_De_seatingMade (x := 0) C hK hI  (Or.inl rfl) d_De_wish_58 ?_
      refine aw_iload C d_De_wish_61 (j := 0) rfl ?_
      exact aw_iret C hr hlk _ ⟨rfl, rfl⟩ (fun H h => h) d_De_wish_63
    · exact absurd h3.2 c_18
set_option maxHeartbeats 4000000 in
set_option maxRecDepth 100000 in
theorem t_De_wish1 (l : Launch) (D : va_G) (ad : Nat → Nat → Nat) (cA : Nat → ClassId) (nb : Nat) (S : ds_S) (hl : l.stackTraces = false) (x y w9 : Int32) (h1 : ¬ (¬ x < 0 ∧ x < S.1 1 0 0)) : Ct_t l y_De_wish b_De_wish 5 (some .int) ({ frames := 7, cells := 1, slots := 6, locals := 112 } : Room) 1 6 D (ds_ty cA) [.ref (ad 0 0), .int x, .int y, .int w9] (ds_P D ad cA nb S) R_Ia := by
  intro sz
  refine th_of (by decide) (Nat.le_of_ble_eq_true rfl) ?_
  intro p e s m args below meth c hsz C hlk hno hK hZ
  refine aw_lv (lv' := [(0, .ref (ad 0 0)), (1, .int x), (2, .int y), (3, .int w9)]) [0, 1, 2, 3] rfl ?_
  refine aw_aload_n C d_De_wish_0 rfl (j := 0) rfl ?_
  refine aw_iload_n C d_De_wish_1 rfl (j := 1) rfl ?_
  exact aw_callVT [.int x] C hK hZ hno hlk (t_De_checkPerson l D ad cA nb S hl (x) h1) (cw_De_De_checkPerson C.2.2.2.2 rfl rfl (by decide)) rfl (fun H h => aw_recv hK rfl (h 0 0 rfl)) (fun H h => h) rfl (Nat.le_of_ble_eq_true rfl) d_De_wish_2 (by decide) (by decide) (by decide)
set_option maxHeartbeats 4000000 in
set_option maxRecDepth 100000 in
theorem t_De_wish2 (l : Launch) (D : va_G) (ad : Nat → Nat → Nat) (cA : Nat → ClassId) (nb : Nat) (S : ds_S) (hl : l.stackTraces = false) (x y w9 : Int32) (h1 : (¬ x < 0 ∧ x < S.1 1 0 0)) (h2 : ¬ (¬ y < 0 ∧ y < S.1 0 0 0)) : Ct_t l y_De_wish b_De_wish 5 (some .int) ({ frames := 7, cells := 1, slots := 6, locals := 112 } : Room) 1 6 D (ds_ty cA) [.ref (ad 0 0), .int x, .int y, .int w9] (ds_P D ad cA nb S) R_Ia := by
  intro sz
  refine th_of (by decide) (Nat.le_of_ble_eq_true rfl) ?_
  intro p e s m args below meth c hsz C hlk hno hK hZ
  refine aw_lv (lv' := [(0, .ref (ad 0 0)), (1, .int x), (2, .int y), (3, .int w9)]) [0, 1, 2, 3] rfl ?_
  refine aw_aload_n C d_De_wish_0 rfl (j := 0) rfl ?_
  refine aw_iload_n C d_De_wish_1 rfl (j := 1) rfl ?_
  refine aw_callVv (P9 := fun u => ds_P D ad cA nb u) [.int x] C hK (c_De_checkPerson l D ad cA nb S (x) h1) (cw_De_De_checkPerson C.2.2.2.2 rfl rfl (by decide)) rfl (fun H h => aw_recv hK rfl (h 0 0 rfl)) (fun H h => h) (fun q h => h.elim) (fun q h => h) rfl (Nat.le_of_ble_eq_true rfl) d_De_wish_2 (by decide) (fun H H1 u _ _ hB _ _ => hB) ?_
  rintro u rfl
  refine aw_aload_n C d_De_wish_5 rfl (j := 0) rfl ?_
  refine aw_iload_n C d_De_wish_6 rfl (j := 2) rfl ?_
  exact aw_callVT [.int y] C hK hZ hno hlk (t_De_checkDesk l D ad cA nb S hl (y) h2) (cw_De_De_checkDesk C.2.2.2.2 rfl rfl (by decide)) rfl (fun H h => aw_recv hK rfl (h 0 0 rfl)) (fun H h => h) rfl (Nat.le_of_ble_eq_true rfl) d_De_wish_7 (by decide) (by decide) (by decide)
set_option maxHeartbeats 4000000 in
set_option maxRecDepth 100000 in
theorem t_De_wish3 (l : Launch) (D : va_G) (ad : Nat → Nat → Nat) (cA : Nat → ClassId) (nb : Nat) (S : ds_S) (hl : l.stackTraces = false) (x y w9 : Int32) (h1 : (¬ x < 0 ∧ x < S.1 1 0 0)) (h2 : (¬ y < 0 ∧ y < S.1 0 0 0)) (h3 : ¬ (¬ w9 < 0 ∧ w9 ≤ 1000)) : Ct_t l y_De_wish b_De_wish 5 (some .int) ({ frames := 7, cells := 1, slots := 6, locals := 112 } : Room) 1 6 D (ds_ty cA) [.ref (ad 0 0), .int x, .int y, .int w9] (ds_P D ad cA nb S) R_Ia := by
  intro sz
  refine th_of (by decide) (Nat.le_of_ble_eq_true rfl) ?_
  intro p e s m args below meth c hsz C hlk hno hK hZ
  refine aw_lv (lv' := [(0, .ref (ad 0 0)), (1, .int x), (2, .int y), (3, .int w9)]) [0, 1, 2, 3] rfl ?_
  refine aw_aload_n C d_De_wish_0 rfl (j := 0) rfl ?_
  refine aw_iload_n C d_De_wish_1 rfl (j := 1) rfl ?_
  refine aw_callVv (P9 := fun u => ds_P D ad cA nb u) [.int x] C hK (c_De_checkPerson l D ad cA nb S (x) h1) (cw_De_De_checkPerson C.2.2.2.2 rfl rfl (by decide)) rfl (fun H h => aw_recv hK rfl (h 0 0 rfl)) (fun H h => h) (fun q h => h.elim) (fun q h => h) rfl (Nat.le_of_ble_eq_true rfl) d_De_wish_2 (by decide) (fun H H1 u _ _ hB _ _ => hB) ?_
  rintro u rfl
  refine aw_aload_n C d_De_wish_5 rfl (j := 0) rfl ?_
  refine aw_iload_n C d_De_wish_6 rfl (j := 2) rfl ?_
  refine aw_callVv (P9 := fun u => ds_P D ad cA nb u) [.int y] C hK (c_De_checkDesk l D ad cA nb S (y) h2) (cw_De_De_checkDesk C.2.2.2.2 rfl rfl (by decide)) rfl (fun H h => aw_recv hK rfl (h 0 0 rfl)) (fun H h => h) (fun q h => h.elim) (fun q h => h) rfl (Nat.le_of_ble_eq_true rfl) d_De_wish_7 (by decide) (fun H H1 u _ _ hB _ _ => hB) ?_
  rintro u rfl
  refine aw_iload_n C d_De_wish_10 rfl (j := 3) rfl ?_
  refine aw_if_lt (tgt := 21) C d_De_wish_11 (by decide) (fun c_11 => ?_) (fun c_11 => ?_)
  · exact aw_throw C hl hZ hno hlk bf_Ia cl_De_Ia ii_Ia nx_Ia oa_Ia sr_73 d_De_wish_21 d_De_wish_24 d_De_wish_25 d_De_wish_27 d_De_wish_30 (by decide) (by decide) (by decide) (by decide) (by decide) (by decide)
  · refine aw_iload_n C d_De_wish_14 rfl (j := 3) rfl ?_
    refine aw_sipush (v := 1000) C d_De_wish_15 (by decide) ?_
    refine aw_icmp_le (tgt := 31) C d_De_wish_18 (by decide) (fun c_18 => ?_) (fun c_18 => ?_)
    · exact absurd ⟨c_11, c_18⟩ h3
    · exact aw_throw C hl hZ hno hlk bf_Ia cl_De_Ia ii_Ia nx_Ia oa_Ia sr_73 d_De_wish_21 d_De_wish_24 d_De_wish_25 d_De_wish_27 d_De_wish_30 (by decide) (by decide) (by decide) (by decide) (by decide) (by decide)
set_option maxHeartbeats 4000000 in
set_option maxRecDepth 100000 in
theorem c_De_bar (l : Launch) (D : va_G) (ad : Nat → Nat → Nat) (cA : Nat → ClassId) (nb : Nat) (S : ds_S) (p9 d9 : Nat) (w9 : Int32) (hI : ds_I ad nb) (hp : p9 < 10) (hd : d9 < 14) (hz : w9 = 0 ∨ w9 = 1) (hz0 : S.1 11 p9 d9 = 0 ∨ S.1 11 p9 d9 = 1) (h1 : (¬ nI p9 < 0 ∧ nI p9 < S.1 1 0 0)) (h2 : (¬ nI d9 < 0 ∧ nI d9 < S.1 0 0 0)) : Ct_i l y_De_bar b_De_bar 5 (some .boolean) ({ frames := 7, cells := 0, slots := 0, locals := 112 } : Room) 0 0 D (ds_ty cA) (ds_A ad nb) [.ref (ad 0 0), .int (nI p9), .int (nI d9), .int w9] (ds_P D ad cA nb S) (fun (r : Int32) (u : ds_S) => u = ds_wI (ds_wI S 11 p9 d9 w9) 4 0 0 0 ∧ r = S.1 11 p9 d9) (ds_P D ad cA nb) := by
  intro sz
  refine ct_of (by decide) (Nat.le_of_ble_eq_true rfl) ?_
  intro p e s m args below meth c hsz C hr hlk hnm hK
  refine aw_lv (lv' := [(0, .ref (ad 0 0)), (1, .int (nI p9)), (2, .int (nI d9)), (3, .int w9)]) [0, 1, 2, 3] rfl ?_
  refine aw_aload_n C d_De_bar_0 rfl (j := 0) rfl ?_
  refine aw_iload_n C d_De_bar_1 rfl (j := 1) rfl ?_
  refine aw_callVv (P9 := fun u => ds_P D ad cA nb u) [.int (nI p9)] C hK (c_De_checkPerson l D ad cA nb S (nI p9) h1) (cw_De_De_checkPerson C.2.2.2.2 rfl rfl (by decide)) rfl (fun H h => aw_recv hK rfl (h 0 0 rfl)) (fun H h => h) (fun q h => h.elim) (fun q h => Or.inr (by rw [← hsz]; exact h)) rfl (Nat.le_of_ble_eq_true rfl) d_De_bar_2 (by decide) (fun H H1 u _ _ hB _ _ => hB) ?_
  rintro u rfl
  refine aw_aload_n C d_De_bar_5 rfl (j := 0) rfl ?_
  refine aw_iload_n C d_De_bar_6 rfl (j := 2) rfl ?_
  refine aw_callVv (P9 := fun u => ds_P D ad cA nb u) [.int (nI d9)] C hK (c_De_checkDesk l D ad cA nb S (nI d9) h2) (cw_De_De_checkDesk C.2.2.2.2 rfl rfl (by decide)) rfl (fun H h => aw_recv hK rfl (h 0 0 rfl)) (fun H h => h) (fun q h => h.elim) (fun q h => Or.inr (by rw [← hsz]; exact h)) rfl (Nat.le_of_ble_eq_true rfl) d_De_bar_7 (by decide) (fun H H1 u _ _ hB _ _ => hB) ?_
  rintro u rfl
  refine aw_aload_n C d_De_bar_10 rfl (j := 0) rfl ?_
  refine gt_De_De_persons C hK  d_De_bar_11 ?_
  refine aw_iload_n C d_De_bar_14 rfl (j := 1) rfl ?_
  refine al_1 C hK  p9 rfl hp d_De_bar_15 ?_
  refine gt_De_Pe_barred C hK hp d_De_bar_16 ?_
  refine aw_iload_n C d_De_bar_19 rfl (j := 2) rfl ?_
  refine al_12 C hK hp d9 rfl hd d_De_bar_20 ?_
  refine aw_istore (i := 4) (lv' := [(4, .int (S.1 11 p9 d9)), (0, .ref (ad 0 0)), (1, .int (nI p9)), (2, .int (nI d9)), (3, .int w9)]) C d_De_bar_21 (by decide) rfl ?_
  refine aw_aload_n C d_De_bar_23 rfl (j := 1) rfl ?_
  refine gt_De_De_persons C hK  d_De_bar_24 ?_
  refine aw_iload_n C d_De_bar_27 rfl (j := 2) rfl ?_
  refine al_1 C hK  p9 rfl hp d_De_bar_28 ?_
  refine gt_De_Pe_barred C hK hp d_De_bar_29 ?_
  refine aw_iload_n C d_De_bar_32 rfl (j := 3) rfl ?_
  refine aw_iload_n C d_De_bar_33 rfl (j := 4) rfl ?_
  refine as_12 C hK hI hp hz d9 rfl hd d_De_bar_34 ?_
  refine aw_aload_n C d_De_bar_35 rfl (j := 1) rfl ?_
  refine aw_iconst (v := 0) C d_De_bar_36 (by decide) ?_
  refine pt_De_De_seatingMade (x := 0) C hK hI  (Or.inl rfl) d_De_bar_37 ?_
  refine aw_iload C d_De_bar_40 (j := 0) rfl ?_
  exact aw_zret C hr hlk (nr_z hz0).1 _ ⟨rfl, rfl⟩ (fun H h => h) d_De_bar_42
set_option maxHeartbeats 4000000 in
set_option maxRecDepth 100000 in
theorem t_De_bar1 (l : Launch) (D : va_G) (ad : Nat → Nat → Nat) (cA : Nat → ClassId) (nb : Nat) (S : ds_S) (hl : l.stackTraces = false) (x y w9 : Int32) (h1 : ¬ (¬ x < 0 ∧ x < S.1 1 0 0)) : Ct_t l y_De_bar b_De_bar 5 (some .boolean) ({ frames := 7, cells := 1, slots := 6, locals := 112 } : Room) 1 6 D (ds_ty cA) [.ref (ad 0 0), .int x, .int y, .int w9] (ds_P D ad cA nb S) R_Ia := by
  intro sz
  refine th_of (by decide) (Nat.le_of_ble_eq_true rfl) ?_
  intro p e s m args below meth c hsz C hlk hno hK hZ
  refine aw_lv (lv' := [(0, .ref (ad 0 0)), (1, .int x), (2, .int y), (3, .int w9)]) [0, 1, 2, 3] rfl ?_
  refine aw_aload_n C d_De_bar_0 rfl (j := 0) rfl ?_
  refine aw_iload_n C d_De_bar_1 rfl (j := 1) rfl ?_
  exact aw_callVT [.int x] C hK hZ hno hlk (t_De_checkPerson l D ad cA nb S hl (x) h1) (cw_De_De_checkPerson C.2.2.2.2 rfl rfl (by decide)) rfl (fun H h => aw_recv hK rfl (h 0 0 rfl)) (fun H h => h) rfl (Nat.le_of_ble_eq_true rfl) d_De_bar_2 (by decide) (by decide) (by decide)
set_option maxHeartbeats 4000000 in
set_option maxRecDepth 100000 in
theorem t_De_bar2 (l : Launch) (D : va_G) (ad : Nat → Nat → Nat) (cA : Nat → ClassId) (nb : Nat) (S : ds_S) (hl : l.stackTraces = false) (x y w9 : Int32) (h1 : (¬ x < 0 ∧ x < S.1 1 0 0)) (h2 : ¬ (¬ y < 0 ∧ y < S.1 0 0 0)) : Ct_t l y_De_bar b_De_bar 5 (some .boolean) ({ frames := 7, cells := 1, slots := 6, locals := 112 } : Room) 1 6 D (ds_ty cA) [.ref (ad 0 0), .int x, .int y, .int w9] (ds_P D ad cA nb S) R_Ia := by
  intro sz
  refine th_of (by decide) (Nat.le_of_ble_eq_true rfl) ?_
  intro p e s m args below meth c hsz C hlk hno hK hZ
  refine aw_lv (lv' := [(0, .ref (ad 0 0)), (1, .int x), (2, .int y), (3, .int w9)]) [0, 1, 2, 3] rfl ?_
  refine aw_aload_n C d_De_bar_0 rfl (j := 0) rfl ?_
  refine aw_iload_n C d_De_bar_1 rfl (j := 1) rfl ?_
  refine aw_callVv (P9 := fun u => ds_P D ad cA nb u) [.int x] C hK (c_De_checkPerson l D ad cA nb S (x) h1) (cw_De_De_checkPerson C.2.2.2.2 rfl rfl (by decide)) rfl (fun H h => aw_recv hK rfl (h 0 0 rfl)) (fun H h => h) (fun q h => h.elim) (fun q h => h) rfl (Nat.le_of_ble_eq_true rfl) d_De_bar_2 (by decide) (fun H H1 u _ _ hB _ _ => hB) ?_
  rintro u rfl
  refine aw_aload_n C d_De_bar_5 rfl (j := 0) rfl ?_
  refine aw_iload_n C d_De_bar_6 rfl (j := 2) rfl ?_
  exact aw_callVT [.int y] C hK hZ hno hlk (t_De_checkDesk l D ad cA nb S hl (y) h2) (cw_De_De_checkDesk C.2.2.2.2 rfl rfl (by decide)) rfl (fun H h => aw_recv hK rfl (h 0 0 rfl)) (fun H h => h) rfl (Nat.le_of_ble_eq_true rfl) d_De_bar_7 (by decide) (by decide) (by decide)
set_option maxHeartbeats 4000000 in
set_option maxRecDepth 100000 in
theorem c_De_sits (l : Launch) (D : va_G) (ad : Nat → Nat → Nat) (cA : Nat → ClassId) (nb : Nat) (S : ds_S) (p9 : Nat) (y : Int32) (hI : ds_I ad nb) (hp : p9 < 10) (h1 : (¬ nI p9 < 0 ∧ nI p9 < S.1 1 0 0)) (M : Nat) (hM : S.1 1 0 0 = nI M) (hM9 : M ≤ 10) (h2 : y = -1 ∨ ((¬ y < 0 ∧ y < S.1 0 0 0) ∧ ∀ q, q < M → ¬ nI q = nI p9 → ¬ S.1 12 q 0 = y)) : Ct_i l y_De_sits b_De_sits 4 (some .int) ({ frames := 7, cells := 0, slots := 0, locals := 114 } : Room) 0 0 D (ds_ty cA) (ds_A ad nb) [.ref (ad 0 0), .int (nI p9), .int y] (ds_P D ad cA nb S) (fun (r : Int32) (u : ds_S) => u = ds_wI (ds_wI S 12 p9 0 y) 4 0 0 0 ∧ r = S.1 12 p9 0) (ds_P D ad cA nb) := by
  intro sz
  refine ct_of (by decide) (Nat.le_of_ble_eq_true rfl) ?_
  intro p e s m args below meth c hsz C hr hlk hnm hK
  refine aw_lv (lv' := [(0, .ref (ad 0 0)), (1, .int (nI p9)), (2, .int y)]) [0, 1, 2] rfl ?_
  refine aw_aload_n C d_De_sits_0 rfl (j := 0) rfl ?_
  refine aw_iload_n C d_De_sits_1 rfl (j := 1) rfl ?_
  refine aw_callVv (P9 := fun u => ds_P D ad cA nb u) [.int (nI p9)] C hK (c_De_checkPerson l D ad cA nb S (nI p9) h1) (cw_De_De_checkPerson C.2.2.2.2 rfl rfl (by decide)) rfl (fun H h => aw_recv hK rfl (h 0 0 rfl)) (fun H h => h) (fun q h => h.elim) (fun q h => Or.inr (by rw [← hsz]; exact h)) rfl (Nat.le_of_ble_eq_true rfl) d_De_sits_2 (by decide) (fun H H1 u _ _ hB _ _ => hB) ?_
  rintro u rfl
  refine aw_iload_n C d_De_sits_5 rfl (j := 2) rfl ?_
  refine aw_iconst (v := (-1)) C d_De_sits_6 (by decide) ?_
  refine aw_icmp_eq (tgt := 21) C d_De_sits_7 (by decide) (fun c_7 => ?_) (fun c_7 => ?_)
  · refine aw_aload_n C d_De_sits_21 rfl (j := 0) rfl ?_
    refine gt_De_De_persons C hK  d_De_sits_22 ?_
    refine aw_iload_n C d_De_sits_25 rfl (j := 1) rfl ?_
    refine al_1 C hK  p9 rfl hp d_De_sits_26 ?_
    refine gt_De_Pe_oldDesk C hK hp d_De_sits_27 ?_
    refine aw_istore_n (i := 3) (lv' := [(3, .int (S.1 12 p9 0)), (0, .ref (ad 0 0)), (1, .int (nI p9)), (2, .int y)]) C d_De_sits_30 rfl (by decide) rfl ?_
    refine aw_aload_n C d_De_sits_31 rfl (j := 1) rfl ?_
    refine gt_De_De_persons C hK  d_De_sits_32 ?_
    refine aw_iload_n C d_De_sits_35 rfl (j := 2) rfl ?_
    refine al_1 C hK  p9 rfl hp d_De_sits_36 ?_
    refine aw_iload_n C d_De_sits_37 rfl (j := 3) rfl ?_
    refine pt_De_Pe_oldDesk (x := y) C hK hI hp  d_De_sits_38 ?_
    refine aw_aload_n C d_De_sits_41 rfl (j := 1) rfl ?_
    refine aw_iconst (v := 0) C d_De_sits_42 (by decide) ?_
    refine pt_De_De_seatingMade (x := 0) C hK hI  (Or.inl rfl) d_De_sits_43 ?_
    refine aw_iload_n C d_De_sits_46 rfl (j := 0) rfl ?_
    exact aw_iret C hr hlk _ ⟨rfl, rfl⟩ (fun H h => h) d_De_sits_47
  · have h2 := h2.resolve_left c_7
    refine aw_aload_n C d_De_sits_10 rfl (j := 0) rfl ?_
    refine aw_iload_n C d_De_sits_11 rfl (j := 2) rfl ?_
    refine aw_callVv (P9 := fun u => ds_P D ad cA nb u) [.int y] C hK (c_De_checkDesk l D ad cA nb S (y) h2.1) (cw_De_De_checkDesk C.2.2.2.2 rfl rfl (by decide)) rfl (fun H h => aw_recv hK rfl (h 0 0 rfl)) (fun H h => h) (fun q h => h.elim) (fun q h => Or.inr (by rw [← hsz]; exact h)) rfl (Nat.le_of_ble_eq_true rfl) d_De_sits_12 (by decide) (fun H H1 u _ _ hB _ _ => hB) ?_
    rintro u rfl
    refine aw_aload_n C d_De_sits_15 rfl (j := 0) rfl ?_
    refine aw_iload_n C d_De_sits_16 rfl (j := 1) rfl ?_
    refine aw_iload_n C d_De_sits_17 rfl (j := 2) rfl ?_
    refine aw_callVv (P9 := fun u => ds_P D ad cA nb u) [.int (nI p9), .int y] C hK (c_De_checkNobodyElseHas l D ad cA nb S (nI p9) (y) M hM hM9 h2.2) (cw_De_De_checkNobodyElseHas C.2.2.2.2 rfl rfl (by decide)) rfl (fun H h => aw_recv hK rfl (h 0 0 rfl)) (fun H h => h) (fun q h => h.elim) (fun q h => Or.inr (by rw [← hsz]; exact h)) rfl (Nat.le_of_ble_eq_true rfl) d_De_sits_18 (by decide) (fun H H1 u _ _ hB _ _ => hB) ?_
    rintro u rfl
    refine aw_aload_n C d_De_sits_21 rfl (j := 0) rfl ?_
    refine gt_De_De_persons C hK  d_De_sits_22 ?_
    refine aw_iload_n C d_De_sits_25 rfl (j := 1) rfl ?_
    refine al_1 C hK  p9 rfl hp d_De_sits_26 ?_
    refine gt_De_Pe_oldDesk C hK hp d_De_sits_27 ?_
    refine aw_istore_n (i := 3) (lv' := [(3, .int (S.1 12 p9 0)), (0, .ref (ad 0 0)), (1, .int (nI p9)), (2, .int y)]) C d_De_sits_30 rfl (by decide) rfl ?_
    refine aw_aload_n C d_De_sits_31 rfl (j := 1) rfl ?_
    refine gt_De_De_persons C hK  d_De_sits_32 ?_
    refine aw_iload_n C d_De_sits_35 rfl (j := 2) rfl ?_
    refine al_1 C hK  p9 rfl hp d_De_sits_36 ?_
    refine aw_iload_n C d_De_sits_37 rfl (j := 3) rfl ?_
    refine pt_De_Pe_oldDesk (x := y) C hK hI hp  d_De_sits_38 ?_
    refine aw_aload_n C d_De_sits_41 rfl (j := 1) rfl ?_
    refine aw_iconst (v := 0) C d_De_sits_42 (by decide) ?_
    refine pt_De_De_seatingMade (x := 0) C hK hI  (Or.inl rfl) d_De_sits_43 ?_
    refine aw_iload_n C d_De_sits_46 rfl (j := 0) rfl ?_
    exact aw_iret C hr hlk _ ⟨rfl, rfl⟩ (fun H h => h) d_De_sits_47
set_option maxHeartbeats 4000000 in
set_option maxRecDepth 100000 in
theorem t_De_sits1 (l : Launch) (D : va_G) (ad : Nat → Nat → Nat) (cA : Nat → ClassId) (nb : Nat) (S : ds_S) (hl : l.stackTraces = false) (x y : Int32) (h1 : ¬ (¬ x < 0 ∧ x < S.1 1 0 0)) : Ct_t l y_De_sits b_De_sits 4 (some .int) ({ frames := 7, cells := 1, slots := 6, locals := 114 } : Room) 1 6 D (ds_ty cA) [.ref (ad 0 0), .int x, .int y] (ds_P D ad cA nb S) R_Ia := by
  intro sz
  refine th_of (by decide) (Nat.le_of_ble_eq_true rfl) ?_
  intro p e s m args below meth c hsz C hlk hno hK hZ
  refine aw_lv (lv' := [(0, .ref (ad 0 0)), (1, .int x), (2, .int y)]) [0, 1, 2] rfl ?_
  refine aw_aload_n C d_De_sits_0 rfl (j := 0) rfl ?_
  refine aw_iload_n C d_De_sits_1 rfl (j := 1) rfl ?_
  exact aw_callVT [.int x] C hK hZ hno hlk (t_De_checkPerson l D ad cA nb S hl (x) h1) (cw_De_De_checkPerson C.2.2.2.2 rfl rfl (by decide)) rfl (fun H h => aw_recv hK rfl (h 0 0 rfl)) (fun H h => h) rfl (Nat.le_of_ble_eq_true rfl) d_De_sits_2 (by decide) (by decide) (by decide)
set_option maxHeartbeats 4000000 in
set_option maxRecDepth 100000 in
theorem t_De_sits2 (l : Launch) (D : va_G) (ad : Nat → Nat → Nat) (cA : Nat → ClassId) (nb : Nat) (S : ds_S) (hl : l.stackTraces = false) (x y : Int32) (h1 : (¬ x < 0 ∧ x < S.1 1 0 0)) (h0 : ¬ y = -1) (h2 : ¬ (¬ y < 0 ∧ y < S.1 0 0 0)) : Ct_t l y_De_sits b_De_sits 4 (some .int) ({ frames := 7, cells := 1, slots := 6, locals := 114 } : Room) 1 6 D (ds_ty cA) [.ref (ad 0 0), .int x, .int y] (ds_P D ad cA nb S) R_Ia := by
  intro sz
  refine th_of (by decide) (Nat.le_of_ble_eq_true rfl) ?_
  intro p e s m args below meth c hsz C hlk hno hK hZ
  refine aw_lv (lv' := [(0, .ref (ad 0 0)), (1, .int x), (2, .int y)]) [0, 1, 2] rfl ?_
  refine aw_aload_n C d_De_sits_0 rfl (j := 0) rfl ?_
  refine aw_iload_n C d_De_sits_1 rfl (j := 1) rfl ?_
  refine aw_callVv (P9 := fun u => ds_P D ad cA nb u) [.int x] C hK (c_De_checkPerson l D ad cA nb S (x) h1) (cw_De_De_checkPerson C.2.2.2.2 rfl rfl (by decide)) rfl (fun H h => aw_recv hK rfl (h 0 0 rfl)) (fun H h => h) (fun q h => h.elim) (fun q h => h) rfl (Nat.le_of_ble_eq_true rfl) d_De_sits_2 (by decide) (fun H H1 u _ _ hB _ _ => hB) ?_
  rintro u rfl
  refine aw_iload_n C d_De_sits_5 rfl (j := 2) rfl ?_
  refine aw_iconst (v := (-1)) C d_De_sits_6 (by decide) ?_
  refine aw_icmp_eq (tgt := 21) C d_De_sits_7 (by decide) (fun c_7 => ?_) (fun c_7 => ?_)
  · exact absurd c_7 h0
  · refine aw_aload_n C d_De_sits_10 rfl (j := 0) rfl ?_
    refine aw_iload_n C d_De_sits_11 rfl (j := 2) rfl ?_
    exact aw_callVT [.int y] C hK hZ hno hlk (t_De_checkDesk l D ad cA nb S hl (y) h2) (cw_De_De_checkDesk C.2.2.2.2 rfl rfl (by decide)) rfl (fun H h => aw_recv hK rfl (h 0 0 rfl)) (fun H h => h) rfl (Nat.le_of_ble_eq_true rfl) d_De_sits_12 (by decide) (by decide) (by decide)
set_option maxHeartbeats 4000000 in
set_option maxRecDepth 100000 in
theorem t_De_sits3 (l : Launch) (D : va_G) (ad : Nat → Nat → Nat) (cA : Nat → ClassId) (nb : Nat) (S : ds_S) (hl : l.stackTraces = false) (x y : Int32) (h1 : (¬ x < 0 ∧ x < S.1 1 0 0)) (h0 : ¬ y = -1) (h2 : (¬ y < 0 ∧ y < S.1 0 0 0)) (M : Nat) (hM : S.1 1 0 0 = nI M) (hM9 : M ≤ 10) (h3 : ∃ q, q < M ∧ ¬ nI q = x ∧ S.1 12 q 0 = y) : Ct_t l y_De_sits b_De_sits 4 (some .int) ({ frames := 7, cells := 1, slots := 6, locals := 114 } : Room) 1 6 D (ds_ty cA) [.ref (ad 0 0), .int x, .int y] (ds_P D ad cA nb S) R_Is := by
  intro sz
  refine th_of (by decide) (Nat.le_of_ble_eq_true rfl) ?_
  intro p e s m args below meth c hsz C hlk hno hK hZ
  refine aw_lv (lv' := [(0, .ref (ad 0 0)), (1, .int x), (2, .int y)]) [0, 1, 2] rfl ?_
  refine aw_aload_n C d_De_sits_0 rfl (j := 0) rfl ?_
  refine aw_iload_n C d_De_sits_1 rfl (j := 1) rfl ?_
  refine aw_callVv (P9 := fun u => ds_P D ad cA nb u) [.int x] C hK (c_De_checkPerson l D ad cA nb S (x) h1) (cw_De_De_checkPerson C.2.2.2.2 rfl rfl (by decide)) rfl (fun H h => aw_recv hK rfl (h 0 0 rfl)) (fun H h => h) (fun q h => h.elim) (fun q h => h) rfl (Nat.le_of_ble_eq_true rfl) d_De_sits_2 (by decide) (fun H H1 u _ _ hB _ _ => hB) ?_
  rintro u rfl
  refine aw_iload_n C d_De_sits_5 rfl (j := 2) rfl ?_
  refine aw_iconst (v := (-1)) C d_De_sits_6 (by decide) ?_
  refine aw_icmp_eq (tgt := 21) C d_De_sits_7 (by decide) (fun c_7 => ?_) (fun c_7 => ?_)
  · exact absurd c_7 h0
  · refine aw_aload_n C d_De_sits_10 rfl (j := 0) rfl ?_
    refine aw_iload_n C d_De_sits_11 rfl (j := 2) rfl ?_
    refine aw_callVv (P9 := fun u => ds_P D ad cA nb u) [.int y] C hK (c_De_checkDesk l D ad cA nb S (y) h2) (cw_De_De_checkDesk C.2.2.2.2 rfl rfl (by decide)) rfl (fun H h => aw_recv hK rfl (h 0 0 rfl)) (fun H h => h) (fun q h => h.elim) (fun q h => h) rfl (Nat.le_of_ble_eq_true rfl) d_De_sits_12 (by decide) (fun H H1 u _ _ hB _ _ => hB) ?_
    rintro u rfl
    refine aw_aload_n C d_De_sits_15 rfl (j := 0) rfl ?_
    refine aw_iload_n C d_De_sits_16 rfl (j := 1) rfl ?_
    refine aw_iload_n C d_De_sits_17 rfl (j := 2) rfl ?_
    exact aw_callVT [.int x, .int y] C hK hZ hno hlk (t_De_checkNobodyElseHas l D ad cA nb S hl (x) (y) M hM hM9 h3) (cw_De_De_checkNobodyElseHas C.2.2.2.2 rfl rfl (by decide)) rfl (fun H h => aw_recv hK rfl (h 0 0 rfl)) (fun H h => h) rfl (Nat.le_of_ble_eq_true rfl) d_De_sits_18 (by decide) (by decide) (by decide)
set_option maxHeartbeats 4000000 in
set_option maxRecDepth 100000 in
theorem c_De_deskOf (l : Launch) (D : va_G) (ad : Nat → Nat → Nat) (cA : Nat → ClassId) (nb : Nat) (S : ds_S) (p9 : Nat) (hp : p9 < 10) (h1 : (¬ nI p9 < 0 ∧ nI p9 < S.1 1 0 0)) : Ct_i l y_De_deskOf b_De_deskOf 2 (some .int) ({ frames := 7, cells := 0, slots := 0, locals := 112 } : Room) 0 0 D (ds_ty cA) (ds_A ad nb) [.ref (ad 0 0), .int (nI p9)] (ds_P D ad cA nb S) (fun (r : Int32) (u : ds_S) => S = u ∧ r = if S.1 4 0 0 = 0 then -1 else S.1 13 p9 0) (ds_P D ad cA nb) := by
  intro sz
  refine ct_of (by decide) (Nat.le_of_ble_eq_true rfl) ?_
  intro p e s m args below meth c hsz C hr hlk hnm hK
  refine aw_lv (lv' := [(0, .ref (ad 0 0)), (1, .int (nI p9))]) [0, 1] rfl ?_
  refine aw_aload_n C d_De_deskOf_0 rfl (j := 0) rfl ?_
  refine aw_iload_n C d_De_deskOf_1 rfl (j := 1) rfl ?_
  refine aw_callVv (P9 := fun u => ds_P D ad cA nb u) [.int (nI p9)] C hK (c_De_checkPerson l D ad cA nb S (nI p9) h1) (cw_De_De_checkPerson C.2.2.2.2 rfl rfl (by decide)) rfl (fun H h => aw_recv hK rfl (h 0 0 rfl)) (fun H h => h) (fun q h => h.elim) (fun q h => Or.inr (by rw [← hsz]; exact h)) rfl (Nat.le_of_ble_eq_true rfl) d_De_deskOf_2 (by decide) (fun H H1 u _ _ hB _ _ => hB) ?_
  rintro u rfl
  refine aw_aload_n C d_De_deskOf_5 rfl (j := 0) rfl ?_
  refine gt_De_De_seatingMade C hK  d_De_deskOf_6 ?_
  refine aw_if_eq (tgt := 24) C d_De_deskOf_9 (by decide) (fun c_9 => ?_) (fun c_9 => ?_)
  · refine aw_iconst (v := (-1)) C d_De_deskOf_24 (by decide) ?_
    exact aw_iret C hr hlk S ⟨rfl, by rw [if_pos c_9]⟩ (fun H h => h) d_De_deskOf_25
  · refine aw_aload_n C d_De_deskOf_12 rfl (j := 0) rfl ?_
    refine gt_De_De_persons C hK  d_De_deskOf_13 ?_
    refine aw_iload_n C d_De_deskOf_16 rfl (j := 1) rfl ?_
    refine al_1 C hK  p9 rfl hp d_De_deskOf_17 ?_
    refine gt_De_Pe_newDesk C hK hp d_De_deskOf_18 ?_
    refine aw_goto (tgt := 25) C d_De_deskOf_21 (by decide) ?_
    exact aw_iret C hr hlk S ⟨rfl, by rw [if_neg c_9]⟩ (fun H h => h) d_De_deskOf_25
set_option maxHeartbeats 4000000 in
set_option maxRecDepth 100000 in
theorem t_De_deskOf (l : Launch) (D : va_G) (ad : Nat → Nat → Nat) (cA : Nat → ClassId) (nb : Nat) (S : ds_S) (hl : l.stackTraces = false) (x : Int32) (h1 : ¬ (¬ x < 0 ∧ x < S.1 1 0 0)) : Ct_t l y_De_deskOf b_De_deskOf 2 (some .int) ({ frames := 7, cells := 1, slots := 6, locals := 112 } : Room) 1 6 D (ds_ty cA) [.ref (ad 0 0), .int x] (ds_P D ad cA nb S) R_Ia := by
  intro sz
  refine th_of (by decide) (Nat.le_of_ble_eq_true rfl) ?_
  intro p e s m args below meth c hsz C hlk hno hK hZ
  refine aw_lv (lv' := [(0, .ref (ad 0 0)), (1, .int x)]) [0, 1] rfl ?_
  refine aw_aload_n C d_De_deskOf_0 rfl (j := 0) rfl ?_
  refine aw_iload_n C d_De_deskOf_1 rfl (j := 1) rfl ?_
  exact aw_callVT [.int x] C hK hZ hno hlk (t_De_checkPerson l D ad cA nb S hl (x) h1) (cw_De_De_checkPerson C.2.2.2.2 rfl rfl (by decide)) rfl (fun H h => aw_recv hK rfl (h 0 0 rfl)) (fun H h => h) rfl (Nat.le_of_ble_eq_true rfl) d_De_deskOf_2 (by decide) (by decide) (by decide)
def mo_L (S : ds_S) : Nat → Nat → Int32 → Int32
  | 0, _, t => t
  | n + 1, k, t => mo_L S n (k + 1) (if pe_wm S k (S.1 13 k 0) = 0 then t else t + 1)
set_option maxHeartbeats 4000000 in
set_option maxRecDepth 100000 in
theorem c_De_moved (l : Launch) (D : va_G) (ad : Nat → Nat → Nat) (cA : Nat → ClassId) (nb : Nat) (S : ds_S) (M : Nat) (hM : S.1 1 0 0 = nI M) (hM9 : M ≤ 10) : Ct_i l y_De_moved b_De_moved 3 (some .int) ({ frames := 1, cells := 0, slots := 0, locals := 21 } : Room) 0 0 D (ds_ty cA) (ds_A ad nb) [.ref (ad 0 0)] (ds_P D ad cA nb S) (fun (r : Int32) (u : ds_S) => S = u ∧ r = if S.1 4 0 0 = 0 then -1 else mo_L S M 0 0) (ds_P D ad cA nb) := by
  intro sz
  refine ct_of (by decide) (Nat.le_of_ble_eq_true rfl) ?_
  intro p e s m args below meth c hsz C hr hlk hnm hK
  have lp : ∀ (n k : Nat) (t9 : Int32) (c_4 : ¬ S.1 4 0 0 = 0), k + n = M → mo_L S n k t9 = mo_L S M 0 0 → AW p l e ({ frames := 1, cells := 0, slots := 0, locals := 21 } : Room) s m args below meth c 3 0 0 (MQ below (va_Qi (fun (r : Int32) (u : ds_S) => S = u ∧ r = if S.1 4 0 0 = 0 then -1 else mo_L S M 0 0) (fun u t => (ds_P D ad cA nb) u t.heap) (ct_A (ds_A ad nb) sz)) args s 0 0 (ct_A (ds_A ad nb) sz)) (ds_P D ad cA nb S) (ct_A (ds_A ad nb) sz) 13 [(0, .ref (ad 0 0)), (1, .int t9), (2, .int (nI k))] [] := by
    intro n
    induction n with
    | zero =>
      intro k t9 c_4 hkn hR
      refine aw_iload_n C d_De_moved_13 rfl (j := 2) rfl ?_
      refine aw_aload_n C d_De_moved_14 rfl (j := 0) rfl ?_
      refine gt_De_De_personCount C hK  d_De_moved_15 ?_
      refine aw_icmp_ge (tgt := 51) C d_De_moved_18 (by decide) (fun c_18 => ?_) (fun c_18 => ?_)
      · refine aw_iload_n C d_De_moved_51 rfl (j := 1) rfl ?_
        exact aw_iret C hr hlk S ⟨rfl, by rw [if_neg c_4, ← hR]; rfl⟩ (fun H h => h) d_De_moved_52
      · exact absurd (by rw [hM, show k = M by omega]; exact nI_le (Nat.le_refl _) (by omega)) c_18
    | succ n ih =>
      intro k t9 c_4 hkn hR
      refine aw_iload_n C d_De_moved_13 rfl (j := 2) rfl ?_
      refine aw_aload_n C d_De_moved_14 rfl (j := 0) rfl ?_
      refine gt_De_De_personCount C hK  d_De_moved_15 ?_
      refine aw_icmp_ge (tgt := 51) C d_De_moved_18 (by decide) (fun c_18 => ?_) (fun c_18 => ?_)
      · rw [hM] at c_18
        exact absurd c_18 (nI_ge (by omega) (by omega))
      · refine aw_aload_n C d_De_moved_21 rfl (j := 0) rfl ?_
        refine gt_De_De_persons C hK  d_De_moved_22 ?_
        refine aw_iload_n C d_De_moved_25 rfl (j := 2) rfl ?_
        refine al_1 C hK  k rfl (show k < 10 by omega) d_De_moved_26 ?_
        refine aw_aload_n C d_De_moved_27 rfl (j := 0) rfl ?_
        refine gt_De_De_persons C hK  d_De_moved_28 ?_
        refine aw_iload_n C d_De_moved_31 rfl (j := 2) rfl ?_
        refine al_1 C hK  k rfl (show k < 10 by omega) d_De_moved_32 ?_
        refine gt_De_Pe_newDesk C hK (show k < 10 by omega) d_De_moved_33 ?_
        refine aw_callVi (P9 := fun r u => ds_P D ad cA nb u) [.int (S.1 13 k 0)] C hK (c_Pe_wouldMoveTo l D ad cA nb S k (S.1 13 k 0) (by omega)) (cw_De_Pe_wouldMoveTo C.2.2.2.2 rfl rfl (by decide)) rfl (fun H h => aw_recv hK rfl (h 10 k (show k < 10 by omega))) (fun H h => h) (fun q h => Or.inl h) (fun q h => Or.inr (by rw [← hsz]; exact h)) rfl (Nat.le_of_ble_eq_true rfl) d_De_moved_36 (by decide) (fun H H1 r u _ _ hB _ _ => hB) ?_
        rintro r u ⟨rfl, rfl⟩
        refine aw_if_eq (tgt := 45) C d_De_moved_39 (by decide) (fun c_39 => ?_) (fun c_39 => ?_)
        · refine aw_iinc (i := 2) (v := (nI (k + 1))) (lv' := [(2, .int (nI (k + 1))), (0, .ref (ad 0 0)), (1, .int t9)]) C d_De_moved_45 (j := 2) rfl (nI_1 k) (by decide) rfl ?_
          refine aw_goto (tgt := 13) C d_De_moved_48 (by decide) ?_
          exact aw_lv [1, 2, 0] rfl (ih (k + 1) t9 c_4 (by omega) (by rw [← hR]; simp only [mo_L]; rw [if_pos c_39]))
        · refine aw_iinc (i := 1) (v := (t9 + 1)) (lv' := [(1, .int (t9 + 1)), (0, .ref (ad 0 0)), (2, .int (nI k))]) C d_De_moved_42 (j := 1) rfl rfl (by decide) rfl ?_
          refine aw_iinc (i := 2) (v := (nI (k + 1))) (lv' := [(2, .int (nI (k + 1))), (1, .int (t9 + 1)), (0, .ref (ad 0 0))]) C d_De_moved_45 (j := 2) rfl (nI_1 k) (by decide) rfl ?_
          refine aw_goto (tgt := 13) C d_De_moved_48 (by decide) ?_
          exact aw_lv [2, 1, 0] rfl (ih (k + 1) ((t9 + 1)) c_4 (by omega) (by rw [← hR]; simp only [mo_L]; rw [if_neg c_39]))
  refine aw_lv (lv' := [(0, .ref (ad 0 0))]) [0] rfl ?_
  refine aw_aload_n C d_De_moved_0 rfl (j := 0) rfl ?_
  refine gt_De_De_seatingMade C hK  d_De_moved_1 ?_
  refine aw_if_ne (tgt := 9) C d_De_moved_4 (by decide) (fun c_4 => ?_) (fun c_4 => ?_)
  · refine aw_iconst (v := 0) C d_De_moved_9 (by decide) ?_
    refine aw_istore_n (i := 1) (lv' := [(1, .int 0), (0, .ref (ad 0 0))]) C d_De_moved_10 rfl (by decide) rfl ?_
    refine aw_iconst (v := 0) C d_De_moved_11 (by decide) ?_
    refine aw_istore_n (i := 2) (lv' := [(2, .int 0), (1, .int 0), (0, .ref (ad 0 0))]) C d_De_moved_12 rfl (by decide) rfl ?_
    exact aw_lv [2, 1, 0] rfl (lp M 0 0 c_4 (by omega) rfl)
  · refine aw_iconst (v := (-1)) C d_De_moved_7 (by decide) ?_
    exact aw_iret C hr hlk S ⟨rfl, by rw [if_pos c_4]⟩ (fun H h => h) d_De_moved_8
set_option maxHeartbeats 4000000 in
set_option maxRecDepth 100000 in
theorem c_De_steps (l : Launch) (D : va_G) (ad : Nat → Nat → Nat) (cA : Nat → ClassId) (nb : Nat) (S : ds_S) (h1 : ¬ S.1 4 0 0 = 0) : Ct_i l y_De_steps b_De_steps 1 (some .int) ({ frames := 7, cells := 0, slots := 0, locals := 111 } : Room) 0 0 D (ds_ty cA) (ds_A ad nb) [.ref (ad 0 0)] (ds_P D ad cA nb S) (fun (r : Int32) (u : ds_S) => S = u ∧ r = if S.1 8 0 0 = 0 then S.1 7 0 0 else -2) (ds_P D ad cA nb) := by
  intro sz
  refine ct_of (by decide) (Nat.le_of_ble_eq_true rfl) ?_
  intro p e s m args below meth c hsz C hr hlk hnm hK
  refine aw_lv (lv' := [(0, .ref (ad 0 0))]) [0] rfl ?_
  refine aw_aload_n C d_De_steps_0 rfl (j := 0) rfl ?_
  refine aw_callVv (P9 := fun u => ds_P D ad cA nb u) [] C hK (c_De_checkSeatingMade l D ad cA nb S h1) (cw_De_De_checkSeatingMade C.2.2.2.2 rfl rfl (by decide)) rfl (fun H h => aw_recv hK rfl (h 0 0 rfl)) (fun H h => h) (fun q h => h.elim) (fun q h => Or.inr (by rw [← hsz]; exact h)) rfl (Nat.le_of_ble_eq_true rfl) d_De_steps_1 (by decide) (fun H H1 u _ _ hB _ _ => hB) ?_
  rintro u rfl
  refine aw_aload_n C d_De_steps_4 rfl (j := 0) rfl ?_
  refine gt_De_De_walk C hK  d_De_steps_5 ?_
  refine gt_De_Wa_stuck C hK  d_De_steps_8 ?_
  refine aw_if_eq (tgt := 19) C d_De_steps_11 (by decide) (fun c_11 => ?_) (fun c_11 => ?_)
  · refine aw_aload_n C d_De_steps_19 rfl (j := 0) rfl ?_
    refine gt_De_De_walk C hK  d_De_steps_20 ?_
    refine gt_De_Wa_count C hK  d_De_steps_23 ?_
    exact aw_iret C hr hlk S ⟨rfl, by rw [if_pos c_11]⟩ (fun H h => h) d_De_steps_26
  · refine aw_bipush (v := (-2)) C d_De_steps_14 (by decide) ?_
    refine aw_goto (tgt := 26) C d_De_steps_16 (by decide) ?_
    exact aw_iret C hr hlk S ⟨rfl, by rw [if_neg c_11]⟩ (fun H h => h) d_De_steps_26
set_option maxHeartbeats 4000000 in
set_option maxRecDepth 100000 in
theorem t_De_steps (l : Launch) (D : va_G) (ad : Nat → Nat → Nat) (cA : Nat → ClassId) (nb : Nat) (S : ds_S) (hl : l.stackTraces = false) (h1 : S.1 4 0 0 = 0) : Ct_t l y_De_steps b_De_steps 1 (some .int) ({ frames := 7, cells := 1, slots := 6, locals := 111 } : Room) 1 6 D (ds_ty cA) [.ref (ad 0 0)] (ds_P D ad cA nb S) R_Is := by
  intro sz
  refine th_of (by decide) (Nat.le_of_ble_eq_true rfl) ?_
  intro p e s m args below meth c hsz C hlk hno hK hZ
  refine aw_lv (lv' := [(0, .ref (ad 0 0))]) [0] rfl ?_
  refine aw_aload_n C d_De_steps_0 rfl (j := 0) rfl ?_
  exact aw_callVT [] C hK hZ hno hlk (t_De_checkSeatingMade l D ad cA nb S hl h1) (cw_De_De_checkSeatingMade C.2.2.2.2 rfl rfl (by decide)) rfl (fun H h => aw_recv hK rfl (h 0 0 rfl)) (fun H h => h) rfl (Nat.le_of_ble_eq_true rfl) d_De_steps_1 (by decide) (by decide) (by decide)
set_option maxHeartbeats 4000000 in
set_option maxRecDepth 100000 in
theorem c_De_step (l : Launch) (D : va_G) (ad : Nat → Nat → Nat) (cA : Nat → ClassId) (nb : Nat) (S : ds_S) (k9 : Nat) (y : Int32) (hk9 : k9 < 15) (h0 : ¬ y < 0 ∧ y ≤ 2) (h1 : ¬ S.1 4 0 0 = 0) (h2 : nI k9 < S.1 7 0 0) : Ct_i l y_De_step b_De_step 3 (some .int) ({ frames := 7, cells := 0, slots := 0, locals := 111 } : Room) 0 0 D (ds_ty cA) (ds_A ad nb) [.ref (ad 0 0), .int (nI k9), .int y] (ds_P D ad cA nb S) (fun (r : Int32) (u : ds_S) => S = u ∧ r = if y = 0 then S.1 16 0 k9 else (if y = 1 then S.1 17 0 k9 else S.1 18 0 k9)) (ds_P D ad cA nb) := by
  intro sz
  refine ct_of (by decide) (Nat.le_of_ble_eq_true rfl) ?_
  intro p e s m args below meth c hsz C hr hlk hnm hK
  refine aw_lv (lv' := [(0, .ref (ad 0 0)), (1, .int (nI k9)), (2, .int y)]) [0, 1, 2] rfl ?_
  refine aw_iload_n C d_De_step_0 rfl (j := 2) rfl ?_
  refine aw_if_lt (tgt := 13) C d_De_step_1 (by decide) (fun c_1 => ?_) (fun c_1 => ?_)
  · exact absurd c_1 h0.1
  · refine aw_iload_n C d_De_step_4 rfl (j := 2) rfl ?_
    refine aw_iconst (v := 2) C d_De_step_5 (by decide) ?_
    refine aw_icmp_gt (tgt := 13) C d_De_step_6 (by decide) (fun c_6 => ?_) (fun c_6 => ?_)
    · exact absurd h0.2 (Int32.not_le.mpr c_6)
    · refine aw_iload_n C d_De_step_9 rfl (j := 1) rfl ?_
      refine aw_if_ge (tgt := 23) C d_De_step_10 (by decide) (fun c_10 => ?_) (fun c_10 => ?_)
      · refine aw_aload_n C d_De_step_23 rfl (j := 0) rfl ?_
        refine aw_callVv (P9 := fun u => ds_P D ad cA nb u) [] C hK (c_De_checkSeatingMade l D ad cA nb S h1) (cw_De_De_checkSeatingMade C.2.2.2.2 rfl rfl (by decide)) rfl (fun H h => aw_recv hK rfl (h 0 0 rfl)) (fun H h => h) (fun q h => h.elim) (fun q h => Or.inr (by rw [← hsz]; exact h)) rfl (Nat.le_of_ble_eq_true rfl) d_De_step_24 (by decide) (fun H H1 u _ _ hB _ _ => hB) ?_
        rintro u rfl
        refine aw_iload_n C d_De_step_27 rfl (j := 1) rfl ?_
        refine aw_aload_n C d_De_step_28 rfl (j := 0) rfl ?_
        refine gt_De_De_walk C hK  d_De_step_29 ?_
        refine gt_De_Wa_count C hK  d_De_step_32 ?_
        refine aw_icmp_lt (tgt := 48) C d_De_step_35 (by decide) (fun c_35 => ?_) (fun c_35 => ?_)
        · refine aw_iload_n C d_De_step_48 rfl (j := 2) rfl ?_
          refine aw_if_ne (tgt := 62) C d_De_step_49 (by decide) (fun c_49 => ?_) (fun c_49 => ?_)
          · refine aw_iload_n C d_De_step_62 rfl (j := 2) rfl ?_
            refine aw_iconst (v := 1) C d_De_step_63 (by decide) ?_
            refine aw_icmp_ne (tgt := 79) C d_De_step_64 (by decide) (fun c_64 => ?_) (fun c_64 => ?_)
            · refine aw_aload_n C d_De_step_79 rfl (j := 0) rfl ?_
              refine gt_De_De_walk C hK  d_De_step_80 ?_
              refine gt_De_Wa_goals C hK  d_De_step_83 ?_
              refine aw_iload_n C d_De_step_86 rfl (j := 1) rfl ?_
              refine al_7 C hK  k9 rfl hk9 d_De_step_87 ?_
              exact aw_iret C hr hlk S ⟨rfl, by rw [if_neg c_49, if_neg c_64]⟩ (fun H h => h) d_De_step_88
            · refine aw_aload_n C d_De_step_67 rfl (j := 0) rfl ?_
              refine gt_De_De_walk C hK  d_De_step_68 ?_
              refine gt_De_Wa_starts C hK  d_De_step_71 ?_
              refine aw_iload_n C d_De_step_74 rfl (j := 1) rfl ?_
              refine al_6 C hK  k9 rfl hk9 d_De_step_75 ?_
              refine aw_goto (tgt := 88) C d_De_step_76 (by decide) ?_
              exact aw_iret C hr hlk S ⟨rfl, by rw [if_neg c_49, if_pos c_64]⟩ (fun H h => h) d_De_step_88
          · refine aw_aload_n C d_De_step_52 rfl (j := 0) rfl ?_
            refine gt_De_De_walk C hK  d_De_step_53 ?_
            refine gt_De_Wa_goers C hK  d_De_step_56 ?_
            refine aw_iload_n C d_De_step_59 rfl (j := 1) rfl ?_
            refine al_5 C hK  k9 rfl hk9 d_De_step_60 ?_
            exact aw_iret C hr hlk S ⟨rfl, by rw [if_pos c_49]⟩ (fun H h => h) d_De_step_61
        · exact absurd h2 c_35
      · exact absurd (nI_pos' (by omega)) c_10
set_option maxHeartbeats 4000000 in
set_option maxRecDepth 100000 in
theorem t_De_step1 (l : Launch) (D : va_G) (ad : Nat → Nat → Nat) (cA : Nat → ClassId) (nb : Nat) (S : ds_S) (hl : l.stackTraces = false) (x y : Int32) (h0 : ¬ (¬ y < 0 ∧ y ≤ 2 ∧ ¬ x < 0)) : Ct_t l y_De_step b_De_step 3 (some .int) ({ frames := 7, cells := 1, slots := 6, locals := 111 } : Room) 1 6 D (ds_ty cA) [.ref (ad 0 0), .int x, .int y] (ds_P D ad cA nb S) R_Ia := by
  intro sz
  refine th_of (by decide) (Nat.le_of_ble_eq_true rfl) ?_
  intro p e s m args below meth c hsz C hlk hno hK hZ
  refine aw_lv (lv' := [(0, .ref (ad 0 0)), (1, .int x), (2, .int y)]) [0, 1, 2] rfl ?_
  refine aw_iload_n C d_De_step_0 rfl (j := 2) rfl ?_
  refine aw_if_lt (tgt := 13) C d_De_step_1 (by decide) (fun c_1 => ?_) (fun c_1 => ?_)
  · exact aw_throw C hl hZ hno hlk bf_Ia cl_De_Ia ii_Ia nx_Ia oa_Ia sr_121 d_De_step_13 d_De_step_16 d_De_step_17 d_De_step_19 d_De_step_22 (by decide) (by decide) (by decide) (by decide) (by decide) (by decide)
  · refine aw_iload_n C d_De_step_4 rfl (j := 2) rfl ?_
    refine aw_iconst (v := 2) C d_De_step_5 (by decide) ?_
    refine aw_icmp_gt (tgt := 13) C d_De_step_6 (by decide) (fun c_6 => ?_) (fun c_6 => ?_)
    · exact aw_throw C hl hZ hno hlk bf_Ia cl_De_Ia ii_Ia nx_Ia oa_Ia sr_121 d_De_step_13 d_De_step_16 d_De_step_17 d_De_step_19 d_De_step_22 (by decide) (by decide) (by decide) (by decide) (by decide) (by decide)
    · refine aw_iload_n C d_De_step_9 rfl (j := 1) rfl ?_
      refine aw_if_ge (tgt := 23) C d_De_step_10 (by decide) (fun c_10 => ?_) (fun c_10 => ?_)
      · exact absurd ⟨c_1, Int32.not_lt.mp c_6, Int32.not_lt.mpr c_10⟩ h0
      · exact aw_throw C hl hZ hno hlk bf_Ia cl_De_Ia ii_Ia nx_Ia oa_Ia sr_121 d_De_step_13 d_De_step_16 d_De_step_17 d_De_step_19 d_De_step_22 (by decide) (by decide) (by decide) (by decide) (by decide) (by decide)
set_option maxHeartbeats 4000000 in
set_option maxRecDepth 100000 in
theorem t_De_step2 (l : Launch) (D : va_G) (ad : Nat → Nat → Nat) (cA : Nat → ClassId) (nb : Nat) (S : ds_S) (hl : l.stackTraces = false) (x y : Int32) (h0 : ¬ y < 0 ∧ y ≤ 2 ∧ ¬ x < 0) (h1 : S.1 4 0 0 = 0) : Ct_t l y_De_step b_De_step 3 (some .int) ({ frames := 7, cells := 1, slots := 6, locals := 111 } : Room) 1 6 D (ds_ty cA) [.ref (ad 0 0), .int x, .int y] (ds_P D ad cA nb S) R_Is := by
  intro sz
  refine th_of (by decide) (Nat.le_of_ble_eq_true rfl) ?_
  intro p e s m args below meth c hsz C hlk hno hK hZ
  refine aw_lv (lv' := [(0, .ref (ad 0 0)), (1, .int x), (2, .int y)]) [0, 1, 2] rfl ?_
  refine aw_iload_n C d_De_step_0 rfl (j := 2) rfl ?_
  refine aw_if_lt (tgt := 13) C d_De_step_1 (by decide) (fun c_1 => ?_) (fun c_1 => ?_)
  · exact absurd c_1 h0.1
  · refine aw_iload_n C d_De_step_4 rfl (j := 2) rfl ?_
    refine aw_iconst (v := 2) C d_De_step_5 (by decide) ?_
    refine aw_icmp_gt (tgt := 13) C d_De_step_6 (by decide) (fun c_6 => ?_) (fun c_6 => ?_)
    · exact absurd h0.2.1 (Int32.not_le.mpr c_6)
    · refine aw_iload_n C d_De_step_9 rfl (j := 1) rfl ?_
      refine aw_if_ge (tgt := 23) C d_De_step_10 (by decide) (fun c_10 => ?_) (fun c_10 => ?_)
      · refine aw_aload_n C d_De_step_23 rfl (j := 0) rfl ?_
        exact aw_callVT [] C hK hZ hno hlk (t_De_checkSeatingMade l D ad cA nb S hl h1) (cw_De_De_checkSeatingMade C.2.2.2.2 rfl rfl (by decide)) rfl (fun H h => aw_recv hK rfl (h 0 0 rfl)) (fun H h => h) rfl (Nat.le_of_ble_eq_true rfl) d_De_step_24 (by decide) (by decide) (by decide)
      · exact absurd (Int32.not_lt.mp h0.2.2) c_10
set_option maxHeartbeats 4000000 in
set_option maxRecDepth 100000 in
theorem t_De_step3 (l : Launch) (D : va_G) (ad : Nat → Nat → Nat) (cA : Nat → ClassId) (nb : Nat) (S : ds_S) (hl : l.stackTraces = false) (x y : Int32) (h0 : ¬ y < 0 ∧ y ≤ 2 ∧ ¬ x < 0) (h1 : ¬ S.1 4 0 0 = 0) (h2 : ¬ x < S.1 7 0 0) : Ct_t l y_De_step b_De_step 3 (some .int) ({ frames := 7, cells := 1, slots := 6, locals := 111 } : Room) 1 6 D (ds_ty cA) [.ref (ad 0 0), .int x, .int y] (ds_P D ad cA nb S) R_Ia := by
  intro sz
  refine th_of (by decide) (Nat.le_of_ble_eq_true rfl) ?_
  intro p e s m args below meth c hsz C hlk hno hK hZ
  refine aw_lv (lv' := [(0, .ref (ad 0 0)), (1, .int x), (2, .int y)]) [0, 1, 2] rfl ?_
  refine aw_iload_n C d_De_step_0 rfl (j := 2) rfl ?_
  refine aw_if_lt (tgt := 13) C d_De_step_1 (by decide) (fun c_1 => ?_) (fun c_1 => ?_)
  · exact absurd c_1 h0.1
  · refine aw_iload_n C d_De_step_4 rfl (j := 2) rfl ?_
    refine aw_iconst (v := 2) C d_De_step_5 (by decide) ?_
    refine aw_icmp_gt (tgt := 13) C d_De_step_6 (by decide) (fun c_6 => ?_) (fun c_6 => ?_)
    · exact absurd h0.2.1 (Int32.not_le.mpr c_6)
    · refine aw_iload_n C d_De_step_9 rfl (j := 1) rfl ?_
      refine aw_if_ge (tgt := 23) C d_De_step_10 (by decide) (fun c_10 => ?_) (fun c_10 => ?_)
      · refine aw_aload_n C d_De_step_23 rfl (j := 0) rfl ?_
        refine aw_callVv (P9 := fun u => ds_P D ad cA nb u) [] C hK (c_De_checkSeatingMade l D ad cA nb S h1) (cw_De_De_checkSeatingMade C.2.2.2.2 rfl rfl (by decide)) rfl (fun H h => aw_recv hK rfl (h 0 0 rfl)) (fun H h => h) (fun q h => h.elim) (fun q h => h) rfl (Nat.le_of_ble_eq_true rfl) d_De_step_24 (by decide) (fun H H1 u _ _ hB _ _ => hB) ?_
        rintro u rfl
        refine aw_iload_n C d_De_step_27 rfl (j := 1) rfl ?_
        refine aw_aload_n C d_De_step_28 rfl (j := 0) rfl ?_
        refine gt_De_De_walk C hK  d_De_step_29 ?_
        refine gt_De_Wa_count C hK  d_De_step_32 ?_
        refine aw_icmp_lt (tgt := 48) C d_De_step_35 (by decide) (fun c_35 => ?_) (fun c_35 => ?_)
        · exact absurd c_35 h2
        · exact aw_throw C hl hZ hno hlk bf_Ia cl_De_Ia ii_Ia nx_Ia oa_Ia sr_123 d_De_step_38 d_De_step_41 d_De_step_42 d_De_step_44 d_De_step_47 (by decide) (by decide) (by decide) (by decide) (by decide) (by decide)
      · exact absurd (Int32.not_lt.mp h0.2.2) c_10
def st_L (S : ds_S) : Nat → ds_S
  | 0 => S
  | k + 1 => ds_wI (st_L S k) 12 k 0 ((st_L S k).1 13 k 0)
def st_C (S : ds_S) : Nat → Int32
  | 0 => 0
  | k + 1 => if (st_L S k).1 12 k 0 = (st_L S k).1 13 k 0 then st_C S k else st_C S k + 1
theorem st_1 (S : ds_S) : ∀ k, (st_L S k).1 1 0 0 = S.1 1 0 0
  | 0 => rfl
  | k + 1 => by
    show ds_u3 (st_L S k).1 12 k 0 ((st_L S k).1 13 k 0) 1 0 0 = _
    rw [ds_u3_n (by omega)]
    exact st_1 S k
set_option maxHeartbeats 4000000 in
set_option maxRecDepth 100000 in
theorem c_De_settle (l : Launch) (D : va_G) (ad : Nat → Nat → Nat) (cA : Nat → ClassId) (nb : Nat) (S : ds_S) (hI : ds_I ad nb) (h1 : ¬ S.1 4 0 0 = 0) (M : Nat) (hM : S.1 1 0 0 = nI M) (hM9 : M ≤ 10) : Ct_i l y_De_settle b_De_settle 4 (some .int) ({ frames := 7, cells := 0, slots := 0, locals := 111 } : Room) 0 0 D (ds_ty cA) (ds_A ad nb) [.ref (ad 0 0)] (ds_P D ad cA nb S) (fun (r : Int32) (u : ds_S) => u = ds_wI (st_L S M) 4 0 0 0 ∧ r = st_C S M) (ds_P D ad cA nb) := by
  intro sz
  refine ct_of (by decide) (Nat.le_of_ble_eq_true rfl) ?_
  intro p e s m args below meth c hsz C hr hlk hnm hK
  have lp : ∀ (n k : Nat), k + n = M → AW p l e ({ frames := 7, cells := 0, slots := 0, locals := 111 } : Room) s m args below meth c 4 0 0 (MQ below (va_Qi (fun (r : Int32) (u : ds_S) => u = ds_wI (st_L S M) 4 0 0 0 ∧ r = st_C S M) (fun u t => (ds_P D ad cA nb) u t.heap) (ct_A (ds_A ad nb) sz)) args s 0 0 (ct_A (ds_A ad nb) sz)) (ds_P D ad cA nb (st_L S k)) (ct_A (ds_A ad nb) sz) 8 [(0, .ref (ad 0 0)), (1, .int (st_C S k)), (2, .int (nI k))] [] := by
    intro n
    induction n with
    | zero =>
      intro k hkn
      refine aw_iload_n C d_De_settle_8 rfl (j := 2) rfl ?_
      refine aw_aload_n C d_De_settle_9 rfl (j := 0) rfl ?_
      refine gt_De_De_personCount C hK  d_De_settle_10 ?_
      refine aw_icmp_ge (tgt := 51) C d_De_settle_13 (by decide) (fun c_13 => ?_) (fun c_13 => ?_)
      · refine aw_aload_n C d_De_settle_51 rfl (j := 0) rfl ?_
        refine aw_iconst (v := 0) C d_De_settle_52 (by decide) ?_
        refine pt_De_De_seatingMade (x := 0) C hK hI  (Or.inl rfl) d_De_settle_53 ?_
        refine aw_iload_n C d_De_settle_56 rfl (j := 1) rfl ?_
        obtain rfl : k = M := by omega
        exact aw_iret C hr hlk _ ⟨rfl, rfl⟩ (fun H h => h) d_De_settle_57
      · exact absurd (by rw [(st_1 S k).trans hM, show k = M by omega]; exact nI_le (Nat.le_refl _) (by omega)) c_13
    | succ n ih =>
      intro k hkn
      refine aw_iload_n C d_De_settle_8 rfl (j := 2) rfl ?_
      refine aw_aload_n C d_De_settle_9 rfl (j := 0) rfl ?_
      refine gt_De_De_personCount C hK  d_De_settle_10 ?_
      refine aw_icmp_ge (tgt := 51) C d_De_settle_13 (by decide) (fun c_13 => ?_) (fun c_13 => ?_)
      · rw [(st_1 S k).trans hM] at c_13
        exact absurd c_13 (nI_ge (by omega) (by omega))
      · refine aw_aload_n C d_De_settle_16 rfl (j := 0) rfl ?_
        refine gt_De_De_persons C hK  d_De_settle_17 ?_
        refine aw_iload_n C d_De_settle_20 rfl (j := 2) rfl ?_
        refine al_1 C hK  k rfl (show k < 10 by omega) d_De_settle_21 ?_
        refine aw_astore_n (i := 3) (lv' := [(3, .ref (ad 10 k)), (0, .ref (ad 0 0)), (1, .int (st_C S k)), (2, .int (nI k))]) C d_De_settle_22 rfl (by decide) rfl ?_
        refine aw_aload_n C d_De_settle_23 rfl (j := 0) rfl ?_
        refine gt_De_Pe_oldDesk C hK (show k < 10 by omega) d_De_settle_24 ?_
        refine aw_aload_n C d_De_settle_27 rfl (j := 0) rfl ?_
        refine gt_De_Pe_newDesk C hK (show k < 10 by omega) d_De_settle_28 ?_
        refine aw_icmp_eq (tgt := 37) C d_De_settle_31 (by decide) (fun c_31 => ?_) (fun c_31 => ?_)
        · refine aw_aload_n C d_De_settle_37 rfl (j := 0) rfl ?_
          refine aw_aload_n C d_De_settle_38 rfl (j := 0) rfl ?_
          refine gt_De_Pe_newDesk C hK (show k < 10 by omega) d_De_settle_39 ?_
          refine pt_De_Pe_oldDesk (x := ((st_L S k).1 13 k 0)) C hK hI (show k < 10 by omega)  d_De_settle_42 ?_
          refine aw_iinc (i := 2) (v := (nI (k + 1))) (lv' := [(2, .int (nI (k + 1))), (3, .ref (ad 10 k)), (0, .ref (ad 0 0)), (1, .int (st_C S k))]) C d_De_settle_45 (j := 3) rfl (nI_1 k) (by decide) rfl ?_
          refine aw_goto (tgt := 8) C d_De_settle_48 (by decide) ?_
          have e9 : (st_C S k) = st_C S (k + 1) := by show _ = (if _ then _ else _); rw [if_pos c_31]
          rw [e9]
          exact aw_lv [2, 3, 0] rfl (ih (k + 1) (by omega))
        · refine aw_iinc (i := 1) (v := ((st_C S k) + 1)) (lv' := [(1, .int ((st_C S k) + 1)), (3, .ref (ad 10 k)), (0, .ref (ad 0 0)), (2, .int (nI k))]) C d_De_settle_34 (j := 2) rfl rfl (by decide) rfl ?_
          refine aw_aload_n C d_De_settle_37 rfl (j := 1) rfl ?_
          refine aw_aload_n C d_De_settle_38 rfl (j := 1) rfl ?_
          refine gt_De_Pe_newDesk C hK (show k < 10 by omega) d_De_settle_39 ?_
          refine pt_De_Pe_oldDesk (x := ((st_L S k).1 13 k 0)) C hK hI (show k < 10 by omega)  d_De_settle_42 ?_
          refine aw_iinc (i := 2) (v := (nI (k + 1))) (lv' := [(2, .int (nI (k + 1))), (1, .int ((st_C S k) + 1)), (3, .ref (ad 10 k)), (0, .ref (ad 0 0))]) C d_De_settle_45 (j := 3) rfl (nI_1 k) (by decide) rfl ?_
          refine aw_goto (tgt := 8) C d_De_settle_48 (by decide) ?_
          have e9 : ((st_C S k) + 1) = st_C S (k + 1) := by show _ = (if _ then _ else _); rw [if_neg c_31]
          rw [e9]
          exact aw_lv [3, 1, 0] rfl (ih (k + 1) (by omega))
  refine aw_lv (lv' := [(0, .ref (ad 0 0))]) [0] rfl ?_
  refine aw_aload_n C d_De_settle_0 rfl (j := 0) rfl ?_
  refine aw_callVv (P9 := fun u => ds_P D ad cA nb u) [] C hK (c_De_checkSeatingMade l D ad cA nb S h1) (cw_De_De_checkSeatingMade C.2.2.2.2 rfl rfl (by decide)) rfl (fun H h => aw_recv hK rfl (h 0 0 rfl)) (fun H h => h) (fun q h => h.elim) (fun q h => Or.inr (by rw [← hsz]; exact h)) rfl (Nat.le_of_ble_eq_true rfl) d_De_settle_1 (by decide) (fun H H1 u _ _ hB _ _ => hB) ?_
  rintro u rfl
  refine aw_iconst (v := 0) C d_De_settle_4 (by decide) ?_
  refine aw_istore_n (i := 1) (lv' := [(1, .int 0), (0, .ref (ad 0 0))]) C d_De_settle_5 rfl (by decide) rfl ?_
  refine aw_iconst (v := 0) C d_De_settle_6 (by decide) ?_
  refine aw_istore_n (i := 2) (lv' := [(2, .int 0), (1, .int 0), (0, .ref (ad 0 0))]) C d_De_settle_7 rfl (by decide) rfl ?_
  exact aw_lv [2, 1, 0] rfl (lp M 0 (by omega))
set_option maxHeartbeats 4000000 in
set_option maxRecDepth 100000 in
theorem t_De_settle (l : Launch) (D : va_G) (ad : Nat → Nat → Nat) (cA : Nat → ClassId) (nb : Nat) (S : ds_S) (hl : l.stackTraces = false) (h1 : S.1 4 0 0 = 0) : Ct_t l y_De_settle b_De_settle 4 (some .int) ({ frames := 7, cells := 1, slots := 6, locals := 111 } : Room) 1 6 D (ds_ty cA) [.ref (ad 0 0)] (ds_P D ad cA nb S) R_Is := by
  intro sz
  refine th_of (by decide) (Nat.le_of_ble_eq_true rfl) ?_
  intro p e s m args below meth c hsz C hlk hno hK hZ
  refine aw_lv (lv' := [(0, .ref (ad 0 0))]) [0] rfl ?_
  refine aw_aload_n C d_De_settle_0 rfl (j := 0) rfl ?_
  exact aw_callVT [] C hK hZ hno hlk (t_De_checkSeatingMade l D ad cA nb S hl h1) (cw_De_De_checkSeatingMade C.2.2.2.2 rfl rfl (by decide)) rfl (fun H h => aw_recv hK rfl (h 0 0 rfl)) (fun H h => h) rfl (Nat.le_of_ble_eq_true rfl) d_De_settle_1 (by decide) (by decide) (by decide)
set_option maxHeartbeats 4000000 in
set_option maxRecDepth 100000 in
theorem c_De_seat (l : Launch) (D : va_G) (ad : Nat → Nat → Nat) (cA : Nat → ClassId) (nb : Nat) (S : ds_S) (M N : Nat) (hI : ds_I ad nb) (hM : S.1 1 0 0 = nI M) (hM9 : M ≤ 10) (hN : S.1 0 0 0 = nI N) (hN9 : N ≤ 14) (hV : ma_V S) (hT : mt_T N (-1) M 0 (cs_F (ds_wI S 6 0 0 (nI N)) N)) (u1 : ds_S) (w1 : Int32) (hu : mt_L N (-1) M 0 (cs_F (ds_wI S 6 0 0 (nI N)) N) = (w1, u1)) (k1 : u1.1 1 0 0 = S.1 1 0 0) (k0 : u1.1 0 0 0 = S.1 0 0 0) (k6 : u1.1 6 0 0 = nI N) (kV : ma_V u1) (k1t : (tp_F u1 N).1 1 0 0 = S.1 1 0 0) (k0t : (tp_F u1 N).1 0 0 0 = S.1 0 0 0) : Ct_i l y_De_seat b_De_seat 2 (some .int) ({ frames := 5, cells := 0, slots := 0, locals := 120 } : Room) 0 0 D (ds_ty cA) (ds_A ad nb) [.ref (ad 0 0)] (ds_P D ad cA nb S) (fun (r : Int32) (u : ds_S) => r = w1 ∧ u = if w1 = -1 then ds_wI u1 4 0 0 0 else ds_wI (ds_wI (pl_L M N 15 0 (sa_F (tp_F u1 N) M)) 4 0 0 1) 5 0 0 w1) (ds_P D ad cA nb) := by
  intro sz
  refine ct_of (by decide) (Nat.le_of_ble_eq_true rfl) ?_
  intro p e s m args below meth c hsz C hr hlk hnm hK
  refine aw_lv (lv' := [(0, .ref (ad 0 0))]) [0] rfl ?_
  refine aw_aload_n C d_De_seat_0 rfl (j := 0) rfl ?_
  refine gt_De_De_matcher C hK  d_De_seat_1 ?_
  refine aw_aload_n C d_De_seat_4 rfl (j := 0) rfl ?_
  refine gt_De_De_persons C hK  d_De_seat_5 ?_
  refine aw_aload_n C d_De_seat_8 rfl (j := 0) rfl ?_
  refine gt_De_De_personCount C hK  d_De_seat_9 ?_
  refine aw_iconst (v := (-1)) C d_De_seat_12 (by decide) ?_
  refine aw_aload_n C d_De_seat_13 rfl (j := 0) rfl ?_
  refine gt_De_De_deskCount C hK  d_De_seat_14 ?_
  rw [hM, hN]
  refine aw_callVi (P9 := fun r u => ds_P D ad cA nb u) [.ref (ad 1 0), .int (nI M), .int (-1), .int (nI N)] C hK (c_Ma_match l D ad cA nb S N M (-1) hI hN9 hM9 hV hT) (cw_De_Ma_match C.2.2.2.2 rfl rfl (by decide)) rfl (fun H h => aw_recv hK rfl (h 2 0 rfl)) (fun H h => h) (fun q h => Or.inl h) (fun q h => Or.inr (by rw [← hsz]; exact h)) rfl (Nat.le_of_ble_eq_true rfl) d_De_seat_17 (by decide) (fun H H1 r u _ _ hB _ _ => hB) ?_
  rintro r u ⟨hu1, hr1⟩
  rw [hu] at hu1 hr1
  obtain rfl : u = u1 := hu1
  obtain rfl : r = w1 := hr1
  refine aw_istore_n (i := 1) (lv' := [(1, .int r), (0, .ref (ad 0 0))]) C d_De_seat_20 rfl (by decide) rfl ?_
  refine aw_iload_n C d_De_seat_21 rfl (j := 0) rfl ?_
  refine aw_iconst (v := (-1)) C d_De_seat_22 (by decide) ?_
  refine aw_icmp_ne (tgt := 33) C d_De_seat_23 (by decide) (fun c_23 => ?_) (fun c_23 => ?_)
  · refine aw_aload_n C d_De_seat_33 rfl (j := 1) rfl ?_
    refine gt_De_De_matcher C hK  d_De_seat_34 ?_
    refine aw_callVv (P9 := fun u => ds_P D ad cA nb u) [] C hK (c_Ma_tellPersons l D ad cA nb u N hI hN9 k6 kV) (cw_De_Ma_tellPersons C.2.2.2.2 rfl rfl (by decide)) rfl (fun H h => aw_recv hK rfl (h 2 0 rfl)) (fun H h => h) (fun q h => Or.inl h) (fun q h => Or.inr (by rw [← hsz]; exact h)) rfl (Nat.le_of_ble_eq_true rfl) d_De_seat_37 (by decide) (fun H H1 u2 _ _ hB _ _ => hB) ?_
    rintro u2 rfl
    refine aw_aload_n C d_De_seat_40 rfl (j := 1) rfl ?_
    refine gt_De_De_walk C hK  d_De_seat_41 ?_
    refine aw_aload_n C d_De_seat_44 rfl (j := 1) rfl ?_
    refine gt_De_De_persons C hK  d_De_seat_45 ?_
    refine aw_aload_n C d_De_seat_48 rfl (j := 1) rfl ?_
    refine gt_De_De_personCount C hK  d_De_seat_49 ?_
    refine aw_aload_n C d_De_seat_52 rfl (j := 1) rfl ?_
    refine gt_De_De_deskCount C hK  d_De_seat_53 ?_
    rw [k1t, k0t, hM, hN]
    refine aw_callVv (P9 := fun u => ds_P D ad cA nb u) [.ref (ad 1 0), .int (nI M), .int (nI N)] C hK (c_Wa_plan l D ad cA nb (tp_F u N) M N hI hM9 hN9) (cw_De_Wa_plan C.2.2.2.2 rfl rfl (by decide)) rfl (fun H h => aw_recv hK rfl (h 4 0 rfl)) (fun H h => h) (fun q h => Or.inl h) (fun q h => Or.inr (by rw [← hsz]; exact h)) rfl (Nat.le_of_ble_eq_true rfl) d_De_seat_56 (by decide) (fun H H1 u2 _ _ hB _ _ => hB) ?_
    rintro u2 rfl
    refine aw_aload_n C d_De_seat_59 rfl (j := 1) rfl ?_
    refine aw_iconst (v := 1) C d_De_seat_60 (by decide) ?_
    refine pt_De_De_seatingMade (x := 1) C hK hI  (Or.inr rfl) d_De_seat_61 ?_
    refine aw_aload_n C d_De_seat_64 rfl (j := 1) rfl ?_
    refine aw_iload_n C d_De_seat_65 rfl (j := 0) rfl ?_
    refine pt_De_De_seatingWorth (x := r) C hK hI   d_De_seat_66 ?_
    refine aw_iload_n C d_De_seat_69 rfl (j := 0) rfl ?_
    exact aw_iret C hr hlk _ ⟨rfl, by rw [if_neg c_23]⟩ (fun H h => h) d_De_seat_70
  · refine aw_aload_n C d_De_seat_26 rfl (j := 1) rfl ?_
    refine aw_iconst (v := 0) C d_De_seat_27 (by decide) ?_
    refine pt_De_De_seatingMade (x := 0) C hK hI  (Or.inl rfl) d_De_seat_28 ?_
    refine aw_iconst (v := (-1)) C d_De_seat_31 (by decide) ?_
    exact aw_iret C hr hlk _ ⟨by rw [c_23], by rw [if_pos c_23]⟩ (fun H h => h) d_De_seat_32
set_option maxHeartbeats 4000000 in
set_option maxRecDepth 100000 in
theorem c_De_worthOf (l : Launch) (D : va_G) (ad : Nat → Nat → Nat) (cA : Nat → ClassId) (nb : Nat) (S : ds_S) (p9 M N : Nat) (hI : ds_I ad nb) (hp : p9 < 10) (h1 : (¬ nI p9 < 0 ∧ nI p9 < S.1 1 0 0)) (h2 : ¬ S.1 4 0 0 = 0) (hM : S.1 1 0 0 = nI M) (hM9 : M ≤ 10) (hN : S.1 0 0 0 = nI N) (hN9 : N ≤ 14) (hV : ma_V S) (hT : mt_T N (nI p9) M 0 (cs_F (ds_wI S 6 0 0 (nI N)) N)) : Ct_i l y_De_worthOf b_De_worthOf 2 (some .int) ({ frames := 7, cells := 0, slots := 0, locals := 120 } : Room) 0 0 D (ds_ty cA) (ds_A ad nb) [.ref (ad 0 0), .int (nI p9)] (ds_P D ad cA nb S) (fun (r : Int32) (u : ds_S) => u = (mt_L N (nI p9) M 0 (cs_F (ds_wI S 6 0 0 (nI N)) N)).2 ∧ r = S.1 5 0 0 - (mt_L N (nI p9) M 0 (cs_F (ds_wI S 6 0 0 (nI N)) N)).1) (ds_P D ad cA nb) := by
  intro sz
  refine ct_of (by decide) (Nat.le_of_ble_eq_true rfl) ?_
  intro p e s m args below meth c hsz C hr hlk hnm hK
  refine aw_lv (lv' := [(0, .ref (ad 0 0)), (1, .int (nI p9))]) [0, 1] rfl ?_
  refine aw_aload_n C d_De_worthOf_0 rfl (j := 0) rfl ?_
  refine aw_iload_n C d_De_worthOf_1 rfl (j := 1) rfl ?_
  refine aw_callVv (P9 := fun u => ds_P D ad cA nb u) [.int (nI p9)] C hK (c_De_checkPerson l D ad cA nb S (nI p9) h1) (cw_De_De_checkPerson C.2.2.2.2 rfl rfl (by decide)) rfl (fun H h => aw_recv hK rfl (h 0 0 rfl)) (fun H h => h) (fun q h => h.elim) (fun q h => Or.inr (by rw [← hsz]; exact h)) rfl (Nat.le_of_ble_eq_true rfl) d_De_worthOf_2 (by decide) (fun H H1 u _ _ hB _ _ => hB) ?_
  rintro u rfl
  refine aw_aload_n C d_De_worthOf_5 rfl (j := 0) rfl ?_
  refine aw_callVv (P9 := fun u => ds_P D ad cA nb u) [] C hK (c_De_checkSeatingMade l D ad cA nb S h2) (cw_De_De_checkSeatingMade C.2.2.2.2 rfl rfl (by decide)) rfl (fun H h => aw_recv hK rfl (h 0 0 rfl)) (fun H h => h) (fun q h => h.elim) (fun q h => Or.inr (by rw [← hsz]; exact h)) rfl (Nat.le_of_ble_eq_true rfl) d_De_worthOf_6 (by decide) (fun H H1 u _ _ hB _ _ => hB) ?_
  rintro u rfl
  refine aw_aload_n C d_De_worthOf_9 rfl (j := 0) rfl ?_
  refine gt_De_De_seatingWorth C hK  d_De_worthOf_10 ?_
  refine aw_aload_n C d_De_worthOf_13 rfl (j := 0) rfl ?_
  refine gt_De_De_matcher C hK  d_De_worthOf_14 ?_
  refine aw_aload_n C d_De_worthOf_17 rfl (j := 0) rfl ?_
  refine gt_De_De_persons C hK  d_De_worthOf_18 ?_
  refine aw_aload_n C d_De_worthOf_21 rfl (j := 0) rfl ?_
  refine gt_De_De_personCount C hK  d_De_worthOf_22 ?_
  refine aw_iload_n C d_De_worthOf_25 rfl (j := 1) rfl ?_
  refine aw_aload_n C d_De_worthOf_26 rfl (j := 0) rfl ?_
  refine gt_De_De_deskCount C hK  d_De_worthOf_27 ?_
  rw [hM, hN]
  refine aw_callVi (P9 := fun r u => ds_P D ad cA nb u) [.ref (ad 1 0), .int (nI M), .int (nI p9), .int (nI N)] C hK (c_Ma_match l D ad cA nb S N M (nI p9) hI hN9 hM9 hV hT) (cw_De_Ma_match C.2.2.2.2 rfl rfl (by decide)) rfl (fun H h => aw_recv hK rfl (h 2 0 rfl)) (fun H h => h) (fun q h => Or.inl h) (fun q h => Or.inr (by rw [← hsz]; exact h)) rfl (Nat.le_of_ble_eq_true rfl) d_De_worthOf_30 (by decide) (fun H H1 r u _ _ hB _ _ => hB) ?_
  rintro r u ⟨rfl, rfl⟩
  refine aw_isub C d_De_worthOf_33 ?_
  exact aw_iret C hr hlk _ ⟨rfl, rfl⟩ (fun H h => h) d_De_worthOf_34
set_option maxHeartbeats 4000000 in
set_option maxRecDepth 100000 in
theorem t_De_worthOf1 (l : Launch) (D : va_G) (ad : Nat → Nat → Nat) (cA : Nat → ClassId) (nb : Nat) (S : ds_S) (hl : l.stackTraces = false) (x : Int32) (h1 : ¬ (¬ x < 0 ∧ x < S.1 1 0 0)) : Ct_t l y_De_worthOf b_De_worthOf 2 (some .int) ({ frames := 7, cells := 1, slots := 6, locals := 120 } : Room) 1 6 D (ds_ty cA) [.ref (ad 0 0), .int x] (ds_P D ad cA nb S) R_Ia := by
  intro sz
  refine th_of (by decide) (Nat.le_of_ble_eq_true rfl) ?_
  intro p e s m args below meth c hsz C hlk hno hK hZ
  refine aw_lv (lv' := [(0, .ref (ad 0 0)), (1, .int x)]) [0, 1] rfl ?_
  refine aw_aload_n C d_De_worthOf_0 rfl (j := 0) rfl ?_
  refine aw_iload_n C d_De_worthOf_1 rfl (j := 1) rfl ?_
  exact aw_callVT [.int x] C hK hZ hno hlk (t_De_checkPerson l D ad cA nb S hl (x) h1) (cw_De_De_checkPerson C.2.2.2.2 rfl rfl (by decide)) rfl (fun H h => aw_recv hK rfl (h 0 0 rfl)) (fun H h => h) rfl (Nat.le_of_ble_eq_true rfl) d_De_worthOf_2 (by decide) (by decide) (by decide)
set_option maxHeartbeats 4000000 in
set_option maxRecDepth 100000 in
theorem t_De_worthOf2 (l : Launch) (D : va_G) (ad : Nat → Nat → Nat) (cA : Nat → ClassId) (nb : Nat) (S : ds_S) (hl : l.stackTraces = false) (x : Int32) (h1 : (¬ x < 0 ∧ x < S.1 1 0 0)) (h2 : S.1 4 0 0 = 0) : Ct_t l y_De_worthOf b_De_worthOf 2 (some .int) ({ frames := 7, cells := 1, slots := 6, locals := 120 } : Room) 1 6 D (ds_ty cA) [.ref (ad 0 0), .int x] (ds_P D ad cA nb S) R_Is := by
  intro sz
  refine th_of (by decide) (Nat.le_of_ble_eq_true rfl) ?_
  intro p e s m args below meth c hsz C hlk hno hK hZ
  refine aw_lv (lv' := [(0, .ref (ad 0 0)), (1, .int x)]) [0, 1] rfl ?_
  refine aw_aload_n C d_De_worthOf_0 rfl (j := 0) rfl ?_
  refine aw_iload_n C d_De_worthOf_1 rfl (j := 1) rfl ?_
  refine aw_callVv (P9 := fun u => ds_P D ad cA nb u) [.int x] C hK (c_De_checkPerson l D ad cA nb S (x) h1) (cw_De_De_checkPerson C.2.2.2.2 rfl rfl (by decide)) rfl (fun H h => aw_recv hK rfl (h 0 0 rfl)) (fun H h => h) (fun q h => h.elim) (fun q h => h) rfl (Nat.le_of_ble_eq_true rfl) d_De_worthOf_2 (by decide) (fun H H1 u _ _ hB _ _ => hB) ?_
  rintro u rfl
  refine aw_aload_n C d_De_worthOf_5 rfl (j := 0) rfl ?_
  exact aw_callVT [] C hK hZ hno hlk (t_De_checkSeatingMade l D ad cA nb S hl h2) (cw_De_De_checkSeatingMade C.2.2.2.2 rfl rfl (by decide)) rfl (fun H h => aw_recv hK rfl (h 0 0 rfl)) (fun H h => h) rfl (Nat.le_of_ble_eq_true rfl) d_De_worthOf_6 (by decide) (by decide) (by decide)
set_option maxHeartbeats 4000000 in
set_option maxRecDepth 100000 in
theorem c_De_room (l : Launch) (D : va_G) (ad : Nat → Nat → Nat) (cA : Nat → ClassId) (nb : Nat) (S : ds_S) (x : Int32) (k9 : Nat) (hI : ds_I ad nb) (hk9 : k9 < 8) (hR9 : S.1 2 0 0 = nI k9) (h0 : ¬ x < 1 ∧ x ≤ 200) : Ct_i l y_De_room b_De_room 2 (some .int) ({ frames := 6, cells := 0, slots := 0, locals := 91 } : Room) 0 0 D (ds_ty cA) (ds_A ad nb) [.ref (ad 0 0), .int x] (ds_P D ad cA nb S) (fun (r : Int32) (u : ds_S) => u = ds_wI (ds_wI S 19 k9 0 x) 2 0 0 (nI k9 + 1) ∧ r = nI k9 + 1 - 1) (ds_P D ad cA nb) := by
  intro sz
  refine ct_of (by decide) (Nat.le_of_ble_eq_true rfl) ?_
  intro p e s m args below meth c hsz C hr hlk hnm hK
  refine aw_lv (lv' := [(0, .ref (ad 0 0)), (1, .int x)]) [0, 1] rfl ?_
  refine aw_iload_n C d_De_room_0 rfl (j := 1) rfl ?_
  refine aw_iconst (v := 1) C d_De_room_1 (by decide) ?_
  refine aw_icmp_lt (tgt := 12) C d_De_room_2 (by decide) (fun c_2 => ?_) (fun c_2 => ?_)
  · exact absurd c_2 h0.1
  · refine aw_iload_n C d_De_room_5 rfl (j := 1) rfl ?_
    refine aw_sipush (v := 200) C d_De_room_6 (by decide) ?_
    refine aw_icmp_le (tgt := 22) C d_De_room_9 (by decide) (fun c_9 => ?_) (fun c_9 => ?_)
    · refine aw_aload_n C d_De_room_22 rfl (j := 0) rfl ?_
      refine gt_De_De_roomCount C hK  d_De_room_23 ?_
      refine aw_bipush (v := 8) C d_De_room_26 (by decide) ?_
      refine aw_icmp_lt (tgt := 41) C d_De_room_28 (by decide) (fun c_28 => ?_) (fun c_28 => ?_)
      · refine aw_aload_n C d_De_room_41 rfl (j := 0) rfl ?_
        refine gt_De_De_rooms C hK  d_De_room_42 ?_
        refine aw_aload_n C d_De_room_45 rfl (j := 0) rfl ?_
        refine gt_De_De_roomCount C hK  d_De_room_46 ?_
        refine al_8 C hK  k9 hR9 hk9 d_De_room_49 ?_
        refine aw_iload_n C d_De_room_50 rfl (j := 1) rfl ?_
        refine pt_De_Ro_places (x := x) C hK hI hk9  d_De_room_51 ?_
        refine aw_aload_n C d_De_room_54 rfl (j := 0) rfl ?_
        refine aw_dup C d_De_room_55 rfl ?_
        refine gt_De_De_roomCount C hK  d_De_room_56 ?_
        refine aw_iconst (v := 1) C d_De_room_59 (by decide) ?_
        refine aw_iadd C d_De_room_60 ?_
        refine pt_De_De_roomCount (x := ((((ds_wI S 19 k9 0 x).1 2 0 0)) + 1)) C hK hI   d_De_room_61 ?_
        refine aw_aload_n C d_De_room_64 rfl (j := 0) rfl ?_
        refine gt_De_De_roomCount C hK  d_De_room_65 ?_
        refine aw_iconst (v := 1) C d_De_room_68 (by decide) ?_
        refine aw_isub C d_De_room_69 ?_
        exact aw_iret C hr hlk _ ⟨by rw [← hR9]; rfl, by rw [← hR9]; rfl⟩ (fun H h => h) d_De_room_70
      · exact absurd (by rw [hR9, show (8 : Int32) = nI 8 from rfl]; exact nI_lt hk9 (by omega)) c_28
    · exact absurd h0.2 c_9
set_option maxHeartbeats 4000000 in
set_option maxRecDepth 100000 in
theorem t_De_room1 (l : Launch) (D : va_G) (ad : Nat → Nat → Nat) (cA : Nat → ClassId) (nb : Nat) (S : ds_S) (hl : l.stackTraces = false) (x : Int32) (h0 : ¬ (¬ x < 1 ∧ x ≤ 200)) : Ct_t l y_De_room b_De_room 2 (some .int) ({ frames := 6, cells := 1, slots := 6, locals := 91 } : Room) 1 6 D (ds_ty cA) [.ref (ad 0 0), .int x] (ds_P D ad cA nb S) R_Ia := by
  intro sz
  refine th_of (by decide) (Nat.le_of_ble_eq_true rfl) ?_
  intro p e s m args below meth c hsz C hlk hno hK hZ
  refine aw_lv (lv' := [(0, .ref (ad 0 0)), (1, .int x)]) [0, 1] rfl ?_
  refine aw_iload_n C d_De_room_0 rfl (j := 1) rfl ?_
  refine aw_iconst (v := 1) C d_De_room_1 (by decide) ?_
  refine aw_icmp_lt (tgt := 12) C d_De_room_2 (by decide) (fun c_2 => ?_) (fun c_2 => ?_)
  · exact aw_throw C hl hZ hno hlk bf_Ia cl_De_Ia ii_Ia nx_Ia oa_Ia sr_134 d_De_room_12 d_De_room_15 d_De_room_16 d_De_room_18 d_De_room_21 (by decide) (by decide) (by decide) (by decide) (by decide) (by decide)
  · refine aw_iload_n C d_De_room_5 rfl (j := 1) rfl ?_
    refine aw_sipush (v := 200) C d_De_room_6 (by decide) ?_
    refine aw_icmp_le (tgt := 22) C d_De_room_9 (by decide) (fun c_9 => ?_) (fun c_9 => ?_)
    · exact absurd ⟨c_2, c_9⟩ h0
    · exact aw_throw C hl hZ hno hlk bf_Ia cl_De_Ia ii_Ia nx_Ia oa_Ia sr_134 d_De_room_12 d_De_room_15 d_De_room_16 d_De_room_18 d_De_room_21 (by decide) (by decide) (by decide) (by decide) (by decide) (by decide)
set_option maxHeartbeats 4000000 in
set_option maxRecDepth 100000 in
theorem t_De_room2 (l : Launch) (D : va_G) (ad : Nat → Nat → Nat) (cA : Nat → ClassId) (nb : Nat) (S : ds_S) (hl : l.stackTraces = false) (x : Int32) (h0 : ¬ x < 1 ∧ x ≤ 200) (h1 : ¬ S.1 2 0 0 < 8) : Ct_t l y_De_room b_De_room 2 (some .int) ({ frames := 6, cells := 1, slots := 6, locals := 91 } : Room) 1 6 D (ds_ty cA) [.ref (ad 0 0), .int x] (ds_P D ad cA nb S) R_Is := by
  intro sz
  refine th_of (by decide) (Nat.le_of_ble_eq_true rfl) ?_
  intro p e s m args below meth c hsz C hlk hno hK hZ
  refine aw_lv (lv' := [(0, .ref (ad 0 0)), (1, .int x)]) [0, 1] rfl ?_
  refine aw_iload_n C d_De_room_0 rfl (j := 1) rfl ?_
  refine aw_iconst (v := 1) C d_De_room_1 (by decide) ?_
  refine aw_icmp_lt (tgt := 12) C d_De_room_2 (by decide) (fun c_2 => ?_) (fun c_2 => ?_)
  · exact absurd c_2 h0.1
  · refine aw_iload_n C d_De_room_5 rfl (j := 1) rfl ?_
    refine aw_sipush (v := 200) C d_De_room_6 (by decide) ?_
    refine aw_icmp_le (tgt := 22) C d_De_room_9 (by decide) (fun c_9 => ?_) (fun c_9 => ?_)
    · refine aw_aload_n C d_De_room_22 rfl (j := 0) rfl ?_
      refine gt_De_De_roomCount C hK  d_De_room_23 ?_
      refine aw_bipush (v := 8) C d_De_room_26 (by decide) ?_
      refine aw_icmp_lt (tgt := 41) C d_De_room_28 (by decide) (fun c_28 => ?_) (fun c_28 => ?_)
      · exact absurd c_28 h1
      · exact aw_throw C hl hZ hno hlk bf_Is cl_De_Is ii_Is nx_Is oa_Is sr_139 d_De_room_31 d_De_room_34 d_De_room_35 d_De_room_37 d_De_room_40 (by decide) (by decide) (by decide) (by decide) (by decide) (by decide)
    · exact absurd h0.2 c_9
theorem rm_01 (S : ds_S) (r g n : Nat) : (rm_F S r g n).1 = 0 ∨ (rm_F S r g n).1 = 1 := by
  unfold rm_F
  split
  · exact Or.inr rfl
  · split
    · exact Or.inl rfl
    · exact Or.inr rfl
set_option maxHeartbeats 4000000 in
set_option maxRecDepth 100000 in
theorem c_De_cancel (l : Launch) (D : va_G) (ad : Nat → Nat → Nat) (cA : Nat → ClassId) (nb : Nat) (S : ds_S) (g ro : Nat) (hI : ds_I ad nb) (hg : g < nb) (hg3 : g < 300) (hro : ro < 8) (hro2 : S.2.2 4 g = some ro) (hn : ∀ j, j < nb → S.2.2 5 j = some j) (hn0 : ∀ j, nb ≤ j → S.2.2 5 j = none) (n0 : Nat) (hB : ∀ k k', S.2.2 3 k = some k' → k' < nb) (hF : ∀ r k, S.2.2 2 r = some k → k < nb) (hT : ∀ r, ho_T (S.2.2 3) n0 (S.2.2 2 r)) : Ct_i l y_De_cancel b_De_cancel 3 (some .boolean) ({ frames := 7, cells := 0, slots := 0, locals := 113 } : Room) 0 0 D (ds_ty cA) (ds_A ad nb) [.ref (ad 0 0), .int (nI g)] (ds_P D ad cA nb S) (fun (r : Int32) (u : ds_S) => u = (rm_F S ro g n0).2 ∧ r = (rm_F S ro g n0).1) (ds_P D ad cA nb) := by
  intro sz
  refine ct_of (by decide) (Nat.le_of_ble_eq_true rfl) ?_
  intro p e s m args below meth c hsz C hr hlk hnm hK
  refine aw_lv (lv' := [(0, .ref (ad 0 0)), (1, .int (nI g))]) [0, 1] rfl ?_
  refine aw_aload_n C d_De_cancel_0 rfl (j := 0) rfl ?_
  refine aw_iload_n C d_De_cancel_1 rfl (j := 1) rfl ?_
  refine aw_callVq (P9 := fun r u => ds_P D ad cA nb u) [.int (nI g)] C hK (c_De_bookingNumbered l D ad cA nb S g hg hg3 hn hn0) (cw_De_De_bookingNumbered C.2.2.2.2 rfl rfl (by decide)) rfl (fun H h => aw_recv hK rfl (h 0 0 rfl)) (fun H h => h) (fun q h => h.elim) (fun q h => Or.inr (by rw [← hsz]; exact h)) rfl (Nat.le_of_ble_eq_true rfl) d_De_cancel_2 (by decide) (fun H H1 r u _ _ hB _ _ => hB) ?_
  rintro r u ⟨rfl, rfl⟩
  refine aw_astore_n (i := 2) (lv' := [(2, .ref (ad 15 g)), (0, .ref (ad 0 0)), (1, .int (nI g))]) C d_De_cancel_5 rfl (by decide) rfl ?_
  refine aw_aload_n C d_De_cancel_6 rfl (j := 0) rfl ?_
  refine gt_De_Bk_bookedRoom C hK hg d_De_cancel_7 ?_
  rw [hro2]
  refine aw_aload_n C d_De_cancel_10 rfl (j := 0) rfl ?_
  refine aw_callVi (P9 := fun r u => ds_P D ad cA nb u) [.ref (ad 15 g)] C hK (c_Ro_remove l D ad cA nb S n0 ro g hI hro hB (hF ro) (hT ro) hg) (cw_De_Ro_remove C.2.2.2.2 rfl rfl (by decide)) rfl (fun H h => aw_recv hK rfl (h 14 ro hro)) (fun H h => h) (fun q h => Or.inl h) (fun q h => Or.inr (by rw [← hsz]; exact h)) rfl (Nat.le_of_ble_eq_true rfl) d_De_cancel_11 (by decide) (fun H H1 r u _ _ hB _ _ => hB) ?_
  rintro r u ⟨rfl, rfl⟩
  exact aw_zret C hr hlk (nr_z (rm_01 S ro g n0)).1 _ ⟨rfl, rfl⟩ (fun H h => h) d_De_cancel_14
set_option maxHeartbeats 4000000 in
set_option maxRecDepth 100000 in
theorem c_De_roomOf (l : Launch) (D : va_G) (ad : Nat → Nat → Nat) (cA : Nat → ClassId) (nb : Nat) (S : ds_S) (g ro : Nat) (hI : ds_I ad nb) (hg : g < nb) (hg3 : g < 300) (hro : ro < 8) (hro2 : S.2.2 4 g = some ro) (hn : ∀ j, j < nb → S.2.2 5 j = some j) (hn0 : ∀ j, nb ≤ j → S.2.2 5 j = none) : Ct_i l y_De_roomOf b_De_roomOf 2 (some .int) ({ frames := 7, cells := 0, slots := 0, locals := 113 } : Room) 0 0 D (ds_ty cA) (ds_A ad nb) [.ref (ad 0 0), .int (nI g)] (ds_P D ad cA nb S) (fun (r : Int32) (u : ds_S) => S = u ∧ r = nI ro) (ds_P D ad cA nb) := by
  intro sz
  refine ct_of (by decide) (Nat.le_of_ble_eq_true rfl) ?_
  intro p e s m args below meth c hsz C hr hlk hnm hK
  refine aw_lv (lv' := [(0, .ref (ad 0 0)), (1, .int (nI g))]) [0, 1] rfl ?_
  refine aw_aload_n C d_De_roomOf_0 rfl (j := 0) rfl ?_
  refine aw_iload_n C d_De_roomOf_1 rfl (j := 1) rfl ?_
  refine aw_callVq (P9 := fun r u => ds_P D ad cA nb u) [.int (nI g)] C hK (c_De_bookingNumbered l D ad cA nb S g hg hg3 hn hn0) (cw_De_De_bookingNumbered C.2.2.2.2 rfl rfl (by decide)) rfl (fun H h => aw_recv hK rfl (h 0 0 rfl)) (fun H h => h) (fun q h => h.elim) (fun q h => Or.inr (by rw [← hsz]; exact h)) rfl (Nat.le_of_ble_eq_true rfl) d_De_roomOf_2 (by decide) (fun H H1 r u _ _ hB _ _ => hB) ?_
  rintro r u ⟨rfl, rfl⟩
  refine gt_De_Bk_bookedRoom C hK hg d_De_roomOf_5 ?_
  rw [hro2]
  refine gt_De_Ro_number C hK hro d_De_roomOf_8 ?_
  exact aw_iret C hr hlk _ ⟨rfl, rfl⟩ (fun H h => h) d_De_roomOf_11
set_option maxHeartbeats 4000000 in
set_option maxRecDepth 100000 in
theorem t_De_cancel1 (l : Launch) (D : va_G) (ad : Nat → Nat → Nat) (cA : Nat → ClassId) (nb : Nat) (S : ds_S) (hl : l.stackTraces = false) (x : Int32) (h0 : ¬ (¬ x < 0 ∧ x < 300)) : Ct_t l y_De_cancel b_De_cancel 3 (some .boolean) ({ frames := 7, cells := 1, slots := 6, locals := 113 } : Room) 1 6 D (ds_ty cA) [.ref (ad 0 0), .int x] (ds_P D ad cA nb S) R_Ia := by
  intro sz
  refine th_of (by decide) (Nat.le_of_ble_eq_true rfl) ?_
  intro p e s m args below meth c hsz C hlk hno hK hZ
  refine aw_lv (lv' := [(0, .ref (ad 0 0)), (1, .int x)]) [0, 1] rfl ?_
  refine aw_aload_n C d_De_cancel_0 rfl (j := 0) rfl ?_
  refine aw_iload_n C d_De_cancel_1 rfl (j := 1) rfl ?_
  exact aw_callVT [.int x] C hK hZ hno hlk (t_De_bookingNumbered1 l D ad cA nb S hl x h0) (cw_De_De_bookingNumbered C.2.2.2.2 rfl rfl (by decide)) rfl (fun H h => aw_recv hK rfl (h 0 0 rfl)) (fun H h => h) rfl (Nat.le_of_ble_eq_true rfl) d_De_cancel_2 (by decide) (by decide) (by decide)
set_option maxHeartbeats 4000000 in
set_option maxRecDepth 100000 in
theorem t_De_cancel2 (l : Launch) (D : va_G) (ad : Nat → Nat → Nat) (cA : Nat → ClassId) (nb : Nat) (S : ds_S) (hl : l.stackTraces = false) (g : Nat) (hg : nb ≤ g) (hg3 : g < 300) (hn : ∀ j, j < nb → S.2.2 5 j = some j) (hn0 : ∀ j, nb ≤ j → S.2.2 5 j = none) : Ct_t l y_De_cancel b_De_cancel 3 (some .boolean) ({ frames := 7, cells := 1, slots := 6, locals := 113 } : Room) 1 6 D (ds_ty cA) [.ref (ad 0 0), .int (nI g)] (ds_P D ad cA nb S) R_Ia := by
  intro sz
  refine th_of (by decide) (Nat.le_of_ble_eq_true rfl) ?_
  intro p e s m args below meth c hsz C hlk hno hK hZ
  refine aw_lv (lv' := [(0, .ref (ad 0 0)), (1, .int (nI g))]) [0, 1] rfl ?_
  refine aw_aload_n C d_De_cancel_0 rfl (j := 0) rfl ?_
  refine aw_iload_n C d_De_cancel_1 rfl (j := 1) rfl ?_
  exact aw_callVT [.int (nI g)] C hK hZ hno hlk (t_De_bookingNumbered2 l D ad cA nb S hl g hg hg3 hn hn0) (cw_De_De_bookingNumbered C.2.2.2.2 rfl rfl (by decide)) rfl (fun H h => aw_recv hK rfl (h 0 0 rfl)) (fun H h => h) rfl (Nat.le_of_ble_eq_true rfl) d_De_cancel_2 (by decide) (by decide) (by decide)
set_option maxHeartbeats 4000000 in
set_option maxRecDepth 100000 in
theorem t_De_roomOf1 (l : Launch) (D : va_G) (ad : Nat → Nat → Nat) (cA : Nat → ClassId) (nb : Nat) (S : ds_S) (hl : l.stackTraces = false) (x : Int32) (h0 : ¬ (¬ x < 0 ∧ x < 300)) : Ct_t l y_De_roomOf b_De_roomOf 2 (some .int) ({ frames := 7, cells := 1, slots := 6, locals := 113 } : Room) 1 6 D (ds_ty cA) [.ref (ad 0 0), .int x] (ds_P D ad cA nb S) R_Ia := by
  intro sz
  refine th_of (by decide) (Nat.le_of_ble_eq_true rfl) ?_
  intro p e s m args below meth c hsz C hlk hno hK hZ
  refine aw_lv (lv' := [(0, .ref (ad 0 0)), (1, .int x)]) [0, 1] rfl ?_
  refine aw_aload_n C d_De_roomOf_0 rfl (j := 0) rfl ?_
  refine aw_iload_n C d_De_roomOf_1 rfl (j := 1) rfl ?_
  exact aw_callVT [.int x] C hK hZ hno hlk (t_De_bookingNumbered1 l D ad cA nb S hl x h0) (cw_De_De_bookingNumbered C.2.2.2.2 rfl rfl (by decide)) rfl (fun H h => aw_recv hK rfl (h 0 0 rfl)) (fun H h => h) rfl (Nat.le_of_ble_eq_true rfl) d_De_roomOf_2 (by decide) (by decide) (by decide)
set_option maxHeartbeats 4000000 in
set_option maxRecDepth 100000 in
theorem t_De_roomOf2 (l : Launch) (D : va_G) (ad : Nat → Nat → Nat) (cA : Nat → ClassId) (nb : Nat) (S : ds_S) (hl : l.stackTraces = false) (g : Nat) (hg : nb ≤ g) (hg3 : g < 300) (hn : ∀ j, j < nb → S.2.2 5 j = some j) (hn0 : ∀ j, nb ≤ j → S.2.2 5 j = none) : Ct_t l y_De_roomOf b_De_roomOf 2 (some .int) ({ frames := 7, cells := 1, slots := 6, locals := 113 } : Room) 1 6 D (ds_ty cA) [.ref (ad 0 0), .int (nI g)] (ds_P D ad cA nb S) R_Ia := by
  intro sz
  refine th_of (by decide) (Nat.le_of_ble_eq_true rfl) ?_
  intro p e s m args below meth c hsz C hlk hno hK hZ
  refine aw_lv (lv' := [(0, .ref (ad 0 0)), (1, .int (nI g))]) [0, 1] rfl ?_
  refine aw_aload_n C d_De_roomOf_0 rfl (j := 0) rfl ?_
  refine aw_iload_n C d_De_roomOf_1 rfl (j := 1) rfl ?_
  exact aw_callVT [.int (nI g)] C hK hZ hno hlk (t_De_bookingNumbered2 l D ad cA nb S hl g hg hg3 hn hn0) (cw_De_De_bookingNumbered C.2.2.2.2 rfl rfl (by decide)) rfl (fun H h => aw_recv hK rfl (h 0 0 rfl)) (fun H h => h) rfl (Nat.le_of_ble_eq_true rfl) d_De_roomOf_2 (by decide) (by decide) (by decide)
theorem bw_lt {S : ds_S} {a b : Int32} {nb : Nat} (hB : ∀ k k', S.2.2 3 k = some k' → k' < nb) : ∀ (n : Nat) (o : Option Nat), (∀ k, o = some k → k < nb) → ∀ k, bw_L S a b n o = some k → k < nb
  | 0, _, _, k, h => by cases h
  | _ + 1, none, _, k, h => by cases h
  | n + 1, some j, ho, k, h => by
    simp only [bw_L] at h
    split at h
    · exact bw_lt hB n _ (fun z hz => hB j z hz) k h
    · split at h
      · exact bw_lt hB n _ (fun z hz => hB j z hz) k h
      · cases h; exact ho _ rfl
set_option maxHeartbeats 4000000 in
set_option maxRecDepth 100000 in
theorem c_De_inside (l : Launch) (D : va_G) (ad : Nat → Nat → Nat) (cA : Nat → ClassId) (nb : Nat) (S : ds_S) (r9 : Nat) (y : Int32) (hI : ds_I ad nb) (hr9 : r9 < 8) (h1 : (¬ nI r9 < 0 ∧ nI r9 < S.1 2 0 0)) (h2 : (¬ y < 0 ∧ y < 10080)) (n0 : Nat) (hB : ∀ k k', S.2.2 3 k = some k' → k' < nb) (hF : ∀ r k, S.2.2 2 r = some k → k < nb) (hT : ∀ r, ho_T (S.2.2 3) n0 (S.2.2 2 r)) : Ct_i l y_De_inside b_De_inside 4 (some .int) ({ frames := 7, cells := 0, slots := 0, locals := 112 } : Room) 0 0 D (ds_ty cA) (ds_A ad nb) [.ref (ad 0 0), .int (nI r9), .int y] (ds_P D ad cA nb S) (fun (r : Int32) (u : ds_S) => S = u ∧ r = (match bw_L S y (y + 1) n0 (S.2.2 2 r9) with | none => -1 | some k => nI k)) (ds_P D ad cA nb) := by
  intro sz
  refine ct_of (by decide) (Nat.le_of_ble_eq_true rfl) ?_
  intro p e s m args below meth c hsz C hr hlk hnm hK
  refine aw_lv (lv' := [(0, .ref (ad 0 0)), (1, .int (nI r9)), (2, .int y)]) [0, 1, 2] rfl ?_
  refine aw_aload_n C d_De_inside_0 rfl (j := 0) rfl ?_
  refine aw_iload_n C d_De_inside_1 rfl (j := 1) rfl ?_
  refine aw_callVv (P9 := fun u => ds_P D ad cA nb u) [.int (nI r9)] C hK (c_De_checkRoom l D ad cA nb S (nI r9) h1) (cw_De_De_checkRoom C.2.2.2.2 rfl rfl (by decide)) rfl (fun H h => aw_recv hK rfl (h 0 0 rfl)) (fun H h => h) (fun q h => h.elim) (fun q h => Or.inr (by rw [← hsz]; exact h)) rfl (Nat.le_of_ble_eq_true rfl) d_De_inside_2 (by decide) (fun H H1 u _ _ hB _ _ => hB) ?_
  rintro u rfl
  refine aw_aload_n C d_De_inside_5 rfl (j := 0) rfl ?_
  refine aw_iload_n C d_De_inside_6 rfl (j := 2) rfl ?_
  refine aw_callVv (P9 := fun u => ds_P D ad cA nb u) [.int y] C hK (c_De_checkMinute l D ad cA nb S (y) h2) (cw_De_De_checkMinute C.2.2.2.2 rfl rfl (by decide)) rfl (fun H h => aw_recv hK rfl (h 0 0 rfl)) (fun H h => h) (fun q h => h.elim) (fun q h => Or.inr (by rw [← hsz]; exact h)) rfl (Nat.le_of_ble_eq_true rfl) d_De_inside_7 (by decide) (fun H H1 u _ _ hB _ _ => hB) ?_
  rintro u rfl
  refine aw_aload_n C d_De_inside_10 rfl (j := 0) rfl ?_
  refine gt_De_De_rooms C hK  d_De_inside_11 ?_
  refine aw_iload_n C d_De_inside_14 rfl (j := 1) rfl ?_
  refine al_8 C hK  r9 rfl hr9 d_De_inside_15 ?_
  refine aw_iload_n C d_De_inside_16 rfl (j := 2) rfl ?_
  refine aw_iload_n C d_De_inside_17 rfl (j := 2) rfl ?_
  refine aw_iconst (v := 1) C d_De_inside_18 (by decide) ?_
  refine aw_iadd C d_De_inside_19 ?_
  refine aw_callVq (P9 := fun r u => ds_P D ad cA nb u) [.int y, .int (y + 1)] C hK (c_Ro_bookingWithin l D ad cA nb S n0 r9 y (y + 1) hI hr9 hB (hF r9) (hT r9)) (cw_De_Ro_bookingWithin C.2.2.2.2 rfl rfl (by decide)) rfl (fun H h => aw_recv hK rfl (h 14 r9 hr9)) (fun H h => h) (fun q h => Or.inl h) (fun q h => Or.inr (by rw [← hsz]; exact h)) rfl (Nat.le_of_ble_eq_true rfl) d_De_inside_20 (by decide) (fun H H1 r u _ _ hB _ _ => hB) ?_
  rintro r u ⟨rfl, rfl⟩
  rcases ho : bw_L S y (y + 1) n0 (S.2.2 2 r9) with _ | k
  · refine aw_astoreq_n (x := none) (i := 3) (lv' := [(3, va_rf none), (0, .ref (ad 0 0)), (1, .int (nI r9)), (2, .int y)]) C d_De_inside_23 rfl (by decide) rfl ?_
    refine aw_aloadq_n C d_De_inside_24 rfl (j := 0) rfl ?_
    refine aw_ifnonnull (o := none) (tgt := 32) C d_De_inside_25 (by decide) (fun _ h => nomatch h) (fun _ => ?_)
    refine aw_iconst (v := (-1)) C d_De_inside_28 (by decide) ?_
    refine aw_goto (tgt := 36) C d_De_inside_29 (by decide) ?_
    exact aw_iret C hr hlk S ⟨rfl, rfl⟩ (fun H h => h) d_De_inside_36
  · refine aw_astore_n (i := 3) (lv' := [(3, .ref (ad 15 k)), (0, .ref (ad 0 0)), (1, .int (nI r9)), (2, .int y)]) C d_De_inside_23 rfl (by decide) rfl ?_
    refine aw_aload_n C d_De_inside_24 rfl (j := 0) rfl ?_
    refine aw_ifnonnull (o := some ((ad 15 k))) (tgt := 32) C d_De_inside_25 (by decide) (fun _ _ => ?_) (fun h => nomatch h)
    refine aw_aload_n C d_De_inside_32 rfl (j := 0) rfl ?_
    refine gt_De_Bk_number C hK (bw_lt hB n0 _ (hF r9) _ ho) d_De_inside_33 ?_
    exact aw_iret C hr hlk S ⟨rfl, rfl⟩ (fun H h => h) d_De_inside_36
set_option maxHeartbeats 4000000 in
set_option maxRecDepth 100000 in
theorem t_De_inside1 (l : Launch) (D : va_G) (ad : Nat → Nat → Nat) (cA : Nat → ClassId) (nb : Nat) (S : ds_S) (hl : l.stackTraces = false) (x y : Int32) (h1 : ¬ (¬ x < 0 ∧ x < S.1 2 0 0)) : Ct_t l y_De_inside b_De_inside 4 (some .int) ({ frames := 7, cells := 1, slots := 6, locals := 112 } : Room) 1 6 D (ds_ty cA) [.ref (ad 0 0), .int x, .int y] (ds_P D ad cA nb S) R_Ia := by
  intro sz
  refine th_of (by decide) (Nat.le_of_ble_eq_true rfl) ?_
  intro p e s m args below meth c hsz C hlk hno hK hZ
  refine aw_lv (lv' := [(0, .ref (ad 0 0)), (1, .int x), (2, .int y)]) [0, 1, 2] rfl ?_
  refine aw_aload_n C d_De_inside_0 rfl (j := 0) rfl ?_
  refine aw_iload_n C d_De_inside_1 rfl (j := 1) rfl ?_
  exact aw_callVT [.int x] C hK hZ hno hlk (t_De_checkRoom l D ad cA nb S hl (x) h1) (cw_De_De_checkRoom C.2.2.2.2 rfl rfl (by decide)) rfl (fun H h => aw_recv hK rfl (h 0 0 rfl)) (fun H h => h) rfl (Nat.le_of_ble_eq_true rfl) d_De_inside_2 (by decide) (by decide) (by decide)
set_option maxHeartbeats 4000000 in
set_option maxRecDepth 100000 in
theorem t_De_inside2 (l : Launch) (D : va_G) (ad : Nat → Nat → Nat) (cA : Nat → ClassId) (nb : Nat) (S : ds_S) (hl : l.stackTraces = false) (x y : Int32) (h1 : (¬ x < 0 ∧ x < S.1 2 0 0)) (h2 : ¬ (¬ y < 0 ∧ y < 10080)) : Ct_t l y_De_inside b_De_inside 4 (some .int) ({ frames := 7, cells := 1, slots := 6, locals := 112 } : Room) 1 6 D (ds_ty cA) [.ref (ad 0 0), .int x, .int y] (ds_P D ad cA nb S) R_Ia := by
  intro sz
  refine th_of (by decide) (Nat.le_of_ble_eq_true rfl) ?_
  intro p e s m args below meth c hsz C hlk hno hK hZ
  refine aw_lv (lv' := [(0, .ref (ad 0 0)), (1, .int x), (2, .int y)]) [0, 1, 2] rfl ?_
  refine aw_aload_n C d_De_inside_0 rfl (j := 0) rfl ?_
  refine aw_iload_n C d_De_inside_1 rfl (j := 1) rfl ?_
  refine aw_callVv (P9 := fun u => ds_P D ad cA nb u) [.int x] C hK (c_De_checkRoom l D ad cA nb S (x) h1) (cw_De_De_checkRoom C.2.2.2.2 rfl rfl (by decide)) rfl (fun H h => aw_recv hK rfl (h 0 0 rfl)) (fun H h => h) (fun q h => h.elim) (fun q h => h) rfl (Nat.le_of_ble_eq_true rfl) d_De_inside_2 (by decide) (fun H H1 u _ _ hB _ _ => hB) ?_
  rintro u rfl
  refine aw_aload_n C d_De_inside_5 rfl (j := 0) rfl ?_
  refine aw_iload_n C d_De_inside_6 rfl (j := 2) rfl ?_
  exact aw_callVT [.int y] C hK hZ hno hlk (t_De_checkMinute l D ad cA nb S hl (y) h2) (cw_De_De_checkMinute C.2.2.2.2 rfl rfl (by decide)) rfl (fun H h => aw_recv hK rfl (h 0 0 rfl)) (fun H h => h) rfl (Nat.le_of_ble_eq_true rfl) d_De_inside_7 (by decide) (by decide) (by decide)
set_option maxHeartbeats 4000000 in
set_option maxRecDepth 100000 in
theorem c_De_gap (l : Launch) (D : va_G) (ad : Nat → Nat → Nat) (cA : Nat → ClassId) (nb : Nat) (S : ds_S) (r9 : Nat) (y n9 : Int32) (hI : ds_I ad nb) (hr9 : r9 < 8) (h1 : (¬ nI r9 < 0 ∧ nI r9 < S.1 2 0 0)) (h2 : (¬ y < 0 ∧ y < 10080)) (h3 : ¬ n9 < 1 ∧ n9 ≤ 10080) (n0 : Nat) (hB : ∀ k k', S.2.2 3 k = some k' → k' < nb) (hF : ∀ r k, S.2.2 2 r = some k → k < nb) (hT : ∀ r, ho_T (S.2.2 3) n0 (S.2.2 2 r)) : Ct_i l y_De_gap b_De_gap 5 (some .int) ({ frames := 7, cells := 0, slots := 0, locals := 112 } : Room) 0 0 D (ds_ty cA) (ds_A ad nb) [.ref (ad 0 0), .int (nI r9), .int y, .int n9] (ds_P D ad cA nb S) (fun (r : Int32) (u : ds_S) => S = u ∧ r = if 10080 < fr_L S n9 n0 (S.2.2 2 r9) y + n9 then -1 else fr_L S n9 n0 (S.2.2 2 r9) y) (ds_P D ad cA nb) := by
  intro sz
  refine ct_of (by decide) (Nat.le_of_ble_eq_true rfl) ?_
  intro p e s m args below meth c hsz C hr hlk hnm hK
  refine aw_lv (lv' := [(0, .ref (ad 0 0)), (1, .int (nI r9)), (2, .int y), (3, .int n9)]) [0, 1, 2, 3] rfl ?_
  refine aw_aload_n C d_De_gap_0 rfl (j := 0) rfl ?_
  refine aw_iload_n C d_De_gap_1 rfl (j := 1) rfl ?_
  refine aw_callVv (P9 := fun u => ds_P D ad cA nb u) [.int (nI r9)] C hK (c_De_checkRoom l D ad cA nb S (nI r9) h1) (cw_De_De_checkRoom C.2.2.2.2 rfl rfl (by decide)) rfl (fun H h => aw_recv hK rfl (h 0 0 rfl)) (fun H h => h) (fun q h => h.elim) (fun q h => Or.inr (by rw [← hsz]; exact h)) rfl (Nat.le_of_ble_eq_true rfl) d_De_gap_2 (by decide) (fun H H1 u _ _ hB _ _ => hB) ?_
  rintro u rfl
  refine aw_aload_n C d_De_gap_5 rfl (j := 0) rfl ?_
  refine aw_iload_n C d_De_gap_6 rfl (j := 2) rfl ?_
  refine aw_callVv (P9 := fun u => ds_P D ad cA nb u) [.int y] C hK (c_De_checkMinute l D ad cA nb S (y) h2) (cw_De_De_checkMinute C.2.2.2.2 rfl rfl (by decide)) rfl (fun H h => aw_recv hK rfl (h 0 0 rfl)) (fun H h => h) (fun q h => h.elim) (fun q h => Or.inr (by rw [← hsz]; exact h)) rfl (Nat.le_of_ble_eq_true rfl) d_De_gap_7 (by decide) (fun H H1 u _ _ hB _ _ => hB) ?_
  rintro u rfl
  refine aw_iload_n C d_De_gap_10 rfl (j := 3) rfl ?_
  refine aw_iconst (v := 1) C d_De_gap_11 (by decide) ?_
  refine aw_icmp_lt (tgt := 22) C d_De_gap_12 (by decide) (fun c_12 => ?_) (fun c_12 => ?_)
  · exact absurd c_12 h3.1
  · refine aw_iload_n C d_De_gap_15 rfl (j := 3) rfl ?_
    refine aw_sipush (v := 10080) C d_De_gap_16 (by decide) ?_
    refine aw_icmp_le (tgt := 32) C d_De_gap_19 (by decide) (fun c_19 => ?_) (fun c_19 => ?_)
    · refine aw_aload_n C d_De_gap_32 rfl (j := 0) rfl ?_
      refine gt_De_De_rooms C hK  d_De_gap_33 ?_
      refine aw_iload_n C d_De_gap_36 rfl (j := 1) rfl ?_
      refine al_8 C hK  r9 rfl hr9 d_De_gap_37 ?_
      refine aw_iload_n C d_De_gap_38 rfl (j := 2) rfl ?_
      refine aw_iload_n C d_De_gap_39 rfl (j := 3) rfl ?_
      refine aw_callVi (P9 := fun r u => ds_P D ad cA nb u) [.int y, .int n9] C hK (c_Ro_firstFree l D ad cA nb S n0 r9 y n9 hI hr9 hB (hF r9) (hT r9)) (cw_De_Ro_firstFree C.2.2.2.2 rfl rfl (by decide)) rfl (fun H h => aw_recv hK rfl (h 14 r9 hr9)) (fun H h => h) (fun q h => Or.inl h) (fun q h => Or.inr (by rw [← hsz]; exact h)) rfl (Nat.le_of_ble_eq_true rfl) d_De_gap_40 (by decide) (fun H H1 r u _ _ hB _ _ => hB) ?_
      rintro r u ⟨rfl, rfl⟩
      refine aw_istore (i := 4) (lv' := [(4, .int (fr_L S n9 n0 (S.2.2 2 r9) y)), (0, .ref (ad 0 0)), (1, .int (nI r9)), (2, .int y), (3, .int n9)]) C d_De_gap_43 (by decide) rfl ?_
      refine aw_iload C d_De_gap_45 (j := 0) rfl ?_
      refine aw_iload_n C d_De_gap_47 rfl (j := 4) rfl ?_
      refine aw_iadd C d_De_gap_48 ?_
      refine aw_sipush (v := 10080) C d_De_gap_49 (by decide) ?_
      refine aw_icmp_gt (tgt := 60) C d_De_gap_52 (by decide) (fun c_52 => ?_) (fun c_52 => ?_)
      · refine aw_iconst (v := (-1)) C d_De_gap_60 (by decide) ?_
        exact aw_iret C hr hlk S ⟨rfl, by rw [if_pos c_52]⟩ (fun H h => h) d_De_gap_61
      · refine aw_iload C d_De_gap_55 (j := 0) rfl ?_
        refine aw_goto (tgt := 61) C d_De_gap_57 (by decide) ?_
        exact aw_iret C hr hlk S ⟨rfl, by rw [if_neg c_52]⟩ (fun H h => h) d_De_gap_61
    · exact absurd h3.2 c_19
set_option maxHeartbeats 4000000 in
set_option maxRecDepth 100000 in
theorem t_De_gap1 (l : Launch) (D : va_G) (ad : Nat → Nat → Nat) (cA : Nat → ClassId) (nb : Nat) (S : ds_S) (hl : l.stackTraces = false) (x y n9 : Int32) (h1 : ¬ (¬ x < 0 ∧ x < S.1 2 0 0)) : Ct_t l y_De_gap b_De_gap 5 (some .int) ({ frames := 7, cells := 1, slots := 6, locals := 112 } : Room) 1 6 D (ds_ty cA) [.ref (ad 0 0), .int x, .int y, .int n9] (ds_P D ad cA nb S) R_Ia := by
  intro sz
  refine th_of (by decide) (Nat.le_of_ble_eq_true rfl) ?_
  intro p e s m args below meth c hsz C hlk hno hK hZ
  refine aw_lv (lv' := [(0, .ref (ad 0 0)), (1, .int x), (2, .int y), (3, .int n9)]) [0, 1, 2, 3] rfl ?_
  refine aw_aload_n C d_De_gap_0 rfl (j := 0) rfl ?_
  refine aw_iload_n C d_De_gap_1 rfl (j := 1) rfl ?_
  exact aw_callVT [.int x] C hK hZ hno hlk (t_De_checkRoom l D ad cA nb S hl (x) h1) (cw_De_De_checkRoom C.2.2.2.2 rfl rfl (by decide)) rfl (fun H h => aw_recv hK rfl (h 0 0 rfl)) (fun H h => h) rfl (Nat.le_of_ble_eq_true rfl) d_De_gap_2 (by decide) (by decide) (by decide)
set_option maxHeartbeats 4000000 in
set_option maxRecDepth 100000 in
theorem t_De_gap2 (l : Launch) (D : va_G) (ad : Nat → Nat → Nat) (cA : Nat → ClassId) (nb : Nat) (S : ds_S) (hl : l.stackTraces = false) (x y n9 : Int32) (h1 : (¬ x < 0 ∧ x < S.1 2 0 0)) (h2 : ¬ (¬ y < 0 ∧ y < 10080)) : Ct_t l y_De_gap b_De_gap 5 (some .int) ({ frames := 7, cells := 1, slots := 6, locals := 112 } : Room) 1 6 D (ds_ty cA) [.ref (ad 0 0), .int x, .int y, .int n9] (ds_P D ad cA nb S) R_Ia := by
  intro sz
  refine th_of (by decide) (Nat.le_of_ble_eq_true rfl) ?_
  intro p e s m args below meth c hsz C hlk hno hK hZ
  refine aw_lv (lv' := [(0, .ref (ad 0 0)), (1, .int x), (2, .int y), (3, .int n9)]) [0, 1, 2, 3] rfl ?_
  refine aw_aload_n C d_De_gap_0 rfl (j := 0) rfl ?_
  refine aw_iload_n C d_De_gap_1 rfl (j := 1) rfl ?_
  refine aw_callVv (P9 := fun u => ds_P D ad cA nb u) [.int x] C hK (c_De_checkRoom l D ad cA nb S (x) h1) (cw_De_De_checkRoom C.2.2.2.2 rfl rfl (by decide)) rfl (fun H h => aw_recv hK rfl (h 0 0 rfl)) (fun H h => h) (fun q h => h.elim) (fun q h => h) rfl (Nat.le_of_ble_eq_true rfl) d_De_gap_2 (by decide) (fun H H1 u _ _ hB _ _ => hB) ?_
  rintro u rfl
  refine aw_aload_n C d_De_gap_5 rfl (j := 0) rfl ?_
  refine aw_iload_n C d_De_gap_6 rfl (j := 2) rfl ?_
  exact aw_callVT [.int y] C hK hZ hno hlk (t_De_checkMinute l D ad cA nb S hl (y) h2) (cw_De_De_checkMinute C.2.2.2.2 rfl rfl (by decide)) rfl (fun H h => aw_recv hK rfl (h 0 0 rfl)) (fun H h => h) rfl (Nat.le_of_ble_eq_true rfl) d_De_gap_7 (by decide) (by decide) (by decide)
set_option maxHeartbeats 4000000 in
set_option maxRecDepth 100000 in
theorem t_De_gap3 (l : Launch) (D : va_G) (ad : Nat → Nat → Nat) (cA : Nat → ClassId) (nb : Nat) (S : ds_S) (hl : l.stackTraces = false) (x y n9 : Int32) (h1 : (¬ x < 0 ∧ x < S.1 2 0 0)) (h2 : (¬ y < 0 ∧ y < 10080)) (h3 : ¬ (¬ n9 < 1 ∧ n9 ≤ 10080)) : Ct_t l y_De_gap b_De_gap 5 (some .int) ({ frames := 7, cells := 1, slots := 6, locals := 112 } : Room) 1 6 D (ds_ty cA) [.ref (ad 0 0), .int x, .int y, .int n9] (ds_P D ad cA nb S) R_Ia := by
  intro sz
  refine th_of (by decide) (Nat.le_of_ble_eq_true rfl) ?_
  intro p e s m args below meth c hsz C hlk hno hK hZ
  refine aw_lv (lv' := [(0, .ref (ad 0 0)), (1, .int x), (2, .int y), (3, .int n9)]) [0, 1, 2, 3] rfl ?_
  refine aw_aload_n C d_De_gap_0 rfl (j := 0) rfl ?_
  refine aw_iload_n C d_De_gap_1 rfl (j := 1) rfl ?_
  refine aw_callVv (P9 := fun u => ds_P D ad cA nb u) [.int x] C hK (c_De_checkRoom l D ad cA nb S (x) h1) (cw_De_De_checkRoom C.2.2.2.2 rfl rfl (by decide)) rfl (fun H h => aw_recv hK rfl (h 0 0 rfl)) (fun H h => h) (fun q h => h.elim) (fun q h => h) rfl (Nat.le_of_ble_eq_true rfl) d_De_gap_2 (by decide) (fun H H1 u _ _ hB _ _ => hB) ?_
  rintro u rfl
  refine aw_aload_n C d_De_gap_5 rfl (j := 0) rfl ?_
  refine aw_iload_n C d_De_gap_6 rfl (j := 2) rfl ?_
  refine aw_callVv (P9 := fun u => ds_P D ad cA nb u) [.int y] C hK (c_De_checkMinute l D ad cA nb S (y) h2) (cw_De_De_checkMinute C.2.2.2.2 rfl rfl (by decide)) rfl (fun H h => aw_recv hK rfl (h 0 0 rfl)) (fun H h => h) (fun q h => h.elim) (fun q h => h) rfl (Nat.le_of_ble_eq_true rfl) d_De_gap_7 (by decide) (fun H H1 u _ _ hB _ _ => hB) ?_
  rintro u rfl
  refine aw_iload_n C d_De_gap_10 rfl (j := 3) rfl ?_
  refine aw_iconst (v := 1) C d_De_gap_11 (by decide) ?_
  refine aw_icmp_lt (tgt := 22) C d_De_gap_12 (by decide) (fun c_12 => ?_) (fun c_12 => ?_)
  · exact aw_throw C hl hZ hno hlk bf_Ia cl_De_Ia ii_Ia nx_Ia oa_Ia sr_190 d_De_gap_22 d_De_gap_25 d_De_gap_26 d_De_gap_28 d_De_gap_31 (by decide) (by decide) (by decide) (by decide) (by decide) (by decide)
  · refine aw_iload_n C d_De_gap_15 rfl (j := 3) rfl ?_
    refine aw_sipush (v := 10080) C d_De_gap_16 (by decide) ?_
    refine aw_icmp_le (tgt := 32) C d_De_gap_19 (by decide) (fun c_19 => ?_) (fun c_19 => ?_)
    · exact absurd ⟨c_12, c_19⟩ h3
    · exact aw_throw C hl hZ hno hlk bf_Ia cl_De_Ia ii_Ia nx_Ia oa_Ia sr_190 d_De_gap_22 d_De_gap_25 d_De_gap_26 d_De_gap_28 d_De_gap_31 (by decide) (by decide) (by decide) (by decide) (by decide) (by decide)
def wa_L (S : ds_S) (n0 : Nat) : Nat → Nat → Int32 → Int32
  | 0, _, t => t
  | n + 1, k, t => wa_L S n0 n (k + 1) (t + lo_L S k n0 (S.2.2 2 k) 0)
set_option maxHeartbeats 4000000 in
set_option maxRecDepth 100000 in
theorem c_De_waste (l : Launch) (D : va_G) (ad : Nat → Nat → Nat) (cA : Nat → ClassId) (nb : Nat) (S : ds_S) (M : Nat) (hI : ds_I ad nb) (hM : S.1 2 0 0 = nI M) (hM9 : M ≤ 8) (n0 : Nat) (hB : ∀ k k', S.2.2 3 k = some k' → k' < nb) (hF : ∀ r k, S.2.2 2 r = some k → k < nb) (hT : ∀ r, ho_T (S.2.2 3) n0 (S.2.2 2 r)) : Ct_i l y_De_waste b_De_waste 3 (some .int) ({ frames := 1, cells := 0, slots := 0, locals := 22 } : Room) 0 0 D (ds_ty cA) (ds_A ad nb) [.ref (ad 0 0)] (ds_P D ad cA nb S) (fun (r : Int32) (u : ds_S) => S = u ∧ r = wa_L S n0 M 0 0) (ds_P D ad cA nb) := by
  intro sz
  refine ct_of (by decide) (Nat.le_of_ble_eq_true rfl) ?_
  intro p e s m args below meth c hsz C hr hlk hnm hK
  have lp : ∀ (n k : Nat) (t9 : Int32), k + n = M → wa_L S n0 n k t9 = wa_L S n0 M 0 0 → AW p l e ({ frames := 1, cells := 0, slots := 0, locals := 22 } : Room) s m args below meth c 3 0 0 (MQ below (va_Qi (fun (r : Int32) (u : ds_S) => S = u ∧ r = wa_L S n0 M 0 0) (fun u t => (ds_P D ad cA nb) u t.heap) (ct_A (ds_A ad nb) sz)) args s 0 0 (ct_A (ds_A ad nb) sz)) (ds_P D ad cA nb S) (ct_A (ds_A ad nb) sz) 4 [(0, .ref (ad 0 0)), (1, .int t9), (2, .int (nI k))] [] := by
    intro n
    induction n with
    | zero =>
      intro k t9 hkn hR
      refine aw_iload_n C d_De_waste_4 rfl (j := 2) rfl ?_
      refine aw_aload_n C d_De_waste_5 rfl (j := 0) rfl ?_
      refine gt_De_De_roomCount C hK  d_De_waste_6 ?_
      refine aw_icmp_ge (tgt := 30) C d_De_waste_9 (by decide) (fun c_9 => ?_) (fun c_9 => ?_)
      · refine aw_iload_n C d_De_waste_30 rfl (j := 1) rfl ?_
        exact aw_iret C hr hlk S ⟨rfl, by rw [← hR]; rfl⟩ (fun H h => h) d_De_waste_31
      · exact absurd (by rw [hM, show k = M by omega]; exact nI_le (Nat.le_refl _) (by omega)) c_9
    | succ n ih =>
      intro k t9 hkn hR
      refine aw_iload_n C d_De_waste_4 rfl (j := 2) rfl ?_
      refine aw_aload_n C d_De_waste_5 rfl (j := 0) rfl ?_
      refine gt_De_De_roomCount C hK  d_De_waste_6 ?_
      refine aw_icmp_ge (tgt := 30) C d_De_waste_9 (by decide) (fun c_9 => ?_) (fun c_9 => ?_)
      · rw [hM] at c_9
        exact absurd c_9 (nI_ge (by omega) (by omega))
      · refine aw_iload_n C d_De_waste_12 rfl (j := 1) rfl ?_
        refine aw_aload_n C d_De_waste_13 rfl (j := 0) rfl ?_
        refine gt_De_De_rooms C hK  d_De_waste_14 ?_
        refine aw_iload_n C d_De_waste_17 rfl (j := 2) rfl ?_
        refine al_8 C hK  k rfl (show k < 8 by omega) d_De_waste_18 ?_
        refine aw_callVi (P9 := fun r u => ds_P D ad cA nb u) [] C hK (c_Ro_placesLeftOver l D ad cA nb S n0 k hI (by omega) hB (hF k) (hT k)) (cw_De_Ro_placesLeftOver C.2.2.2.2 rfl rfl (by decide)) rfl (fun H h => aw_recv hK rfl (h 14 k (show k < 8 by omega))) (fun H h => h) (fun q h => Or.inl h) (fun q h => Or.inr (by rw [← hsz]; exact h)) rfl (Nat.le_of_ble_eq_true rfl) d_De_waste_19 (by decide) (fun H H1 r u _ _ hB _ _ => hB) ?_
        rintro r u ⟨rfl, rfl⟩
        refine aw_iadd C d_De_waste_22 ?_
        refine aw_istore_n (i := 1) (lv' := [(1, .int (t9 + ((lo_L S k n0 (S.2.2 2 k) 0)))), (0, .ref (ad 0 0)), (2, .int (nI k))]) C d_De_waste_23 rfl (by decide) rfl ?_
        refine aw_iinc (i := 2) (v := (nI (k + 1))) (lv' := [(2, .int (nI (k + 1))), (1, .int (t9 + ((lo_L S k n0 (S.2.2 2 k) 0)))), (0, .ref (ad 0 0))]) C d_De_waste_24 (j := 2) rfl (nI_1 k) (by decide) rfl ?_
        refine aw_goto (tgt := 4) C d_De_waste_27 (by decide) ?_
        exact aw_lv [2, 1, 0] rfl (ih (k + 1) ((t9 + ((lo_L S k n0 (S.2.2 2 k) 0)))) (by omega) hR)
  refine aw_lv (lv' := [(0, .ref (ad 0 0))]) [0] rfl ?_
  refine aw_iconst (v := 0) C d_De_waste_0 (by decide) ?_
  refine aw_istore_n (i := 1) (lv' := [(1, .int 0), (0, .ref (ad 0 0))]) C d_De_waste_1 rfl (by decide) rfl ?_
  refine aw_iconst (v := 0) C d_De_waste_2 (by decide) ?_
  refine aw_istore_n (i := 2) (lv' := [(2, .int 0), (1, .int 0), (0, .ref (ad 0 0))]) C d_De_waste_3 rfl (by decide) rfl ?_
  exact aw_lv [2, 1, 0] rfl (lp M 0 0 (by omega) rfl)
