set_option maxHeartbeats 4000000 in
set_option maxRecDepth 100000 in
theorem c_Mo_desk (l : Launch) (D : va_G) (ad : Nat → Nat) (cA : Nat → ClassId) (M : ms_S) (hI : ms_I ad) (h0 : ¬ M 21 0 = 14) : Ct_i l y_Mo_desk b_Mo_desk 1 (some .int) ({ frames := 0, cells := 0, slots := 0, locals := 0 } : Room) 0 0 D (ds_ty cA) (ms_A ad) [.ref (ad 0)] (ms_P D ad cA M) (fun (r : Int32) (u : ms_S) => u = ms_w (ms_w (ms_w M 20 0 0) 23 0 0) 21 0 (M 21 0 + 1) ∧ r = M 21 0 + 1 - 1) (ms_P D ad cA) := by
  intro sz
  refine ct_of (by decide) (Nat.le_of_ble_eq_true rfl) ?_
  intro p e s m args below meth c hsz C hr hlk hnm hK
  refine aw_lv (lv' := [(0, .ref (ad 0))]) [0] rfl ?_
  refine aw_aload_n C d_Mo_desk_0 rfl (j := 0) rfl ?_
  refine aw_aload_n C d_Mo_desk_1 rfl (j := 0) rfl ?_
  refine gm_desks (v := M 21 0) C hK rfl d_Mo_desk_2 ?_
  refine aw_bipush (v := 14) C d_Mo_desk_5 (by decide) ?_
  refine aw_icmp_ne (tgt := 14) C d_Mo_desk_7 (by decide) (fun c_7 => ?_) (fun c_7 => ?_)
  · refine aw_iconst (v := 0) C d_Mo_desk_14 (by decide) ?_
    refine pm_thrown (x := 0) C hK hI  d_Mo_desk_15 ?_
    refine aw_aload_n C d_Mo_desk_18 rfl (j := 0) rfl ?_
    refine gm_thrown (v := 0) C hK rfl d_Mo_desk_19 ?_
    refine aw_if_le (tgt := 27) C d_Mo_desk_22 (by decide) (fun _ => ?_) (fun h => absurd h (by decide))
    refine aw_aload_n C d_Mo_desk_27 rfl (j := 0) rfl ?_
    refine aw_iconst (v := 0) C d_Mo_desk_28 (by decide) ?_
    refine pm_made (x := 0) C hK hI (Or.inl rfl) d_Mo_desk_29 ?_
    refine aw_aload_n C d_Mo_desk_32 rfl (j := 0) rfl ?_
    refine aw_dup C d_Mo_desk_33 rfl ?_
    refine gm_desks (v := M 21 0) C hK rfl d_Mo_desk_34 ?_
    refine aw_iconst (v := 1) C d_Mo_desk_37 (by decide) ?_
    refine aw_iadd C d_Mo_desk_38 ?_
    refine pm_desks (x := (((M 21 0)) + 1)) C hK hI  d_Mo_desk_39 ?_
    refine aw_aload_n C d_Mo_desk_42 rfl (j := 0) rfl ?_
    refine gm_desks (v := (((M 21 0)) + 1)) C hK rfl d_Mo_desk_43 ?_
    refine aw_iconst (v := 1) C d_Mo_desk_46 (by decide) ?_
    refine aw_isub C d_Mo_desk_47 ?_
    exact aw_iret C hr hlk _ ⟨rfl, rfl⟩ (fun H h => h) d_Mo_desk_48
  · exact absurd c_7 h0
set_option maxHeartbeats 4000000 in
set_option maxRecDepth 100000 in
theorem b_Mo_desk_t (l : Launch) (D : va_G) (ad : Nat → Nat) (cA : Nat → ClassId) (M : ms_S) (hI : ms_I ad) (h0 : M 21 0 = 14) : Ct_i l y_Mo_desk b_Mo_desk 1 (some .int) ({ frames := 0, cells := 0, slots := 0, locals := 0 } : Room) 0 0 D (ds_ty cA) (ms_A ad) [.ref (ad 0)] (ms_P D ad cA M) (fun (r : Int32) (u : ms_S) => u = ms_w M 20 0 1 ∧ r = 0) (ms_P D ad cA) := by
  intro sz
  refine ct_of (by decide) (Nat.le_of_ble_eq_true rfl) ?_
  intro p e s m args below meth c hsz C hr hlk hnm hK
  refine aw_lv (lv' := [(0, .ref (ad 0))]) [0] rfl ?_
  refine aw_aload_n C d_Mo_desk_0 rfl (j := 0) rfl ?_
  refine aw_aload_n C d_Mo_desk_1 rfl (j := 0) rfl ?_
  refine gm_desks (v := M 21 0) C hK rfl d_Mo_desk_2 ?_
  refine aw_bipush (v := 14) C d_Mo_desk_5 (by decide) ?_
  refine aw_icmp_ne (tgt := 14) C d_Mo_desk_7 (by decide) (fun c_7 => ?_) (fun c_7 => ?_)
  · exact absurd h0 c_7
  · refine aw_iconst (v := 1) C d_Mo_desk_10 (by decide) ?_
    refine aw_goto (tgt := 15) C d_Mo_desk_11 (by decide) ?_
    refine pm_thrown (x := 1) C hK hI  d_Mo_desk_15 ?_
    refine aw_aload_n C d_Mo_desk_18 rfl (j := 0) rfl ?_
    refine gm_thrown (v := 1) C hK rfl d_Mo_desk_19 ?_
    refine aw_if_le (tgt := 27) C d_Mo_desk_22 (by decide) (fun h => absurd h (by decide)) (fun _ => ?_)
    refine aw_iconst (v := 0) C d_Mo_desk_25 (by decide) ?_
    exact aw_iret C hr hlk _ ⟨rfl, rfl⟩ (fun H h => h) d_Mo_desk_26
set_option maxHeartbeats 4000000 in
set_option maxRecDepth 100000 in
theorem c_Mo_person (l : Launch) (D : va_G) (ad : Nat → Nat) (cA : Nat → ClassId) (M : ms_S) (hI : ms_I ad) (k9 : Nat) (hk9 : k9 < 10) (h22 : M 22 0 = nI k9) : Ct_i l y_Mo_person b_Mo_person 1 (some .int) ({ frames := 0, cells := 0, slots := 0, locals := 0 } : Room) 0 0 D (ds_ty cA) (ms_A ad) [.ref (ad 0)] (ms_P D ad cA M) (fun (r : Int32) (u : ms_S) => u = ms_w (ms_w (ms_w (ms_w M 20 0 0) 23 0 0) 3 k9 (-1)) 22 0 (M 22 0 + 1) ∧ r = M 22 0 + 1 - 1) (ms_P D ad cA) := by
  intro sz
  refine ct_of (by decide) (Nat.le_of_ble_eq_true rfl) ?_
  intro p e s m args below meth c hsz C hr hlk hnm hK
  refine aw_lv (lv' := [(0, .ref (ad 0))]) [0] rfl ?_
  refine aw_aload_n C d_Mo_person_0 rfl (j := 0) rfl ?_
  refine aw_aload_n C d_Mo_person_1 rfl (j := 0) rfl ?_
  refine gm_persons (v := M 22 0) C hK rfl d_Mo_person_2 ?_
  refine aw_bipush (v := 10) C d_Mo_person_5 (by decide) ?_
  refine aw_icmp_ne (tgt := 14) C d_Mo_person_7 (by decide) (fun c_7 => ?_) (fun c_7 => ?_)
  · refine aw_iconst (v := 0) C d_Mo_person_14 (by decide) ?_
    refine pm_thrown (x := 0) C hK hI  d_Mo_person_15 ?_
    refine aw_aload_n C d_Mo_person_18 rfl (j := 0) rfl ?_
    refine gm_thrown (v := 0) C hK rfl d_Mo_person_19 ?_
    refine aw_if_le (tgt := 27) C d_Mo_person_22 (by decide) (fun _ => ?_) (fun h => absurd h (by decide))
    refine aw_aload_n C d_Mo_person_27 rfl (j := 0) rfl ?_
    refine aw_iconst (v := 0) C d_Mo_person_28 (by decide) ?_
    refine pm_made (x := 0) C hK hI (Or.inl rfl) d_Mo_person_29 ?_
    refine aw_aload_n C d_Mo_person_32 rfl (j := 0) rfl ?_
    refine gm_olds C hK d_Mo_person_33 ?_
    refine aw_aload_n C d_Mo_person_36 rfl (j := 0) rfl ?_
    refine gm_persons (v := M 22 0) C hK rfl d_Mo_person_37 ?_
    refine aw_iconst (v := (-1)) C d_Mo_person_40 (by decide) ?_
    refine sm_3 (y := (-1)) C hK hI  k9 h22 hk9 d_Mo_person_41 ?_
    refine aw_aload_n C d_Mo_person_42 rfl (j := 0) rfl ?_
    refine aw_dup C d_Mo_person_43 rfl ?_
    refine gm_persons (v := M 22 0) C hK rfl d_Mo_person_44 ?_
    refine aw_iconst (v := 1) C d_Mo_person_47 (by decide) ?_
    refine aw_iadd C d_Mo_person_48 ?_
    refine pm_persons (x := (((M 22 0)) + 1)) C hK hI  d_Mo_person_49 ?_
    refine aw_aload_n C d_Mo_person_52 rfl (j := 0) rfl ?_
    refine gm_persons (v := (((M 22 0)) + 1)) C hK rfl d_Mo_person_53 ?_
    refine aw_iconst (v := 1) C d_Mo_person_56 (by decide) ?_
    refine aw_isub C d_Mo_person_57 ?_
    exact aw_iret C hr hlk _ ⟨rfl, rfl⟩ (fun H h => h) d_Mo_person_58
  · exact absurd (by rw [← h22, c_7]; rfl) (fun h : nI k9 = nI 10 => absurd ((nI_eq (by omega) (by omega)).mp h) (by omega))
set_option maxHeartbeats 4000000 in
set_option maxRecDepth 100000 in
theorem b_Mo_person_t (l : Launch) (D : va_G) (ad : Nat → Nat) (cA : Nat → ClassId) (M : ms_S) (hI : ms_I ad) (h0 : M 22 0 = 10) : Ct_i l y_Mo_person b_Mo_person 1 (some .int) ({ frames := 0, cells := 0, slots := 0, locals := 0 } : Room) 0 0 D (ds_ty cA) (ms_A ad) [.ref (ad 0)] (ms_P D ad cA M) (fun (r : Int32) (u : ms_S) => u = ms_w M 20 0 1 ∧ r = 0) (ms_P D ad cA) := by
  intro sz
  refine ct_of (by decide) (Nat.le_of_ble_eq_true rfl) ?_
  intro p e s m args below meth c hsz C hr hlk hnm hK
  refine aw_lv (lv' := [(0, .ref (ad 0))]) [0] rfl ?_
  refine aw_aload_n C d_Mo_person_0 rfl (j := 0) rfl ?_
  refine aw_aload_n C d_Mo_person_1 rfl (j := 0) rfl ?_
  refine gm_persons (v := M 22 0) C hK rfl d_Mo_person_2 ?_
  refine aw_bipush (v := 10) C d_Mo_person_5 (by decide) ?_
  refine aw_icmp_ne (tgt := 14) C d_Mo_person_7 (by decide) (fun c_7 => ?_) (fun c_7 => ?_)
  · exact absurd h0 c_7
  · refine aw_iconst (v := 1) C d_Mo_person_10 (by decide) ?_
    refine aw_goto (tgt := 15) C d_Mo_person_11 (by decide) ?_
    refine pm_thrown (x := 1) C hK hI  d_Mo_person_15 ?_
    refine aw_aload_n C d_Mo_person_18 rfl (j := 0) rfl ?_
    refine gm_thrown (v := 1) C hK rfl d_Mo_person_19 ?_
    refine aw_if_le (tgt := 27) C d_Mo_person_22 (by decide) (fun h => absurd h (by decide)) (fun _ => ?_)
    refine aw_iconst (v := 0) C d_Mo_person_25 (by decide) ?_
    exact aw_iret C hr hlk _ ⟨rfl, rfl⟩ (fun H h => h) d_Mo_person_26
set_option maxHeartbeats 4000000 in
set_option maxRecDepth 100000 in
theorem c_Mo_wish (l : Launch) (D : va_G) (ad : Nat → Nat) (cA : Nat → ClassId) (M : ms_S) (hI : ms_I ad) (p9 d9 : Nat) (hp : p9 < 10) (hd : d9 < 14) (w9 : Int32) (h1 : ¬ mo_in (nI p9) 0 (M 22 0 - 1) = 0) (h2 : ¬ mo_in (nI d9) 0 (M 21 0 - 1) = 0) (h3 : ¬ mo_in w9 0 1000 = 0) : Ct_i l y_Mo_wish b_Mo_wish 5 (some .int) ({ frames := 2, cells := 0, slots := 0, locals := 43 } : Room) 0 0 D (ds_ty cA) (ms_A ad) [.ref (ad 0), .int (nI p9), .int (nI d9), .int w9] (ms_P D ad cA M) (fun (r : Int32) (u : ms_S) => u = ms_w (ms_w (ms_w M 20 0 0) 23 0 0) 1 (14 * p9 + d9) w9 ∧ r = M 1 (14 * p9 + d9)) (ms_P D ad cA) := by
  intro sz
  refine ct_of (by decide) (Nat.le_of_ble_eq_true rfl) ?_
  intro p e s m args below meth c hsz C hr hlk hnm hK
  refine aw_lv (lv' := [(0, .ref (ad 0)), (1, .int (nI p9)), (2, .int (nI d9)), (3, .int w9)]) [0, 1, 2, 3] rfl ?_
  refine aw_aload_n C d_Mo_wish_0 rfl (j := 0) rfl ?_
  refine aw_aload_n C d_Mo_wish_1 rfl (j := 0) rfl ?_
  refine aw_iload_n C d_Mo_wish_2 rfl (j := 1) rfl ?_
  refine aw_callVi (P9 := fun r u => ms_P D ad cA u) [.int (nI p9)] C hK (c_Mo_isPerson l D ad cA M (nI p9)) (cw_Mo_Mo_isPerson C.2.2.2.2 rfl rfl (by decide)) rfl (fun H h => aw_recv hK rfl (h 0 (by decide))) (fun H h => h) (fun q h => Or.inl h) (fun q h => Or.inr (by rw [← hsz]; exact h)) rfl (Nat.le_of_ble_eq_true rfl) d_Mo_wish_3 (by decide) (fun H H1 r u _ _ hB _ _ => hB) ?_
  rintro r u ⟨rfl, rfl⟩
  refine aw_if_eq (tgt := 32) C d_Mo_wish_6 (by decide) (fun c_6 => ?_) (fun c_6 => ?_)
  · exact absurd c_6 h1
  · refine aw_aload_n C d_Mo_wish_9 rfl (j := 0) rfl ?_
    refine aw_iload_n C d_Mo_wish_10 rfl (j := 2) rfl ?_
    refine aw_callVi (P9 := fun r u => ms_P D ad cA u) [.int (nI d9)] C hK (c_Mo_isDesk l D ad cA M (nI d9)) (cw_Mo_Mo_isDesk C.2.2.2.2 rfl rfl (by decide)) rfl (fun H h => aw_recv hK rfl (h 0 (by decide))) (fun H h => h) (fun q h => Or.inl h) (fun q h => Or.inr (by rw [← hsz]; exact h)) rfl (Nat.le_of_ble_eq_true rfl) d_Mo_wish_11 (by decide) (fun H H1 r u _ _ hB _ _ => hB) ?_
    rintro r u ⟨rfl, rfl⟩
    refine aw_if_eq (tgt := 32) C d_Mo_wish_14 (by decide) (fun c_14 => ?_) (fun c_14 => ?_)
    · exact absurd c_14 h2
    · refine aw_iload_n C d_Mo_wish_17 rfl (j := 3) rfl ?_
      refine aw_iconst (v := 0) C d_Mo_wish_18 (by decide) ?_
      refine aw_sipush (v := 1000) C d_Mo_wish_19 (by decide) ?_
      refine aw_callSi (Cn := "") (P9 := fun r u => ms_P D ad cA M) [.int w9, .int 0, .int 1000] C hK (c_Mo_in l D cA (ms_A ad) (ms_P D ad cA M) w9 0 1000) (cw_Mo_Mo_in C.2.2.2.2 rfl rfl (by decide)) rfl (fun H h => h) (fun q h => Or.inl h) (fun q h => Or.inr (by rw [← hsz]; exact h)) rfl (Nat.le_of_ble_eq_true rfl) d_Mo_wish_22 (by decide) (fun H H1 r u _ _ hB _ _ => hB) ?_
      rintro r u rfl
      refine aw_if_eq (tgt := 32) C d_Mo_wish_25 (by decide) (fun c_25 => ?_) (fun c_25 => ?_)
      · exact absurd c_25 h3
      · refine aw_iconst (v := 0) C d_Mo_wish_28 (by decide) ?_
        refine aw_goto (tgt := 33) C d_Mo_wish_29 (by decide) ?_
        refine pm_thrown (x := 0) C hK hI  d_Mo_wish_33 ?_
        refine aw_aload_n C d_Mo_wish_36 rfl (j := 0) rfl ?_
        refine gm_thrown (v := 0) C hK rfl d_Mo_wish_37 ?_
        refine aw_if_le (tgt := 45) C d_Mo_wish_40 (by decide) (fun _ => ?_) (fun h => absurd h (by decide))
        refine aw_aload_n C d_Mo_wish_45 rfl (j := 0) rfl ?_
        refine aw_iconst (v := 0) C d_Mo_wish_46 (by decide) ?_
        refine pm_made (x := 0) C hK hI (Or.inl rfl) d_Mo_wish_47 ?_
        refine aw_aload_n C d_Mo_wish_50 rfl (j := 0) rfl ?_
        refine gm_wishes C hK d_Mo_wish_51 ?_
        refine aw_bipush (v := 14) C d_Mo_wish_54 (by decide) ?_
        refine aw_iload_n C d_Mo_wish_56 rfl (j := 1) rfl ?_
        refine aw_imul C d_Mo_wish_57 ?_
        refine aw_topi (fun z_57 hz_57 => ?_)
        refine aw_iload_n C d_Mo_wish_58 rfl (j := 2) rfl ?_
        refine aw_iadd C d_Mo_wish_59 ?_
        refine aw_topi (fun z_59 hz_59 => ?_)
        refine lm_1 (v := M 1 (14 * p9 + d9)) C hK (14 * p9 + d9) (by rw [hz_59, hz_57, show (14 : Int32) = nI 14 from rfl, pk_mul, nI_add]) (by omega) rfl d_Mo_wish_60 ?_
        refine aw_istore (i := 4) (lv' := [(4, .int (M 1 (14 * p9 + d9))), (0, .ref (ad 0)), (1, .int (nI p9)), (2, .int (nI d9)), (3, .int w9)]) C d_Mo_wish_61 (by decide) rfl ?_
        refine aw_aload_n C d_Mo_wish_63 rfl (j := 1) rfl ?_
        refine gm_wishes C hK d_Mo_wish_64 ?_
        refine aw_bipush (v := 14) C d_Mo_wish_67 (by decide) ?_
        refine aw_iload_n C d_Mo_wish_69 rfl (j := 2) rfl ?_
        refine aw_imul C d_Mo_wish_70 ?_
        refine aw_topi (fun z_70 hz_70 => ?_)
        refine aw_iload_n C d_Mo_wish_71 rfl (j := 3) rfl ?_
        refine aw_iadd C d_Mo_wish_72 ?_
        refine aw_topi (fun z_72 hz_72 => ?_)
        refine aw_iload_n C d_Mo_wish_73 rfl (j := 4) rfl ?_
        refine sm_1 (y := w9) C hK hI  (14 * p9 + d9) (by rw [hz_72, hz_70, show (14 : Int32) = nI 14 from rfl, pk_mul, nI_add]) (by omega) d_Mo_wish_74 ?_
        refine aw_iload C d_Mo_wish_75 (j := 0) rfl ?_
        exact aw_iret C hr hlk _ ⟨rfl, rfl⟩ (fun H h => h) d_Mo_wish_77
set_option maxHeartbeats 4000000 in
set_option maxRecDepth 100000 in
theorem b_Mo_wish_t (l : Launch) (D : va_G) (ad : Nat → Nat) (cA : Nat → ClassId) (M : ms_S) (hI : ms_I ad) (x y w9 : Int32) (h0 : mo_in x 0 (M 22 0 - 1) = 0 ∨ mo_in y 0 (M 21 0 - 1) = 0 ∨ mo_in w9 0 1000 = 0) : Ct_i l y_Mo_wish b_Mo_wish 5 (some .int) ({ frames := 2, cells := 0, slots := 0, locals := 43 } : Room) 0 0 D (ds_ty cA) (ms_A ad) [.ref (ad 0), .int x, .int y, .int w9] (ms_P D ad cA M) (fun (r : Int32) (u : ms_S) => u = ms_w M 20 0 1 ∧ r = 0) (ms_P D ad cA) := by
  intro sz
  refine ct_of (by decide) (Nat.le_of_ble_eq_true rfl) ?_
  intro p e s m args below meth c hsz C hr hlk hnm hK
  refine aw_lv (lv' := [(0, .ref (ad 0)), (1, .int x), (2, .int y), (3, .int w9)]) [0, 1, 2, 3] rfl ?_
  refine aw_aload_n C d_Mo_wish_0 rfl (j := 0) rfl ?_
  refine aw_aload_n C d_Mo_wish_1 rfl (j := 0) rfl ?_
  refine aw_iload_n C d_Mo_wish_2 rfl (j := 1) rfl ?_
  refine aw_callVi (P9 := fun r u => ms_P D ad cA u) [.int x] C hK (c_Mo_isPerson l D ad cA M x) (cw_Mo_Mo_isPerson C.2.2.2.2 rfl rfl (by decide)) rfl (fun H h => aw_recv hK rfl (h 0 (by decide))) (fun H h => h) (fun q h => Or.inl h) (fun q h => Or.inr (by rw [← hsz]; exact h)) rfl (Nat.le_of_ble_eq_true rfl) d_Mo_wish_3 (by decide) (fun H H1 r u _ _ hB _ _ => hB) ?_
  rintro r u ⟨rfl, rfl⟩
  refine aw_if_eq (tgt := 32) C d_Mo_wish_6 (by decide) (fun c_6 => ?_) (fun c_6 => ?_)
  · refine aw_iconst (v := 1) C d_Mo_wish_32 (by decide) ?_
    refine pm_thrown (x := 1) C hK hI  d_Mo_wish_33 ?_
    refine aw_aload_n C d_Mo_wish_36 rfl (j := 0) rfl ?_
    refine gm_thrown (v := 1) C hK rfl d_Mo_wish_37 ?_
    refine aw_if_le (tgt := 45) C d_Mo_wish_40 (by decide) (fun h => absurd h (by decide)) (fun _ => ?_)
    refine aw_iconst (v := 0) C d_Mo_wish_43 (by decide) ?_
    exact aw_iret C hr hlk _ ⟨rfl, rfl⟩ (fun H h => h) d_Mo_wish_44
  · refine aw_aload_n C d_Mo_wish_9 rfl (j := 0) rfl ?_
    refine aw_iload_n C d_Mo_wish_10 rfl (j := 2) rfl ?_
    refine aw_callVi (P9 := fun r u => ms_P D ad cA u) [.int y] C hK (c_Mo_isDesk l D ad cA M y) (cw_Mo_Mo_isDesk C.2.2.2.2 rfl rfl (by decide)) rfl (fun H h => aw_recv hK rfl (h 0 (by decide))) (fun H h => h) (fun q h => Or.inl h) (fun q h => Or.inr (by rw [← hsz]; exact h)) rfl (Nat.le_of_ble_eq_true rfl) d_Mo_wish_11 (by decide) (fun H H1 r u _ _ hB _ _ => hB) ?_
    rintro r u ⟨rfl, rfl⟩
    refine aw_if_eq (tgt := 32) C d_Mo_wish_14 (by decide) (fun c_14 => ?_) (fun c_14 => ?_)
    · refine aw_iconst (v := 1) C d_Mo_wish_32 (by decide) ?_
      refine pm_thrown (x := 1) C hK hI  d_Mo_wish_33 ?_
      refine aw_aload_n C d_Mo_wish_36 rfl (j := 0) rfl ?_
      refine gm_thrown (v := 1) C hK rfl d_Mo_wish_37 ?_
      refine aw_if_le (tgt := 45) C d_Mo_wish_40 (by decide) (fun h => absurd h (by decide)) (fun _ => ?_)
      refine aw_iconst (v := 0) C d_Mo_wish_43 (by decide) ?_
      exact aw_iret C hr hlk _ ⟨rfl, rfl⟩ (fun H h => h) d_Mo_wish_44
    · refine aw_iload_n C d_Mo_wish_17 rfl (j := 3) rfl ?_
      refine aw_iconst (v := 0) C d_Mo_wish_18 (by decide) ?_
      refine aw_sipush (v := 1000) C d_Mo_wish_19 (by decide) ?_
      refine aw_callSi (Cn := "") (P9 := fun r u => ms_P D ad cA M) [.int w9, .int 0, .int 1000] C hK (c_Mo_in l D cA (ms_A ad) (ms_P D ad cA M) w9 0 1000) (cw_Mo_Mo_in C.2.2.2.2 rfl rfl (by decide)) rfl (fun H h => h) (fun q h => Or.inl h) (fun q h => Or.inr (by rw [← hsz]; exact h)) rfl (Nat.le_of_ble_eq_true rfl) d_Mo_wish_22 (by decide) (fun H H1 r u _ _ hB _ _ => hB) ?_
      rintro r u rfl
      refine aw_if_eq (tgt := 32) C d_Mo_wish_25 (by decide) (fun c_25 => ?_) (fun c_25 => ?_)
      · refine aw_iconst (v := 1) C d_Mo_wish_32 (by decide) ?_
        refine pm_thrown (x := 1) C hK hI  d_Mo_wish_33 ?_
        refine aw_aload_n C d_Mo_wish_36 rfl (j := 0) rfl ?_
        refine gm_thrown (v := 1) C hK rfl d_Mo_wish_37 ?_
        refine aw_if_le (tgt := 45) C d_Mo_wish_40 (by decide) (fun h => absurd h (by decide)) (fun _ => ?_)
        refine aw_iconst (v := 0) C d_Mo_wish_43 (by decide) ?_
        exact aw_iret C hr hlk _ ⟨rfl, rfl⟩ (fun H h => h) d_Mo_wish_44
      · exact absurd h0 (fun h => h.elim c_6 (fun h => h.elim c_14 c_25))
set_option maxHeartbeats 4000000 in
set_option maxRecDepth 100000 in
theorem c_Mo_bar (l : Launch) (D : va_G) (ad : Nat → Nat) (cA : Nat → ClassId) (M : ms_S) (hI : ms_I ad) (p9 d9 : Nat) (hp : p9 < 10) (hd : d9 < 14) (w9 : Int32) (hz : w9 = 0 ∨ w9 = 1) (hz0 : M 2 (14 * p9 + d9) = 0 ∨ M 2 (14 * p9 + d9) = 1) (h1 : ¬ mo_in (nI p9) 0 (M 22 0 - 1) = 0) (h2 : ¬ mo_in (nI d9) 0 (M 21 0 - 1) = 0) : Ct_i l y_Mo_bar b_Mo_bar 5 (some .boolean) ({ frames := 2, cells := 0, slots := 0, locals := 43 } : Room) 0 0 D (ds_ty cA) (ms_A ad) [.ref (ad 0), .int (nI p9), .int (nI d9), .int w9] (ms_P D ad cA M) (fun (r : Int32) (u : ms_S) => u = ms_w (ms_w (ms_w M 20 0 0) 23 0 0) 2 (14 * p9 + d9) w9 ∧ r = M 2 (14 * p9 + d9)) (ms_P D ad cA) := by
  intro sz
  refine ct_of (by decide) (Nat.le_of_ble_eq_true rfl) ?_
  intro p e s m args below meth c hsz C hr hlk hnm hK
  refine aw_lv (lv' := [(0, .ref (ad 0)), (1, .int (nI p9)), (2, .int (nI d9)), (3, .int w9)]) [0, 1, 2, 3] rfl ?_
  refine aw_aload_n C d_Mo_bar_0 rfl (j := 0) rfl ?_
  refine aw_aload_n C d_Mo_bar_1 rfl (j := 0) rfl ?_
  refine aw_iload_n C d_Mo_bar_2 rfl (j := 1) rfl ?_
  refine aw_callVi (P9 := fun r u => ms_P D ad cA u) [.int (nI p9)] C hK (c_Mo_isPerson l D ad cA M (nI p9)) (cw_Mo_Mo_isPerson C.2.2.2.2 rfl rfl (by decide)) rfl (fun H h => aw_recv hK rfl (h 0 (by decide))) (fun H h => h) (fun q h => Or.inl h) (fun q h => Or.inr (by rw [← hsz]; exact h)) rfl (Nat.le_of_ble_eq_true rfl) d_Mo_bar_3 (by decide) (fun H H1 r u _ _ hB _ _ => hB) ?_
  rintro r u ⟨rfl, rfl⟩
  refine aw_if_eq (tgt := 21) C d_Mo_bar_6 (by decide) (fun c_6 => ?_) (fun c_6 => ?_)
  · exact absurd c_6 h1
  · refine aw_aload_n C d_Mo_bar_9 rfl (j := 0) rfl ?_
    refine aw_iload_n C d_Mo_bar_10 rfl (j := 2) rfl ?_
    refine aw_callVi (P9 := fun r u => ms_P D ad cA u) [.int (nI d9)] C hK (c_Mo_isDesk l D ad cA M (nI d9)) (cw_Mo_Mo_isDesk C.2.2.2.2 rfl rfl (by decide)) rfl (fun H h => aw_recv hK rfl (h 0 (by decide))) (fun H h => h) (fun q h => Or.inl h) (fun q h => Or.inr (by rw [← hsz]; exact h)) rfl (Nat.le_of_ble_eq_true rfl) d_Mo_bar_11 (by decide) (fun H H1 r u _ _ hB _ _ => hB) ?_
    rintro r u ⟨rfl, rfl⟩
    refine aw_if_eq (tgt := 21) C d_Mo_bar_14 (by decide) (fun c_14 => ?_) (fun c_14 => ?_)
    · exact absurd c_14 h2
    · refine aw_iconst (v := 0) C d_Mo_bar_17 (by decide) ?_
      refine aw_goto (tgt := 22) C d_Mo_bar_18 (by decide) ?_
      refine pm_thrown (x := 0) C hK hI  d_Mo_bar_22 ?_
      refine aw_aload_n C d_Mo_bar_25 rfl (j := 0) rfl ?_
      refine gm_thrown (v := 0) C hK rfl d_Mo_bar_26 ?_
      refine aw_if_le (tgt := 34) C d_Mo_bar_29 (by decide) (fun _ => ?_) (fun h => absurd h (by decide))
      refine aw_aload_n C d_Mo_bar_34 rfl (j := 0) rfl ?_
      refine aw_iconst (v := 0) C d_Mo_bar_35 (by decide) ?_
      refine pm_made (x := 0) C hK hI (Or.inl rfl) d_Mo_bar_36 ?_
      refine aw_aload_n C d_Mo_bar_39 rfl (j := 0) rfl ?_
      refine gm_barred C hK d_Mo_bar_40 ?_
      refine aw_bipush (v := 14) C d_Mo_bar_43 (by decide) ?_
      refine aw_iload_n C d_Mo_bar_45 rfl (j := 1) rfl ?_
      refine aw_imul C d_Mo_bar_46 ?_
      refine aw_topi (fun z_46 hz_46 => ?_)
      refine aw_iload_n C d_Mo_bar_47 rfl (j := 2) rfl ?_
      refine aw_iadd C d_Mo_bar_48 ?_
      refine aw_topi (fun z_48 hz_48 => ?_)
      refine lm_2 (v := M 2 (14 * p9 + d9)) C hK (14 * p9 + d9) (by rw [hz_48, hz_46, show (14 : Int32) = nI 14 from rfl, pk_mul, nI_add]) (by omega) rfl d_Mo_bar_49 ?_
      refine aw_istore (i := 4) (lv' := [(4, .int (M 2 (14 * p9 + d9))), (0, .ref (ad 0)), (1, .int (nI p9)), (2, .int (nI d9)), (3, .int w9)]) C d_Mo_bar_50 (by decide) rfl ?_
      refine aw_aload_n C d_Mo_bar_52 rfl (j := 1) rfl ?_
      refine gm_barred C hK d_Mo_bar_53 ?_
      refine aw_bipush (v := 14) C d_Mo_bar_56 (by decide) ?_
      refine aw_iload_n C d_Mo_bar_58 rfl (j := 2) rfl ?_
      refine aw_imul C d_Mo_bar_59 ?_
      refine aw_topi (fun z_59 hz_59 => ?_)
      refine aw_iload_n C d_Mo_bar_60 rfl (j := 3) rfl ?_
      refine aw_iadd C d_Mo_bar_61 ?_
      refine aw_topi (fun z_61 hz_61 => ?_)
      refine aw_iload_n C d_Mo_bar_62 rfl (j := 4) rfl ?_
      refine sm_2 (y := w9) C hK hI hz (14 * p9 + d9) (by rw [hz_61, hz_59, show (14 : Int32) = nI 14 from rfl, pk_mul, nI_add]) (by omega) d_Mo_bar_63 ?_
      refine aw_iload C d_Mo_bar_64 (j := 0) rfl ?_
      exact aw_zret C hr hlk (nr_z hz0).1 _ ⟨rfl, rfl⟩ (fun H h => h) d_Mo_bar_66
set_option maxHeartbeats 4000000 in
set_option maxRecDepth 100000 in
theorem b_Mo_bar_t (l : Launch) (D : va_G) (ad : Nat → Nat) (cA : Nat → ClassId) (M : ms_S) (hI : ms_I ad) (x y w9 : Int32) (h0 : mo_in x 0 (M 22 0 - 1) = 0 ∨ mo_in y 0 (M 21 0 - 1) = 0) : Ct_i l y_Mo_bar b_Mo_bar 5 (some .boolean) ({ frames := 2, cells := 0, slots := 0, locals := 43 } : Room) 0 0 D (ds_ty cA) (ms_A ad) [.ref (ad 0), .int x, .int y, .int w9] (ms_P D ad cA M) (fun (r : Int32) (u : ms_S) => u = ms_w M 20 0 1 ∧ r = 0) (ms_P D ad cA) := by
  intro sz
  refine ct_of (by decide) (Nat.le_of_ble_eq_true rfl) ?_
  intro p e s m args below meth c hsz C hr hlk hnm hK
  refine aw_lv (lv' := [(0, .ref (ad 0)), (1, .int x), (2, .int y), (3, .int w9)]) [0, 1, 2, 3] rfl ?_
  refine aw_aload_n C d_Mo_bar_0 rfl (j := 0) rfl ?_
  refine aw_aload_n C d_Mo_bar_1 rfl (j := 0) rfl ?_
  refine aw_iload_n C d_Mo_bar_2 rfl (j := 1) rfl ?_
  refine aw_callVi (P9 := fun r u => ms_P D ad cA u) [.int x] C hK (c_Mo_isPerson l D ad cA M x) (cw_Mo_Mo_isPerson C.2.2.2.2 rfl rfl (by decide)) rfl (fun H h => aw_recv hK rfl (h 0 (by decide))) (fun H h => h) (fun q h => Or.inl h) (fun q h => Or.inr (by rw [← hsz]; exact h)) rfl (Nat.le_of_ble_eq_true rfl) d_Mo_bar_3 (by decide) (fun H H1 r u _ _ hB _ _ => hB) ?_
  rintro r u ⟨rfl, rfl⟩
  refine aw_if_eq (tgt := 21) C d_Mo_bar_6 (by decide) (fun c_6 => ?_) (fun c_6 => ?_)
  · refine aw_iconst (v := 1) C d_Mo_bar_21 (by decide) ?_
    refine pm_thrown (x := 1) C hK hI  d_Mo_bar_22 ?_
    refine aw_aload_n C d_Mo_bar_25 rfl (j := 0) rfl ?_
    refine gm_thrown (v := 1) C hK rfl d_Mo_bar_26 ?_
    refine aw_if_le (tgt := 34) C d_Mo_bar_29 (by decide) (fun h => absurd h (by decide)) (fun _ => ?_)
    refine aw_iconst (v := 0) C d_Mo_bar_32 (by decide) ?_
    exact aw_zret C hr hlk rfl _ ⟨rfl, rfl⟩ (fun H h => h) d_Mo_bar_33
  · refine aw_aload_n C d_Mo_bar_9 rfl (j := 0) rfl ?_
    refine aw_iload_n C d_Mo_bar_10 rfl (j := 2) rfl ?_
    refine aw_callVi (P9 := fun r u => ms_P D ad cA u) [.int y] C hK (c_Mo_isDesk l D ad cA M y) (cw_Mo_Mo_isDesk C.2.2.2.2 rfl rfl (by decide)) rfl (fun H h => aw_recv hK rfl (h 0 (by decide))) (fun H h => h) (fun q h => Or.inl h) (fun q h => Or.inr (by rw [← hsz]; exact h)) rfl (Nat.le_of_ble_eq_true rfl) d_Mo_bar_11 (by decide) (fun H H1 r u _ _ hB _ _ => hB) ?_
    rintro r u ⟨rfl, rfl⟩
    refine aw_if_eq (tgt := 21) C d_Mo_bar_14 (by decide) (fun c_14 => ?_) (fun c_14 => ?_)
    · refine aw_iconst (v := 1) C d_Mo_bar_21 (by decide) ?_
      refine pm_thrown (x := 1) C hK hI  d_Mo_bar_22 ?_
      refine aw_aload_n C d_Mo_bar_25 rfl (j := 0) rfl ?_
      refine gm_thrown (v := 1) C hK rfl d_Mo_bar_26 ?_
      refine aw_if_le (tgt := 34) C d_Mo_bar_29 (by decide) (fun h => absurd h (by decide)) (fun _ => ?_)
      refine aw_iconst (v := 0) C d_Mo_bar_32 (by decide) ?_
      exact aw_zret C hr hlk rfl _ ⟨rfl, rfl⟩ (fun H h => h) d_Mo_bar_33
    · exact absurd h0 (fun h => h.elim c_6 c_14)
theorem ms_ww (M : ms_S) (t i : Nat) (x y : Int32) : ms_w (ms_w M t i x) t i y = ms_w M t i y := by
  funext t' i'
  unfold ms_w
  split <;> rfl
set_option maxHeartbeats 4000000 in
set_option maxRecDepth 100000 in
theorem b_Mo_sits1_t (l : Launch) (D : va_G) (ad : Nat → Nat) (cA : Nat → ClassId) (M : ms_S) (hI : ms_I ad) (x y : Int32) (h0 : mo_in x 0 (M 22 0 - 1) = 0 ∨ (¬ y = -1 ∧ mo_in y 0 (M 21 0 - 1) = 0)) : Ct_i l y_Mo_sits b_Mo_sits 4 (some .int) ({ frames := 2, cells := 0, slots := 0, locals := 43 } : Room) 0 0 D (ds_ty cA) (ms_A ad) [.ref (ad 0), .int x, .int y] (ms_P D ad cA M) (fun (r : Int32) (u : ms_S) => u = ms_w M 20 0 1 ∧ r = 0) (ms_P D ad cA) := by
  intro sz
  refine ct_of (by decide) (Nat.le_of_ble_eq_true rfl) ?_
  intro p e s m args below meth c hsz C hr hlk hnm hK
  have ex : ∀ k : Nat, AW p l e ({ frames := 2, cells := 0, slots := 0, locals := 43 } : Room) s m args below meth c 4 0 0 (MQ below (va_Qi (fun (r : Int32) (u : ms_S) => u = ms_w M 20 0 1 ∧ r = 0) (fun u t => (ms_P D ad cA) u t.heap) (ct_A (ms_A ad) sz)) args s 0 0 (ct_A (ms_A ad) sz)) (ms_P D ad cA (ms_w M 20 0 1)) (ct_A (ms_A ad) sz) 32 [(0, .ref (ad 0)), (1, .int x), (2, .int y), (3, .int (nI k))] [] := by
    intro k
    refine aw_iload_n C d_Mo_sits_32 rfl (j := 3) rfl ?_
    refine aw_aload_n C d_Mo_sits_33 rfl (j := 0) rfl ?_
    refine gm_persons (v := M 22 0) C hK rfl d_Mo_sits_34 ?_
    refine aw_icmp_ge (tgt := 82) C d_Mo_sits_37 (by decide) (fun c_37 => ?_) (fun c_37 => ?_)
    · refine aw_aload_n C d_Mo_sits_82 rfl (j := 0) rfl ?_
      refine gm_thrown (v := 1) C hK rfl d_Mo_sits_83 ?_
      refine aw_if_le (tgt := 91) C d_Mo_sits_86 (by decide) (fun h => absurd h (by decide)) (fun _ => ?_)
      refine aw_iconst (v := 0) C d_Mo_sits_89 (by decide) ?_
      exact aw_iret C hr hlk _ ⟨rfl, rfl⟩ (fun H h => h) d_Mo_sits_90
    · refine aw_aload_n C d_Mo_sits_40 rfl (j := 0) rfl ?_
      refine gm_thrown (v := 1) C hK rfl d_Mo_sits_41 ?_
      refine aw_if_ne (tgt := 82) C d_Mo_sits_44 (by decide) (fun _ => ?_) (fun h => absurd h (by decide))
      refine aw_aload_n C d_Mo_sits_82 rfl (j := 0) rfl ?_
      refine gm_thrown (v := 1) C hK rfl d_Mo_sits_83 ?_
      refine aw_if_le (tgt := 91) C d_Mo_sits_86 (by decide) (fun h => absurd h (by decide)) (fun _ => ?_)
      refine aw_iconst (v := 0) C d_Mo_sits_89 (by decide) ?_
      exact aw_iret C hr hlk _ ⟨rfl, rfl⟩ (fun H h => h) d_Mo_sits_90
  refine aw_lv (lv' := [(0, .ref (ad 0)), (1, .int x), (2, .int y)]) [0, 1, 2] rfl ?_
  refine aw_aload_n C d_Mo_sits_0 rfl (j := 0) rfl ?_
  refine aw_aload_n C d_Mo_sits_1 rfl (j := 0) rfl ?_
  refine aw_iload_n C d_Mo_sits_2 rfl (j := 1) rfl ?_
  refine aw_callVi (P9 := fun r u => ms_P D ad cA u) [.int x] C hK (c_Mo_isPerson l D ad cA M x) (cw_Mo_Mo_isPerson C.2.2.2.2 rfl rfl (by decide)) rfl (fun H h => aw_recv hK rfl (h 0 (by decide))) (fun H h => h) (fun q h => Or.inl h) (fun q h => Or.inr (by rw [← hsz]; exact h)) rfl (Nat.le_of_ble_eq_true rfl) d_Mo_sits_3 (by decide) (fun H H1 r u _ _ hB _ _ => hB) ?_
  rintro r u ⟨rfl, rfl⟩
  refine aw_if_eq (tgt := 26) C d_Mo_sits_6 (by decide) (fun c_6 => ?_) (fun c_6 => ?_)
  · refine aw_iconst (v := 1) C d_Mo_sits_26 (by decide) ?_
    refine pm_thrown (x := 1) C hK hI  d_Mo_sits_27 ?_
    refine aw_iconst (v := 0) C d_Mo_sits_30 (by decide) ?_
    refine aw_istore_n (i := 3) (lv' := [(3, .int 0), (0, .ref (ad 0)), (1, .int x), (2, .int y)]) C d_Mo_sits_31 rfl (by decide) rfl ?_
    exact aw_lv [1, 2, 3, 0] rfl (ex 0)
  · refine aw_iload_n C d_Mo_sits_9 rfl (j := 2) rfl ?_
    refine aw_iconst (v := (-1)) C d_Mo_sits_10 (by decide) ?_
    refine aw_icmp_eq (tgt := 22) C d_Mo_sits_11 (by decide) (fun c_11 => ?_) (fun c_11 => ?_)
    · exact absurd h0 (fun h => h.elim c_6 (fun h => h.1 c_11))
    · refine aw_aload_n C d_Mo_sits_14 rfl (j := 0) rfl ?_
      refine aw_iload_n C d_Mo_sits_15 rfl (j := 2) rfl ?_
      refine aw_callVi (P9 := fun r u => ms_P D ad cA u) [.int y] C hK (c_Mo_isDesk l D ad cA M y) (cw_Mo_Mo_isDesk C.2.2.2.2 rfl rfl (by decide)) rfl (fun H h => aw_recv hK rfl (h 0 (by decide))) (fun H h => h) (fun q h => Or.inl h) (fun q h => Or.inr (by rw [← hsz]; exact h)) rfl (Nat.le_of_ble_eq_true rfl) d_Mo_sits_16 (by decide) (fun H H1 r u _ _ hB _ _ => hB) ?_
      rintro r u ⟨rfl, rfl⟩
      refine aw_if_eq (tgt := 26) C d_Mo_sits_19 (by decide) (fun c_19 => ?_) (fun c_19 => ?_)
      · refine aw_iconst (v := 1) C d_Mo_sits_26 (by decide) ?_
        refine pm_thrown (x := 1) C hK hI  d_Mo_sits_27 ?_
        refine aw_iconst (v := 0) C d_Mo_sits_30 (by decide) ?_
        refine aw_istore_n (i := 3) (lv' := [(3, .int 0), (0, .ref (ad 0)), (1, .int x), (2, .int y)]) C d_Mo_sits_31 rfl (by decide) rfl ?_
        exact aw_lv [1, 2, 3, 0] rfl (ex 0)
      · exact absurd h0 (fun h => h.elim c_6 (fun h => c_19 h.2))
set_option maxHeartbeats 4000000 in
set_option maxRecDepth 100000 in
theorem c_Mo_sits (l : Launch) (D : va_G) (ad : Nat → Nat) (cA : Nat → ClassId) (M : ms_S) (hI : ms_I ad) (p9 : Nat) (y : Int32) (hp : p9 < 10) (h1 : ¬ mo_in (nI p9) 0 (M 22 0 - 1) = 0) (h2 : y = -1 ∨ ¬ mo_in y 0 (M 21 0 - 1) = 0) (Pn : Nat) (hPn : Pn ≤ 10) (h22 : M 22 0 = nI Pn) (h3 : ∀ q, q < Pn → ¬ nI q = nI p9 → ¬ y = -1 → ¬ M 3 q = y) : Ct_i l y_Mo_sits b_Mo_sits 4 (some .int) ({ frames := 2, cells := 0, slots := 0, locals := 43 } : Room) 0 0 D (ds_ty cA) (ms_A ad) [.ref (ad 0), .int (nI p9), .int y] (ms_P D ad cA M) (fun (r : Int32) (u : ms_S) => u = ms_w (ms_w (ms_w M 20 0 0) 23 0 0) 3 p9 y ∧ r = M 3 p9) (ms_P D ad cA) := by
  intro sz
  refine ct_of (by decide) (Nat.le_of_ble_eq_true rfl) ?_
  intro p e s m args below meth c hsz C hr hlk hnm hK
  have lp : ∀ (n k : Nat), k + n = Pn → AW p l e ({ frames := 2, cells := 0, slots := 0, locals := 43 } : Room) s m args below meth c 4 0 0 (MQ below (va_Qi (fun (r : Int32) (u : ms_S) => u = ms_w (ms_w (ms_w M 20 0 0) 23 0 0) 3 p9 y ∧ r = M 3 p9) (fun u t => (ms_P D ad cA) u t.heap) (ct_A (ms_A ad) sz)) args s 0 0 (ct_A (ms_A ad) sz)) (ms_P D ad cA (ms_w M 20 0 0)) (ct_A (ms_A ad) sz) 32 [(0, .ref (ad 0)), (1, .int (nI p9)), (2, .int y), (3, .int (nI k))] [] := by
    intro n
    induction n with
    | zero =>
      intro k hkn
      refine aw_iload_n C d_Mo_sits_32 rfl (j := 3) rfl ?_
      refine aw_aload_n C d_Mo_sits_33 rfl (j := 0) rfl ?_
      refine gm_persons (v := M 22 0) C hK rfl d_Mo_sits_34 ?_
      refine aw_icmp_ge (tgt := 82) C d_Mo_sits_37 (by decide) (fun c_37 => ?_) (fun c_37 => ?_)
      · refine aw_aload_n C d_Mo_sits_82 rfl (j := 0) rfl ?_
        refine gm_thrown (v := 0) C hK rfl d_Mo_sits_83 ?_
        refine aw_if_le (tgt := 91) C d_Mo_sits_86 (by decide) (fun _ => ?_) (fun h => absurd h (by decide))
        refine aw_aload_n C d_Mo_sits_91 rfl (j := 0) rfl ?_
        refine aw_iconst (v := 0) C d_Mo_sits_92 (by decide) ?_
        refine pm_made (x := 0) C hK hI (Or.inl rfl) d_Mo_sits_93 ?_
        refine aw_aload_n C d_Mo_sits_96 rfl (j := 0) rfl ?_
        refine gm_olds C hK d_Mo_sits_97 ?_
        refine aw_iload_n C d_Mo_sits_100 rfl (j := 1) rfl ?_
        refine lm_3 (v := M 3 p9) C hK p9 rfl hp rfl d_Mo_sits_101 ?_
        refine aw_istore_n (i := 3) (lv' := [(3, .int (M 3 p9)), (0, .ref (ad 0)), (1, .int (nI p9)), (2, .int y)]) C d_Mo_sits_102 rfl (by decide) rfl ?_
        refine aw_aload_n C d_Mo_sits_103 rfl (j := 1) rfl ?_
        refine gm_olds C hK d_Mo_sits_104 ?_
        refine aw_iload_n C d_Mo_sits_107 rfl (j := 2) rfl ?_
        refine aw_iload_n C d_Mo_sits_108 rfl (j := 3) rfl ?_
        refine sm_3 (y := y) C hK hI  p9 rfl hp d_Mo_sits_109 ?_
        refine aw_iload_n C d_Mo_sits_110 rfl (j := 0) rfl ?_
        exact aw_iret C hr hlk _ ⟨rfl, rfl⟩ (fun H h => h) d_Mo_sits_111
      · exact absurd (by rw [h22, show k = Pn by omega]; exact nI_le (Nat.le_refl _) (by omega)) c_37
    | succ n ih =>
      intro k hkn
      refine aw_iload_n C d_Mo_sits_32 rfl (j := 3) rfl ?_
      refine aw_aload_n C d_Mo_sits_33 rfl (j := 0) rfl ?_
      refine gm_persons (v := M 22 0) C hK rfl d_Mo_sits_34 ?_
      refine aw_icmp_ge (tgt := 82) C d_Mo_sits_37 (by decide) (fun c_37 => ?_) (fun c_37 => ?_)
      · rw [h22] at c_37
        exact absurd c_37 (nI_ge (by omega) (by omega))
      · refine aw_aload_n C d_Mo_sits_40 rfl (j := 0) rfl ?_
        refine gm_thrown (v := 0) C hK rfl d_Mo_sits_41 ?_
        refine aw_if_ne (tgt := 82) C d_Mo_sits_44 (by decide) (fun h => absurd h (by decide)) (fun _ => ?_)
        refine aw_aload_n C d_Mo_sits_47 rfl (j := 0) rfl ?_
        refine aw_iload_n C d_Mo_sits_48 rfl (j := 3) rfl ?_
        refine aw_iload_n C d_Mo_sits_49 rfl (j := 1) rfl ?_
        refine aw_icmp_eq (tgt := 72) C d_Mo_sits_50 (by decide) (fun c_50 => ?_) (fun c_50 => ?_)
        · refine aw_iconst (v := 0) C d_Mo_sits_72 (by decide) ?_
          refine pm_thrown (x := 0) C hK hI  d_Mo_sits_73 ?_
          refine aw_iinc (i := 3) (v := (nI (k + 1))) (lv' := [(3, .int (nI (k + 1))), (0, .ref (ad 0)), (1, .int (nI p9)), (2, .int y)]) C d_Mo_sits_76 (j := 3) rfl (nI_1 k) (by decide) rfl ?_
          refine aw_goto (tgt := 32) C d_Mo_sits_79 (by decide) ?_
          rw [ms_ww]
          exact aw_lv [1, 2, 3, 0] rfl (ih (k + 1) (by omega))
        · refine aw_iload_n C d_Mo_sits_53 rfl (j := 2) rfl ?_
          refine aw_iconst (v := (-1)) C d_Mo_sits_54 (by decide) ?_
          refine aw_icmp_eq (tgt := 72) C d_Mo_sits_55 (by decide) (fun c_55 => ?_) (fun c_55 => ?_)
          · refine aw_iconst (v := 0) C d_Mo_sits_72 (by decide) ?_
            refine pm_thrown (x := 0) C hK hI  d_Mo_sits_73 ?_
            refine aw_iinc (i := 3) (v := (nI (k + 1))) (lv' := [(3, .int (nI (k + 1))), (0, .ref (ad 0)), (1, .int (nI p9)), (2, .int y)]) C d_Mo_sits_76 (j := 3) rfl (nI_1 k) (by decide) rfl ?_
            refine aw_goto (tgt := 32) C d_Mo_sits_79 (by decide) ?_
            rw [ms_ww]
            exact aw_lv [1, 2, 3, 0] rfl (ih (k + 1) (by omega))
          · refine aw_aload_n C d_Mo_sits_58 rfl (j := 0) rfl ?_
            refine gm_olds C hK d_Mo_sits_59 ?_
            refine aw_iload_n C d_Mo_sits_62 rfl (j := 3) rfl ?_
            refine lm_3 (v := M 3 k) C hK k rfl (show k < 10 by omega) rfl d_Mo_sits_63 ?_
            refine aw_iload_n C d_Mo_sits_64 rfl (j := 2) rfl ?_
            refine aw_icmp_ne (tgt := 72) C d_Mo_sits_65 (by decide) (fun c_65 => ?_) (fun c_65 => ?_)
            · refine aw_iconst (v := 0) C d_Mo_sits_72 (by decide) ?_
              refine pm_thrown (x := 0) C hK hI  d_Mo_sits_73 ?_
              refine aw_iinc (i := 3) (v := (nI (k + 1))) (lv' := [(3, .int (nI (k + 1))), (0, .ref (ad 0)), (1, .int (nI p9)), (2, .int y)]) C d_Mo_sits_76 (j := 3) rfl (nI_1 k) (by decide) rfl ?_
              refine aw_goto (tgt := 32) C d_Mo_sits_79 (by decide) ?_
              rw [ms_ww]
              exact aw_lv [1, 2, 3, 0] rfl (ih (k + 1) (by omega))
            · exact absurd c_65 (h3 k (by omega) c_50 c_55)
  refine aw_lv (lv' := [(0, .ref (ad 0)), (1, .int (nI p9)), (2, .int y)]) [0, 1, 2] rfl ?_
  refine aw_aload_n C d_Mo_sits_0 rfl (j := 0) rfl ?_
  refine aw_aload_n C d_Mo_sits_1 rfl (j := 0) rfl ?_
  refine aw_iload_n C d_Mo_sits_2 rfl (j := 1) rfl ?_
  refine aw_callVi (P9 := fun r u => ms_P D ad cA u) [.int (nI p9)] C hK (c_Mo_isPerson l D ad cA M (nI p9)) (cw_Mo_Mo_isPerson C.2.2.2.2 rfl rfl (by decide)) rfl (fun H h => aw_recv hK rfl (h 0 (by decide))) (fun H h => h) (fun q h => Or.inl h) (fun q h => Or.inr (by rw [← hsz]; exact h)) rfl (Nat.le_of_ble_eq_true rfl) d_Mo_sits_3 (by decide) (fun H H1 r u _ _ hB _ _ => hB) ?_
  rintro r u ⟨rfl, rfl⟩
  refine aw_if_eq (tgt := 26) C d_Mo_sits_6 (by decide) (fun c_6 => ?_) (fun c_6 => ?_)
  · exact absurd c_6 h1
  · refine aw_iload_n C d_Mo_sits_9 rfl (j := 2) rfl ?_
    refine aw_iconst (v := (-1)) C d_Mo_sits_10 (by decide) ?_
    refine aw_icmp_eq (tgt := 22) C d_Mo_sits_11 (by decide) (fun c_11 => ?_) (fun c_11 => ?_)
    · refine aw_iconst (v := 0) C d_Mo_sits_22 (by decide) ?_
      refine aw_goto (tgt := 27) C d_Mo_sits_23 (by decide) ?_
      refine pm_thrown (x := 0) C hK hI  d_Mo_sits_27 ?_
      refine aw_iconst (v := 0) C d_Mo_sits_30 (by decide) ?_
      refine aw_istore_n (i := 3) (lv' := [(3, .int 0), (0, .ref (ad 0)), (1, .int (nI p9)), (2, .int y)]) C d_Mo_sits_31 rfl (by decide) rfl ?_
      exact aw_lv [1, 2, 3, 0] rfl (lp Pn 0 (by omega))
    · refine aw_aload_n C d_Mo_sits_14 rfl (j := 0) rfl ?_
      refine aw_iload_n C d_Mo_sits_15 rfl (j := 2) rfl ?_
      refine aw_callVi (P9 := fun r u => ms_P D ad cA u) [.int y] C hK (c_Mo_isDesk l D ad cA M y) (cw_Mo_Mo_isDesk C.2.2.2.2 rfl rfl (by decide)) rfl (fun H h => aw_recv hK rfl (h 0 (by decide))) (fun H h => h) (fun q h => Or.inl h) (fun q h => Or.inr (by rw [← hsz]; exact h)) rfl (Nat.le_of_ble_eq_true rfl) d_Mo_sits_16 (by decide) (fun H H1 r u _ _ hB _ _ => hB) ?_
      rintro r u ⟨rfl, rfl⟩
      refine aw_if_eq (tgt := 26) C d_Mo_sits_19 (by decide) (fun c_19 => ?_) (fun c_19 => ?_)
      · exact absurd h2 (fun h => h.elim c_11 (fun h => h c_19))
      · refine aw_iconst (v := 0) C d_Mo_sits_22 (by decide) ?_
        refine aw_goto (tgt := 27) C d_Mo_sits_23 (by decide) ?_
        refine pm_thrown (x := 0) C hK hI  d_Mo_sits_27 ?_
        refine aw_iconst (v := 0) C d_Mo_sits_30 (by decide) ?_
        refine aw_istore_n (i := 3) (lv' := [(3, .int 0), (0, .ref (ad 0)), (1, .int (nI p9)), (2, .int y)]) C d_Mo_sits_31 rfl (by decide) rfl ?_
        exact aw_lv [1, 2, 3, 0] rfl (lp Pn 0 (by omega))
set_option maxHeartbeats 4000000 in
set_option maxRecDepth 100000 in
theorem b_Mo_sits2_t (l : Launch) (D : va_G) (ad : Nat → Nat) (cA : Nat → ClassId) (M : ms_S) (hI : ms_I ad) (x y : Int32) (h1 : ¬ mo_in x 0 (M 22 0 - 1) = 0) (h2 : y = -1 ∨ ¬ mo_in y 0 (M 21 0 - 1) = 0) (Pn : Nat) (hPn : Pn ≤ 10) (h22 : M 22 0 = nI Pn) (hy : ¬ y = -1) (h3 : ∃ q, q < Pn ∧ ¬ nI q = x ∧ M 3 q = y) : Ct_i l y_Mo_sits b_Mo_sits 4 (some .int) ({ frames := 2, cells := 0, slots := 0, locals := 43 } : Room) 0 0 D (ds_ty cA) (ms_A ad) [.ref (ad 0), .int x, .int y] (ms_P D ad cA M) (fun (r : Int32) (u : ms_S) => u = ms_w M 20 0 2 ∧ r = 0) (ms_P D ad cA) := by
  intro sz
  refine ct_of (by decide) (Nat.le_of_ble_eq_true rfl) ?_
  intro p e s m args below meth c hsz C hr hlk hnm hK
  have ex : ∀ k : Nat, AW p l e ({ frames := 2, cells := 0, slots := 0, locals := 43 } : Room) s m args below meth c 4 0 0 (MQ below (va_Qi (fun (r : Int32) (u : ms_S) => u = ms_w M 20 0 2 ∧ r = 0) (fun u t => (ms_P D ad cA) u t.heap) (ct_A (ms_A ad) sz)) args s 0 0 (ct_A (ms_A ad) sz)) (ms_P D ad cA (ms_w M 20 0 2)) (ct_A (ms_A ad) sz) 32 [(0, .ref (ad 0)), (1, .int x), (2, .int y), (3, .int (nI k))] [] := by
    intro k
    refine aw_iload_n C d_Mo_sits_32 rfl (j := 3) rfl ?_
    refine aw_aload_n C d_Mo_sits_33 rfl (j := 0) rfl ?_
    refine gm_persons (v := M 22 0) C hK rfl d_Mo_sits_34 ?_
    refine aw_icmp_ge (tgt := 82) C d_Mo_sits_37 (by decide) (fun c_37 => ?_) (fun c_37 => ?_)
    · refine aw_aload_n C d_Mo_sits_82 rfl (j := 0) rfl ?_
      refine gm_thrown (v := 2) C hK rfl d_Mo_sits_83 ?_
      refine aw_if_le (tgt := 91) C d_Mo_sits_86 (by decide) (fun h => absurd h (by decide)) (fun _ => ?_)
      refine aw_iconst (v := 0) C d_Mo_sits_89 (by decide) ?_
      exact aw_iret C hr hlk _ ⟨rfl, rfl⟩ (fun H h => h) d_Mo_sits_90
    · refine aw_aload_n C d_Mo_sits_40 rfl (j := 0) rfl ?_
      refine gm_thrown (v := 2) C hK rfl d_Mo_sits_41 ?_
      refine aw_if_ne (tgt := 82) C d_Mo_sits_44 (by decide) (fun _ => ?_) (fun h => absurd h (by decide))
      refine aw_aload_n C d_Mo_sits_82 rfl (j := 0) rfl ?_
      refine gm_thrown (v := 2) C hK rfl d_Mo_sits_83 ?_
      refine aw_if_le (tgt := 91) C d_Mo_sits_86 (by decide) (fun h => absurd h (by decide)) (fun _ => ?_)
      refine aw_iconst (v := 0) C d_Mo_sits_89 (by decide) ?_
      exact aw_iret C hr hlk _ ⟨rfl, rfl⟩ (fun H h => h) d_Mo_sits_90
  have lp : ∀ (n k : Nat), k + n = Pn → (∃ q, k ≤ q ∧ q < Pn ∧ ¬ nI q = x ∧ M 3 q = y) → AW p l e ({ frames := 2, cells := 0, slots := 0, locals := 43 } : Room) s m args below meth c 4 0 0 (MQ below (va_Qi (fun (r : Int32) (u : ms_S) => u = ms_w M 20 0 2 ∧ r = 0) (fun u t => (ms_P D ad cA) u t.heap) (ct_A (ms_A ad) sz)) args s 0 0 (ct_A (ms_A ad) sz)) (ms_P D ad cA (ms_w M 20 0 0)) (ct_A (ms_A ad) sz) 32 [(0, .ref (ad 0)), (1, .int x), (2, .int y), (3, .int (nI k))] [] := by
    intro n
    induction n with
    | zero =>
      intro k hkn hex
      obtain ⟨q, h1, h2, -, -⟩ := hex
      exact absurd h2 (by omega)
    | succ n ih =>
      intro k hkn hex
      refine aw_iload_n C d_Mo_sits_32 rfl (j := 3) rfl ?_
      refine aw_aload_n C d_Mo_sits_33 rfl (j := 0) rfl ?_
      refine gm_persons (v := M 22 0) C hK rfl d_Mo_sits_34 ?_
      refine aw_icmp_ge (tgt := 82) C d_Mo_sits_37 (by decide) (fun c_37 => ?_) (fun c_37 => ?_)
      · rw [h22] at c_37
        exact absurd c_37 (nI_ge (by omega) (by omega))
      · refine aw_aload_n C d_Mo_sits_40 rfl (j := 0) rfl ?_
        refine gm_thrown (v := 0) C hK rfl d_Mo_sits_41 ?_
        refine aw_if_ne (tgt := 82) C d_Mo_sits_44 (by decide) (fun h => absurd h (by decide)) (fun _ => ?_)
        refine aw_aload_n C d_Mo_sits_47 rfl (j := 0) rfl ?_
        refine aw_iload_n C d_Mo_sits_48 rfl (j := 3) rfl ?_
        refine aw_iload_n C d_Mo_sits_49 rfl (j := 1) rfl ?_
        refine aw_icmp_eq (tgt := 72) C d_Mo_sits_50 (by decide) (fun c_50 => ?_) (fun c_50 => ?_)
        · refine aw_iconst (v := 0) C d_Mo_sits_72 (by decide) ?_
          refine pm_thrown (x := 0) C hK hI  d_Mo_sits_73 ?_
          refine aw_iinc (i := 3) (v := (nI (k + 1))) (lv' := [(3, .int (nI (k + 1))), (0, .ref (ad 0)), (1, .int x), (2, .int y)]) C d_Mo_sits_76 (j := 3) rfl (nI_1 k) (by decide) rfl ?_
          refine aw_goto (tgt := 32) C d_Mo_sits_79 (by decide) ?_
          rw [ms_ww]
          exact aw_lv [1, 2, 3, 0] rfl (ih (k + 1) (by omega) (by obtain ⟨q, h1, h2, h4, h5⟩ := hex; refine ⟨q, ?_, h2, h4, h5⟩; rcases Nat.lt_or_eq_of_le h1 with h | h; exact h; subst h; exact absurd c_50 h4))
        · refine aw_iload_n C d_Mo_sits_53 rfl (j := 2) rfl ?_
          refine aw_iconst (v := (-1)) C d_Mo_sits_54 (by decide) ?_
          refine aw_icmp_eq (tgt := 72) C d_Mo_sits_55 (by decide) (fun c_55 => ?_) (fun c_55 => ?_)
          · refine aw_iconst (v := 0) C d_Mo_sits_72 (by decide) ?_
            refine pm_thrown (x := 0) C hK hI  d_Mo_sits_73 ?_
            refine aw_iinc (i := 3) (v := (nI (k + 1))) (lv' := [(3, .int (nI (k + 1))), (0, .ref (ad 0)), (1, .int x), (2, .int y)]) C d_Mo_sits_76 (j := 3) rfl (nI_1 k) (by decide) rfl ?_
            refine aw_goto (tgt := 32) C d_Mo_sits_79 (by decide) ?_
            rw [ms_ww]
            exact aw_lv [1, 2, 3, 0] rfl (ih (k + 1) (by omega) (by obtain ⟨q, h1, h2, h4, h5⟩ := hex; refine ⟨q, ?_, h2, h4, h5⟩; rcases Nat.lt_or_eq_of_le h1 with h | h; exact h; subst h; exact absurd c_55 hy))
          · refine aw_aload_n C d_Mo_sits_58 rfl (j := 0) rfl ?_
            refine gm_olds C hK d_Mo_sits_59 ?_
            refine aw_iload_n C d_Mo_sits_62 rfl (j := 3) rfl ?_
            refine lm_3 (v := M 3 k) C hK k rfl (show k < 10 by omega) rfl d_Mo_sits_63 ?_
            refine aw_iload_n C d_Mo_sits_64 rfl (j := 2) rfl ?_
            refine aw_icmp_ne (tgt := 72) C d_Mo_sits_65 (by decide) (fun c_65 => ?_) (fun c_65 => ?_)
            · refine aw_iconst (v := 0) C d_Mo_sits_72 (by decide) ?_
              refine pm_thrown (x := 0) C hK hI  d_Mo_sits_73 ?_
              refine aw_iinc (i := 3) (v := (nI (k + 1))) (lv' := [(3, .int (nI (k + 1))), (0, .ref (ad 0)), (1, .int x), (2, .int y)]) C d_Mo_sits_76 (j := 3) rfl (nI_1 k) (by decide) rfl ?_
              refine aw_goto (tgt := 32) C d_Mo_sits_79 (by decide) ?_
              rw [ms_ww]
              exact aw_lv [1, 2, 3, 0] rfl (ih (k + 1) (by omega) (by obtain ⟨q, h1, h2, h4, h5⟩ := hex; refine ⟨q, ?_, h2, h4, h5⟩; rcases Nat.lt_or_eq_of_le h1 with h | h; exact h; subst h; exact absurd h5 c_65))
            · refine aw_iconst (v := 2) C d_Mo_sits_68 (by decide) ?_
              refine aw_goto (tgt := 73) C d_Mo_sits_69 (by decide) ?_
              refine pm_thrown (x := 2) C hK hI  d_Mo_sits_73 ?_
              refine aw_iinc (i := 3) (v := (nI (k + 1))) (lv' := [(3, .int (nI (k + 1))), (0, .ref (ad 0)), (1, .int x), (2, .int y)]) C d_Mo_sits_76 (j := 3) rfl (nI_1 k) (by decide) rfl ?_
              refine aw_goto (tgt := 32) C d_Mo_sits_79 (by decide) ?_
              rw [ms_ww]
              exact aw_lv [1, 2, 3, 0] rfl (ex (k + 1))
  refine aw_lv (lv' := [(0, .ref (ad 0)), (1, .int x), (2, .int y)]) [0, 1, 2] rfl ?_
  refine aw_aload_n C d_Mo_sits_0 rfl (j := 0) rfl ?_
  refine aw_aload_n C d_Mo_sits_1 rfl (j := 0) rfl ?_
  refine aw_iload_n C d_Mo_sits_2 rfl (j := 1) rfl ?_
  refine aw_callVi (P9 := fun r u => ms_P D ad cA u) [.int x] C hK (c_Mo_isPerson l D ad cA M x) (cw_Mo_Mo_isPerson C.2.2.2.2 rfl rfl (by decide)) rfl (fun H h => aw_recv hK rfl (h 0 (by decide))) (fun H h => h) (fun q h => Or.inl h) (fun q h => Or.inr (by rw [← hsz]; exact h)) rfl (Nat.le_of_ble_eq_true rfl) d_Mo_sits_3 (by decide) (fun H H1 r u _ _ hB _ _ => hB) ?_
  rintro r u ⟨rfl, rfl⟩
  refine aw_if_eq (tgt := 26) C d_Mo_sits_6 (by decide) (fun c_6 => ?_) (fun c_6 => ?_)
  · exact absurd c_6 h1
  · refine aw_iload_n C d_Mo_sits_9 rfl (j := 2) rfl ?_
    refine aw_iconst (v := (-1)) C d_Mo_sits_10 (by decide) ?_
    refine aw_icmp_eq (tgt := 22) C d_Mo_sits_11 (by decide) (fun c_11 => ?_) (fun c_11 => ?_)
    · refine aw_iconst (v := 0) C d_Mo_sits_22 (by decide) ?_
      refine aw_goto (tgt := 27) C d_Mo_sits_23 (by decide) ?_
      refine pm_thrown (x := 0) C hK hI  d_Mo_sits_27 ?_
      refine aw_iconst (v := 0) C d_Mo_sits_30 (by decide) ?_
      refine aw_istore_n (i := 3) (lv' := [(3, .int 0), (0, .ref (ad 0)), (1, .int x), (2, .int y)]) C d_Mo_sits_31 rfl (by decide) rfl ?_
      exact aw_lv [1, 2, 3, 0] rfl (lp Pn 0 (by omega) (by obtain ⟨q, h1, h2, h3⟩ := h3; exact ⟨q, Nat.zero_le q, h1, h2, h3⟩))
    · refine aw_aload_n C d_Mo_sits_14 rfl (j := 0) rfl ?_
      refine aw_iload_n C d_Mo_sits_15 rfl (j := 2) rfl ?_
      refine aw_callVi (P9 := fun r u => ms_P D ad cA u) [.int y] C hK (c_Mo_isDesk l D ad cA M y) (cw_Mo_Mo_isDesk C.2.2.2.2 rfl rfl (by decide)) rfl (fun H h => aw_recv hK rfl (h 0 (by decide))) (fun H h => h) (fun q h => Or.inl h) (fun q h => Or.inr (by rw [← hsz]; exact h)) rfl (Nat.le_of_ble_eq_true rfl) d_Mo_sits_16 (by decide) (fun H H1 r u _ _ hB _ _ => hB) ?_
      rintro r u ⟨rfl, rfl⟩
      refine aw_if_eq (tgt := 26) C d_Mo_sits_19 (by decide) (fun c_19 => ?_) (fun c_19 => ?_)
      · exact absurd h2 (fun h => h.elim c_11 (fun h => h c_19))
      · refine aw_iconst (v := 0) C d_Mo_sits_22 (by decide) ?_
        refine aw_goto (tgt := 27) C d_Mo_sits_23 (by decide) ?_
        refine pm_thrown (x := 0) C hK hI  d_Mo_sits_27 ?_
        refine aw_iconst (v := 0) C d_Mo_sits_30 (by decide) ?_
        refine aw_istore_n (i := 3) (lv' := [(3, .int 0), (0, .ref (ad 0)), (1, .int x), (2, .int y)]) C d_Mo_sits_31 rfl (by decide) rfl ?_
        exact aw_lv [1, 2, 3, 0] rfl (lp Pn 0 (by omega) (by obtain ⟨q, h1, h2, h3⟩ := h3; exact ⟨q, Nat.zero_le q, h1, h2, h3⟩))
set_option maxHeartbeats 4000000 in
set_option maxRecDepth 100000 in
theorem c_Mo_deskOf (l : Launch) (D : va_G) (ad : Nat → Nat) (cA : Nat → ClassId) (M : ms_S) (hI : ms_I ad) (p9 : Nat) (hp : p9 < 10) (h1 : ¬ mo_in (nI p9) 0 (M 22 0 - 1) = 0) : Ct_i l y_Mo_deskOf b_Mo_deskOf 2 (some .int) ({ frames := 2, cells := 0, slots := 0, locals := 43 } : Room) 0 0 D (ds_ty cA) (ms_A ad) [.ref (ad 0), .int (nI p9)] (ms_P D ad cA M) (fun (r : Int32) (u : ms_S) => u = ms_w M 20 0 0 ∧ r = if M 23 0 = 0 then -1 else M 4 p9) (ms_P D ad cA) := by
  intro sz
  refine ct_of (by decide) (Nat.le_of_ble_eq_true rfl) ?_
  intro p e s m args below meth c hsz C hr hlk hnm hK
  refine aw_lv (lv' := [(0, .ref (ad 0)), (1, .int (nI p9))]) [0, 1] rfl ?_
  refine aw_aload_n C d_Mo_deskOf_0 rfl (j := 0) rfl ?_
  refine aw_aload_n C d_Mo_deskOf_1 rfl (j := 0) rfl ?_
  refine aw_iload_n C d_Mo_deskOf_2 rfl (j := 1) rfl ?_
  refine aw_callVi (P9 := fun r u => ms_P D ad cA u) [.int (nI p9)] C hK (c_Mo_isPerson l D ad cA M (nI p9)) (cw_Mo_Mo_isPerson C.2.2.2.2 rfl rfl (by decide)) rfl (fun H h => aw_recv hK rfl (h 0 (by decide))) (fun H h => h) (fun q h => Or.inl h) (fun q h => Or.inr (by rw [← hsz]; exact h)) rfl (Nat.le_of_ble_eq_true rfl) d_Mo_deskOf_3 (by decide) (fun H H1 r u _ _ hB _ _ => hB) ?_
  rintro r u ⟨rfl, rfl⟩
  refine aw_if_eq (tgt := 13) C d_Mo_deskOf_6 (by decide) (fun c_6 => ?_) (fun c_6 => ?_)
  · exact absurd c_6 h1
  · refine aw_iconst (v := 0) C d_Mo_deskOf_9 (by decide) ?_
    refine aw_goto (tgt := 14) C d_Mo_deskOf_10 (by decide) ?_
    refine pm_thrown (x := 0) C hK hI  d_Mo_deskOf_14 ?_
    refine aw_aload_n C d_Mo_deskOf_17 rfl (j := 0) rfl ?_
    refine gm_thrown (v := 0) C hK rfl d_Mo_deskOf_18 ?_
    refine aw_if_le (tgt := 28) C d_Mo_deskOf_21 (by decide) (fun _ => ?_) (fun h => absurd h (by decide))
    refine aw_aload_n C d_Mo_deskOf_28 rfl (j := 0) rfl ?_
    refine gm_made (v := M 23 0) C hK rfl d_Mo_deskOf_29 ?_
    refine aw_if_eq (tgt := 44) C d_Mo_deskOf_32 (by decide) (fun c_32 => ?_) (fun c_32 => ?_)
    · refine aw_iconst (v := (-1)) C d_Mo_deskOf_44 (by decide) ?_
      exact aw_iret C hr hlk _ ⟨rfl, by rw [if_pos c_32]⟩ (fun H h => h) d_Mo_deskOf_45
    · refine aw_aload_n C d_Mo_deskOf_35 rfl (j := 0) rfl ?_
      refine gm_seats C hK d_Mo_deskOf_36 ?_
      refine aw_iload_n C d_Mo_deskOf_39 rfl (j := 1) rfl ?_
      refine lm_4 (v := M 4 p9) C hK p9 rfl hp rfl d_Mo_deskOf_40 ?_
      refine aw_goto (tgt := 45) C d_Mo_deskOf_41 (by decide) ?_
      exact aw_iret C hr hlk _ ⟨rfl, by rw [if_neg c_32]⟩ (fun H h => h) d_Mo_deskOf_45
set_option maxHeartbeats 4000000 in
set_option maxRecDepth 100000 in
theorem b_Mo_deskOf_t (l : Launch) (D : va_G) (ad : Nat → Nat) (cA : Nat → ClassId) (M : ms_S) (hI : ms_I ad) (x : Int32) (h1 : mo_in x 0 (M 22 0 - 1) = 0) : Ct_i l y_Mo_deskOf b_Mo_deskOf 2 (some .int) ({ frames := 2, cells := 0, slots := 0, locals := 43 } : Room) 0 0 D (ds_ty cA) (ms_A ad) [.ref (ad 0), .int x] (ms_P D ad cA M) (fun (r : Int32) (u : ms_S) => u = ms_w M 20 0 1 ∧ r = 0) (ms_P D ad cA) := by
  intro sz
  refine ct_of (by decide) (Nat.le_of_ble_eq_true rfl) ?_
  intro p e s m args below meth c hsz C hr hlk hnm hK
  refine aw_lv (lv' := [(0, .ref (ad 0)), (1, .int x)]) [0, 1] rfl ?_
  refine aw_aload_n C d_Mo_deskOf_0 rfl (j := 0) rfl ?_
  refine aw_aload_n C d_Mo_deskOf_1 rfl (j := 0) rfl ?_
  refine aw_iload_n C d_Mo_deskOf_2 rfl (j := 1) rfl ?_
  refine aw_callVi (P9 := fun r u => ms_P D ad cA u) [.int x] C hK (c_Mo_isPerson l D ad cA M x) (cw_Mo_Mo_isPerson C.2.2.2.2 rfl rfl (by decide)) rfl (fun H h => aw_recv hK rfl (h 0 (by decide))) (fun H h => h) (fun q h => Or.inl h) (fun q h => Or.inr (by rw [← hsz]; exact h)) rfl (Nat.le_of_ble_eq_true rfl) d_Mo_deskOf_3 (by decide) (fun H H1 r u _ _ hB _ _ => hB) ?_
  rintro r u ⟨rfl, rfl⟩
  refine aw_if_eq (tgt := 13) C d_Mo_deskOf_6 (by decide) (fun c_6 => ?_) (fun c_6 => ?_)
  · refine aw_iconst (v := 1) C d_Mo_deskOf_13 (by decide) ?_
    refine pm_thrown (x := 1) C hK hI  d_Mo_deskOf_14 ?_
    refine aw_aload_n C d_Mo_deskOf_17 rfl (j := 0) rfl ?_
    refine gm_thrown (v := 1) C hK rfl d_Mo_deskOf_18 ?_
    refine aw_if_le (tgt := 28) C d_Mo_deskOf_21 (by decide) (fun h => absurd h (by decide)) (fun _ => ?_)
    refine aw_iconst (v := 0) C d_Mo_deskOf_24 (by decide) ?_
    refine aw_goto (tgt := 45) C d_Mo_deskOf_25 (by decide) ?_
    exact aw_iret C hr hlk _ ⟨rfl, rfl⟩ (fun H h => h) d_Mo_deskOf_45
  · exact absurd h1 c_6
def mmv_L (M : ms_S) : Nat → Nat → Int32 → Int32
  | 0, _, t => t
  | n + 1, k, t => mmv_L M n (k + 1) (if mo_mv M k (M 4 k) = 0 then t else t + 1)
set_option maxHeartbeats 4000000 in
set_option maxRecDepth 100000 in
theorem c_Mo_moved (l : Launch) (D : va_G) (ad : Nat → Nat) (cA : Nat → ClassId) (M : ms_S) (hI : ms_I ad) (Pn : Nat) (hPn : Pn ≤ 10) (h22 : M 22 0 = nI Pn)  : Ct_i l y_Mo_moved b_Mo_moved 3 (some .int) ({ frames := 1, cells := 0, slots := 0, locals := 22 } : Room) 0 0 D (ds_ty cA) (ms_A ad) [.ref (ad 0)] (ms_P D ad cA M) (fun (r : Int32) (u : ms_S) => u = ms_w M 20 0 0 ∧ r = if M 23 0 = 0 then -1 else mmv_L M Pn 0 0) (ms_P D ad cA) := by
  intro sz
  refine ct_of (by decide) (Nat.le_of_ble_eq_true rfl) ?_
  intro p e s m args below meth c hsz C hr hlk hnm hK
  have lp : ∀ (n k : Nat) (t9 : Int32) (c_9 : ¬ M 23 0 = 0), k + n = Pn → mmv_L M n k t9 = mmv_L M Pn 0 0 → AW p l e ({ frames := 1, cells := 0, slots := 0, locals := 22 } : Room) s m args below meth c 3 0 0 (MQ below (va_Qi (fun (r : Int32) (u : ms_S) => u = ms_w M 20 0 0 ∧ r = if M 23 0 = 0 then -1 else mmv_L M Pn 0 0) (fun u t => (ms_P D ad cA) u t.heap) (ct_A (ms_A ad) sz)) args s 0 0 (ct_A (ms_A ad) sz)) (ms_P D ad cA (ms_w M 20 0 0)) (ct_A (ms_A ad) sz) 18 [(0, .ref (ad 0)), (1, .int t9), (2, .int (nI k))] [] := by
    intro n
    induction n with
    | zero =>
      intro k t9 c_9 hkn hR
      refine aw_iload_n C d_Mo_moved_18 rfl (j := 2) rfl ?_
      refine aw_aload_n C d_Mo_moved_19 rfl (j := 0) rfl ?_
      refine gm_persons (v := M 22 0) C hK rfl d_Mo_moved_20 ?_
      refine aw_icmp_ge (tgt := 54) C d_Mo_moved_23 (by decide) (fun c_23 => ?_) (fun c_23 => ?_)
      · refine aw_iload_n C d_Mo_moved_54 rfl (j := 1) rfl ?_
        exact aw_iret C hr hlk _ ⟨rfl, by rw [if_neg c_9, ← hR]; rfl⟩ (fun H h => h) d_Mo_moved_55
      · exact absurd (by rw [h22, show k = Pn by omega]; exact nI_le (Nat.le_refl _) (by omega)) c_23
    | succ n ih =>
      intro k t9 c_9 hkn hR
      refine aw_iload_n C d_Mo_moved_18 rfl (j := 2) rfl ?_
      refine aw_aload_n C d_Mo_moved_19 rfl (j := 0) rfl ?_
      refine gm_persons (v := M 22 0) C hK rfl d_Mo_moved_20 ?_
      refine aw_icmp_ge (tgt := 54) C d_Mo_moved_23 (by decide) (fun c_23 => ?_) (fun c_23 => ?_)
      · rw [h22] at c_23
        exact absurd c_23 (nI_ge (by omega) (by omega))
      · refine aw_aload_n C d_Mo_moved_26 rfl (j := 0) rfl ?_
        refine aw_iload_n C d_Mo_moved_27 rfl (j := 2) rfl ?_
        refine aw_aload_n C d_Mo_moved_28 rfl (j := 0) rfl ?_
        refine gm_seats C hK d_Mo_moved_29 ?_
        refine aw_iload_n C d_Mo_moved_32 rfl (j := 2) rfl ?_
        refine lm_4 (v := M 4 k) C hK k rfl (show k < 10 by omega) rfl d_Mo_moved_33 ?_
        refine aw_callVi (P9 := fun r u => ms_P D ad cA u) [.int (nI k), .int (M 4 k)] C hK (c_Mo_isMove l D ad cA (ms_w M 20 0 0) k (M 4 k) (by omega)) (cw_Mo_Mo_isMove C.2.2.2.2 rfl rfl (by decide)) rfl (fun H h => aw_recv hK rfl (h 0 (by decide))) (fun H h => h) (fun q h => Or.inl h) (fun q h => Or.inr (by rw [← hsz]; exact h)) rfl (Nat.le_of_ble_eq_true rfl) d_Mo_moved_34 (by decide) (fun H H1 r u _ _ hB _ _ => hB) ?_
        rintro r u ⟨rfl, rfl⟩
        refine aw_if_eq (tgt := 46) C d_Mo_moved_37 (by decide) (fun c_37 => ?_) (fun c_37 => ?_)
        · refine aw_iload_n C d_Mo_moved_46 rfl (j := 1) rfl ?_
          refine aw_istore_n (i := 1) (lv' := [(1, .int t9), (0, .ref (ad 0)), (2, .int (nI k))]) C d_Mo_moved_47 rfl (by decide) rfl ?_
          refine aw_iinc (i := 2) (v := (nI (k + 1))) (lv' := [(2, .int (nI (k + 1))), (1, .int t9), (0, .ref (ad 0))]) C d_Mo_moved_48 (j := 2) rfl (nI_1 k) (by decide) rfl ?_
          refine aw_goto (tgt := 18) C d_Mo_moved_51 (by decide) ?_
          have c_37 :  mo_mv M k (M 4 k) = 0 := c_37
          exact aw_lv [2, 1, 0] rfl (ih (k + 1) t9 c_9 (by omega) (by rw [← hR]; simp only [mmv_L]; rw [if_pos c_37]))
        · refine aw_iload_n C d_Mo_moved_40 rfl (j := 1) rfl ?_
          refine aw_iconst (v := 1) C d_Mo_moved_41 (by decide) ?_
          refine aw_iadd C d_Mo_moved_42 ?_
          refine aw_goto (tgt := 47) C d_Mo_moved_43 (by decide) ?_
          refine aw_istore_n (i := 1) (lv' := [(1, .int (t9 + 1)), (0, .ref (ad 0)), (2, .int (nI k))]) C d_Mo_moved_47 rfl (by decide) rfl ?_
          refine aw_iinc (i := 2) (v := (nI (k + 1))) (lv' := [(2, .int (nI (k + 1))), (1, .int (t9 + 1)), (0, .ref (ad 0))]) C d_Mo_moved_48 (j := 2) rfl (nI_1 k) (by decide) rfl ?_
          refine aw_goto (tgt := 18) C d_Mo_moved_51 (by decide) ?_
          have c_37 : ¬ mo_mv M k (M 4 k) = 0 := c_37
          exact aw_lv [2, 1, 0] rfl (ih (k + 1) ((t9 + 1)) c_9 (by omega) (by rw [← hR]; simp only [mmv_L]; rw [if_neg c_37]))
  refine aw_lv (lv' := [(0, .ref (ad 0))]) [0] rfl ?_
  refine aw_aload_n C d_Mo_moved_0 rfl (j := 0) rfl ?_
  refine aw_iconst (v := 0) C d_Mo_moved_1 (by decide) ?_
  refine pm_thrown (x := 0) C hK hI  d_Mo_moved_2 ?_
  refine aw_aload_n C d_Mo_moved_5 rfl (j := 0) rfl ?_
  refine gm_made (v := M 23 0) C hK rfl d_Mo_moved_6 ?_
  refine aw_if_ne (tgt := 14) C d_Mo_moved_9 (by decide) (fun c_9 => ?_) (fun c_9 => ?_)
  · refine aw_iconst (v := 0) C d_Mo_moved_14 (by decide) ?_
    refine aw_istore_n (i := 1) (lv' := [(1, .int 0), (0, .ref (ad 0))]) C d_Mo_moved_15 rfl (by decide) rfl ?_
    refine aw_iconst (v := 0) C d_Mo_moved_16 (by decide) ?_
    refine aw_istore_n (i := 2) (lv' := [(2, .int 0), (1, .int 0), (0, .ref (ad 0))]) C d_Mo_moved_17 rfl (by decide) rfl ?_
    exact aw_lv [2, 1, 0] rfl (lp Pn 0 0 c_9 (by omega) rfl)
  · refine aw_iconst (v := (-1)) C d_Mo_moved_12 (by decide) ?_
    exact aw_iret C hr hlk _ ⟨rfl, by rw [if_pos c_9]⟩ (fun H h => h) d_Mo_moved_13
set_option maxHeartbeats 4000000 in
set_option maxRecDepth 100000 in
theorem c_Mo_worthOf (l : Launch) (D : va_G) (ad : Nat → Nat) (cA : Nat → ClassId) (M : ms_S) (hI : ms_I ad) (p9 Pn Dn : Nat) (hp : p9 < 10) (h1 : ¬ mo_in (nI p9) 0 (M 22 0 - 1) = 0) (h2 : ¬ M 23 0 = 0) (hPn : Pn ≤ 10) (hDn : Dn ≤ 14) (h22 : M 22 0 = nI Pn) (h21 : M 21 0 = nI Dn) : Ct_i l y_Mo_worthOf b_Mo_worthOf 2 (some .int) ({ frames := 3, cells := 0, slots := 0, locals := 71 } : Room) 0 0 D (ds_ty cA) (ms_A ad) [.ref (ad 0), .int (nI p9)] (ms_P D ad cA M) (fun (r : Int32) (u : ms_S) => u = fb_S (fb_O (ms_w M 20 0 0) (nI p9) Pn).2 Dn (2 ^ Dn) (fb_O (ms_w M 20 0 0) (nI p9) Pn).1 ∧ r = M 24 0 - mo_wi ((fb_S (fb_O (ms_w M 20 0 0) (nI p9) Pn).2 Dn (2 ^ Dn) (fb_O (ms_w M 20 0 0) (nI p9) Pn).1) 5 0)) (ms_P D ad cA) := by
  intro sz
  refine ct_of (by decide) (Nat.le_of_ble_eq_true rfl) ?_
  intro p e s m args below meth c hsz C hr hlk hnm hK
  refine aw_lv (lv' := [(0, .ref (ad 0)), (1, .int (nI p9))]) [0, 1] rfl ?_
  refine aw_aload_n C d_Mo_worthOf_0 rfl (j := 0) rfl ?_
  refine aw_aload_n C d_Mo_worthOf_1 rfl (j := 0) rfl ?_
  refine aw_iload_n C d_Mo_worthOf_2 rfl (j := 1) rfl ?_
  refine aw_callVi (P9 := fun r u => ms_P D ad cA u) [.int (nI p9)] C hK (c_Mo_isPerson l D ad cA M (nI p9)) (cw_Mo_Mo_isPerson C.2.2.2.2 rfl rfl (by decide)) rfl (fun H h => aw_recv hK rfl (h 0 (by decide))) (fun H h => h) (fun q h => Or.inl h) (fun q h => Or.inr (by rw [← hsz]; exact h)) rfl (Nat.le_of_ble_eq_true rfl) d_Mo_worthOf_3 (by decide) (fun H H1 r u _ _ hB _ _ => hB) ?_
  rintro r u ⟨rfl, rfl⟩
  refine aw_if_ne (tgt := 13) C d_Mo_worthOf_6 (by decide) (fun c_6 => ?_) (fun c_6 => ?_)
  · refine aw_aload_n C d_Mo_worthOf_13 rfl (j := 0) rfl ?_
    refine gm_made (v := M 23 0) C hK rfl d_Mo_worthOf_14 ?_
    refine aw_if_ne (tgt := 24) C d_Mo_worthOf_17 (by decide) (fun c_17 => ?_) (fun c_17 => ?_)
    · refine aw_iconst (v := 0) C d_Mo_worthOf_24 (by decide) ?_
      refine pm_thrown (x := 0) C hK hI  d_Mo_worthOf_25 ?_
      refine aw_aload_n C d_Mo_worthOf_28 rfl (j := 0) rfl ?_
      refine gm_thrown (v := 0) C hK rfl d_Mo_worthOf_29 ?_
      refine aw_if_le (tgt := 39) C d_Mo_worthOf_32 (by decide) (fun _ => ?_) (fun h => absurd h (by decide))
      refine aw_aload_n C d_Mo_worthOf_39 rfl (j := 0) rfl ?_
      refine gm_worth (v := M 24 0) C hK rfl d_Mo_worthOf_40 ?_
      refine aw_aload_n C d_Mo_worthOf_43 rfl (j := 0) rfl ?_
      refine aw_iload_n C d_Mo_worthOf_44 rfl (j := 1) rfl ?_
      refine aw_callVi (P9 := fun r u => ms_P D ad cA u) [.int (nI p9)] C hK (c_Mo_findBest l D ad cA (ms_w M 20 0 0) Pn Dn (nI p9) hI hPn hDn h22 h21) (cw_Mo_Mo_findBest C.2.2.2.2 rfl rfl (by decide)) rfl (fun H h => aw_recv hK rfl (h 0 (by decide))) (fun H h => h) (fun q h => Or.inl h) (fun q h => Or.inr (by rw [← hsz]; exact h)) rfl (Nat.le_of_ble_eq_true rfl) d_Mo_worthOf_45 (by decide) (fun H H1 r u _ _ hB _ _ => hB) ?_
      rintro r u ⟨rfl, rfl⟩
      refine aw_callSi (Cn := "") (P9 := fun r u => ms_P D ad cA (fb_S (fb_O (ms_w M 20 0 0) (nI p9) Pn).2 Dn (2 ^ Dn) (fb_O (ms_w M 20 0 0) (nI p9) Pn).1)) [.int ((fb_S (fb_O (ms_w M 20 0 0) (nI p9) Pn).2 Dn (2 ^ Dn) (fb_O (ms_w M 20 0 0) (nI p9) Pn).1) 5 0)] C hK (c_Mo_worthIn l D cA (ms_A ad) (ms_P D ad cA (fb_S (fb_O (ms_w M 20 0 0) (nI p9) Pn).2 Dn (2 ^ Dn) (fb_O (ms_w M 20 0 0) (nI p9) Pn).1)) ((fb_S (fb_O (ms_w M 20 0 0) (nI p9) Pn).2 Dn (2 ^ Dn) (fb_O (ms_w M 20 0 0) (nI p9) Pn).1) 5 0)) (cw_Mo_Mo_worthIn C.2.2.2.2 rfl rfl (by decide)) rfl (fun H h => h) (fun q h => Or.inl h) (fun q h => Or.inr (by rw [← hsz]; exact h)) rfl (Nat.le_of_ble_eq_true rfl) d_Mo_worthOf_48 (by decide) (fun H H1 r u _ _ hB _ _ => hB) ?_
      rintro r u rfl
      refine aw_isub C d_Mo_worthOf_51 ?_
      exact aw_iret C hr hlk _ ⟨rfl, rfl⟩ (fun H h => h) d_Mo_worthOf_52
    · exact absurd c_17 h2
  · exact absurd c_6 h1
set_option maxHeartbeats 4000000 in
set_option maxRecDepth 100000 in
theorem b_Mo_worthOf1_t (l : Launch) (D : va_G) (ad : Nat → Nat) (cA : Nat → ClassId) (M : ms_S) (hI : ms_I ad) (x : Int32) (h1 : mo_in x 0 (M 22 0 - 1) = 0) : Ct_i l y_Mo_worthOf b_Mo_worthOf 2 (some .int) ({ frames := 3, cells := 0, slots := 0, locals := 71 } : Room) 0 0 D (ds_ty cA) (ms_A ad) [.ref (ad 0), .int x] (ms_P D ad cA M) (fun (r : Int32) (u : ms_S) => u = ms_w M 20 0 1 ∧ r = 0) (ms_P D ad cA) := by
  intro sz
  refine ct_of (by decide) (Nat.le_of_ble_eq_true rfl) ?_
  intro p e s m args below meth c hsz C hr hlk hnm hK
  refine aw_lv (lv' := [(0, .ref (ad 0)), (1, .int x)]) [0, 1] rfl ?_
  refine aw_aload_n C d_Mo_worthOf_0 rfl (j := 0) rfl ?_
  refine aw_aload_n C d_Mo_worthOf_1 rfl (j := 0) rfl ?_
  refine aw_iload_n C d_Mo_worthOf_2 rfl (j := 1) rfl ?_
  refine aw_callVi (P9 := fun r u => ms_P D ad cA u) [.int x] C hK (c_Mo_isPerson l D ad cA M x) (cw_Mo_Mo_isPerson C.2.2.2.2 rfl rfl (by decide)) rfl (fun H h => aw_recv hK rfl (h 0 (by decide))) (fun H h => h) (fun q h => Or.inl h) (fun q h => Or.inr (by rw [← hsz]; exact h)) rfl (Nat.le_of_ble_eq_true rfl) d_Mo_worthOf_3 (by decide) (fun H H1 r u _ _ hB _ _ => hB) ?_
  rintro r u ⟨rfl, rfl⟩
  refine aw_if_ne (tgt := 13) C d_Mo_worthOf_6 (by decide) (fun c_6 => ?_) (fun c_6 => ?_)
  · exact absurd h1 c_6
  · refine aw_iconst (v := 1) C d_Mo_worthOf_9 (by decide) ?_
    refine aw_goto (tgt := 25) C d_Mo_worthOf_10 (by decide) ?_
    refine pm_thrown (x := 1) C hK hI  d_Mo_worthOf_25 ?_
    refine aw_aload_n C d_Mo_worthOf_28 rfl (j := 0) rfl ?_
    refine gm_thrown (v := 1) C hK rfl d_Mo_worthOf_29 ?_
    refine aw_if_le (tgt := 39) C d_Mo_worthOf_32 (by decide) (fun h => absurd h (by decide)) (fun _ => ?_)
    refine aw_iconst (v := 0) C d_Mo_worthOf_35 (by decide) ?_
    refine aw_goto (tgt := 52) C d_Mo_worthOf_36 (by decide) ?_
    exact aw_iret C hr hlk _ ⟨rfl, rfl⟩ (fun H h => h) d_Mo_worthOf_52
set_option maxHeartbeats 4000000 in
set_option maxRecDepth 100000 in
theorem b_Mo_worthOf2_t (l : Launch) (D : va_G) (ad : Nat → Nat) (cA : Nat → ClassId) (M : ms_S) (hI : ms_I ad) (x : Int32) (h1 : ¬ mo_in x 0 (M 22 0 - 1) = 0) (h2 : M 23 0 = 0) : Ct_i l y_Mo_worthOf b_Mo_worthOf 2 (some .int) ({ frames := 3, cells := 0, slots := 0, locals := 71 } : Room) 0 0 D (ds_ty cA) (ms_A ad) [.ref (ad 0), .int x] (ms_P D ad cA M) (fun (r : Int32) (u : ms_S) => u = ms_w M 20 0 2 ∧ r = 0) (ms_P D ad cA) := by
  intro sz
  refine ct_of (by decide) (Nat.le_of_ble_eq_true rfl) ?_
  intro p e s m args below meth c hsz C hr hlk hnm hK
  refine aw_lv (lv' := [(0, .ref (ad 0)), (1, .int x)]) [0, 1] rfl ?_
  refine aw_aload_n C d_Mo_worthOf_0 rfl (j := 0) rfl ?_
  refine aw_aload_n C d_Mo_worthOf_1 rfl (j := 0) rfl ?_
  refine aw_iload_n C d_Mo_worthOf_2 rfl (j := 1) rfl ?_
  refine aw_callVi (P9 := fun r u => ms_P D ad cA u) [.int x] C hK (c_Mo_isPerson l D ad cA M x) (cw_Mo_Mo_isPerson C.2.2.2.2 rfl rfl (by decide)) rfl (fun H h => aw_recv hK rfl (h 0 (by decide))) (fun H h => h) (fun q h => Or.inl h) (fun q h => Or.inr (by rw [← hsz]; exact h)) rfl (Nat.le_of_ble_eq_true rfl) d_Mo_worthOf_3 (by decide) (fun H H1 r u _ _ hB _ _ => hB) ?_
  rintro r u ⟨rfl, rfl⟩
  refine aw_if_ne (tgt := 13) C d_Mo_worthOf_6 (by decide) (fun c_6 => ?_) (fun c_6 => ?_)
  · refine aw_aload_n C d_Mo_worthOf_13 rfl (j := 0) rfl ?_
    refine gm_made (v := M 23 0) C hK rfl d_Mo_worthOf_14 ?_
    refine aw_if_ne (tgt := 24) C d_Mo_worthOf_17 (by decide) (fun c_17 => ?_) (fun c_17 => ?_)
    · exact absurd h2 c_17
    · refine aw_iconst (v := 2) C d_Mo_worthOf_20 (by decide) ?_
      refine aw_goto (tgt := 25) C d_Mo_worthOf_21 (by decide) ?_
      refine pm_thrown (x := 2) C hK hI  d_Mo_worthOf_25 ?_
      refine aw_aload_n C d_Mo_worthOf_28 rfl (j := 0) rfl ?_
      refine gm_thrown (v := 2) C hK rfl d_Mo_worthOf_29 ?_
      refine aw_if_le (tgt := 39) C d_Mo_worthOf_32 (by decide) (fun h => absurd h (by decide)) (fun _ => ?_)
      refine aw_iconst (v := 0) C d_Mo_worthOf_35 (by decide) ?_
      refine aw_goto (tgt := 52) C d_Mo_worthOf_36 (by decide) ?_
      exact aw_iret C hr hlk _ ⟨rfl, rfl⟩ (fun H h => h) d_Mo_worthOf_52
  · exact absurd c_6 h1
def mst_L (M : ms_S) : Nat → ms_S
  | 0 => M
  | k + 1 => ms_w (mst_L M k) 3 k (mst_L M k 4 k)
def mst_C (M : ms_S) : Nat → Int32
  | 0 => 0
  | k + 1 => if mst_L M k 3 k = mst_L M k 4 k then mst_C M k else mst_C M k + 1
theorem mst_n (M : ms_S) (t i : Nat) (h : t ≠ 3) : ∀ k, mst_L M k t i = M t i
  | 0 => rfl
  | k + 1 => by
    show ms_w (mst_L M k) 3 k (mst_L M k 4 k) t i = _
    rw [ms_w_n (fun q => h q.1)]
    exact mst_n M t i h k
set_option maxHeartbeats 4000000 in
set_option maxRecDepth 100000 in
theorem c_Mo_settle (l : Launch) (D : va_G) (ad : Nat → Nat) (cA : Nat → ClassId) (M : ms_S) (hI : ms_I ad) (h1 : ¬ M 23 0 = 0) (Pn : Nat) (hPn : Pn ≤ 10) (h22 : M 22 0 = nI Pn)  : Ct_i l y_Mo_settle b_Mo_settle 3 (some .int) ({ frames := 0, cells := 0, slots := 0, locals := 0 } : Room) 0 0 D (ds_ty cA) (ms_A ad) [.ref (ad 0)] (ms_P D ad cA M) (fun (r : Int32) (u : ms_S) => u = ms_w (mst_L (ms_w M 20 0 0) Pn) 23 0 0 ∧ r = mst_C (ms_w M 20 0 0) Pn) (ms_P D ad cA) := by
  intro sz
  refine ct_of (by decide) (Nat.le_of_ble_eq_true rfl) ?_
  intro p e s m args below meth c hsz C hr hlk hnm hK
  have lp : ∀ (n k : Nat), k + n = Pn → AW p l e ({ frames := 0, cells := 0, slots := 0, locals := 0 } : Room) s m args below meth c 3 0 0 (MQ below (va_Qi (fun (r : Int32) (u : ms_S) => u = ms_w (mst_L (ms_w M 20 0 0) Pn) 23 0 0 ∧ r = mst_C (ms_w M 20 0 0) Pn) (fun u t => (ms_P D ad cA) u t.heap) (ct_A (ms_A ad) sz)) args s 0 0 (ct_A (ms_A ad) sz)) (ms_P D ad cA (mst_L (ms_w M 20 0 0) k)) (ct_A (ms_A ad) sz) 29 [(0, .ref (ad 0)), (1, .int (mst_C (ms_w M 20 0 0) k)), (2, .int (nI k))] [] := by
    intro n
    induction n with
    | zero =>
      intro k hkn
      refine aw_iload_n C d_Mo_settle_29 rfl (j := 2) rfl ?_
      refine aw_aload_n C d_Mo_settle_30 rfl (j := 0) rfl ?_
      refine gm_persons (v := (mst_L (ms_w M 20 0 0) k) 22 0) C hK rfl d_Mo_settle_31 ?_
      refine aw_icmp_ge (tgt := 78) C d_Mo_settle_34 (by decide) (fun c_34 => ?_) (fun c_34 => ?_)
      · refine aw_aload_n C d_Mo_settle_78 rfl (j := 0) rfl ?_
        refine aw_iconst (v := 0) C d_Mo_settle_79 (by decide) ?_
        refine pm_made (x := 0) C hK hI (Or.inl rfl) d_Mo_settle_80 ?_
        refine aw_iload_n C d_Mo_settle_83 rfl (j := 1) rfl ?_
        obtain rfl : k = Pn := by omega
        exact aw_iret C hr hlk _ ⟨rfl, rfl⟩ (fun H h => h) d_Mo_settle_84
      · exact absurd (by rw [((mst_n (ms_w M 20 0 0) 22 0 (by decide) k).trans h22), show k = Pn by omega]; exact nI_le (Nat.le_refl _) (by omega)) c_34
    | succ n ih =>
      intro k hkn
      refine aw_iload_n C d_Mo_settle_29 rfl (j := 2) rfl ?_
      refine aw_aload_n C d_Mo_settle_30 rfl (j := 0) rfl ?_
      refine gm_persons (v := (mst_L (ms_w M 20 0 0) k) 22 0) C hK rfl d_Mo_settle_31 ?_
      refine aw_icmp_ge (tgt := 78) C d_Mo_settle_34 (by decide) (fun c_34 => ?_) (fun c_34 => ?_)
      · rw [((mst_n (ms_w M 20 0 0) 22 0 (by decide) k).trans h22)] at c_34
        exact absurd c_34 (nI_ge (by omega) (by omega))
      · refine aw_aload_n C d_Mo_settle_37 rfl (j := 0) rfl ?_
        refine gm_olds C hK d_Mo_settle_38 ?_
        refine aw_iload_n C d_Mo_settle_41 rfl (j := 2) rfl ?_
        refine lm_3 (v := (mst_L (ms_w M 20 0 0) k) 3 k) C hK k rfl (show k < 10 by omega) rfl d_Mo_settle_42 ?_
        refine aw_aload_n C d_Mo_settle_43 rfl (j := 0) rfl ?_
        refine gm_seats C hK d_Mo_settle_44 ?_
        refine aw_iload_n C d_Mo_settle_47 rfl (j := 2) rfl ?_
        refine lm_4 (v := (mst_L (ms_w M 20 0 0) k) 4 k) C hK k rfl (show k < 10 by omega) rfl d_Mo_settle_48 ?_
        refine aw_icmp_eq (tgt := 58) C d_Mo_settle_49 (by decide) (fun c_49 => ?_) (fun c_49 => ?_)
        · refine aw_iload_n C d_Mo_settle_58 rfl (j := 1) rfl ?_
          refine aw_istore_n (i := 1) (lv' := [(1, .int (mst_C (ms_w M 20 0 0) k)), (0, .ref (ad 0)), (2, .int (nI k))]) C d_Mo_settle_59 rfl (by decide) rfl ?_
          refine aw_aload_n C d_Mo_settle_60 rfl (j := 1) rfl ?_
          refine gm_olds C hK d_Mo_settle_61 ?_
          refine aw_iload_n C d_Mo_settle_64 rfl (j := 2) rfl ?_
          refine aw_aload_n C d_Mo_settle_65 rfl (j := 1) rfl ?_
          refine gm_seats C hK d_Mo_settle_66 ?_
          refine aw_iload_n C d_Mo_settle_69 rfl (j := 2) rfl ?_
          refine lm_4 (v := (mst_L (ms_w M 20 0 0) k) 4 k) C hK k rfl (show k < 10 by omega) rfl d_Mo_settle_70 ?_
          refine sm_3 (y := ((mst_L (ms_w M 20 0 0) k) 4 k)) C hK hI  k rfl (show k < 10 by omega) d_Mo_settle_71 ?_
          refine aw_iinc (i := 2) (v := (nI (k + 1))) (lv' := [(2, .int (nI (k + 1))), (1, .int (mst_C (ms_w M 20 0 0) k)), (0, .ref (ad 0))]) C d_Mo_settle_72 (j := 2) rfl (nI_1 k) (by decide) rfl ?_
          refine aw_goto (tgt := 29) C d_Mo_settle_75 (by decide) ?_
          have e9 : (mst_C (ms_w M 20 0 0) k) = mst_C (ms_w M 20 0 0) (k + 1) := by show _ = (if _ then _ else _); rw [if_pos c_49]
          rw [e9]
          exact aw_lv [2, 1, 0] rfl (ih (k + 1) (by omega))
        · refine aw_iload_n C d_Mo_settle_52 rfl (j := 1) rfl ?_
          refine aw_iconst (v := 1) C d_Mo_settle_53 (by decide) ?_
          refine aw_iadd C d_Mo_settle_54 ?_
          refine aw_goto (tgt := 59) C d_Mo_settle_55 (by decide) ?_
          refine aw_istore_n (i := 1) (lv' := [(1, .int (((mst_C (ms_w M 20 0 0) k)) + 1)), (0, .ref (ad 0)), (2, .int (nI k))]) C d_Mo_settle_59 rfl (by decide) rfl ?_
          refine aw_aload_n C d_Mo_settle_60 rfl (j := 1) rfl ?_
          refine gm_olds C hK d_Mo_settle_61 ?_
          refine aw_iload_n C d_Mo_settle_64 rfl (j := 2) rfl ?_
          refine aw_aload_n C d_Mo_settle_65 rfl (j := 1) rfl ?_
          refine gm_seats C hK d_Mo_settle_66 ?_
          refine aw_iload_n C d_Mo_settle_69 rfl (j := 2) rfl ?_
          refine lm_4 (v := (mst_L (ms_w M 20 0 0) k) 4 k) C hK k rfl (show k < 10 by omega) rfl d_Mo_settle_70 ?_
          refine sm_3 (y := ((mst_L (ms_w M 20 0 0) k) 4 k)) C hK hI  k rfl (show k < 10 by omega) d_Mo_settle_71 ?_
          refine aw_iinc (i := 2) (v := (nI (k + 1))) (lv' := [(2, .int (nI (k + 1))), (1, .int (((mst_C (ms_w M 20 0 0) k)) + 1)), (0, .ref (ad 0))]) C d_Mo_settle_72 (j := 2) rfl (nI_1 k) (by decide) rfl ?_
          refine aw_goto (tgt := 29) C d_Mo_settle_75 (by decide) ?_
          have e9 : (((mst_C (ms_w M 20 0 0) k)) + 1) = mst_C (ms_w M 20 0 0) (k + 1) := by show _ = (if _ then _ else _); rw [if_neg c_49]
          rw [e9]
          exact aw_lv [2, 1, 0] rfl (ih (k + 1) (by omega))
  refine aw_lv (lv' := [(0, .ref (ad 0))]) [0] rfl ?_
  refine aw_aload_n C d_Mo_settle_0 rfl (j := 0) rfl ?_
  refine aw_aload_n C d_Mo_settle_1 rfl (j := 0) rfl ?_
  refine gm_made (v := M 23 0) C hK rfl d_Mo_settle_2 ?_
  refine aw_if_eq (tgt := 12) C d_Mo_settle_5 (by decide) (fun c_5 => ?_) (fun c_5 => ?_)
  · exact absurd c_5 h1
  · refine aw_iconst (v := 0) C d_Mo_settle_8 (by decide) ?_
    refine aw_goto (tgt := 13) C d_Mo_settle_9 (by decide) ?_
    refine pm_thrown (x := 0) C hK hI  d_Mo_settle_13 ?_
    refine aw_aload_n C d_Mo_settle_16 rfl (j := 0) rfl ?_
    refine gm_thrown (v := 0) C hK rfl d_Mo_settle_17 ?_
    refine aw_if_le (tgt := 25) C d_Mo_settle_20 (by decide) (fun _ => ?_) (fun h => absurd h (by decide))
    refine aw_iconst (v := 0) C d_Mo_settle_25 (by decide) ?_
    refine aw_istore_n (i := 1) (lv' := [(1, .int 0), (0, .ref (ad 0))]) C d_Mo_settle_26 rfl (by decide) rfl ?_
    refine aw_iconst (v := 0) C d_Mo_settle_27 (by decide) ?_
    refine aw_istore_n (i := 2) (lv' := [(2, .int 0), (1, .int 0), (0, .ref (ad 0))]) C d_Mo_settle_28 rfl (by decide) rfl ?_
    exact aw_lv [2, 1, 0] rfl (lp Pn 0 (by omega))
set_option maxHeartbeats 4000000 in
set_option maxRecDepth 100000 in
theorem b_Mo_settle_t (l : Launch) (D : va_G) (ad : Nat → Nat) (cA : Nat → ClassId) (M : ms_S) (hI : ms_I ad) (h1 : M 23 0 = 0) : Ct_i l y_Mo_settle b_Mo_settle 3 (some .int) ({ frames := 0, cells := 0, slots := 0, locals := 0 } : Room) 0 0 D (ds_ty cA) (ms_A ad) [.ref (ad 0)] (ms_P D ad cA M) (fun (r : Int32) (u : ms_S) => u = ms_w M 20 0 1 ∧ r = 0) (ms_P D ad cA) := by
  intro sz
  refine ct_of (by decide) (Nat.le_of_ble_eq_true rfl) ?_
  intro p e s m args below meth c hsz C hr hlk hnm hK
  refine aw_lv (lv' := [(0, .ref (ad 0))]) [0] rfl ?_
  refine aw_aload_n C d_Mo_settle_0 rfl (j := 0) rfl ?_
  refine aw_aload_n C d_Mo_settle_1 rfl (j := 0) rfl ?_
  refine gm_made (v := M 23 0) C hK rfl d_Mo_settle_2 ?_
  refine aw_if_eq (tgt := 12) C d_Mo_settle_5 (by decide) (fun c_5 => ?_) (fun c_5 => ?_)
  · refine aw_iconst (v := 1) C d_Mo_settle_12 (by decide) ?_
    refine pm_thrown (x := 1) C hK hI  d_Mo_settle_13 ?_
    refine aw_aload_n C d_Mo_settle_16 rfl (j := 0) rfl ?_
    refine gm_thrown (v := 1) C hK rfl d_Mo_settle_17 ?_
    refine aw_if_le (tgt := 25) C d_Mo_settle_20 (by decide) (fun h => absurd h (by decide)) (fun _ => ?_)
    refine aw_iconst (v := 0) C d_Mo_settle_23 (by decide) ?_
    exact aw_iret C hr hlk _ ⟨rfl, rfl⟩ (fun H h => h) d_Mo_settle_24
  · exact absurd h1 c_5
set_option maxHeartbeats 4000000 in
set_option maxRecDepth 100000 in
theorem c_Mo_steps (l : Launch) (D : va_G) (ad : Nat → Nat) (cA : Nat → ClassId) (M : ms_S) (hI : ms_I ad) (h1 : ¬ M 23 0 = 0) : Ct_i l y_Mo_steps b_Mo_steps 1 (some .int) ({ frames := 0, cells := 0, slots := 0, locals := 0 } : Room) 0 0 D (ds_ty cA) (ms_A ad) [.ref (ad 0)] (ms_P D ad cA M) (fun (r : Int32) (u : ms_S) => u = ms_w M 20 0 0 ∧ r = if M 27 0 = 0 then M 26 0 else -2) (ms_P D ad cA) := by
  intro sz
  refine ct_of (by decide) (Nat.le_of_ble_eq_true rfl) ?_
  intro p e s m args below meth c hsz C hr hlk hnm hK
  refine aw_lv (lv' := [(0, .ref (ad 0))]) [0] rfl ?_
  refine aw_aload_n C d_Mo_steps_0 rfl (j := 0) rfl ?_
  refine aw_aload_n C d_Mo_steps_1 rfl (j := 0) rfl ?_
  refine gm_made (v := M 23 0) C hK rfl d_Mo_steps_2 ?_
  refine aw_if_eq (tgt := 12) C d_Mo_steps_5 (by decide) (fun c_5 => ?_) (fun c_5 => ?_)
  · exact absurd c_5 h1
  · refine aw_iconst (v := 0) C d_Mo_steps_8 (by decide) ?_
    refine aw_goto (tgt := 13) C d_Mo_steps_9 (by decide) ?_
    refine pm_thrown (x := 0) C hK hI  d_Mo_steps_13 ?_
    refine aw_aload_n C d_Mo_steps_16 rfl (j := 0) rfl ?_
    refine gm_thrown (v := 0) C hK rfl d_Mo_steps_17 ?_
    refine aw_if_le (tgt := 27) C d_Mo_steps_20 (by decide) (fun _ => ?_) (fun h => absurd h (by decide))
    refine aw_aload_n C d_Mo_steps_27 rfl (j := 0) rfl ?_
    refine gm_stuck (v := M 27 0) C hK rfl d_Mo_steps_28 ?_
    refine aw_if_eq (tgt := 39) C d_Mo_steps_31 (by decide) (fun c_31 => ?_) (fun c_31 => ?_)
    · refine aw_aload_n C d_Mo_steps_39 rfl (j := 0) rfl ?_
      refine gm_gone (v := M 26 0) C hK rfl d_Mo_steps_40 ?_
      exact aw_iret C hr hlk _ ⟨rfl, by rw [if_pos c_31]⟩ (fun H h => h) d_Mo_steps_43
    · refine aw_bipush (v := (-2)) C d_Mo_steps_34 (by decide) ?_
      refine aw_goto (tgt := 43) C d_Mo_steps_36 (by decide) ?_
      exact aw_iret C hr hlk _ ⟨rfl, by rw [if_neg c_31]⟩ (fun H h => h) d_Mo_steps_43
set_option maxHeartbeats 4000000 in
set_option maxRecDepth 100000 in
theorem b_Mo_steps_t (l : Launch) (D : va_G) (ad : Nat → Nat) (cA : Nat → ClassId) (M : ms_S) (hI : ms_I ad) (h1 : M 23 0 = 0) : Ct_i l y_Mo_steps b_Mo_steps 1 (some .int) ({ frames := 0, cells := 0, slots := 0, locals := 0 } : Room) 0 0 D (ds_ty cA) (ms_A ad) [.ref (ad 0)] (ms_P D ad cA M) (fun (r : Int32) (u : ms_S) => u = ms_w M 20 0 1 ∧ r = 0) (ms_P D ad cA) := by
  intro sz
  refine ct_of (by decide) (Nat.le_of_ble_eq_true rfl) ?_
  intro p e s m args below meth c hsz C hr hlk hnm hK
  refine aw_lv (lv' := [(0, .ref (ad 0))]) [0] rfl ?_
  refine aw_aload_n C d_Mo_steps_0 rfl (j := 0) rfl ?_
  refine aw_aload_n C d_Mo_steps_1 rfl (j := 0) rfl ?_
  refine gm_made (v := M 23 0) C hK rfl d_Mo_steps_2 ?_
  refine aw_if_eq (tgt := 12) C d_Mo_steps_5 (by decide) (fun c_5 => ?_) (fun c_5 => ?_)
  · refine aw_iconst (v := 1) C d_Mo_steps_12 (by decide) ?_
    refine pm_thrown (x := 1) C hK hI  d_Mo_steps_13 ?_
    refine aw_aload_n C d_Mo_steps_16 rfl (j := 0) rfl ?_
    refine gm_thrown (v := 1) C hK rfl d_Mo_steps_17 ?_
    refine aw_if_le (tgt := 27) C d_Mo_steps_20 (by decide) (fun h => absurd h (by decide)) (fun _ => ?_)
    refine aw_iconst (v := 0) C d_Mo_steps_23 (by decide) ?_
    refine aw_goto (tgt := 43) C d_Mo_steps_24 (by decide) ?_
    exact aw_iret C hr hlk _ ⟨rfl, rfl⟩ (fun H h => h) d_Mo_steps_43
  · exact absurd h1 c_5
set_option maxHeartbeats 4000000 in
set_option maxRecDepth 100000 in
theorem c_Mo_step (l : Launch) (D : va_G) (ad : Nat → Nat) (cA : Nat → ClassId) (M : ms_S) (hI : ms_I ad) (k9 w9 : Nat) (hk9 : k9 < 199) (hw9 : w9 ≤ 2) (h0 : ¬ mo_in (nI w9) 0 2 = 0) (h1 : ¬ M 23 0 = 0) (h2 : nI k9 < M 26 0) : Ct_i l y_Mo_step b_Mo_step 3 (some .int) ({ frames := 1, cells := 0, slots := 0, locals := 22 } : Room) 0 0 D (ds_ty cA) (ms_A ad) [.ref (ad 0), .int (nI k9), .int (nI w9)] (ms_P D ad cA M) (fun (r : Int32) (u : ms_S) => u = ms_w M 20 0 0 ∧ r = M 7 (3 * k9 + w9)) (ms_P D ad cA) := by
  intro sz
  refine ct_of (by decide) (Nat.le_of_ble_eq_true rfl) ?_
  intro p e s m args below meth c hsz C hr hlk hnm hK
  refine aw_lv (lv' := [(0, .ref (ad 0)), (1, .int (nI k9)), (2, .int (nI w9))]) [0, 1, 2] rfl ?_
  refine aw_aload_n C d_Mo_step_0 rfl (j := 0) rfl ?_
  refine aw_iload_n C d_Mo_step_1 rfl (j := 1) rfl ?_
  refine aw_if_lt (tgt := 14) C d_Mo_step_2 (by decide) (fun c_2 => ?_) (fun c_2 => ?_)
  · exact absurd c_2 (nI_pos (by omega))
  · refine aw_iload_n C d_Mo_step_5 rfl (j := 2) rfl ?_
    refine aw_iconst (v := 0) C d_Mo_step_6 (by decide) ?_
    refine aw_iconst (v := 2) C d_Mo_step_7 (by decide) ?_
    refine aw_callSi (Cn := "") (P9 := fun r u => ms_P D ad cA M) [.int (nI w9), .int 0, .int 2] C hK (c_Mo_in l D cA (ms_A ad) (ms_P D ad cA M) (nI w9) 0 2) (cw_Mo_Mo_in C.2.2.2.2 rfl rfl (by decide)) rfl (fun H h => h) (fun q h => Or.inl h) (fun q h => Or.inr (by rw [← hsz]; exact h)) rfl (Nat.le_of_ble_eq_true rfl) d_Mo_step_8 (by decide) (fun H H1 r u _ _ hB _ _ => hB) ?_
    rintro r u rfl
    refine aw_if_ne (tgt := 18) C d_Mo_step_11 (by decide) (fun c_11 => ?_) (fun c_11 => ?_)
    · refine aw_aload_n C d_Mo_step_18 rfl (j := 0) rfl ?_
      refine gm_made (v := M 23 0) C hK rfl d_Mo_step_19 ?_
      refine aw_if_ne (tgt := 29) C d_Mo_step_22 (by decide) (fun c_22 => ?_) (fun c_22 => ?_)
      · refine aw_iload_n C d_Mo_step_29 rfl (j := 1) rfl ?_
        refine aw_aload_n C d_Mo_step_30 rfl (j := 0) rfl ?_
        refine gm_gone (v := M 26 0) C hK rfl d_Mo_step_31 ?_
        refine aw_icmp_lt (tgt := 41) C d_Mo_step_34 (by decide) (fun c_34 => ?_) (fun c_34 => ?_)
        · refine aw_iconst (v := 0) C d_Mo_step_41 (by decide) ?_
          refine pm_thrown (x := 0) C hK hI  d_Mo_step_42 ?_
          refine aw_aload_n C d_Mo_step_45 rfl (j := 0) rfl ?_
          refine gm_thrown (v := 0) C hK rfl d_Mo_step_46 ?_
          refine aw_if_le (tgt := 56) C d_Mo_step_49 (by decide) (fun _ => ?_) (fun h => absurd h (by decide))
          refine aw_aload_n C d_Mo_step_56 rfl (j := 0) rfl ?_
          refine gm_path C hK d_Mo_step_57 ?_
          refine aw_iconst (v := 3) C d_Mo_step_60 (by decide) ?_
          refine aw_iload_n C d_Mo_step_61 rfl (j := 1) rfl ?_
          refine aw_imul C d_Mo_step_62 ?_
          refine aw_topi (fun z_62 hz_62 => ?_)
          refine aw_iload_n C d_Mo_step_63 rfl (j := 2) rfl ?_
          refine aw_iadd C d_Mo_step_64 ?_
          refine aw_topi (fun z_64 hz_64 => ?_)
          refine lm_7 (v := M 7 (3 * k9 + w9)) C hK (3 * k9 + w9) (by rw [hz_64, hz_62, show (3 : Int32) = nI 3 from rfl, pk_mul, nI_add]) (by omega) rfl d_Mo_step_65 ?_
          exact aw_iret C hr hlk _ ⟨rfl, rfl⟩ (fun H h => h) d_Mo_step_66
        · exact absurd h2 c_34
      · exact absurd c_22 h1
    · exact absurd c_11 h0
set_option maxHeartbeats 4000000 in
set_option maxRecDepth 100000 in
theorem b_Mo_step1_t (l : Launch) (D : va_G) (ad : Nat → Nat) (cA : Nat → ClassId) (M : ms_S) (hI : ms_I ad) (x y : Int32) (h0 : x < 0 ∨ mo_in y 0 2 = 0) : Ct_i l y_Mo_step b_Mo_step 3 (some .int) ({ frames := 1, cells := 0, slots := 0, locals := 22 } : Room) 0 0 D (ds_ty cA) (ms_A ad) [.ref (ad 0), .int x, .int y] (ms_P D ad cA M) (fun (r : Int32) (u : ms_S) => u = ms_w M 20 0 1 ∧ r = 0) (ms_P D ad cA) := by
  intro sz
  refine ct_of (by decide) (Nat.le_of_ble_eq_true rfl) ?_
  intro p e s m args below meth c hsz C hr hlk hnm hK
  refine aw_lv (lv' := [(0, .ref (ad 0)), (1, .int x), (2, .int y)]) [0, 1, 2] rfl ?_
  refine aw_aload_n C d_Mo_step_0 rfl (j := 0) rfl ?_
  refine aw_iload_n C d_Mo_step_1 rfl (j := 1) rfl ?_
  refine aw_if_lt (tgt := 14) C d_Mo_step_2 (by decide) (fun c_2 => ?_) (fun c_2 => ?_)
  · refine aw_iconst (v := 1) C d_Mo_step_14 (by decide) ?_
    refine aw_goto (tgt := 42) C d_Mo_step_15 (by decide) ?_
    refine pm_thrown (x := 1) C hK hI  d_Mo_step_42 ?_
    refine aw_aload_n C d_Mo_step_45 rfl (j := 0) rfl ?_
    refine gm_thrown (v := 1) C hK rfl d_Mo_step_46 ?_
    refine aw_if_le (tgt := 56) C d_Mo_step_49 (by decide) (fun h => absurd h (by decide)) (fun _ => ?_)
    refine aw_iconst (v := 0) C d_Mo_step_52 (by decide) ?_
    refine aw_goto (tgt := 66) C d_Mo_step_53 (by decide) ?_
    exact aw_iret C hr hlk _ ⟨rfl, rfl⟩ (fun H h => h) d_Mo_step_66
  · refine aw_iload_n C d_Mo_step_5 rfl (j := 2) rfl ?_
    refine aw_iconst (v := 0) C d_Mo_step_6 (by decide) ?_
    refine aw_iconst (v := 2) C d_Mo_step_7 (by decide) ?_
    refine aw_callSi (Cn := "") (P9 := fun r u => ms_P D ad cA M) [.int y, .int 0, .int 2] C hK (c_Mo_in l D cA (ms_A ad) (ms_P D ad cA M) y 0 2) (cw_Mo_Mo_in C.2.2.2.2 rfl rfl (by decide)) rfl (fun H h => h) (fun q h => Or.inl h) (fun q h => Or.inr (by rw [← hsz]; exact h)) rfl (Nat.le_of_ble_eq_true rfl) d_Mo_step_8 (by decide) (fun H H1 r u _ _ hB _ _ => hB) ?_
    rintro r u rfl
    refine aw_if_ne (tgt := 18) C d_Mo_step_11 (by decide) (fun c_11 => ?_) (fun c_11 => ?_)
    · exact absurd h0 (fun h => h.elim c_2 c_11)
    · refine aw_iconst (v := 1) C d_Mo_step_14 (by decide) ?_
      refine aw_goto (tgt := 42) C d_Mo_step_15 (by decide) ?_
      refine pm_thrown (x := 1) C hK hI  d_Mo_step_42 ?_
      refine aw_aload_n C d_Mo_step_45 rfl (j := 0) rfl ?_
      refine gm_thrown (v := 1) C hK rfl d_Mo_step_46 ?_
      refine aw_if_le (tgt := 56) C d_Mo_step_49 (by decide) (fun h => absurd h (by decide)) (fun _ => ?_)
      refine aw_iconst (v := 0) C d_Mo_step_52 (by decide) ?_
      refine aw_goto (tgt := 66) C d_Mo_step_53 (by decide) ?_
      exact aw_iret C hr hlk _ ⟨rfl, rfl⟩ (fun H h => h) d_Mo_step_66
set_option maxHeartbeats 4000000 in
set_option maxRecDepth 100000 in
theorem b_Mo_step2_t (l : Launch) (D : va_G) (ad : Nat → Nat) (cA : Nat → ClassId) (M : ms_S) (hI : ms_I ad) (x y : Int32) (h0 : ¬ x < 0 ∧ ¬ mo_in y 0 2 = 0) (h1 : M 23 0 = 0) : Ct_i l y_Mo_step b_Mo_step 3 (some .int) ({ frames := 1, cells := 0, slots := 0, locals := 22 } : Room) 0 0 D (ds_ty cA) (ms_A ad) [.ref (ad 0), .int x, .int y] (ms_P D ad cA M) (fun (r : Int32) (u : ms_S) => u = ms_w M 20 0 2 ∧ r = 0) (ms_P D ad cA) := by
  intro sz
  refine ct_of (by decide) (Nat.le_of_ble_eq_true rfl) ?_
  intro p e s m args below meth c hsz C hr hlk hnm hK
  refine aw_lv (lv' := [(0, .ref (ad 0)), (1, .int x), (2, .int y)]) [0, 1, 2] rfl ?_
  refine aw_aload_n C d_Mo_step_0 rfl (j := 0) rfl ?_
  refine aw_iload_n C d_Mo_step_1 rfl (j := 1) rfl ?_
  refine aw_if_lt (tgt := 14) C d_Mo_step_2 (by decide) (fun c_2 => ?_) (fun c_2 => ?_)
  · exact absurd c_2 h0.1
  · refine aw_iload_n C d_Mo_step_5 rfl (j := 2) rfl ?_
    refine aw_iconst (v := 0) C d_Mo_step_6 (by decide) ?_
    refine aw_iconst (v := 2) C d_Mo_step_7 (by decide) ?_
    refine aw_callSi (Cn := "") (P9 := fun r u => ms_P D ad cA M) [.int y, .int 0, .int 2] C hK (c_Mo_in l D cA (ms_A ad) (ms_P D ad cA M) y 0 2) (cw_Mo_Mo_in C.2.2.2.2 rfl rfl (by decide)) rfl (fun H h => h) (fun q h => Or.inl h) (fun q h => Or.inr (by rw [← hsz]; exact h)) rfl (Nat.le_of_ble_eq_true rfl) d_Mo_step_8 (by decide) (fun H H1 r u _ _ hB _ _ => hB) ?_
    rintro r u rfl
    refine aw_if_ne (tgt := 18) C d_Mo_step_11 (by decide) (fun c_11 => ?_) (fun c_11 => ?_)
    · refine aw_aload_n C d_Mo_step_18 rfl (j := 0) rfl ?_
      refine gm_made (v := M 23 0) C hK rfl d_Mo_step_19 ?_
      refine aw_if_ne (tgt := 29) C d_Mo_step_22 (by decide) (fun c_22 => ?_) (fun c_22 => ?_)
      · exact absurd h1 c_22
      · refine aw_iconst (v := 2) C d_Mo_step_25 (by decide) ?_
        refine aw_goto (tgt := 42) C d_Mo_step_26 (by decide) ?_
        refine pm_thrown (x := 2) C hK hI  d_Mo_step_42 ?_
        refine aw_aload_n C d_Mo_step_45 rfl (j := 0) rfl ?_
        refine gm_thrown (v := 2) C hK rfl d_Mo_step_46 ?_
        refine aw_if_le (tgt := 56) C d_Mo_step_49 (by decide) (fun h => absurd h (by decide)) (fun _ => ?_)
        refine aw_iconst (v := 0) C d_Mo_step_52 (by decide) ?_
        refine aw_goto (tgt := 66) C d_Mo_step_53 (by decide) ?_
        exact aw_iret C hr hlk _ ⟨rfl, rfl⟩ (fun H h => h) d_Mo_step_66
    · exact absurd c_11 h0.2
set_option maxHeartbeats 4000000 in
set_option maxRecDepth 100000 in
theorem b_Mo_step3_t (l : Launch) (D : va_G) (ad : Nat → Nat) (cA : Nat → ClassId) (M : ms_S) (hI : ms_I ad) (x y : Int32) (h0 : ¬ x < 0 ∧ ¬ mo_in y 0 2 = 0) (h1 : ¬ M 23 0 = 0) (h2 : ¬ x < M 26 0) : Ct_i l y_Mo_step b_Mo_step 3 (some .int) ({ frames := 1, cells := 0, slots := 0, locals := 22 } : Room) 0 0 D (ds_ty cA) (ms_A ad) [.ref (ad 0), .int x, .int y] (ms_P D ad cA M) (fun (r : Int32) (u : ms_S) => u = ms_w M 20 0 1 ∧ r = 0) (ms_P D ad cA) := by
  intro sz
  refine ct_of (by decide) (Nat.le_of_ble_eq_true rfl) ?_
  intro p e s m args below meth c hsz C hr hlk hnm hK
  refine aw_lv (lv' := [(0, .ref (ad 0)), (1, .int x), (2, .int y)]) [0, 1, 2] rfl ?_
  refine aw_aload_n C d_Mo_step_0 rfl (j := 0) rfl ?_
  refine aw_iload_n C d_Mo_step_1 rfl (j := 1) rfl ?_
  refine aw_if_lt (tgt := 14) C d_Mo_step_2 (by decide) (fun c_2 => ?_) (fun c_2 => ?_)
  · exact absurd c_2 h0.1
  · refine aw_iload_n C d_Mo_step_5 rfl (j := 2) rfl ?_
    refine aw_iconst (v := 0) C d_Mo_step_6 (by decide) ?_
    refine aw_iconst (v := 2) C d_Mo_step_7 (by decide) ?_
    refine aw_callSi (Cn := "") (P9 := fun r u => ms_P D ad cA M) [.int y, .int 0, .int 2] C hK (c_Mo_in l D cA (ms_A ad) (ms_P D ad cA M) y 0 2) (cw_Mo_Mo_in C.2.2.2.2 rfl rfl (by decide)) rfl (fun H h => h) (fun q h => Or.inl h) (fun q h => Or.inr (by rw [← hsz]; exact h)) rfl (Nat.le_of_ble_eq_true rfl) d_Mo_step_8 (by decide) (fun H H1 r u _ _ hB _ _ => hB) ?_
    rintro r u rfl
    refine aw_if_ne (tgt := 18) C d_Mo_step_11 (by decide) (fun c_11 => ?_) (fun c_11 => ?_)
    · refine aw_aload_n C d_Mo_step_18 rfl (j := 0) rfl ?_
      refine gm_made (v := M 23 0) C hK rfl d_Mo_step_19 ?_
      refine aw_if_ne (tgt := 29) C d_Mo_step_22 (by decide) (fun c_22 => ?_) (fun c_22 => ?_)
      · refine aw_iload_n C d_Mo_step_29 rfl (j := 1) rfl ?_
        refine aw_aload_n C d_Mo_step_30 rfl (j := 0) rfl ?_
        refine gm_gone (v := M 26 0) C hK rfl d_Mo_step_31 ?_
        refine aw_icmp_lt (tgt := 41) C d_Mo_step_34 (by decide) (fun c_34 => ?_) (fun c_34 => ?_)
        · exact absurd c_34 h2
        · refine aw_iconst (v := 1) C d_Mo_step_37 (by decide) ?_
          refine aw_goto (tgt := 42) C d_Mo_step_38 (by decide) ?_
          refine pm_thrown (x := 1) C hK hI  d_Mo_step_42 ?_
          refine aw_aload_n C d_Mo_step_45 rfl (j := 0) rfl ?_
          refine gm_thrown (v := 1) C hK rfl d_Mo_step_46 ?_
          refine aw_if_le (tgt := 56) C d_Mo_step_49 (by decide) (fun h => absurd h (by decide)) (fun _ => ?_)
          refine aw_iconst (v := 0) C d_Mo_step_52 (by decide) ?_
          refine aw_goto (tgt := 66) C d_Mo_step_53 (by decide) ?_
          exact aw_iret C hr hlk _ ⟨rfl, rfl⟩ (fun H h => h) d_Mo_step_66
      · exact absurd c_22 h1
    · exact absurd c_11 h0.2
set_option maxHeartbeats 4000000 in
set_option maxRecDepth 100000 in
theorem c_Mo_room (l : Launch) (D : va_G) (ad : Nat → Nat) (cA : Nat → ClassId) (M : ms_S) (hI : ms_I ad) (x : Int32) (k9 : Nat) (hk9 : k9 < 8) (h28 : M 28 0 = nI k9) (h0 : ¬ mo_in x 1 200 = 0) : Ct_i l y_Mo_room b_Mo_room 2 (some .int) ({ frames := 1, cells := 0, slots := 0, locals := 22 } : Room) 0 0 D (ds_ty cA) (ms_A ad) [.ref (ad 0), .int x] (ms_P D ad cA M) (fun (r : Int32) (u : ms_S) => u = ms_w (ms_w (ms_w M 20 0 0) 9 k9 x) 28 0 (M 28 0 + 1) ∧ r = M 28 0 + 1 - 1) (ms_P D ad cA) := by
  intro sz
  refine ct_of (by decide) (Nat.le_of_ble_eq_true rfl) ?_
  intro p e s m args below meth c hsz C hr hlk hnm hK
  refine aw_lv (lv' := [(0, .ref (ad 0)), (1, .int x)]) [0, 1] rfl ?_
  refine aw_aload_n C d_Mo_room_0 rfl (j := 0) rfl ?_
  refine aw_iload_n C d_Mo_room_1 rfl (j := 1) rfl ?_
  refine aw_iconst (v := 1) C d_Mo_room_2 (by decide) ?_
  refine aw_sipush (v := 200) C d_Mo_room_3 (by decide) ?_
  refine aw_callSi (Cn := "") (P9 := fun r u => ms_P D ad cA M) [.int x, .int 1, .int 200] C hK (c_Mo_in l D cA (ms_A ad) (ms_P D ad cA M) x 1 200) (cw_Mo_Mo_in C.2.2.2.2 rfl rfl (by decide)) rfl (fun H h => h) (fun q h => Or.inl h) (fun q h => Or.inr (by rw [← hsz]; exact h)) rfl (Nat.le_of_ble_eq_true rfl) d_Mo_room_6 (by decide) (fun H H1 r u _ _ hB _ _ => hB) ?_
  rintro r u rfl
  refine aw_if_ne (tgt := 16) C d_Mo_room_9 (by decide) (fun c_9 => ?_) (fun c_9 => ?_)
  · refine aw_aload_n C d_Mo_room_16 rfl (j := 0) rfl ?_
    refine gm_rooms (v := M 28 0) C hK rfl d_Mo_room_17 ?_
    refine aw_bipush (v := 8) C d_Mo_room_20 (by decide) ?_
    refine aw_icmp_ne (tgt := 29) C d_Mo_room_22 (by decide) (fun c_22 => ?_) (fun c_22 => ?_)
    · refine aw_iconst (v := 0) C d_Mo_room_29 (by decide) ?_
      refine pm_thrown (x := 0) C hK hI  d_Mo_room_30 ?_
      refine aw_aload_n C d_Mo_room_33 rfl (j := 0) rfl ?_
      refine gm_thrown (v := 0) C hK rfl d_Mo_room_34 ?_
      refine aw_if_le (tgt := 42) C d_Mo_room_37 (by decide) (fun _ => ?_) (fun h => absurd h (by decide))
      refine aw_aload_n C d_Mo_room_42 rfl (j := 0) rfl ?_
      refine gm_places C hK d_Mo_room_43 ?_
      refine aw_aload_n C d_Mo_room_46 rfl (j := 0) rfl ?_
      refine gm_rooms (v := M 28 0) C hK rfl d_Mo_room_47 ?_
      refine aw_iload_n C d_Mo_room_50 rfl (j := 1) rfl ?_
      refine sm_9 (y := x) C hK hI  k9 h28 hk9 d_Mo_room_51 ?_
      refine aw_aload_n C d_Mo_room_52 rfl (j := 0) rfl ?_
      refine aw_dup C d_Mo_room_53 rfl ?_
      refine gm_rooms (v := M 28 0) C hK rfl d_Mo_room_54 ?_
      refine aw_iconst (v := 1) C d_Mo_room_57 (by decide) ?_
      refine aw_iadd C d_Mo_room_58 ?_
      refine pm_rooms (x := (((M 28 0)) + 1)) C hK hI  d_Mo_room_59 ?_
      refine aw_aload_n C d_Mo_room_62 rfl (j := 0) rfl ?_
      refine gm_rooms (v := (((M 28 0)) + 1)) C hK rfl d_Mo_room_63 ?_
      refine aw_iconst (v := 1) C d_Mo_room_66 (by decide) ?_
      refine aw_isub C d_Mo_room_67 ?_
      exact aw_iret C hr hlk _ ⟨rfl, rfl⟩ (fun H h => h) d_Mo_room_68
    · exact absurd (by rw [← h28, c_22]; rfl) (fun h : nI k9 = nI 8 => absurd ((nI_eq (by omega) (by omega)).mp h) (by omega))
  · exact absurd c_9 h0
set_option maxHeartbeats 4000000 in
set_option maxRecDepth 100000 in
theorem b_Mo_room1_t (l : Launch) (D : va_G) (ad : Nat → Nat) (cA : Nat → ClassId) (M : ms_S) (hI : ms_I ad) (x : Int32) (h0 : mo_in x 1 200 = 0) : Ct_i l y_Mo_room b_Mo_room 2 (some .int) ({ frames := 1, cells := 0, slots := 0, locals := 22 } : Room) 0 0 D (ds_ty cA) (ms_A ad) [.ref (ad 0), .int x] (ms_P D ad cA M) (fun (r : Int32) (u : ms_S) => u = ms_w M 20 0 1 ∧ r = 0) (ms_P D ad cA) := by
  intro sz
  refine ct_of (by decide) (Nat.le_of_ble_eq_true rfl) ?_
  intro p e s m args below meth c hsz C hr hlk hnm hK
  refine aw_lv (lv' := [(0, .ref (ad 0)), (1, .int x)]) [0, 1] rfl ?_
  refine aw_aload_n C d_Mo_room_0 rfl (j := 0) rfl ?_
  refine aw_iload_n C d_Mo_room_1 rfl (j := 1) rfl ?_
  refine aw_iconst (v := 1) C d_Mo_room_2 (by decide) ?_
  refine aw_sipush (v := 200) C d_Mo_room_3 (by decide) ?_
  refine aw_callSi (Cn := "") (P9 := fun r u => ms_P D ad cA M) [.int x, .int 1, .int 200] C hK (c_Mo_in l D cA (ms_A ad) (ms_P D ad cA M) x 1 200) (cw_Mo_Mo_in C.2.2.2.2 rfl rfl (by decide)) rfl (fun H h => h) (fun q h => Or.inl h) (fun q h => Or.inr (by rw [← hsz]; exact h)) rfl (Nat.le_of_ble_eq_true rfl) d_Mo_room_6 (by decide) (fun H H1 r u _ _ hB _ _ => hB) ?_
  rintro r u rfl
  refine aw_if_ne (tgt := 16) C d_Mo_room_9 (by decide) (fun c_9 => ?_) (fun c_9 => ?_)
  · exact absurd h0 c_9
  · refine aw_iconst (v := 1) C d_Mo_room_12 (by decide) ?_
    refine aw_goto (tgt := 30) C d_Mo_room_13 (by decide) ?_
    refine pm_thrown (x := 1) C hK hI  d_Mo_room_30 ?_
    refine aw_aload_n C d_Mo_room_33 rfl (j := 0) rfl ?_
    refine gm_thrown (v := 1) C hK rfl d_Mo_room_34 ?_
    refine aw_if_le (tgt := 42) C d_Mo_room_37 (by decide) (fun h => absurd h (by decide)) (fun _ => ?_)
    refine aw_iconst (v := 0) C d_Mo_room_40 (by decide) ?_
    exact aw_iret C hr hlk _ ⟨rfl, rfl⟩ (fun H h => h) d_Mo_room_41
set_option maxHeartbeats 4000000 in
set_option maxRecDepth 100000 in
theorem b_Mo_room2_t (l : Launch) (D : va_G) (ad : Nat → Nat) (cA : Nat → ClassId) (M : ms_S) (hI : ms_I ad) (x : Int32) (h0 : ¬ mo_in x 1 200 = 0) (h1 : M 28 0 = 8) : Ct_i l y_Mo_room b_Mo_room 2 (some .int) ({ frames := 1, cells := 0, slots := 0, locals := 22 } : Room) 0 0 D (ds_ty cA) (ms_A ad) [.ref (ad 0), .int x] (ms_P D ad cA M) (fun (r : Int32) (u : ms_S) => u = ms_w M 20 0 2 ∧ r = 0) (ms_P D ad cA) := by
  intro sz
  refine ct_of (by decide) (Nat.le_of_ble_eq_true rfl) ?_
  intro p e s m args below meth c hsz C hr hlk hnm hK
  refine aw_lv (lv' := [(0, .ref (ad 0)), (1, .int x)]) [0, 1] rfl ?_
  refine aw_aload_n C d_Mo_room_0 rfl (j := 0) rfl ?_
  refine aw_iload_n C d_Mo_room_1 rfl (j := 1) rfl ?_
  refine aw_iconst (v := 1) C d_Mo_room_2 (by decide) ?_
  refine aw_sipush (v := 200) C d_Mo_room_3 (by decide) ?_
  refine aw_callSi (Cn := "") (P9 := fun r u => ms_P D ad cA M) [.int x, .int 1, .int 200] C hK (c_Mo_in l D cA (ms_A ad) (ms_P D ad cA M) x 1 200) (cw_Mo_Mo_in C.2.2.2.2 rfl rfl (by decide)) rfl (fun H h => h) (fun q h => Or.inl h) (fun q h => Or.inr (by rw [← hsz]; exact h)) rfl (Nat.le_of_ble_eq_true rfl) d_Mo_room_6 (by decide) (fun H H1 r u _ _ hB _ _ => hB) ?_
  rintro r u rfl
  refine aw_if_ne (tgt := 16) C d_Mo_room_9 (by decide) (fun c_9 => ?_) (fun c_9 => ?_)
  · refine aw_aload_n C d_Mo_room_16 rfl (j := 0) rfl ?_
    refine gm_rooms (v := M 28 0) C hK rfl d_Mo_room_17 ?_
    refine aw_bipush (v := 8) C d_Mo_room_20 (by decide) ?_
    refine aw_icmp_ne (tgt := 29) C d_Mo_room_22 (by decide) (fun c_22 => ?_) (fun c_22 => ?_)
    · exact absurd h1 c_22
    · refine aw_iconst (v := 2) C d_Mo_room_25 (by decide) ?_
      refine aw_goto (tgt := 30) C d_Mo_room_26 (by decide) ?_
      refine pm_thrown (x := 2) C hK hI  d_Mo_room_30 ?_
      refine aw_aload_n C d_Mo_room_33 rfl (j := 0) rfl ?_
      refine gm_thrown (v := 2) C hK rfl d_Mo_room_34 ?_
      refine aw_if_le (tgt := 42) C d_Mo_room_37 (by decide) (fun h => absurd h (by decide)) (fun _ => ?_)
      refine aw_iconst (v := 0) C d_Mo_room_40 (by decide) ?_
      exact aw_iret C hr hlk _ ⟨rfl, rfl⟩ (fun H h => h) d_Mo_room_41
  · exact absurd c_9 h0
set_option maxHeartbeats 4000000 in
set_option maxRecDepth 100000 in
theorem c_Mo_cancel (l : Launch) (D : va_G) (ad : Nat → Nat) (cA : Nat → ClassId) (M : ms_S) (hI : ms_I ad) (g : Nat) (hg : g < 300) (h0 : ¬ mo_in (nI g) 0 (M 29 0 - 1) = 0) (hz0 : M 14 g = 0 ∨ M 14 g = 1) : Ct_i l y_Mo_cancel b_Mo_cancel 3 (some .boolean) ({ frames := 1, cells := 0, slots := 0, locals := 22 } : Room) 0 0 D (ds_ty cA) (ms_A ad) [.ref (ad 0), .int (nI g)] (ms_P D ad cA M) (fun (r : Int32) (u : ms_S) => u = ms_w (ms_w M 20 0 0) 14 g 0 ∧ r = M 14 g) (ms_P D ad cA) := by
  intro sz
  refine ct_of (by decide) (Nat.le_of_ble_eq_true rfl) ?_
  intro p e s m args below meth c hsz C hr hlk hnm hK
  refine aw_lv (lv' := [(0, .ref (ad 0)), (1, .int (nI g))]) [0, 1] rfl ?_
  refine aw_aload_n C d_Mo_cancel_0 rfl (j := 0) rfl ?_
  refine aw_iload_n C d_Mo_cancel_1 rfl (j := 1) rfl ?_
  refine aw_iconst (v := 0) C d_Mo_cancel_2 (by decide) ?_
  refine aw_aload_n C d_Mo_cancel_3 rfl (j := 0) rfl ?_
  refine gm_bookings (v := M 29 0) C hK rfl d_Mo_cancel_4 ?_
  refine aw_iconst (v := 1) C d_Mo_cancel_7 (by decide) ?_
  refine aw_isub C d_Mo_cancel_8 ?_
  refine aw_callSi (Cn := "") (P9 := fun r u => ms_P D ad cA M) [.int (nI g), .int 0, .int (M 29 0 - 1)] C hK (c_Mo_in l D cA (ms_A ad) (ms_P D ad cA M) (nI g) 0 (M 29 0 - 1)) (cw_Mo_Mo_in C.2.2.2.2 rfl rfl (by decide)) rfl (fun H h => h) (fun q h => Or.inl h) (fun q h => Or.inr (by rw [← hsz]; exact h)) rfl (Nat.le_of_ble_eq_true rfl) d_Mo_cancel_9 (by decide) (fun H H1 r u _ _ hB _ _ => hB) ?_
  rintro r u rfl
  refine aw_if_eq (tgt := 19) C d_Mo_cancel_12 (by decide) (fun c_12 => ?_) (fun c_12 => ?_)
  · exact absurd c_12 h0
  · refine aw_iconst (v := 0) C d_Mo_cancel_15 (by decide) ?_
    refine aw_goto (tgt := 20) C d_Mo_cancel_16 (by decide) ?_
    refine pm_thrown (x := 0) C hK hI  d_Mo_cancel_20 ?_
    refine aw_aload_n C d_Mo_cancel_23 rfl (j := 0) rfl ?_
    refine gm_thrown (v := 0) C hK rfl d_Mo_cancel_24 ?_
    refine aw_if_le (tgt := 32) C d_Mo_cancel_27 (by decide) (fun _ => ?_) (fun h => absurd h (by decide))
    refine aw_aload_n C d_Mo_cancel_32 rfl (j := 0) rfl ?_
    refine gm_there C hK d_Mo_cancel_33 ?_
    refine aw_iload_n C d_Mo_cancel_36 rfl (j := 1) rfl ?_
    refine lm_14 (v := M 14 g) C hK g rfl hg rfl d_Mo_cancel_37 ?_
    refine aw_istore_n (i := 2) (lv' := [(2, .int (M 14 g)), (0, .ref (ad 0)), (1, .int (nI g))]) C d_Mo_cancel_38 rfl (by decide) rfl ?_
    refine aw_aload_n C d_Mo_cancel_39 rfl (j := 1) rfl ?_
    refine gm_there C hK d_Mo_cancel_40 ?_
    refine aw_iload_n C d_Mo_cancel_43 rfl (j := 2) rfl ?_
    refine aw_iconst (v := 0) C d_Mo_cancel_44 (by decide) ?_
    refine sm_14 (y := 0) C hK hI (Or.inl rfl) g rfl hg d_Mo_cancel_45 ?_
    refine aw_iload_n C d_Mo_cancel_46 rfl (j := 0) rfl ?_
    exact aw_zret C hr hlk (nr_z hz0).1 _ ⟨rfl, rfl⟩ (fun H h => h) d_Mo_cancel_47
set_option maxHeartbeats 4000000 in
set_option maxRecDepth 100000 in
theorem b_Mo_cancel_t (l : Launch) (D : va_G) (ad : Nat → Nat) (cA : Nat → ClassId) (M : ms_S) (hI : ms_I ad) (x : Int32) (h0 : mo_in x 0 (M 29 0 - 1) = 0) : Ct_i l y_Mo_cancel b_Mo_cancel 3 (some .boolean) ({ frames := 1, cells := 0, slots := 0, locals := 22 } : Room) 0 0 D (ds_ty cA) (ms_A ad) [.ref (ad 0), .int x] (ms_P D ad cA M) (fun (r : Int32) (u : ms_S) => u = ms_w M 20 0 1 ∧ r = 0) (ms_P D ad cA) := by
  intro sz
  refine ct_of (by decide) (Nat.le_of_ble_eq_true rfl) ?_
  intro p e s m args below meth c hsz C hr hlk hnm hK
  refine aw_lv (lv' := [(0, .ref (ad 0)), (1, .int x)]) [0, 1] rfl ?_
  refine aw_aload_n C d_Mo_cancel_0 rfl (j := 0) rfl ?_
  refine aw_iload_n C d_Mo_cancel_1 rfl (j := 1) rfl ?_
  refine aw_iconst (v := 0) C d_Mo_cancel_2 (by decide) ?_
  refine aw_aload_n C d_Mo_cancel_3 rfl (j := 0) rfl ?_
  refine gm_bookings (v := M 29 0) C hK rfl d_Mo_cancel_4 ?_
  refine aw_iconst (v := 1) C d_Mo_cancel_7 (by decide) ?_
  refine aw_isub C d_Mo_cancel_8 ?_
  refine aw_callSi (Cn := "") (P9 := fun r u => ms_P D ad cA M) [.int x, .int 0, .int (M 29 0 - 1)] C hK (c_Mo_in l D cA (ms_A ad) (ms_P D ad cA M) x 0 (M 29 0 - 1)) (cw_Mo_Mo_in C.2.2.2.2 rfl rfl (by decide)) rfl (fun H h => h) (fun q h => Or.inl h) (fun q h => Or.inr (by rw [← hsz]; exact h)) rfl (Nat.le_of_ble_eq_true rfl) d_Mo_cancel_9 (by decide) (fun H H1 r u _ _ hB _ _ => hB) ?_
  rintro r u rfl
  refine aw_if_eq (tgt := 19) C d_Mo_cancel_12 (by decide) (fun c_12 => ?_) (fun c_12 => ?_)
  · refine aw_iconst (v := 1) C d_Mo_cancel_19 (by decide) ?_
    refine pm_thrown (x := 1) C hK hI  d_Mo_cancel_20 ?_
    refine aw_aload_n C d_Mo_cancel_23 rfl (j := 0) rfl ?_
    refine gm_thrown (v := 1) C hK rfl d_Mo_cancel_24 ?_
    refine aw_if_le (tgt := 32) C d_Mo_cancel_27 (by decide) (fun h => absurd h (by decide)) (fun _ => ?_)
    refine aw_iconst (v := 0) C d_Mo_cancel_30 (by decide) ?_
    exact aw_zret C hr hlk rfl _ ⟨rfl, rfl⟩ (fun H h => h) d_Mo_cancel_31
  · exact absurd h0 c_12
set_option maxHeartbeats 4000000 in
set_option maxRecDepth 100000 in
theorem c_Mo_roomOf (l : Launch) (D : va_G) (ad : Nat → Nat) (cA : Nat → ClassId) (M : ms_S) (hI : ms_I ad) (g : Nat) (hg : g < 300) (h0 : ¬ mo_in (nI g) 0 (M 29 0 - 1) = 0) : Ct_i l y_Mo_roomOf b_Mo_roomOf 2 (some .int) ({ frames := 1, cells := 0, slots := 0, locals := 22 } : Room) 0 0 D (ds_ty cA) (ms_A ad) [.ref (ad 0), .int (nI g)] (ms_P D ad cA M) (fun (r : Int32) (u : ms_S) => u = ms_w M 20 0 0 ∧ r = M 10 g) (ms_P D ad cA) := by
  intro sz
  refine ct_of (by decide) (Nat.le_of_ble_eq_true rfl) ?_
  intro p e s m args below meth c hsz C hr hlk hnm hK
  refine aw_lv (lv' := [(0, .ref (ad 0)), (1, .int (nI g))]) [0, 1] rfl ?_
  refine aw_aload_n C d_Mo_roomOf_0 rfl (j := 0) rfl ?_
  refine aw_iload_n C d_Mo_roomOf_1 rfl (j := 1) rfl ?_
  refine aw_iconst (v := 0) C d_Mo_roomOf_2 (by decide) ?_
  refine aw_aload_n C d_Mo_roomOf_3 rfl (j := 0) rfl ?_
  refine gm_bookings (v := M 29 0) C hK rfl d_Mo_roomOf_4 ?_
  refine aw_iconst (v := 1) C d_Mo_roomOf_7 (by decide) ?_
  refine aw_isub C d_Mo_roomOf_8 ?_
  refine aw_callSi (Cn := "") (P9 := fun r u => ms_P D ad cA M) [.int (nI g), .int 0, .int (M 29 0 - 1)] C hK (c_Mo_in l D cA (ms_A ad) (ms_P D ad cA M) (nI g) 0 (M 29 0 - 1)) (cw_Mo_Mo_in C.2.2.2.2 rfl rfl (by decide)) rfl (fun H h => h) (fun q h => Or.inl h) (fun q h => Or.inr (by rw [← hsz]; exact h)) rfl (Nat.le_of_ble_eq_true rfl) d_Mo_roomOf_9 (by decide) (fun H H1 r u _ _ hB _ _ => hB) ?_
  rintro r u rfl
  refine aw_if_eq (tgt := 19) C d_Mo_roomOf_12 (by decide) (fun c_12 => ?_) (fun c_12 => ?_)
  · exact absurd c_12 h0
  · refine aw_iconst (v := 0) C d_Mo_roomOf_15 (by decide) ?_
    refine aw_goto (tgt := 20) C d_Mo_roomOf_16 (by decide) ?_
    refine pm_thrown (x := 0) C hK hI  d_Mo_roomOf_20 ?_
    refine aw_aload_n C d_Mo_roomOf_23 rfl (j := 0) rfl ?_
    refine gm_thrown (v := 0) C hK rfl d_Mo_roomOf_24 ?_
    refine aw_if_le (tgt := 34) C d_Mo_roomOf_27 (by decide) (fun _ => ?_) (fun h => absurd h (by decide))
    refine aw_aload_n C d_Mo_roomOf_34 rfl (j := 0) rfl ?_
    refine gm_room C hK d_Mo_roomOf_35 ?_
    refine aw_iload_n C d_Mo_roomOf_38 rfl (j := 1) rfl ?_
    refine lm_10 (v := M 10 g) C hK g rfl hg rfl d_Mo_roomOf_39 ?_
    exact aw_iret C hr hlk _ ⟨rfl, rfl⟩ (fun H h => h) d_Mo_roomOf_40
set_option maxHeartbeats 4000000 in
set_option maxRecDepth 100000 in
theorem b_Mo_roomOf_t (l : Launch) (D : va_G) (ad : Nat → Nat) (cA : Nat → ClassId) (M : ms_S) (hI : ms_I ad) (x : Int32) (h0 : mo_in x 0 (M 29 0 - 1) = 0) : Ct_i l y_Mo_roomOf b_Mo_roomOf 2 (some .int) ({ frames := 1, cells := 0, slots := 0, locals := 22 } : Room) 0 0 D (ds_ty cA) (ms_A ad) [.ref (ad 0), .int x] (ms_P D ad cA M) (fun (r : Int32) (u : ms_S) => u = ms_w M 20 0 1 ∧ r = 0) (ms_P D ad cA) := by
  intro sz
  refine ct_of (by decide) (Nat.le_of_ble_eq_true rfl) ?_
  intro p e s m args below meth c hsz C hr hlk hnm hK
  refine aw_lv (lv' := [(0, .ref (ad 0)), (1, .int x)]) [0, 1] rfl ?_
  refine aw_aload_n C d_Mo_roomOf_0 rfl (j := 0) rfl ?_
  refine aw_iload_n C d_Mo_roomOf_1 rfl (j := 1) rfl ?_
  refine aw_iconst (v := 0) C d_Mo_roomOf_2 (by decide) ?_
  refine aw_aload_n C d_Mo_roomOf_3 rfl (j := 0) rfl ?_
  refine gm_bookings (v := M 29 0) C hK rfl d_Mo_roomOf_4 ?_
  refine aw_iconst (v := 1) C d_Mo_roomOf_7 (by decide) ?_
  refine aw_isub C d_Mo_roomOf_8 ?_
  refine aw_callSi (Cn := "") (P9 := fun r u => ms_P D ad cA M) [.int x, .int 0, .int (M 29 0 - 1)] C hK (c_Mo_in l D cA (ms_A ad) (ms_P D ad cA M) x 0 (M 29 0 - 1)) (cw_Mo_Mo_in C.2.2.2.2 rfl rfl (by decide)) rfl (fun H h => h) (fun q h => Or.inl h) (fun q h => Or.inr (by rw [← hsz]; exact h)) rfl (Nat.le_of_ble_eq_true rfl) d_Mo_roomOf_9 (by decide) (fun H H1 r u _ _ hB _ _ => hB) ?_
  rintro r u rfl
  refine aw_if_eq (tgt := 19) C d_Mo_roomOf_12 (by decide) (fun c_12 => ?_) (fun c_12 => ?_)
  · refine aw_iconst (v := 1) C d_Mo_roomOf_19 (by decide) ?_
    refine pm_thrown (x := 1) C hK hI  d_Mo_roomOf_20 ?_
    refine aw_aload_n C d_Mo_roomOf_23 rfl (j := 0) rfl ?_
    refine gm_thrown (v := 1) C hK rfl d_Mo_roomOf_24 ?_
    refine aw_if_le (tgt := 34) C d_Mo_roomOf_27 (by decide) (fun h => absurd h (by decide)) (fun _ => ?_)
    refine aw_iconst (v := 0) C d_Mo_roomOf_30 (by decide) ?_
    refine aw_goto (tgt := 40) C d_Mo_roomOf_31 (by decide) ?_
    exact aw_iret C hr hlk _ ⟨rfl, rfl⟩ (fun H h => h) d_Mo_roomOf_40
  · exact absurd h0 c_12
theorem mm_20 (M : ms_S) (x r a b : Int32) : ∀ n, mm_L (ms_w M 20 0 x) r a b n = mm_L M r a b n
  | 0 => rfl
  | n + 1 => by
    simp only [mm_L, mm_20 M x r a b n]
    rfl
set_option maxHeartbeats 4000000 in
set_option maxRecDepth 100000 in
theorem c_Mo_inside (l : Launch) (D : va_G) (ad : Nat → Nat) (cA : Nat → ClassId) (M : ms_S) (hI : ms_I ad) (Bn : Nat) (hBn : Bn ≤ 300) (h29 : M 29 0 = nI Bn) (x y : Int32) (h0 : ¬ mo_in x 0 (M 28 0 - 1) = 0) (h1 : ¬ mo_in y 0 10079 = 0) : Ct_i l y_Mo_inside b_Mo_inside 3 (some .int) ({ frames := 2, cells := 0, slots := 0, locals := 43 } : Room) 0 0 D (ds_ty cA) (ms_A ad) [.ref (ad 0), .int x, .int y] (ms_P D ad cA M) (fun (r : Int32) (u : ms_S) => u = ms_w M 20 0 0 ∧ r = mm_L M x y (y + 1) Bn) (ms_P D ad cA) := by
  intro sz
  refine ct_of (by decide) (Nat.le_of_ble_eq_true rfl) ?_
  intro p e s m args below meth c hsz C hr hlk hnm hK
  refine aw_lv (lv' := [(0, .ref (ad 0)), (1, .int x), (2, .int y)]) [0, 1, 2] rfl ?_
  refine aw_aload_n C d_Mo_inside_0 rfl (j := 0) rfl ?_
  refine aw_aload_n C d_Mo_inside_1 rfl (j := 0) rfl ?_
  refine aw_iload_n C d_Mo_inside_2 rfl (j := 1) rfl ?_
  refine aw_callVi (P9 := fun r u => ms_P D ad cA u) [.int x] C hK (c_Mo_isRoom l D ad cA M x) (cw_Mo_Mo_isRoom C.2.2.2.2 rfl rfl (by decide)) rfl (fun H h => aw_recv hK rfl (h 0 (by decide))) (fun H h => h) (fun q h => Or.inl h) (fun q h => Or.inr (by rw [← hsz]; exact h)) rfl (Nat.le_of_ble_eq_true rfl) d_Mo_inside_3 (by decide) (fun H H1 r u _ _ hB _ _ => hB) ?_
  rintro r u ⟨rfl, rfl⟩
  refine aw_if_eq (tgt := 24) C d_Mo_inside_6 (by decide) (fun c_6 => ?_) (fun c_6 => ?_)
  · exact absurd c_6 h0
  · refine aw_iload_n C d_Mo_inside_9 rfl (j := 2) rfl ?_
    refine aw_iconst (v := 0) C d_Mo_inside_10 (by decide) ?_
    refine aw_sipush (v := 10079) C d_Mo_inside_11 (by decide) ?_
    refine aw_callSi (Cn := "") (P9 := fun r u => ms_P D ad cA M) [.int y, .int 0, .int 10079] C hK (c_Mo_in l D cA (ms_A ad) (ms_P D ad cA M) y 0 10079) (cw_Mo_Mo_in C.2.2.2.2 rfl rfl (by decide)) rfl (fun H h => h) (fun q h => Or.inl h) (fun q h => Or.inr (by rw [← hsz]; exact h)) rfl (Nat.le_of_ble_eq_true rfl) d_Mo_inside_14 (by decide) (fun H H1 r u _ _ hB _ _ => hB) ?_
    rintro r u rfl
    refine aw_if_eq (tgt := 24) C d_Mo_inside_17 (by decide) (fun c_17 => ?_) (fun c_17 => ?_)
    · exact absurd c_17 h1
    · refine aw_iconst (v := 0) C d_Mo_inside_20 (by decide) ?_
      refine aw_goto (tgt := 25) C d_Mo_inside_21 (by decide) ?_
      refine pm_thrown (x := 0) C hK hI  d_Mo_inside_25 ?_
      refine aw_aload_n C d_Mo_inside_28 rfl (j := 0) rfl ?_
      refine gm_thrown (v := 0) C hK rfl d_Mo_inside_29 ?_
      refine aw_if_le (tgt := 39) C d_Mo_inside_32 (by decide) (fun _ => ?_) (fun h => absurd h (by decide))
      refine aw_aload_n C d_Mo_inside_39 rfl (j := 0) rfl ?_
      refine aw_iload_n C d_Mo_inside_40 rfl (j := 1) rfl ?_
      refine aw_iload_n C d_Mo_inside_41 rfl (j := 2) rfl ?_
      refine aw_iload_n C d_Mo_inside_42 rfl (j := 2) rfl ?_
      refine aw_iconst (v := 1) C d_Mo_inside_43 (by decide) ?_
      refine aw_iadd C d_Mo_inside_44 ?_
      refine aw_callVi (P9 := fun r u => ms_P D ad cA u) [.int x, .int y, .int (y + 1)] C hK (c_Mo_meeting l D ad cA (ms_w M 20 0 0) Bn x y (y + 1) hBn h29) (cw_Mo_Mo_meeting C.2.2.2.2 rfl rfl (by decide)) rfl (fun H h => aw_recv hK rfl (h 0 (by decide))) (fun H h => h) (fun q h => Or.inl h) (fun q h => Or.inr (by rw [← hsz]; exact h)) rfl (Nat.le_of_ble_eq_true rfl) d_Mo_inside_45 (by decide) (fun H H1 r u _ _ hB _ _ => hB) ?_
      rintro r u ⟨rfl, rfl⟩
      exact aw_iret C hr hlk _ ⟨rfl, mm_20 M _ _ _ _ _⟩ (fun H h => h) d_Mo_inside_48
set_option maxHeartbeats 4000000 in
set_option maxRecDepth 100000 in
theorem b_Mo_inside_t (l : Launch) (D : va_G) (ad : Nat → Nat) (cA : Nat → ClassId) (M : ms_S) (hI : ms_I ad) (x y : Int32) (h0 : mo_in x 0 (M 28 0 - 1) = 0 ∨ mo_in y 0 10079 = 0) : Ct_i l y_Mo_inside b_Mo_inside 3 (some .int) ({ frames := 2, cells := 0, slots := 0, locals := 43 } : Room) 0 0 D (ds_ty cA) (ms_A ad) [.ref (ad 0), .int x, .int y] (ms_P D ad cA M) (fun (r : Int32) (u : ms_S) => u = ms_w M 20 0 1 ∧ r = 0) (ms_P D ad cA) := by
  intro sz
  refine ct_of (by decide) (Nat.le_of_ble_eq_true rfl) ?_
  intro p e s m args below meth c hsz C hr hlk hnm hK
  refine aw_lv (lv' := [(0, .ref (ad 0)), (1, .int x), (2, .int y)]) [0, 1, 2] rfl ?_
  refine aw_aload_n C d_Mo_inside_0 rfl (j := 0) rfl ?_
  refine aw_aload_n C d_Mo_inside_1 rfl (j := 0) rfl ?_
  refine aw_iload_n C d_Mo_inside_2 rfl (j := 1) rfl ?_
  refine aw_callVi (P9 := fun r u => ms_P D ad cA u) [.int x] C hK (c_Mo_isRoom l D ad cA M x) (cw_Mo_Mo_isRoom C.2.2.2.2 rfl rfl (by decide)) rfl (fun H h => aw_recv hK rfl (h 0 (by decide))) (fun H h => h) (fun q h => Or.inl h) (fun q h => Or.inr (by rw [← hsz]; exact h)) rfl (Nat.le_of_ble_eq_true rfl) d_Mo_inside_3 (by decide) (fun H H1 r u _ _ hB _ _ => hB) ?_
  rintro r u ⟨rfl, rfl⟩
  refine aw_if_eq (tgt := 24) C d_Mo_inside_6 (by decide) (fun c_6 => ?_) (fun c_6 => ?_)
  · refine aw_iconst (v := 1) C d_Mo_inside_24 (by decide) ?_
    refine pm_thrown (x := 1) C hK hI  d_Mo_inside_25 ?_
    refine aw_aload_n C d_Mo_inside_28 rfl (j := 0) rfl ?_
    refine gm_thrown (v := 1) C hK rfl d_Mo_inside_29 ?_
    refine aw_if_le (tgt := 39) C d_Mo_inside_32 (by decide) (fun h => absurd h (by decide)) (fun _ => ?_)
    refine aw_iconst (v := 0) C d_Mo_inside_35 (by decide) ?_
    refine aw_goto (tgt := 48) C d_Mo_inside_36 (by decide) ?_
    exact aw_iret C hr hlk _ ⟨rfl, rfl⟩ (fun H h => h) d_Mo_inside_48
  · refine aw_iload_n C d_Mo_inside_9 rfl (j := 2) rfl ?_
    refine aw_iconst (v := 0) C d_Mo_inside_10 (by decide) ?_
    refine aw_sipush (v := 10079) C d_Mo_inside_11 (by decide) ?_
    refine aw_callSi (Cn := "") (P9 := fun r u => ms_P D ad cA M) [.int y, .int 0, .int 10079] C hK (c_Mo_in l D cA (ms_A ad) (ms_P D ad cA M) y 0 10079) (cw_Mo_Mo_in C.2.2.2.2 rfl rfl (by decide)) rfl (fun H h => h) (fun q h => Or.inl h) (fun q h => Or.inr (by rw [← hsz]; exact h)) rfl (Nat.le_of_ble_eq_true rfl) d_Mo_inside_14 (by decide) (fun H H1 r u _ _ hB _ _ => hB) ?_
    rintro r u rfl
    refine aw_if_eq (tgt := 24) C d_Mo_inside_17 (by decide) (fun c_17 => ?_) (fun c_17 => ?_)
    · refine aw_iconst (v := 1) C d_Mo_inside_24 (by decide) ?_
      refine pm_thrown (x := 1) C hK hI  d_Mo_inside_25 ?_
      refine aw_aload_n C d_Mo_inside_28 rfl (j := 0) rfl ?_
      refine gm_thrown (v := 1) C hK rfl d_Mo_inside_29 ?_
      refine aw_if_le (tgt := 39) C d_Mo_inside_32 (by decide) (fun h => absurd h (by decide)) (fun _ => ?_)
      refine aw_iconst (v := 0) C d_Mo_inside_35 (by decide) ?_
      refine aw_goto (tgt := 48) C d_Mo_inside_36 (by decide) ?_
      exact aw_iret C hr hlk _ ⟨rfl, rfl⟩ (fun H h => h) d_Mo_inside_48
    · exact absurd h0 (fun h => h.elim c_6 c_17)
def gp_L (M : ms_S) (x mi : Int32) (Bn : Nat) : Nat → Int32 → Int32
  | 0, t => t
  | n + 1, t => if 10080 < t + mi then -1 else (if mm_L M x t (t + mi) Bn = -1 then t else gp_L M x mi Bn n (M 12 (mm_L M x t (t + mi) Bn).toNatClampNeg))
def gp_T (M : ms_S) (x mi : Int32) (Bn : Nat) : Nat → Int32 → Prop
  | 0, _ => False
  | n + 1, t => 10080 < t + mi ∨ mm_L M x t (t + mi) Bn = -1 ∨ gp_T M x mi Bn n (M 12 (mm_L M x t (t + mi) Bn).toNatClampNeg)
theorem mm_lt (M : ms_S) (r a b : Int32) : ∀ Bn, mm_L M r a b Bn = -1 ∨ ∃ k, k < Bn ∧ mm_L M r a b Bn = nI k
  | 0 => Or.inl rfl
  | n + 1 => by
    have ih := mm_lt M r a b n
    have ih' : mm_L M r a b n = -1 ∨ ∃ k, k < n + 1 ∧ mm_L M r a b n = nI k := ih.imp id (fun ⟨k, h, e⟩ => ⟨k, by omega, e⟩)
    unfold mm_L
    split
    · exact ih'
    · split
      · split
        · exact ih'
        · split
          · exact ih'
          · exact Or.inr ⟨n, by omega, rfl⟩
      · exact ih'
set_option maxHeartbeats 4000000 in
set_option maxRecDepth 100000 in
theorem c_Mo_gap (l : Launch) (D : va_G) (ad : Nat → Nat) (cA : Nat → ClassId) (M : ms_S) (hI : ms_I ad) (Bn : Nat) (hBn : Bn ≤ 300) (h29 : M 29 0 = nI Bn) (x y mi : Int32) (n0 : Nat) (h0 : ¬ mo_in x 0 (M 28 0 - 1) = 0) (h1 : ¬ mo_in y 0 10079 = 0) (h2 : ¬ mo_in mi 1 10080 = 0) (hT : gp_T (ms_w M 20 0 0) x mi Bn n0 y) : Ct_i l y_Mo_gap b_Mo_gap 6 (some .int) ({ frames := 2, cells := 0, slots := 0, locals := 43 } : Room) 0 0 D (ds_ty cA) (ms_A ad) [.ref (ad 0), .int x, .int y, .int mi] (ms_P D ad cA M) (fun (r : Int32) (u : ms_S) => u = ms_w M 20 0 0 ∧ r = gp_L (ms_w M 20 0 0) x mi Bn n0 y) (ms_P D ad cA) := by
  intro sz
  refine ct_of (by decide) (Nat.le_of_ble_eq_true rfl) ?_
  intro p e s m args below meth c hsz C hr hlk hnm hK
  have lp : ∀ (n : Nat) (t9 : Int32), gp_T (ms_w M 20 0 0) x mi Bn n t9 → gp_L (ms_w M 20 0 0) x mi Bn n t9 = gp_L (ms_w M 20 0 0) x mi Bn n0 y → AW p l e ({ frames := 2, cells := 0, slots := 0, locals := 43 } : Room) s m args below meth c 6 0 0 (MQ below (va_Qi (fun (r : Int32) (u : ms_S) => u = ms_w M 20 0 0 ∧ r = gp_L (ms_w M 20 0 0) x mi Bn n0 y) (fun u t => (ms_P D ad cA) u t.heap) (ct_A (ms_A ad) sz)) args s 0 0 (ct_A (ms_A ad) sz)) (ms_P D ad cA (ms_w M 20 0 0)) (ct_A (ms_A ad) sz) 51 [(0, .ref (ad 0)), (1, .int x), (2, .int y), (3, .int mi), (4, .int t9)] [] := by
    intro n
    induction n with
    | zero => intro t9 hT; exact hT.elim
    | succ n ih =>
      intro t9 hT hR
      refine aw_iload C d_Mo_gap_51 (j := 4) rfl ?_
      refine aw_iload_n C d_Mo_gap_53 rfl (j := 3) rfl ?_
      refine aw_iadd C d_Mo_gap_54 ?_
      refine aw_sipush (v := 10080) C d_Mo_gap_55 (by decide) ?_
      refine aw_icmp_gt (tgt := 95) C d_Mo_gap_58 (by decide) (fun c_58 => ?_) (fun c_58 => ?_)
      · refine aw_iconst (v := (-1)) C d_Mo_gap_95 (by decide) ?_
        exact aw_iret C hr hlk _ ⟨rfl, by rw [← hR]; simp only [gp_L]; rw [if_pos c_58]⟩ (fun H h => h) d_Mo_gap_96
      · refine aw_aload_n C d_Mo_gap_61 rfl (j := 0) rfl ?_
        refine aw_iload_n C d_Mo_gap_62 rfl (j := 1) rfl ?_
        refine aw_iload C d_Mo_gap_63 (j := 4) rfl ?_
        refine aw_iload C d_Mo_gap_65 (j := 4) rfl ?_
        refine aw_iload_n C d_Mo_gap_67 rfl (j := 3) rfl ?_
        refine aw_iadd C d_Mo_gap_68 ?_
        refine aw_callVi (P9 := fun r u => ms_P D ad cA u) [.int x, .int t9, .int (t9 + mi)] C hK (c_Mo_meeting l D ad cA (ms_w M 20 0 0) Bn x t9 (t9 + mi) hBn h29) (cw_Mo_Mo_meeting C.2.2.2.2 rfl rfl (by decide)) rfl (fun H h => aw_recv hK rfl (h 0 (by decide))) (fun H h => h) (fun q h => Or.inl h) (fun q h => Or.inr (by rw [← hsz]; exact h)) rfl (Nat.le_of_ble_eq_true rfl) d_Mo_gap_69 (by decide) (fun H H1 r u _ _ hB _ _ => hB) ?_
        rintro r u ⟨rfl, rfl⟩
        refine aw_istore (i := 5) (lv' := [(5, .int (mm_L (ms_w M 20 0 0) x t9 (t9 + mi) Bn)), (0, .ref (ad 0)), (1, .int x), (2, .int y), (3, .int mi), (4, .int t9)]) C d_Mo_gap_72 (by decide) rfl ?_
        refine aw_iload C d_Mo_gap_74 (j := 0) rfl ?_
        refine aw_iconst (v := (-1)) C d_Mo_gap_76 (by decide) ?_
        refine aw_icmp_ne (tgt := 83) C d_Mo_gap_77 (by decide) (fun c_77 => ?_) (fun c_77 => ?_)
        · obtain ⟨k, hk, e9⟩ := (mm_lt (ms_w M 20 0 0) x t9 (t9 + mi) Bn).resolve_left c_77
          refine aw_aload_n C d_Mo_gap_83 rfl (j := 1) rfl ?_
          refine gm_to C hK d_Mo_gap_84 ?_
          refine aw_iload C d_Mo_gap_87 (j := 0) rfl ?_
          refine lm_12 (v := M 12 k) C hK k e9 (show k < 300 by omega) rfl d_Mo_gap_89 ?_
          refine aw_istore (i := 4) (lv' := [(4, .int (M 12 k)), (5, .int (mm_L (ms_w M 20 0 0) x t9 (t9 + mi) Bn)), (0, .ref (ad 0)), (1, .int x), (2, .int y), (3, .int mi)]) C d_Mo_gap_90 (by decide) rfl ?_
          refine aw_goto (tgt := 51) C d_Mo_gap_92 (by decide) ?_
          have e8 : (ms_w M 20 0 0) 12 k = (ms_w M 20 0 0) 12 (mm_L (ms_w M 20 0 0) x t9 (t9 + mi) Bn).toNatClampNeg := by rw [e9, nI_clamp (by omega)]
          exact aw_lv [2, 3, 4, 5, 0] rfl (ih _ (by rw [show M 12 k = (ms_w M 20 0 0) 12 (mm_L (ms_w M 20 0 0) x t9 (t9 + mi) Bn).toNatClampNeg from e8]; exact (hT.resolve_left c_58).resolve_left c_77) (by rw [← hR, show M 12 k = (ms_w M 20 0 0) 12 (mm_L (ms_w M 20 0 0) x t9 (t9 + mi) Bn).toNatClampNeg from e8]; simp only [gp_L]; rw [if_neg c_58, if_neg c_77]))
        · refine aw_iload C d_Mo_gap_80 (j := 5) rfl ?_
          exact aw_iret C hr hlk _ ⟨rfl, by rw [← hR]; simp only [gp_L]; rw [if_neg c_58, if_pos c_77]⟩ (fun H h => h) d_Mo_gap_82
  refine aw_lv (lv' := [(0, .ref (ad 0)), (1, .int x), (2, .int y), (3, .int mi)]) [0, 1, 2, 3] rfl ?_
  refine aw_aload_n C d_Mo_gap_0 rfl (j := 0) rfl ?_
  refine aw_aload_n C d_Mo_gap_1 rfl (j := 0) rfl ?_
  refine aw_iload_n C d_Mo_gap_2 rfl (j := 1) rfl ?_
  refine aw_callVi (P9 := fun r u => ms_P D ad cA u) [.int x] C hK (c_Mo_isRoom l D ad cA M x) (cw_Mo_Mo_isRoom C.2.2.2.2 rfl rfl (by decide)) rfl (fun H h => aw_recv hK rfl (h 0 (by decide))) (fun H h => h) (fun q h => Or.inl h) (fun q h => Or.inr (by rw [← hsz]; exact h)) rfl (Nat.le_of_ble_eq_true rfl) d_Mo_gap_3 (by decide) (fun H H1 r u _ _ hB _ _ => hB) ?_
  rintro r u ⟨rfl, rfl⟩
  refine aw_if_eq (tgt := 35) C d_Mo_gap_6 (by decide) (fun c_6 => ?_) (fun c_6 => ?_)
  · exact absurd c_6 h0
  · refine aw_iload_n C d_Mo_gap_9 rfl (j := 2) rfl ?_
    refine aw_iconst (v := 0) C d_Mo_gap_10 (by decide) ?_
    refine aw_sipush (v := 10079) C d_Mo_gap_11 (by decide) ?_
    refine aw_callSi (Cn := "") (P9 := fun r u => ms_P D ad cA M) [.int y, .int 0, .int 10079] C hK (c_Mo_in l D cA (ms_A ad) (ms_P D ad cA M) y 0 10079) (cw_Mo_Mo_in C.2.2.2.2 rfl rfl (by decide)) rfl (fun H h => h) (fun q h => Or.inl h) (fun q h => Or.inr (by rw [← hsz]; exact h)) rfl (Nat.le_of_ble_eq_true rfl) d_Mo_gap_14 (by decide) (fun H H1 r u _ _ hB _ _ => hB) ?_
    rintro r u rfl
    refine aw_if_eq (tgt := 35) C d_Mo_gap_17 (by decide) (fun c_17 => ?_) (fun c_17 => ?_)
    · exact absurd c_17 h1
    · refine aw_iload_n C d_Mo_gap_20 rfl (j := 3) rfl ?_
      refine aw_iconst (v := 1) C d_Mo_gap_21 (by decide) ?_
      refine aw_sipush (v := 10080) C d_Mo_gap_22 (by decide) ?_
      refine aw_callSi (Cn := "") (P9 := fun r u => ms_P D ad cA M) [.int mi, .int 1, .int 10080] C hK (c_Mo_in l D cA (ms_A ad) (ms_P D ad cA M) mi 1 10080) (cw_Mo_Mo_in C.2.2.2.2 rfl rfl (by decide)) rfl (fun H h => h) (fun q h => Or.inl h) (fun q h => Or.inr (by rw [← hsz]; exact h)) rfl (Nat.le_of_ble_eq_true rfl) d_Mo_gap_25 (by decide) (fun H H1 r u _ _ hB _ _ => hB) ?_
      rintro r u rfl
      refine aw_if_eq (tgt := 35) C d_Mo_gap_28 (by decide) (fun c_28 => ?_) (fun c_28 => ?_)
      · exact absurd c_28 h2
      · refine aw_iconst (v := 0) C d_Mo_gap_31 (by decide) ?_
        refine aw_goto (tgt := 36) C d_Mo_gap_32 (by decide) ?_
        refine pm_thrown (x := 0) C hK hI  d_Mo_gap_36 ?_
        refine aw_aload_n C d_Mo_gap_39 rfl (j := 0) rfl ?_
        refine gm_thrown (v := 0) C hK rfl d_Mo_gap_40 ?_
        refine aw_if_le (tgt := 48) C d_Mo_gap_43 (by decide) (fun _ => ?_) (fun h => absurd h (by decide))
        refine aw_iload_n C d_Mo_gap_48 rfl (j := 2) rfl ?_
        refine aw_istore (i := 4) (lv' := [(4, .int y), (0, .ref (ad 0)), (1, .int x), (2, .int y), (3, .int mi)]) C d_Mo_gap_49 (by decide) rfl ?_
        exact aw_lv [1, 2, 3, 4, 0] rfl (lp n0 y hT rfl)
set_option maxHeartbeats 4000000 in
set_option maxRecDepth 100000 in
theorem b_Mo_gap_t (l : Launch) (D : va_G) (ad : Nat → Nat) (cA : Nat → ClassId) (M : ms_S) (hI : ms_I ad) (x y mi : Int32) (h0 : mo_in x 0 (M 28 0 - 1) = 0 ∨ mo_in y 0 10079 = 0 ∨ mo_in mi 1 10080 = 0) : Ct_i l y_Mo_gap b_Mo_gap 6 (some .int) ({ frames := 2, cells := 0, slots := 0, locals := 43 } : Room) 0 0 D (ds_ty cA) (ms_A ad) [.ref (ad 0), .int x, .int y, .int mi] (ms_P D ad cA M) (fun (r : Int32) (u : ms_S) => u = ms_w M 20 0 1 ∧ r = 0) (ms_P D ad cA) := by
  intro sz
  refine ct_of (by decide) (Nat.le_of_ble_eq_true rfl) ?_
  intro p e s m args below meth c hsz C hr hlk hnm hK
  refine aw_lv (lv' := [(0, .ref (ad 0)), (1, .int x), (2, .int y), (3, .int mi)]) [0, 1, 2, 3] rfl ?_
  refine aw_aload_n C d_Mo_gap_0 rfl (j := 0) rfl ?_
  refine aw_aload_n C d_Mo_gap_1 rfl (j := 0) rfl ?_
  refine aw_iload_n C d_Mo_gap_2 rfl (j := 1) rfl ?_
  refine aw_callVi (P9 := fun r u => ms_P D ad cA u) [.int x] C hK (c_Mo_isRoom l D ad cA M x) (cw_Mo_Mo_isRoom C.2.2.2.2 rfl rfl (by decide)) rfl (fun H h => aw_recv hK rfl (h 0 (by decide))) (fun H h => h) (fun q h => Or.inl h) (fun q h => Or.inr (by rw [← hsz]; exact h)) rfl (Nat.le_of_ble_eq_true rfl) d_Mo_gap_3 (by decide) (fun H H1 r u _ _ hB _ _ => hB) ?_
  rintro r u ⟨rfl, rfl⟩
  refine aw_if_eq (tgt := 35) C d_Mo_gap_6 (by decide) (fun c_6 => ?_) (fun c_6 => ?_)
  · refine aw_iconst (v := 1) C d_Mo_gap_35 (by decide) ?_
    refine pm_thrown (x := 1) C hK hI  d_Mo_gap_36 ?_
    refine aw_aload_n C d_Mo_gap_39 rfl (j := 0) rfl ?_
    refine gm_thrown (v := 1) C hK rfl d_Mo_gap_40 ?_
    refine aw_if_le (tgt := 48) C d_Mo_gap_43 (by decide) (fun h => absurd h (by decide)) (fun _ => ?_)
    refine aw_iconst (v := 0) C d_Mo_gap_46 (by decide) ?_
    exact aw_iret C hr hlk _ ⟨rfl, rfl⟩ (fun H h => h) d_Mo_gap_47
  · refine aw_iload_n C d_Mo_gap_9 rfl (j := 2) rfl ?_
    refine aw_iconst (v := 0) C d_Mo_gap_10 (by decide) ?_
    refine aw_sipush (v := 10079) C d_Mo_gap_11 (by decide) ?_
    refine aw_callSi (Cn := "") (P9 := fun r u => ms_P D ad cA M) [.int y, .int 0, .int 10079] C hK (c_Mo_in l D cA (ms_A ad) (ms_P D ad cA M) y 0 10079) (cw_Mo_Mo_in C.2.2.2.2 rfl rfl (by decide)) rfl (fun H h => h) (fun q h => Or.inl h) (fun q h => Or.inr (by rw [← hsz]; exact h)) rfl (Nat.le_of_ble_eq_true rfl) d_Mo_gap_14 (by decide) (fun H H1 r u _ _ hB _ _ => hB) ?_
    rintro r u rfl
    refine aw_if_eq (tgt := 35) C d_Mo_gap_17 (by decide) (fun c_17 => ?_) (fun c_17 => ?_)
    · refine aw_iconst (v := 1) C d_Mo_gap_35 (by decide) ?_
      refine pm_thrown (x := 1) C hK hI  d_Mo_gap_36 ?_
      refine aw_aload_n C d_Mo_gap_39 rfl (j := 0) rfl ?_
      refine gm_thrown (v := 1) C hK rfl d_Mo_gap_40 ?_
      refine aw_if_le (tgt := 48) C d_Mo_gap_43 (by decide) (fun h => absurd h (by decide)) (fun _ => ?_)
      refine aw_iconst (v := 0) C d_Mo_gap_46 (by decide) ?_
      exact aw_iret C hr hlk _ ⟨rfl, rfl⟩ (fun H h => h) d_Mo_gap_47
    · refine aw_iload_n C d_Mo_gap_20 rfl (j := 3) rfl ?_
      refine aw_iconst (v := 1) C d_Mo_gap_21 (by decide) ?_
      refine aw_sipush (v := 10080) C d_Mo_gap_22 (by decide) ?_
      refine aw_callSi (Cn := "") (P9 := fun r u => ms_P D ad cA M) [.int mi, .int 1, .int 10080] C hK (c_Mo_in l D cA (ms_A ad) (ms_P D ad cA M) mi 1 10080) (cw_Mo_Mo_in C.2.2.2.2 rfl rfl (by decide)) rfl (fun H h => h) (fun q h => Or.inl h) (fun q h => Or.inr (by rw [← hsz]; exact h)) rfl (Nat.le_of_ble_eq_true rfl) d_Mo_gap_25 (by decide) (fun H H1 r u _ _ hB _ _ => hB) ?_
      rintro r u rfl
      refine aw_if_eq (tgt := 35) C d_Mo_gap_28 (by decide) (fun c_28 => ?_) (fun c_28 => ?_)
      · refine aw_iconst (v := 1) C d_Mo_gap_35 (by decide) ?_
        refine pm_thrown (x := 1) C hK hI  d_Mo_gap_36 ?_
        refine aw_aload_n C d_Mo_gap_39 rfl (j := 0) rfl ?_
        refine gm_thrown (v := 1) C hK rfl d_Mo_gap_40 ?_
        refine aw_if_le (tgt := 48) C d_Mo_gap_43 (by decide) (fun h => absurd h (by decide)) (fun _ => ?_)
        refine aw_iconst (v := 0) C d_Mo_gap_46 (by decide) ?_
        exact aw_iret C hr hlk _ ⟨rfl, rfl⟩ (fun H h => h) d_Mo_gap_47
      · exact absurd h0 (fun h => h.elim c_6 (fun h => h.elim c_17 c_28))
def wm_L (M : ms_S) : Nat → Int32
  | 0 => 0
  | k + 1 => if M 14 k = 0 then wm_L M k else wm_L M k + M 13 k
set_option maxHeartbeats 4000000 in
set_option maxRecDepth 100000 in
theorem c_Mo_waste (l : Launch) (D : va_G) (ad : Nat → Nat) (cA : Nat → ClassId) (M : ms_S) (hI : ms_I ad) (Bn : Nat) (hBn : Bn ≤ 300) (h29 : M 29 0 = nI Bn)  : Ct_i l y_Mo_waste b_Mo_waste 3 (some .int) ({ frames := 0, cells := 0, slots := 0, locals := 0 } : Room) 0 0 D (ds_ty cA) (ms_A ad) [.ref (ad 0)] (ms_P D ad cA M) (fun (r : Int32) (u : ms_S) => u = ms_w M 20 0 0 ∧ r = wm_L M Bn) (ms_P D ad cA) := by
  intro sz
  refine ct_of (by decide) (Nat.le_of_ble_eq_true rfl) ?_
  intro p e s m args below meth c hsz C hr hlk hnm hK
  have lp : ∀ (n k : Nat), k + n = Bn → AW p l e ({ frames := 0, cells := 0, slots := 0, locals := 0 } : Room) s m args below meth c 3 0 0 (MQ below (va_Qi (fun (r : Int32) (u : ms_S) => u = ms_w M 20 0 0 ∧ r = wm_L M Bn) (fun u t => (ms_P D ad cA) u t.heap) (ct_A (ms_A ad) sz)) args s 0 0 (ct_A (ms_A ad) sz)) (ms_P D ad cA (ms_w M 20 0 0)) (ct_A (ms_A ad) sz) 9 [(0, .ref (ad 0)), (1, .int (wm_L M k)), (2, .int (nI k))] [] := by
    intro n
    induction n with
    | zero =>
      intro k hkn
      refine aw_iload_n C d_Mo_waste_9 rfl (j := 2) rfl ?_
      refine aw_aload_n C d_Mo_waste_10 rfl (j := 0) rfl ?_
      refine gm_bookings (v := M 29 0) C hK rfl d_Mo_waste_11 ?_
      refine aw_icmp_ge (tgt := 45) C d_Mo_waste_14 (by decide) (fun c_14 => ?_) (fun c_14 => ?_)
      · refine aw_iload_n C d_Mo_waste_45 rfl (j := 1) rfl ?_
        obtain rfl : k = Bn := by omega
        exact aw_iret C hr hlk _ ⟨rfl, rfl⟩ (fun H h => h) d_Mo_waste_46
      · exact absurd (by rw [h29, show k = Bn by omega]; exact nI_le (Nat.le_refl _) (by omega)) c_14
    | succ n ih =>
      intro k hkn
      refine aw_iload_n C d_Mo_waste_9 rfl (j := 2) rfl ?_
      refine aw_aload_n C d_Mo_waste_10 rfl (j := 0) rfl ?_
      refine gm_bookings (v := M 29 0) C hK rfl d_Mo_waste_11 ?_
      refine aw_icmp_ge (tgt := 45) C d_Mo_waste_14 (by decide) (fun c_14 => ?_) (fun c_14 => ?_)
      · rw [h29] at c_14
        exact absurd c_14 (nI_ge (by omega) (by omega))
      · refine aw_aload_n C d_Mo_waste_17 rfl (j := 0) rfl ?_
        refine gm_there C hK d_Mo_waste_18 ?_
        refine aw_iload_n C d_Mo_waste_21 rfl (j := 2) rfl ?_
        refine lm_14 (v := M 14 k) C hK k rfl (show k < 300 by omega) rfl d_Mo_waste_22 ?_
        refine aw_if_eq (tgt := 37) C d_Mo_waste_23 (by decide) (fun c_23 => ?_) (fun c_23 => ?_)
        · refine aw_iload_n C d_Mo_waste_37 rfl (j := 1) rfl ?_
          refine aw_istore_n (i := 1) (lv' := [(1, .int (wm_L M k)), (0, .ref (ad 0)), (2, .int (nI k))]) C d_Mo_waste_38 rfl (by decide) rfl ?_
          refine aw_iinc (i := 2) (v := (nI (k + 1))) (lv' := [(2, .int (nI (k + 1))), (1, .int (wm_L M k)), (0, .ref (ad 0))]) C d_Mo_waste_39 (j := 2) rfl (nI_1 k) (by decide) rfl ?_
          refine aw_goto (tgt := 9) C d_Mo_waste_42 (by decide) ?_
          have e9 : (wm_L M k) = wm_L M (k + 1) := by show _ = (if _ then _ else _); rw [if_pos c_23]
          rw [e9]
          exact aw_lv [2, 1, 0] rfl (ih (k + 1) (by omega))
        · refine aw_iload_n C d_Mo_waste_26 rfl (j := 1) rfl ?_
          refine aw_aload_n C d_Mo_waste_27 rfl (j := 0) rfl ?_
          refine gm_left C hK d_Mo_waste_28 ?_
          refine aw_iload_n C d_Mo_waste_31 rfl (j := 2) rfl ?_
          refine lm_13 (v := M 13 k) C hK k rfl (show k < 300 by omega) rfl d_Mo_waste_32 ?_
          refine aw_iadd C d_Mo_waste_33 ?_
          refine aw_goto (tgt := 38) C d_Mo_waste_34 (by decide) ?_
          refine aw_istore_n (i := 1) (lv' := [(1, .int (((wm_L M k)) + ((M 13 k)))), (0, .ref (ad 0)), (2, .int (nI k))]) C d_Mo_waste_38 rfl (by decide) rfl ?_
          refine aw_iinc (i := 2) (v := (nI (k + 1))) (lv' := [(2, .int (nI (k + 1))), (1, .int (((wm_L M k)) + ((M 13 k)))), (0, .ref (ad 0))]) C d_Mo_waste_39 (j := 2) rfl (nI_1 k) (by decide) rfl ?_
          refine aw_goto (tgt := 9) C d_Mo_waste_42 (by decide) ?_
          have e9 : (((wm_L M k)) + ((M 13 k))) = wm_L M (k + 1) := by show _ = (if _ then _ else _); rw [if_neg c_23]
          rw [e9]
          exact aw_lv [2, 1, 0] rfl (ih (k + 1) (by omega))
  refine aw_lv (lv' := [(0, .ref (ad 0))]) [0] rfl ?_
  refine aw_aload_n C d_Mo_waste_0 rfl (j := 0) rfl ?_
  refine aw_iconst (v := 0) C d_Mo_waste_1 (by decide) ?_
  refine pm_thrown (x := 0) C hK hI  d_Mo_waste_2 ?_
  refine aw_iconst (v := 0) C d_Mo_waste_5 (by decide) ?_
  refine aw_istore_n (i := 1) (lv' := [(1, .int 0), (0, .ref (ad 0))]) C d_Mo_waste_6 rfl (by decide) rfl ?_
  refine aw_iconst (v := 0) C d_Mo_waste_7 (by decide) ?_
  refine aw_istore_n (i := 2) (lv' := [(2, .int 0), (1, .int 0), (0, .ref (ad 0))]) C d_Mo_waste_8 rfl (by decide) rfl ?_
  exact aw_lv [2, 1, 0] rfl (lp Bn 0 (by omega))
def bk_L (M : ms_S) (a b h : Int32) (Bn : Nat) : Nat → Nat → Option Nat → Option Nat
  | 0, _, o => o
  | n + 1, k, o => if M 9 k < h then bk_L M a b h Bn n (k + 1) o else (match o with
    | none => if mm_L M (nI k) a b Bn = -1 then bk_L M a b h Bn n (k + 1) (some k) else bk_L M a b h Bn n (k + 1) none
    | some j => if M 9 j ≤ M 9 k then bk_L M a b h Bn n (k + 1) (some j) else (if mm_L M (nI k) a b Bn = -1 then bk_L M a b h Bn n (k + 1) (some k) else bk_L M a b h Bn n (k + 1) (some j)))
def bk_I : Option Nat → Int32
  | none => -1
  | some j => nI j
def bk_F (M : ms_S) (a b h : Int32) (B r : Nat) : ms_S := ms_w (ms_w (ms_w (ms_w (ms_w (ms_w M 10 B (nI r)) 11 B a) 12 B b) 13 B (M 9 r - h)) 14 B 1) 29 0 (nI B + 1)
def bk_R (M : ms_S) (a b h : Int32) (B : Nat) : Option Nat → Int32 × ms_S
  | none => (-1, M)
  | some r => (nI B + 1 - 1, bk_F M a b h B r)
theorem nI_m1 {k : Nat} (h : k < 2 ^ 31) : ¬ nI k = -1 := fun e => nI_pos h (by rw [e]; decide)
set_option maxHeartbeats 4000000 in
set_option maxRecDepth 100000 in
theorem c_Mo_book (l : Launch) (D : va_G) (ad : Nat → Nat) (cA : Nat → ClassId) (M : ms_S) (hI : ms_I ad) (a b h9 : Int32) (Rn Bn : Nat) (hRn : Rn ≤ 8) (h28 : M 28 0 = nI Rn) (hBn : Bn < 300) (h29 : M 29 0 = nI Bn) (h0 : ¬ mo_in h9 1 200 = 0) (h1 : ¬ mo_in a 0 10080 = 0) (h2 : ¬ mo_in b 0 10080 = 0) (h3 : a < b)  : Ct_i l y_Mo_book b_Mo_book 6 (some .int) ({ frames := 1, cells := 0, slots := 0, locals := 25 } : Room) 0 0 D (ds_ty cA) (ms_A ad) [.ref (ad 0), .int a, .int b, .int h9] (ms_P D ad cA M) (fun (r : Int32) (u : ms_S) => u = (bk_R (ms_w M 20 0 0) a b h9 Bn (bk_L (ms_w M 20 0 0) a b h9 Bn Rn 0 none)).2 ∧ r = (bk_R (ms_w M 20 0 0) a b h9 Bn (bk_L (ms_w M 20 0 0) a b h9 Bn Rn 0 none)).1) (ms_P D ad cA) := by
  intro sz
  refine ct_of (by decide) (Nat.le_of_ble_eq_true rfl) ?_
  intro p e s m args below meth c hsz C hr hlk hnm hK
  have lp : ∀ (n k : Nat) (o : Option Nat), k + n = Rn → (∀ j, o = some j → j < 8) → bk_L (ms_w M 20 0 0) a b h9 Bn n k o = bk_L (ms_w M 20 0 0) a b h9 Bn Rn 0 none → AW p l e ({ frames := 1, cells := 0, slots := 0, locals := 25 } : Room) s m args below meth c 6 0 0 (MQ below (va_Qi (fun (r : Int32) (u : ms_S) => u = (bk_R (ms_w M 20 0 0) a b h9 Bn (bk_L (ms_w M 20 0 0) a b h9 Bn Rn 0 none)).2 ∧ r = (bk_R (ms_w M 20 0 0) a b h9 Bn (bk_L (ms_w M 20 0 0) a b h9 Bn Rn 0 none)).1) (fun u t => (ms_P D ad cA) u t.heap) (ct_A (ms_A ad) sz)) args s 0 0 (ct_A (ms_A ad) sz)) (ms_P D ad cA (ms_w M 20 0 0)) (ct_A (ms_A ad) sz) 76 [(0, .ref (ad 0)), (1, .int a), (2, .int b), (3, .int h9), (4, .int (bk_I o)), (5, .int (nI k))] [] := by
    intro n
    induction n with
    | zero =>
      intro k o hkn hj hR
      rcases o with _ | j
      · refine aw_iload C d_Mo_book_76 (j := 5) rfl ?_
        refine aw_aload_n C d_Mo_book_78 rfl (j := 0) rfl ?_
        refine gm_rooms (v := M 28 0) C hK rfl d_Mo_book_79 ?_
        refine aw_icmp_ge (tgt := 141) C d_Mo_book_82 (by decide) (fun c_82 => ?_) (fun c_82 => ?_)
        · refine aw_iload C d_Mo_book_141 (j := 4) rfl ?_
          refine aw_iconst (v := (-1)) C d_Mo_book_143 (by decide) ?_
          refine aw_icmp_ne (tgt := 149) C d_Mo_book_144 (by decide) (fun h => absurd h (by decide)) (fun _ => ?_)
          refine aw_iconst (v := (-1)) C d_Mo_book_147 (by decide) ?_
          exact aw_iret C hr hlk _ ⟨by rw [← hR]; rfl, by rw [← hR]; rfl⟩ (fun H h => h) d_Mo_book_148
        · exact absurd (by rw [h28, show k = Rn by omega]; exact nI_le (Nat.le_refl _) (by omega)) c_82
      · refine aw_iload C d_Mo_book_76 (j := 5) rfl ?_
        refine aw_aload_n C d_Mo_book_78 rfl (j := 0) rfl ?_
        refine gm_rooms (v := M 28 0) C hK rfl d_Mo_book_79 ?_
        refine aw_icmp_ge (tgt := 141) C d_Mo_book_82 (by decide) (fun c_82 => ?_) (fun c_82 => ?_)
        · refine aw_iload C d_Mo_book_141 (j := 4) rfl ?_
          refine aw_iconst (v := (-1)) C d_Mo_book_143 (by decide) ?_
          refine aw_icmp_ne (tgt := 149) C d_Mo_book_144 (by decide) (fun c_144 => ?_) (fun c_144 => ?_)
          · refine aw_aload_n C d_Mo_book_149 rfl (j := 0) rfl ?_
            refine gm_room C hK d_Mo_book_150 ?_
            refine aw_aload_n C d_Mo_book_153 rfl (j := 0) rfl ?_
            refine gm_bookings (v := nI Bn) C hK h29 d_Mo_book_154 ?_
            refine aw_iload C d_Mo_book_157 (j := 4) rfl ?_
            refine sm_10 (y := (nI j)) C hK hI  Bn rfl hBn d_Mo_book_159 ?_
            refine aw_aload_n C d_Mo_book_160 rfl (j := 0) rfl ?_
            refine gm_from C hK d_Mo_book_161 ?_
            refine aw_aload_n C d_Mo_book_164 rfl (j := 0) rfl ?_
            refine gm_bookings (v := nI Bn) C hK h29 d_Mo_book_165 ?_
            refine aw_iload_n C d_Mo_book_168 rfl (j := 1) rfl ?_
            refine sm_11 (y := a) C hK hI  Bn rfl hBn d_Mo_book_169 ?_
            refine aw_aload_n C d_Mo_book_170 rfl (j := 0) rfl ?_
            refine gm_to C hK d_Mo_book_171 ?_
            refine aw_aload_n C d_Mo_book_174 rfl (j := 0) rfl ?_
            refine gm_bookings (v := nI Bn) C hK h29 d_Mo_book_175 ?_
            refine aw_iload_n C d_Mo_book_178 rfl (j := 2) rfl ?_
            refine sm_12 (y := b) C hK hI  Bn rfl hBn d_Mo_book_179 ?_
            refine aw_aload_n C d_Mo_book_180 rfl (j := 0) rfl ?_
            refine gm_left C hK d_Mo_book_181 ?_
            refine aw_aload_n C d_Mo_book_184 rfl (j := 0) rfl ?_
            refine gm_bookings (v := nI Bn) C hK h29 d_Mo_book_185 ?_
            refine aw_aload_n C d_Mo_book_188 rfl (j := 0) rfl ?_
            refine gm_places C hK d_Mo_book_189 ?_
            refine aw_iload C d_Mo_book_192 (j := 4) rfl ?_
            refine lm_9 (v := M 9 j) C hK j rfl (hj j rfl) rfl d_Mo_book_194 ?_
            refine aw_iload_n C d_Mo_book_195 rfl (j := 3) rfl ?_
            refine aw_isub C d_Mo_book_196 ?_
            refine sm_13 (y := (((M 9 j)) - h9)) C hK hI  Bn rfl hBn d_Mo_book_197 ?_
            refine aw_aload_n C d_Mo_book_198 rfl (j := 0) rfl ?_
            refine gm_there C hK d_Mo_book_199 ?_
            refine aw_aload_n C d_Mo_book_202 rfl (j := 0) rfl ?_
            refine gm_bookings (v := nI Bn) C hK h29 d_Mo_book_203 ?_
            refine aw_iconst (v := 1) C d_Mo_book_206 (by decide) ?_
            refine sm_14 (y := 1) C hK hI (Or.inr rfl) Bn rfl hBn d_Mo_book_207 ?_
            refine aw_aload_n C d_Mo_book_208 rfl (j := 0) rfl ?_
            refine aw_dup C d_Mo_book_209 rfl ?_
            refine gm_bookings (v := nI Bn) C hK h29 d_Mo_book_210 ?_
            refine aw_iconst (v := 1) C d_Mo_book_213 (by decide) ?_
            refine aw_iadd C d_Mo_book_214 ?_
            refine pm_bookings (x := (((nI Bn)) + 1)) C hK hI  d_Mo_book_215 ?_
            refine aw_aload_n C d_Mo_book_218 rfl (j := 0) rfl ?_
            refine gm_bookings (v := (((nI Bn)) + 1)) C hK rfl d_Mo_book_219 ?_
            refine aw_iconst (v := 1) C d_Mo_book_222 (by decide) ?_
            refine aw_isub C d_Mo_book_223 ?_
            exact aw_iret C hr hlk _ ⟨by rw [← hR]; rfl, by rw [← hR]; rfl⟩ (fun H h => h) d_Mo_book_224
          · exact absurd c_144 (nI_m1 (by have := hj j rfl; omega))
        · exact absurd (by rw [h28, show k = Rn by omega]; exact nI_le (Nat.le_refl _) (by omega)) c_82
    | succ n ih =>
      intro k o hkn hj hR
      rcases o with _ | j
      · refine aw_iload C d_Mo_book_76 (j := 5) rfl ?_
        refine aw_aload_n C d_Mo_book_78 rfl (j := 0) rfl ?_
        refine gm_rooms (v := M 28 0) C hK rfl d_Mo_book_79 ?_
        refine aw_icmp_ge (tgt := 141) C d_Mo_book_82 (by decide) (fun c_82 => ?_) (fun c_82 => ?_)
        · rw [h28] at c_82
          exact absurd c_82 (nI_ge (by omega) (by omega))
        · refine aw_aload_n C d_Mo_book_85 rfl (j := 0) rfl ?_
          refine gm_places C hK d_Mo_book_86 ?_
          refine aw_iload C d_Mo_book_89 (j := 5) rfl ?_
          refine lm_9 (v := M 9 k) C hK k rfl (show k < 8 by omega) rfl d_Mo_book_91 ?_
          refine aw_iload_n C d_Mo_book_92 rfl (j := 3) rfl ?_
          refine aw_icmp_lt (tgt := 135) C d_Mo_book_93 (by decide) (fun c_93 => ?_) (fun c_93 => ?_)
          · refine aw_iinc (i := 5) (v := (nI (k + 1))) (lv' := [(5, .int (nI (k + 1))), (0, .ref (ad 0)), (1, .int a), (2, .int b), (3, .int h9), (4, .int (-1))]) C d_Mo_book_135 (j := 5) rfl (nI_1 k) (by decide) rfl ?_
            refine aw_goto (tgt := 76) C d_Mo_book_138 (by decide) ?_
            have c_93 : (ms_w M 20 0 0) 9 k < h9 := c_93
            exact aw_lv [1, 2, 3, 4, 5, 0] rfl (ih (k + 1) none (by omega) (fun z hz => by cases hz) (by rw [← hR]; simp only [bk_L]; rw [if_pos c_93]))
          · refine aw_iload C d_Mo_book_96 (j := 4) rfl ?_
            refine aw_iconst (v := (-1)) C d_Mo_book_98 (by decide) ?_
            refine aw_icmp_eq (tgt := 119) C d_Mo_book_99 (by decide) (fun _ => ?_) (fun h => absurd h (by decide))
            refine aw_aload_n C d_Mo_book_119 rfl (j := 0) rfl ?_
            refine aw_iload C d_Mo_book_120 (j := 5) rfl ?_
            refine aw_iload_n C d_Mo_book_122 rfl (j := 1) rfl ?_
            refine aw_iload_n C d_Mo_book_123 rfl (j := 2) rfl ?_
            refine aw_callVi (P9 := fun r u => ms_P D ad cA u) [.int (nI k), .int a, .int b] C hK (c_Mo_meeting l D ad cA (ms_w M 20 0 0) Bn (nI k) a b (by omega) h29) (cw_Mo_Mo_meeting C.2.2.2.2 rfl rfl (by decide)) rfl (fun H h => aw_recv hK rfl (h 0 (by decide))) (fun H h => h) (fun q h => Or.inl h) (fun q h => Or.inr (by rw [← hsz]; exact h)) rfl (Nat.le_of_ble_eq_true rfl) d_Mo_book_124 (by decide) (fun H H1 r u _ _ hB _ _ => hB) ?_
            rintro r u ⟨rfl, rfl⟩
            refine aw_iconst (v := (-1)) C d_Mo_book_127 (by decide) ?_
            refine aw_icmp_ne (tgt := 135) C d_Mo_book_128 (by decide) (fun c_128 => ?_) (fun c_128 => ?_)
            · refine aw_iinc (i := 5) (v := (nI (k + 1))) (lv' := [(5, .int (nI (k + 1))), (0, .ref (ad 0)), (1, .int a), (2, .int b), (3, .int h9), (4, .int (-1))]) C d_Mo_book_135 (j := 5) rfl (nI_1 k) (by decide) rfl ?_
              refine aw_goto (tgt := 76) C d_Mo_book_138 (by decide) ?_
              have c_93 : ¬ (ms_w M 20 0 0) 9 k < h9 := c_93
              exact aw_lv [1, 2, 3, 4, 5, 0] rfl (ih (k + 1) none (by omega) (fun z hz => by cases hz) (by rw [← hR]; simp only [bk_L]; rw [if_neg c_93, if_neg c_128]))
            · refine aw_iload C d_Mo_book_131 (j := 5) rfl ?_
              refine aw_istore (i := 4) (lv' := [(4, .int (nI k)), (0, .ref (ad 0)), (1, .int a), (2, .int b), (3, .int h9), (5, .int (nI k))]) C d_Mo_book_133 (by decide) rfl ?_
              refine aw_iinc (i := 5) (v := (nI (k + 1))) (lv' := [(5, .int (nI (k + 1))), (4, .int (nI k)), (0, .ref (ad 0)), (1, .int a), (2, .int b), (3, .int h9)]) C d_Mo_book_135 (j := 5) rfl (nI_1 k) (by decide) rfl ?_
              refine aw_goto (tgt := 76) C d_Mo_book_138 (by decide) ?_
              have c_93 : ¬ (ms_w M 20 0 0) 9 k < h9 := c_93
              exact aw_lv [2, 3, 4, 5, 1, 0] rfl (ih (k + 1) (some k) (by omega) (fun z hz => by cases hz; omega) (by rw [← hR]; simp only [bk_L]; rw [if_neg c_93, if_pos c_128]))
      · refine aw_iload C d_Mo_book_76 (j := 5) rfl ?_
        refine aw_aload_n C d_Mo_book_78 rfl (j := 0) rfl ?_
        refine gm_rooms (v := M 28 0) C hK rfl d_Mo_book_79 ?_
        refine aw_icmp_ge (tgt := 141) C d_Mo_book_82 (by decide) (fun c_82 => ?_) (fun c_82 => ?_)
        · rw [h28] at c_82
          exact absurd c_82 (nI_ge (by omega) (by omega))
        · refine aw_aload_n C d_Mo_book_85 rfl (j := 0) rfl ?_
          refine gm_places C hK d_Mo_book_86 ?_
          refine aw_iload C d_Mo_book_89 (j := 5) rfl ?_
          refine lm_9 (v := M 9 k) C hK k rfl (show k < 8 by omega) rfl d_Mo_book_91 ?_
          refine aw_iload_n C d_Mo_book_92 rfl (j := 3) rfl ?_
          refine aw_icmp_lt (tgt := 135) C d_Mo_book_93 (by decide) (fun c_93 => ?_) (fun c_93 => ?_)
          · refine aw_iinc (i := 5) (v := (nI (k + 1))) (lv' := [(5, .int (nI (k + 1))), (0, .ref (ad 0)), (1, .int a), (2, .int b), (3, .int h9), (4, .int (nI j))]) C d_Mo_book_135 (j := 5) rfl (nI_1 k) (by decide) rfl ?_
            refine aw_goto (tgt := 76) C d_Mo_book_138 (by decide) ?_
            have c_93 : (ms_w M 20 0 0) 9 k < h9 := c_93
            exact aw_lv [1, 2, 3, 4, 5, 0] rfl (ih (k + 1) (some j) (by omega) hj (by rw [← hR]; simp only [bk_L]; rw [if_pos c_93]))
          · refine aw_iload C d_Mo_book_96 (j := 4) rfl ?_
            refine aw_iconst (v := (-1)) C d_Mo_book_98 (by decide) ?_
            refine aw_icmp_eq (tgt := 119) C d_Mo_book_99 (by decide) (fun c_99 => ?_) (fun c_99 => ?_)
            · exact absurd c_99 (nI_m1 (by have := hj j rfl; omega))
            · refine aw_aload_n C d_Mo_book_102 rfl (j := 0) rfl ?_
              refine gm_places C hK d_Mo_book_103 ?_
              refine aw_iload C d_Mo_book_106 (j := 5) rfl ?_
              refine lm_9 (v := M 9 k) C hK k rfl (show k < 8 by omega) rfl d_Mo_book_108 ?_
              refine aw_aload_n C d_Mo_book_109 rfl (j := 0) rfl ?_
              refine gm_places C hK d_Mo_book_110 ?_
              refine aw_iload C d_Mo_book_113 (j := 4) rfl ?_
              refine lm_9 (v := M 9 j) C hK j rfl (hj j rfl) rfl d_Mo_book_115 ?_
              refine aw_icmp_ge (tgt := 135) C d_Mo_book_116 (by decide) (fun c_116 => ?_) (fun c_116 => ?_)
              · refine aw_iinc (i := 5) (v := (nI (k + 1))) (lv' := [(5, .int (nI (k + 1))), (0, .ref (ad 0)), (1, .int a), (2, .int b), (3, .int h9), (4, .int (nI j))]) C d_Mo_book_135 (j := 5) rfl (nI_1 k) (by decide) rfl ?_
                refine aw_goto (tgt := 76) C d_Mo_book_138 (by decide) ?_
                have c_93 : ¬ (ms_w M 20 0 0) 9 k < h9 := c_93
                have c_116 : (ms_w M 20 0 0) 9 j ≤ (ms_w M 20 0 0) 9 k := c_116
                exact aw_lv [1, 2, 3, 4, 5, 0] rfl (ih (k + 1) (some j) (by omega) hj (by rw [← hR]; simp only [bk_L]; rw [if_neg c_93, if_pos c_116]))
              · refine aw_aload_n C d_Mo_book_119 rfl (j := 0) rfl ?_
                refine aw_iload C d_Mo_book_120 (j := 5) rfl ?_
                refine aw_iload_n C d_Mo_book_122 rfl (j := 1) rfl ?_
                refine aw_iload_n C d_Mo_book_123 rfl (j := 2) rfl ?_
                refine aw_callVi (P9 := fun r u => ms_P D ad cA u) [.int (nI k), .int a, .int b] C hK (c_Mo_meeting l D ad cA (ms_w M 20 0 0) Bn (nI k) a b (by omega) h29) (cw_Mo_Mo_meeting C.2.2.2.2 rfl rfl (by decide)) rfl (fun H h => aw_recv hK rfl (h 0 (by decide))) (fun H h => h) (fun q h => Or.inl h) (fun q h => Or.inr (by rw [← hsz]; exact h)) rfl (Nat.le_of_ble_eq_true rfl) d_Mo_book_124 (by decide) (fun H H1 r u _ _ hB _ _ => hB) ?_
                rintro r u ⟨rfl, rfl⟩
                refine aw_iconst (v := (-1)) C d_Mo_book_127 (by decide) ?_
                refine aw_icmp_ne (tgt := 135) C d_Mo_book_128 (by decide) (fun c_128 => ?_) (fun c_128 => ?_)
                · refine aw_iinc (i := 5) (v := (nI (k + 1))) (lv' := [(5, .int (nI (k + 1))), (0, .ref (ad 0)), (1, .int a), (2, .int b), (3, .int h9), (4, .int (nI j))]) C d_Mo_book_135 (j := 5) rfl (nI_1 k) (by decide) rfl ?_
                  refine aw_goto (tgt := 76) C d_Mo_book_138 (by decide) ?_
                  have c_93 : ¬ (ms_w M 20 0 0) 9 k < h9 := c_93
                  have c_116 : ¬ (ms_w M 20 0 0) 9 j ≤ (ms_w M 20 0 0) 9 k := c_116
                  exact aw_lv [1, 2, 3, 4, 5, 0] rfl (ih (k + 1) (some j) (by omega) hj (by rw [← hR]; simp only [bk_L]; rw [if_neg c_93, if_neg c_116, if_neg c_128]))
                · refine aw_iload C d_Mo_book_131 (j := 5) rfl ?_
                  refine aw_istore (i := 4) (lv' := [(4, .int (nI k)), (0, .ref (ad 0)), (1, .int a), (2, .int b), (3, .int h9), (5, .int (nI k))]) C d_Mo_book_133 (by decide) rfl ?_
                  refine aw_iinc (i := 5) (v := (nI (k + 1))) (lv' := [(5, .int (nI (k + 1))), (4, .int (nI k)), (0, .ref (ad 0)), (1, .int a), (2, .int b), (3, .int h9)]) C d_Mo_book_135 (j := 5) rfl (nI_1 k) (by decide) rfl ?_
                  refine aw_goto (tgt := 76) C d_Mo_book_138 (by decide) ?_
                  have c_93 : ¬ (ms_w M 20 0 0) 9 k < h9 := c_93
                  have c_116 : ¬ (ms_w M 20 0 0) 9 j ≤ (ms_w M 20 0 0) 9 k := c_116
                  exact aw_lv [2, 3, 4, 5, 1, 0] rfl (ih (k + 1) (some k) (by omega) (fun z hz => by cases hz; omega) (by rw [← hR]; simp only [bk_L]; rw [if_neg c_93, if_neg c_116, if_pos c_128]))
  refine aw_lv (lv' := [(0, .ref (ad 0)), (1, .int a), (2, .int b), (3, .int h9)]) [0, 1, 2, 3] rfl ?_
  refine aw_aload_n C d_Mo_book_0 rfl (j := 0) rfl ?_
  refine aw_iload_n C d_Mo_book_1 rfl (j := 3) rfl ?_
  refine aw_iconst (v := 1) C d_Mo_book_2 (by decide) ?_
  refine aw_sipush (v := 200) C d_Mo_book_3 (by decide) ?_
  refine aw_callSi (Cn := "") (P9 := fun r u => ms_P D ad cA M) [.int h9, .int 1, .int 200] C hK (c_Mo_in l D cA (ms_A ad) (ms_P D ad cA M) h9 1 200) (cw_Mo_Mo_in C.2.2.2.2 rfl rfl (by decide)) rfl (fun H h => h) (fun q h => Or.inl h) (fun q h => Or.inr (by rw [← hsz]; exact h)) rfl (Nat.le_of_ble_eq_true rfl) d_Mo_book_6 (by decide) (fun H H1 r u _ _ hB _ _ => hB) ?_
  rintro r u rfl
  refine aw_if_eq (tgt := 39) C d_Mo_book_9 (by decide) (fun c_9 => ?_) (fun c_9 => ?_)
  · exact absurd c_9 h0
  · refine aw_iload_n C d_Mo_book_12 rfl (j := 1) rfl ?_
    refine aw_iconst (v := 0) C d_Mo_book_13 (by decide) ?_
    refine aw_sipush (v := 10080) C d_Mo_book_14 (by decide) ?_
    refine aw_callSi (Cn := "") (P9 := fun r u => ms_P D ad cA M) [.int a, .int 0, .int 10080] C hK (c_Mo_in l D cA (ms_A ad) (ms_P D ad cA M) a 0 10080) (cw_Mo_Mo_in C.2.2.2.2 rfl rfl (by decide)) rfl (fun H h => h) (fun q h => Or.inl h) (fun q h => Or.inr (by rw [← hsz]; exact h)) rfl (Nat.le_of_ble_eq_true rfl) d_Mo_book_17 (by decide) (fun H H1 r u _ _ hB _ _ => hB) ?_
    rintro r u rfl
    refine aw_if_eq (tgt := 39) C d_Mo_book_20 (by decide) (fun c_20 => ?_) (fun c_20 => ?_)
    · exact absurd c_20 h1
    · refine aw_iload_n C d_Mo_book_23 rfl (j := 2) rfl ?_
      refine aw_iconst (v := 0) C d_Mo_book_24 (by decide) ?_
      refine aw_sipush (v := 10080) C d_Mo_book_25 (by decide) ?_
      refine aw_callSi (Cn := "") (P9 := fun r u => ms_P D ad cA M) [.int b, .int 0, .int 10080] C hK (c_Mo_in l D cA (ms_A ad) (ms_P D ad cA M) b 0 10080) (cw_Mo_Mo_in C.2.2.2.2 rfl rfl (by decide)) rfl (fun H h => h) (fun q h => Or.inl h) (fun q h => Or.inr (by rw [← hsz]; exact h)) rfl (Nat.le_of_ble_eq_true rfl) d_Mo_book_28 (by decide) (fun H H1 r u _ _ hB _ _ => hB) ?_
      rintro r u rfl
      refine aw_if_eq (tgt := 39) C d_Mo_book_31 (by decide) (fun c_31 => ?_) (fun c_31 => ?_)
      · exact absurd c_31 h2
      · refine aw_iload_n C d_Mo_book_34 rfl (j := 1) rfl ?_
        refine aw_iload_n C d_Mo_book_35 rfl (j := 2) rfl ?_
        refine aw_icmp_lt (tgt := 43) C d_Mo_book_36 (by decide) (fun c_36 => ?_) (fun c_36 => ?_)
        · refine aw_aload_n C d_Mo_book_43 rfl (j := 0) rfl ?_
          refine gm_bookings (v := M 29 0) C hK rfl d_Mo_book_44 ?_
          refine aw_sipush (v := 300) C d_Mo_book_47 (by decide) ?_
          refine aw_icmp_ne (tgt := 57) C d_Mo_book_50 (by decide) (fun c_50 => ?_) (fun c_50 => ?_)
          · refine aw_iconst (v := 0) C d_Mo_book_57 (by decide) ?_
            refine pm_thrown (x := 0) C hK hI  d_Mo_book_58 ?_
            refine aw_aload_n C d_Mo_book_61 rfl (j := 0) rfl ?_
            refine gm_thrown (v := 0) C hK rfl d_Mo_book_62 ?_
            refine aw_if_le (tgt := 70) C d_Mo_book_65 (by decide) (fun _ => ?_) (fun h => absurd h (by decide))
            refine aw_iconst (v := (-1)) C d_Mo_book_70 (by decide) ?_
            refine aw_istore (i := 4) (lv' := [(4, .int (-1)), (0, .ref (ad 0)), (1, .int a), (2, .int b), (3, .int h9)]) C d_Mo_book_71 (by decide) rfl ?_
            refine aw_iconst (v := 0) C d_Mo_book_73 (by decide) ?_
            refine aw_istore (i := 5) (lv' := [(5, .int 0), (4, .int (-1)), (0, .ref (ad 0)), (1, .int a), (2, .int b), (3, .int h9)]) C d_Mo_book_74 (by decide) rfl ?_
            exact aw_lv [2, 3, 4, 5, 1, 0] rfl (lp Rn 0 none (by omega) (fun z hz => by cases hz) rfl)
          · exact absurd (by rw [← h29, c_50]; rfl) (fun h : nI Bn = nI 300 => absurd ((nI_eq (by omega) (by omega)).mp h) (by omega))
        · exact absurd h3 c_36
set_option maxHeartbeats 4000000 in
set_option maxRecDepth 100000 in
theorem b_Mo_book1_t (l : Launch) (D : va_G) (ad : Nat → Nat) (cA : Nat → ClassId) (M : ms_S) (hI : ms_I ad) (a b h9 : Int32) (h0 : mo_in h9 1 200 = 0 ∨ mo_in a 0 10080 = 0 ∨ mo_in b 0 10080 = 0 ∨ ¬ a < b) : Ct_i l y_Mo_book b_Mo_book 6 (some .int) ({ frames := 1, cells := 0, slots := 0, locals := 25 } : Room) 0 0 D (ds_ty cA) (ms_A ad) [.ref (ad 0), .int a, .int b, .int h9] (ms_P D ad cA M) (fun (r : Int32) (u : ms_S) => u = ms_w M 20 0 1 ∧ r = 0) (ms_P D ad cA) := by
  intro sz
  refine ct_of (by decide) (Nat.le_of_ble_eq_true rfl) ?_
  intro p e s m args below meth c hsz C hr hlk hnm hK
  refine aw_lv (lv' := [(0, .ref (ad 0)), (1, .int a), (2, .int b), (3, .int h9)]) [0, 1, 2, 3] rfl ?_
  refine aw_aload_n C d_Mo_book_0 rfl (j := 0) rfl ?_
  refine aw_iload_n C d_Mo_book_1 rfl (j := 3) rfl ?_
  refine aw_iconst (v := 1) C d_Mo_book_2 (by decide) ?_
  refine aw_sipush (v := 200) C d_Mo_book_3 (by decide) ?_
  refine aw_callSi (Cn := "") (P9 := fun r u => ms_P D ad cA M) [.int h9, .int 1, .int 200] C hK (c_Mo_in l D cA (ms_A ad) (ms_P D ad cA M) h9 1 200) (cw_Mo_Mo_in C.2.2.2.2 rfl rfl (by decide)) rfl (fun H h => h) (fun q h => Or.inl h) (fun q h => Or.inr (by rw [← hsz]; exact h)) rfl (Nat.le_of_ble_eq_true rfl) d_Mo_book_6 (by decide) (fun H H1 r u _ _ hB _ _ => hB) ?_
  rintro r u rfl
  refine aw_if_eq (tgt := 39) C d_Mo_book_9 (by decide) (fun c_9 => ?_) (fun c_9 => ?_)
  · refine aw_iconst (v := 1) C d_Mo_book_39 (by decide) ?_
    refine aw_goto (tgt := 58) C d_Mo_book_40 (by decide) ?_
    refine pm_thrown (x := 1) C hK hI  d_Mo_book_58 ?_
    refine aw_aload_n C d_Mo_book_61 rfl (j := 0) rfl ?_
    refine gm_thrown (v := 1) C hK rfl d_Mo_book_62 ?_
    refine aw_if_le (tgt := 70) C d_Mo_book_65 (by decide) (fun h => absurd h (by decide)) (fun _ => ?_)
    refine aw_iconst (v := 0) C d_Mo_book_68 (by decide) ?_
    exact aw_iret C hr hlk _ ⟨rfl, rfl⟩ (fun H h => h) d_Mo_book_69
  · refine aw_iload_n C d_Mo_book_12 rfl (j := 1) rfl ?_
    refine aw_iconst (v := 0) C d_Mo_book_13 (by decide) ?_
    refine aw_sipush (v := 10080) C d_Mo_book_14 (by decide) ?_
    refine aw_callSi (Cn := "") (P9 := fun r u => ms_P D ad cA M) [.int a, .int 0, .int 10080] C hK (c_Mo_in l D cA (ms_A ad) (ms_P D ad cA M) a 0 10080) (cw_Mo_Mo_in C.2.2.2.2 rfl rfl (by decide)) rfl (fun H h => h) (fun q h => Or.inl h) (fun q h => Or.inr (by rw [← hsz]; exact h)) rfl (Nat.le_of_ble_eq_true rfl) d_Mo_book_17 (by decide) (fun H H1 r u _ _ hB _ _ => hB) ?_
    rintro r u rfl
    refine aw_if_eq (tgt := 39) C d_Mo_book_20 (by decide) (fun c_20 => ?_) (fun c_20 => ?_)
    · refine aw_iconst (v := 1) C d_Mo_book_39 (by decide) ?_
      refine aw_goto (tgt := 58) C d_Mo_book_40 (by decide) ?_
      refine pm_thrown (x := 1) C hK hI  d_Mo_book_58 ?_
      refine aw_aload_n C d_Mo_book_61 rfl (j := 0) rfl ?_
      refine gm_thrown (v := 1) C hK rfl d_Mo_book_62 ?_
      refine aw_if_le (tgt := 70) C d_Mo_book_65 (by decide) (fun h => absurd h (by decide)) (fun _ => ?_)
      refine aw_iconst (v := 0) C d_Mo_book_68 (by decide) ?_
      exact aw_iret C hr hlk _ ⟨rfl, rfl⟩ (fun H h => h) d_Mo_book_69
    · refine aw_iload_n C d_Mo_book_23 rfl (j := 2) rfl ?_
      refine aw_iconst (v := 0) C d_Mo_book_24 (by decide) ?_
      refine aw_sipush (v := 10080) C d_Mo_book_25 (by decide) ?_
      refine aw_callSi (Cn := "") (P9 := fun r u => ms_P D ad cA M) [.int b, .int 0, .int 10080] C hK (c_Mo_in l D cA (ms_A ad) (ms_P D ad cA M) b 0 10080) (cw_Mo_Mo_in C.2.2.2.2 rfl rfl (by decide)) rfl (fun H h => h) (fun q h => Or.inl h) (fun q h => Or.inr (by rw [← hsz]; exact h)) rfl (Nat.le_of_ble_eq_true rfl) d_Mo_book_28 (by decide) (fun H H1 r u _ _ hB _ _ => hB) ?_
      rintro r u rfl
      refine aw_if_eq (tgt := 39) C d_Mo_book_31 (by decide) (fun c_31 => ?_) (fun c_31 => ?_)
      · refine aw_iconst (v := 1) C d_Mo_book_39 (by decide) ?_
        refine aw_goto (tgt := 58) C d_Mo_book_40 (by decide) ?_
        refine pm_thrown (x := 1) C hK hI  d_Mo_book_58 ?_
        refine aw_aload_n C d_Mo_book_61 rfl (j := 0) rfl ?_
        refine gm_thrown (v := 1) C hK rfl d_Mo_book_62 ?_
        refine aw_if_le (tgt := 70) C d_Mo_book_65 (by decide) (fun h => absurd h (by decide)) (fun _ => ?_)
        refine aw_iconst (v := 0) C d_Mo_book_68 (by decide) ?_
        exact aw_iret C hr hlk _ ⟨rfl, rfl⟩ (fun H h => h) d_Mo_book_69
      · refine aw_iload_n C d_Mo_book_34 rfl (j := 1) rfl ?_
        refine aw_iload_n C d_Mo_book_35 rfl (j := 2) rfl ?_
        refine aw_icmp_lt (tgt := 43) C d_Mo_book_36 (by decide) (fun c_36 => ?_) (fun c_36 => ?_)
        · exact absurd h0 (fun h => h.elim c_9 (fun h => h.elim c_20 (fun h => h.elim c_31 (fun h => h c_36))))
        · refine aw_iconst (v := 1) C d_Mo_book_39 (by decide) ?_
          refine aw_goto (tgt := 58) C d_Mo_book_40 (by decide) ?_
          refine pm_thrown (x := 1) C hK hI  d_Mo_book_58 ?_
          refine aw_aload_n C d_Mo_book_61 rfl (j := 0) rfl ?_
          refine gm_thrown (v := 1) C hK rfl d_Mo_book_62 ?_
          refine aw_if_le (tgt := 70) C d_Mo_book_65 (by decide) (fun h => absurd h (by decide)) (fun _ => ?_)
          refine aw_iconst (v := 0) C d_Mo_book_68 (by decide) ?_
          exact aw_iret C hr hlk _ ⟨rfl, rfl⟩ (fun H h => h) d_Mo_book_69
set_option maxHeartbeats 4000000 in
set_option maxRecDepth 100000 in
theorem b_Mo_book2_t (l : Launch) (D : va_G) (ad : Nat → Nat) (cA : Nat → ClassId) (M : ms_S) (hI : ms_I ad) (a b h9 : Int32) (h0 : ¬ mo_in h9 1 200 = 0) (h1 : ¬ mo_in a 0 10080 = 0) (h2 : ¬ mo_in b 0 10080 = 0) (h3 : a < b)  (h4 : M 29 0 = 300) : Ct_i l y_Mo_book b_Mo_book 6 (some .int) ({ frames := 1, cells := 0, slots := 0, locals := 25 } : Room) 0 0 D (ds_ty cA) (ms_A ad) [.ref (ad 0), .int a, .int b, .int h9] (ms_P D ad cA M) (fun (r : Int32) (u : ms_S) => u = ms_w M 20 0 2 ∧ r = 0) (ms_P D ad cA) := by
  intro sz
  refine ct_of (by decide) (Nat.le_of_ble_eq_true rfl) ?_
  intro p e s m args below meth c hsz C hr hlk hnm hK
  refine aw_lv (lv' := [(0, .ref (ad 0)), (1, .int a), (2, .int b), (3, .int h9)]) [0, 1, 2, 3] rfl ?_
  refine aw_aload_n C d_Mo_book_0 rfl (j := 0) rfl ?_
  refine aw_iload_n C d_Mo_book_1 rfl (j := 3) rfl ?_
  refine aw_iconst (v := 1) C d_Mo_book_2 (by decide) ?_
  refine aw_sipush (v := 200) C d_Mo_book_3 (by decide) ?_
  refine aw_callSi (Cn := "") (P9 := fun r u => ms_P D ad cA M) [.int h9, .int 1, .int 200] C hK (c_Mo_in l D cA (ms_A ad) (ms_P D ad cA M) h9 1 200) (cw_Mo_Mo_in C.2.2.2.2 rfl rfl (by decide)) rfl (fun H h => h) (fun q h => Or.inl h) (fun q h => Or.inr (by rw [← hsz]; exact h)) rfl (Nat.le_of_ble_eq_true rfl) d_Mo_book_6 (by decide) (fun H H1 r u _ _ hB _ _ => hB) ?_
  rintro r u rfl
  refine aw_if_eq (tgt := 39) C d_Mo_book_9 (by decide) (fun c_9 => ?_) (fun c_9 => ?_)
  · exact absurd c_9 h0
  · refine aw_iload_n C d_Mo_book_12 rfl (j := 1) rfl ?_
    refine aw_iconst (v := 0) C d_Mo_book_13 (by decide) ?_
    refine aw_sipush (v := 10080) C d_Mo_book_14 (by decide) ?_
    refine aw_callSi (Cn := "") (P9 := fun r u => ms_P D ad cA M) [.int a, .int 0, .int 10080] C hK (c_Mo_in l D cA (ms_A ad) (ms_P D ad cA M) a 0 10080) (cw_Mo_Mo_in C.2.2.2.2 rfl rfl (by decide)) rfl (fun H h => h) (fun q h => Or.inl h) (fun q h => Or.inr (by rw [← hsz]; exact h)) rfl (Nat.le_of_ble_eq_true rfl) d_Mo_book_17 (by decide) (fun H H1 r u _ _ hB _ _ => hB) ?_
    rintro r u rfl
    refine aw_if_eq (tgt := 39) C d_Mo_book_20 (by decide) (fun c_20 => ?_) (fun c_20 => ?_)
    · exact absurd c_20 h1
    · refine aw_iload_n C d_Mo_book_23 rfl (j := 2) rfl ?_
      refine aw_iconst (v := 0) C d_Mo_book_24 (by decide) ?_
      refine aw_sipush (v := 10080) C d_Mo_book_25 (by decide) ?_
      refine aw_callSi (Cn := "") (P9 := fun r u => ms_P D ad cA M) [.int b, .int 0, .int 10080] C hK (c_Mo_in l D cA (ms_A ad) (ms_P D ad cA M) b 0 10080) (cw_Mo_Mo_in C.2.2.2.2 rfl rfl (by decide)) rfl (fun H h => h) (fun q h => Or.inl h) (fun q h => Or.inr (by rw [← hsz]; exact h)) rfl (Nat.le_of_ble_eq_true rfl) d_Mo_book_28 (by decide) (fun H H1 r u _ _ hB _ _ => hB) ?_
      rintro r u rfl
      refine aw_if_eq (tgt := 39) C d_Mo_book_31 (by decide) (fun c_31 => ?_) (fun c_31 => ?_)
      · exact absurd c_31 h2
      · refine aw_iload_n C d_Mo_book_34 rfl (j := 1) rfl ?_
        refine aw_iload_n C d_Mo_book_35 rfl (j := 2) rfl ?_
        refine aw_icmp_lt (tgt := 43) C d_Mo_book_36 (by decide) (fun c_36 => ?_) (fun c_36 => ?_)
        · refine aw_aload_n C d_Mo_book_43 rfl (j := 0) rfl ?_
          refine gm_bookings (v := M 29 0) C hK rfl d_Mo_book_44 ?_
          refine aw_sipush (v := 300) C d_Mo_book_47 (by decide) ?_
          refine aw_icmp_ne (tgt := 57) C d_Mo_book_50 (by decide) (fun c_50 => ?_) (fun c_50 => ?_)
          · exact absurd h4 c_50
          · refine aw_iconst (v := 2) C d_Mo_book_53 (by decide) ?_
            refine aw_goto (tgt := 58) C d_Mo_book_54 (by decide) ?_
            refine pm_thrown (x := 2) C hK hI  d_Mo_book_58 ?_
            refine aw_aload_n C d_Mo_book_61 rfl (j := 0) rfl ?_
            refine gm_thrown (v := 2) C hK rfl d_Mo_book_62 ?_
            refine aw_if_le (tgt := 70) C d_Mo_book_65 (by decide) (fun h => absurd h (by decide)) (fun _ => ?_)
            refine aw_iconst (v := 0) C d_Mo_book_68 (by decide) ?_
            exact aw_iret C hr hlk _ ⟨rfl, rfl⟩ (fun H h => h) d_Mo_book_69
        · exact absurd h3 c_36
