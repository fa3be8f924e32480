def mo_in (v lo hi : Int32) : Int32 := if v < lo then 0 else (if hi < v then 0 else 1)
set_option maxHeartbeats 4000000 in
set_option maxRecDepth 100000 in
theorem c_Mo_in (l : Launch) (D : va_G) (cA : Nat → ClassId) (A : Nat → Prop) (P : Heap → Prop) (v lo hi : Int32) : Ct_i l y_Mo_in b_Mo_in 3 (some .boolean) ({ frames := 0, cells := 0, slots := 0, locals := 0 } : Room) 0 0 D (ds_ty cA) (A) [.int v, .int lo, .int hi] (P) (fun (r : Int32) (u : Unit) => r = mo_in v lo hi) (fun _ => P) := by
  intro sz
  refine ct_of (by decide) (Nat.le_of_ble_eq_true rfl) ?_
  intro p e s m args below meth c hsz C hr hlk hnm hK
  refine aw_lv (lv' := [(0, .int v), (1, .int lo), (2, .int hi)]) [0, 1, 2] rfl ?_
  refine aw_iload_n C d_Mo_in_0 rfl (j := 0) rfl ?_
  refine aw_iload_n C d_Mo_in_1 rfl (j := 1) rfl ?_
  refine aw_icmp_lt (tgt := 14) C d_Mo_in_2 (by decide) (fun c_2 => ?_) (fun c_2 => ?_)
  · refine aw_iconst (v := 0) C d_Mo_in_14 (by decide) ?_
    exact aw_zret C hr hlk rfl () (by unfold mo_in; rw [if_pos c_2]) (fun H h => h) d_Mo_in_15
  · refine aw_iload_n C d_Mo_in_5 rfl (j := 0) rfl ?_
    refine aw_iload_n C d_Mo_in_6 rfl (j := 2) rfl ?_
    refine aw_icmp_gt (tgt := 14) C d_Mo_in_7 (by decide) (fun c_7 => ?_) (fun c_7 => ?_)
    · refine aw_iconst (v := 0) C d_Mo_in_14 (by decide) ?_
      exact aw_zret C hr hlk rfl () (by unfold mo_in; rw [if_neg c_2, if_pos c_7]) (fun H h => h) d_Mo_in_15
    · refine aw_iconst (v := 1) C d_Mo_in_10 (by decide) ?_
      refine aw_goto (tgt := 15) C d_Mo_in_11 (by decide) ?_
      exact aw_zret C hr hlk rfl () (by unfold mo_in; rw [if_neg c_2, if_neg c_7]) (fun H h => h) d_Mo_in_15
theorem mo_in_b (v lo hi : Int32) : mo_in v lo hi = 0 ∨ mo_in v lo hi = 1 := by
  unfold mo_in
  split
  · exact Or.inl rfl
  · split
    · exact Or.inl rfl
    · exact Or.inr rfl
theorem mo_in_z (v lo hi : Int32) : narrow .boolean (.int (mo_in v lo hi)) = .int (mo_in v lo hi) := (nr_z (mo_in_b v lo hi)).1
set_option maxHeartbeats 4000000 in
set_option maxRecDepth 100000 in
theorem c_Mo_isPerson (l : Launch) (D : va_G) (ad : Nat → Nat) (cA : Nat → ClassId) (M : ms_S) (v : Int32) : Ct_i l y_Mo_isPerson b_Mo_isPerson 2 (some .boolean) ({ frames := 1, cells := 0, slots := 0, locals := 22 } : Room) 0 0 D (ds_ty cA) (ms_A ad) [.ref (ad 0), .int v] (ms_P D ad cA M) (fun (r : Int32) (u : ms_S) => M = u ∧ r = mo_in v 0 (M 22 0 - 1)) (ms_P D ad cA) := by
  intro sz
  refine ct_of (by decide) (Nat.le_of_ble_eq_true rfl) ?_
  intro p e s m args below meth c hsz C hr hlk hnm hK
  refine aw_lv (lv' := [(0, .ref (ad 0)), (1, .int v)]) [0, 1] rfl ?_
  refine aw_iload_n C d_Mo_isPerson_0 rfl (j := 1) rfl ?_
  refine aw_iconst (v := 0) C d_Mo_isPerson_1 (by decide) ?_
  refine aw_aload_n C d_Mo_isPerson_2 rfl (j := 0) rfl ?_
  refine gm_persons (v := M 22 0) C hK rfl d_Mo_isPerson_3 ?_
  refine aw_iconst (v := 1) C d_Mo_isPerson_6 (by decide) ?_
  refine aw_isub C d_Mo_isPerson_7 ?_
  refine aw_callSi (Cn := "") (P9 := fun r u => ms_P D ad cA M) [.int v, .int 0, .int (M 22 0 - 1)] C hK (c_Mo_in l D cA (ms_A ad) (ms_P D ad cA M) v 0 (M 22 0 - 1)) (cw_Mo_Mo_in C.2.2.2.2 rfl rfl (by decide)) rfl (fun H h => h) (fun q h => Or.inl h) (fun q h => Or.inr (by rw [← hsz]; exact h)) rfl (Nat.le_of_ble_eq_true rfl) d_Mo_isPerson_8 (by decide) (fun H H1 r u _ _ hB _ _ => hB) ?_
  rintro r u rfl
  exact aw_zret C hr hlk (mo_in_z _ _ _) M ⟨rfl, rfl⟩ (fun H h => h) d_Mo_isPerson_11
set_option maxHeartbeats 4000000 in
set_option maxRecDepth 100000 in
theorem c_Mo_isDesk (l : Launch) (D : va_G) (ad : Nat → Nat) (cA : Nat → ClassId) (M : ms_S) (v : Int32) : Ct_i l y_Mo_isDesk b_Mo_isDesk 2 (some .boolean) ({ frames := 1, cells := 0, slots := 0, locals := 22 } : Room) 0 0 D (ds_ty cA) (ms_A ad) [.ref (ad 0), .int v] (ms_P D ad cA M) (fun (r : Int32) (u : ms_S) => M = u ∧ r = mo_in v 0 (M 21 0 - 1)) (ms_P D ad cA) := by
  intro sz
  refine ct_of (by decide) (Nat.le_of_ble_eq_true rfl) ?_
  intro p e s m args below meth c hsz C hr hlk hnm hK
  refine aw_lv (lv' := [(0, .ref (ad 0)), (1, .int v)]) [0, 1] rfl ?_
  refine aw_iload_n C d_Mo_isDesk_0 rfl (j := 1) rfl ?_
  refine aw_iconst (v := 0) C d_Mo_isDesk_1 (by decide) ?_
  refine aw_aload_n C d_Mo_isDesk_2 rfl (j := 0) rfl ?_
  refine gm_desks (v := M 21 0) C hK rfl d_Mo_isDesk_3 ?_
  refine aw_iconst (v := 1) C d_Mo_isDesk_6 (by decide) ?_
  refine aw_isub C d_Mo_isDesk_7 ?_
  refine aw_callSi (Cn := "") (P9 := fun r u => ms_P D ad cA M) [.int v, .int 0, .int (M 21 0 - 1)] C hK (c_Mo_in l D cA (ms_A ad) (ms_P D ad cA M) v 0 (M 21 0 - 1)) (cw_Mo_Mo_in C.2.2.2.2 rfl rfl (by decide)) rfl (fun H h => h) (fun q h => Or.inl h) (fun q h => Or.inr (by rw [← hsz]; exact h)) rfl (Nat.le_of_ble_eq_true rfl) d_Mo_isDesk_8 (by decide) (fun H H1 r u _ _ hB _ _ => hB) ?_
  rintro r u rfl
  exact aw_zret C hr hlk (mo_in_z _ _ _) M ⟨rfl, rfl⟩ (fun H h => h) d_Mo_isDesk_11
set_option maxHeartbeats 4000000 in
set_option maxRecDepth 100000 in
theorem c_Mo_isRoom (l : Launch) (D : va_G) (ad : Nat → Nat) (cA : Nat → ClassId) (M : ms_S) (v : Int32) : Ct_i l y_Mo_isRoom b_Mo_isRoom 2 (some .boolean) ({ frames := 1, cells := 0, slots := 0, locals := 22 } : Room) 0 0 D (ds_ty cA) (ms_A ad) [.ref (ad 0), .int v] (ms_P D ad cA M) (fun (r : Int32) (u : ms_S) => M = u ∧ r = mo_in v 0 (M 28 0 - 1)) (ms_P D ad cA) := by
  intro sz
  refine ct_of (by decide) (Nat.le_of_ble_eq_true rfl) ?_
  intro p e s m args below meth c hsz C hr hlk hnm hK
  refine aw_lv (lv' := [(0, .ref (ad 0)), (1, .int v)]) [0, 1] rfl ?_
  refine aw_iload_n C d_Mo_isRoom_0 rfl (j := 1) rfl ?_
  refine aw_iconst (v := 0) C d_Mo_isRoom_1 (by decide) ?_
  refine aw_aload_n C d_Mo_isRoom_2 rfl (j := 0) rfl ?_
  refine gm_rooms (v := M 28 0) C hK rfl d_Mo_isRoom_3 ?_
  refine aw_iconst (v := 1) C d_Mo_isRoom_6 (by decide) ?_
  refine aw_isub C d_Mo_isRoom_7 ?_
  refine aw_callSi (Cn := "") (P9 := fun r u => ms_P D ad cA M) [.int v, .int 0, .int (M 28 0 - 1)] C hK (c_Mo_in l D cA (ms_A ad) (ms_P D ad cA M) v 0 (M 28 0 - 1)) (cw_Mo_Mo_in C.2.2.2.2 rfl rfl (by decide)) rfl (fun H h => h) (fun q h => Or.inl h) (fun q h => Or.inr (by rw [← hsz]; exact h)) rfl (Nat.le_of_ble_eq_true rfl) d_Mo_isRoom_8 (by decide) (fun H H1 r u _ _ hB _ _ => hB) ?_
  rintro r u rfl
  exact aw_zret C hr hlk (mo_in_z _ _ _) M ⟨rfl, rfl⟩ (fun H h => h) d_Mo_isRoom_11
set_option maxHeartbeats 4000000 in
set_option maxRecDepth 100000 in
theorem c_Mo_thrown (l : Launch) (D : va_G) (ad : Nat → Nat) (cA : Nat → ClassId) (M : ms_S)  : Ct_i l y_Mo_thrown b_Mo_thrown 1 (some .int) ({ frames := 0, cells := 0, slots := 0, locals := 0 } : Room) 0 0 D (ds_ty cA) (ms_A ad) [.ref (ad 0)] (ms_P D ad cA M) (fun (r : Int32) (u : ms_S) => M = u ∧ r = M 20 0) (ms_P D ad cA) := by
  intro sz
  refine ct_of (by decide) (Nat.le_of_ble_eq_true rfl) ?_
  intro p e s m args below meth c hsz C hr hlk hnm hK
  refine aw_lv (lv' := [(0, .ref (ad 0))]) [0] rfl ?_
  refine aw_aload_n C d_Mo_thrown_0 rfl (j := 0) rfl ?_
  refine gm_thrown (v := M 20 0) C hK rfl d_Mo_thrown_1 ?_
  exact aw_iret C hr hlk M ⟨rfl, rfl⟩ (fun H h => h) d_Mo_thrown_4
def mo_wi (v : Int32) : Int32 := (v + 15) / 16
set_option maxHeartbeats 4000000 in
set_option maxRecDepth 100000 in
theorem c_Mo_worthIn (l : Launch) (D : va_G) (cA : Nat → ClassId) (A : Nat → Prop) (P : Heap → Prop) (v : Int32) : Ct_i l y_Mo_worthIn b_Mo_worthIn 1 (some .int) ({ frames := 0, cells := 0, slots := 0, locals := 0 } : Room) 0 0 D (ds_ty cA) (A) [.int v] (P) (fun (r : Int32) (u : Unit) => r = mo_wi v) (fun _ => P) := by
  intro sz
  refine ct_of (by decide) (Nat.le_of_ble_eq_true rfl) ?_
  intro p e s m args below meth c hsz C hr hlk hnm hK
  refine aw_lv (lv' := [(0, .int v)]) [0] rfl ?_
  refine aw_iload_n C d_Mo_worthIn_0 rfl (j := 0) rfl ?_
  refine aw_bipush (v := 15) C d_Mo_worthIn_1 (by decide) ?_
  refine aw_iadd C d_Mo_worthIn_3 ?_
  refine aw_topi (fun z_3 hz_3 => ?_)
  refine aw_bipush (v := 16) C d_Mo_worthIn_4 (by decide) ?_
  refine aw_idiv C d_Mo_worthIn_6 (by decide) ?_
  refine aw_topi (fun z_6 hz_6 => ?_)
  exact aw_iret C hr hlk () (by rw [hz_6, hz_3]; rfl) (fun H h => h) d_Mo_worthIn_7
def mo_mv (M : ms_S) (p : Nat) (d : Int32) : Int32 := if M 3 p = -1 then 0 else (if M 3 p = d then 0 else 1)
def mo_val (M : ms_S) (p d : Nat) : Int32 := 16 * M 1 (14 * p + d) - mo_mv M p (nI d)
set_option maxHeartbeats 4000000 in
set_option maxRecDepth 100000 in
theorem c_Mo_isMove (l : Launch) (D : va_G) (ad : Nat → Nat) (cA : Nat → ClassId) (M : ms_S) (p9 : Nat) (d9 : Int32) (hp : p9 < 10) : Ct_i l y_Mo_isMove b_Mo_isMove 3 (some .boolean) ({ frames := 0, cells := 0, slots := 0, locals := 0 } : Room) 0 0 D (ds_ty cA) (ms_A ad) [.ref (ad 0), .int (nI p9), .int d9] (ms_P D ad cA M) (fun (r : Int32) (u : ms_S) => M = u ∧ r = mo_mv M p9 d9) (ms_P D ad cA) := by
  intro sz
  refine ct_of (by decide) (Nat.le_of_ble_eq_true rfl) ?_
  intro p e s m args below meth c hsz C hr hlk hnm hK
  refine aw_lv (lv' := [(0, .ref (ad 0)), (1, .int (nI p9)), (2, .int d9)]) [0, 1, 2] rfl ?_
  refine aw_aload_n C d_Mo_isMove_0 rfl (j := 0) rfl ?_
  refine gm_olds C hK d_Mo_isMove_1 ?_
  refine aw_iload_n C d_Mo_isMove_4 rfl (j := 1) rfl ?_
  refine lm_3 (v := M 3 p9) C hK p9 rfl hp rfl d_Mo_isMove_5 ?_
  refine aw_iconst (v := (-1)) C d_Mo_isMove_6 (by decide) ?_
  refine aw_icmp_eq (tgt := 24) C d_Mo_isMove_7 (by decide) (fun c_7 => ?_) (fun c_7 => ?_)
  · refine aw_iconst (v := 0) C d_Mo_isMove_24 (by decide) ?_
    exact aw_zret C hr hlk rfl M ⟨rfl, by unfold mo_mv; rw [if_pos c_7]⟩ (fun H h => h) d_Mo_isMove_25
  · refine aw_aload_n C d_Mo_isMove_10 rfl (j := 0) rfl ?_
    refine gm_olds C hK d_Mo_isMove_11 ?_
    refine aw_iload_n C d_Mo_isMove_14 rfl (j := 1) rfl ?_
    refine lm_3 (v := M 3 p9) C hK p9 rfl hp rfl d_Mo_isMove_15 ?_
    refine aw_iload_n C d_Mo_isMove_16 rfl (j := 2) rfl ?_
    refine aw_icmp_eq (tgt := 24) C d_Mo_isMove_17 (by decide) (fun c_17 => ?_) (fun c_17 => ?_)
    · refine aw_iconst (v := 0) C d_Mo_isMove_24 (by decide) ?_
      exact aw_zret C hr hlk rfl M ⟨rfl, by unfold mo_mv; rw [if_neg c_7, if_pos c_17]⟩ (fun H h => h) d_Mo_isMove_25
    · refine aw_iconst (v := 1) C d_Mo_isMove_20 (by decide) ?_
      refine aw_goto (tgt := 25) C d_Mo_isMove_21 (by decide) ?_
      exact aw_zret C hr hlk rfl M ⟨rfl, by unfold mo_mv; rw [if_neg c_7, if_neg c_17]⟩ (fun H h => h) d_Mo_isMove_25
theorem mo_mv_b (M : ms_S) (p : Nat) (d : Int32) : mo_mv M p d = 0 ∨ mo_mv M p d = 1 := by
  unfold mo_mv
  split
  · exact Or.inl rfl
  · split
    · exact Or.inl rfl
    · exact Or.inr rfl
set_option maxHeartbeats 4000000 in
set_option maxRecDepth 100000 in
theorem c_Mo_value (l : Launch) (D : va_G) (ad : Nat → Nat) (cA : Nat → ClassId) (M : ms_S) (p9 d9 : Nat) (hp : p9 < 10) (hd : d9 < 14) : Ct_i l y_Mo_value b_Mo_value 3 (some .int) ({ frames := 1, cells := 0, slots := 0, locals := 22 } : Room) 0 0 D (ds_ty cA) (ms_A ad) [.ref (ad 0), .int (nI p9), .int (nI d9)] (ms_P D ad cA M) (fun (r : Int32) (u : ms_S) => M = u ∧ r = mo_val M p9 d9) (ms_P D ad cA) := by
  intro sz
  refine ct_of (by decide) (Nat.le_of_ble_eq_true rfl) ?_
  intro p e s m args below meth c hsz C hr hlk hnm hK
  refine aw_lv (lv' := [(0, .ref (ad 0)), (1, .int (nI p9)), (2, .int (nI d9))]) [0, 1, 2] rfl ?_
  refine aw_bipush (v := 16) C d_Mo_value_0 (by decide) ?_
  refine aw_aload_n C d_Mo_value_2 rfl (j := 0) rfl ?_
  refine gm_wishes C hK d_Mo_value_3 ?_
  refine aw_bipush (v := 14) C d_Mo_value_6 (by decide) ?_
  refine aw_iload_n C d_Mo_value_8 rfl (j := 1) rfl ?_
  refine aw_imul C d_Mo_value_9 ?_
  refine aw_topi (fun z_9 hz_9 => ?_)
  refine aw_iload_n C d_Mo_value_10 rfl (j := 2) rfl ?_
  refine aw_iadd C d_Mo_value_11 ?_
  refine aw_topi (fun z_11 hz_11 => ?_)
  refine lm_1 (v := M 1 (14 * p9 + d9)) C hK (14 * p9 + d9) (by rw [hz_11, hz_9, show (14 : Int32) = nI 14 from rfl, pk_mul, nI_add]) (by omega) rfl d_Mo_value_12 ?_
  refine aw_imul C d_Mo_value_13 ?_
  refine aw_topi (fun z_13 hz_13 => ?_)
  refine aw_aload_n C d_Mo_value_14 rfl (j := 0) rfl ?_
  refine aw_iload_n C d_Mo_value_15 rfl (j := 1) rfl ?_
  refine aw_iload_n C d_Mo_value_16 rfl (j := 2) rfl ?_
  refine aw_callVi (P9 := fun r u => ms_P D ad cA u) [.int (nI p9), .int (nI d9)] C hK (c_Mo_isMove l D ad cA M p9 (nI d9) hp) (cw_Mo_Mo_isMove C.2.2.2.2 rfl rfl (by decide)) rfl (fun H h => aw_recv hK rfl (h 0 (by decide))) (fun H h => h) (fun q h => Or.inl h) (fun q h => Or.inr (by rw [← hsz]; exact h)) rfl (Nat.le_of_ble_eq_true rfl) d_Mo_value_17 (by decide) (fun H H1 r u _ _ hB _ _ => hB) ?_
  rintro r u ⟨rfl, rfl⟩
  refine aw_if_eq (tgt := 27) C d_Mo_value_20 (by decide) (fun c_20 => ?_) (fun c_20 => ?_)
  · refine aw_iconst (v := 0) C d_Mo_value_27 (by decide) ?_
    refine aw_isub C d_Mo_value_28 ?_
    refine aw_topi (fun z_28 hz_28 => ?_)
    exact aw_iret C hr hlk M ⟨rfl, by rw [hz_28, hz_13]; unfold mo_val; rw [c_20]⟩ (fun H h => h) d_Mo_value_29
  · refine aw_iconst (v := 1) C d_Mo_value_23 (by decide) ?_
    refine aw_goto (tgt := 28) C d_Mo_value_24 (by decide) ?_
    refine aw_isub C d_Mo_value_28 ?_
    refine aw_topi (fun z_28 hz_28 => ?_)
    exact aw_iret C hr hlk M ⟨rfl, by rw [hz_28, hz_13]; unfold mo_val; rw [show mo_mv M p9 (nI d9) = 1 from (mo_mv_b M p9 (nI d9)).resolve_left c_20]⟩ (fun H h => h) d_Mo_value_29
