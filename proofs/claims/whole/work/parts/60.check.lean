theorem nI_nn {k : Nat} (h : k < 2 ^ 31) : ¬ nI k < 0 := fun h2 => absurd (show nI k < nI 0 from h2) (fun h3 => absurd ((nI_ltI h (by decide)).mp h3) (Nat.not_lt_zero k))
set_option maxHeartbeats 4000000 in
set_option maxRecDepth 100000 in
theorem c_De_checkPerson (l : Launch) (D : va_G) (ad : Nat → Nat → Nat) (cA : Nat → ClassId) (nb : Nat) (S : ds_S) (x : Int32) (h0 : ¬ x < 0 ∧ x < S.1 1 0 0) : Ct_v l y_De_checkPerson b_De_checkPerson 2 none ({ frames := 6, cells := 0, slots := 0, locals := 91 } : Room) 0 0 D (ds_ty cA) (fun _ => False) [.ref (ad 0 0), .int x] (ds_P D ad cA nb S) (fun (u : ds_S) => S = u) (ds_P D ad cA nb) := by
  intro sz
  refine ct_of (by decide) (Nat.le_of_ble_eq_true rfl) ?_
  intro p e s m args below meth c hsz C hr hlk hnm hK
  refine aw_lv (lv' := [(0, .ref (ad 0 0)), (1, .int x)]) [0, 1] rfl ?_
  refine aw_iload_n C d_De_checkPerson_0 rfl (j := 1) rfl ?_
  refine aw_if_lt (tgt := 12) C d_De_checkPerson_1 (by decide) (fun c_1 => ?_) (fun c_1 => ?_)
  · exact absurd c_1 h0.1
  · refine aw_iload_n C d_De_checkPerson_4 rfl (j := 1) rfl ?_
    refine aw_aload_n C d_De_checkPerson_5 rfl (j := 0) rfl ?_
    refine gt_De_De_personCount C hK  d_De_checkPerson_6 ?_
    refine aw_icmp_lt (tgt := 22) C d_De_checkPerson_9 (by decide) (fun c_9 => ?_) (fun c_9 => ?_)
    · exact aw_vret C hr hlk S rfl (fun H h => h) d_De_checkPerson_22
    · exact absurd h0.2 c_9
set_option maxHeartbeats 4000000 in
set_option maxRecDepth 100000 in
theorem t_De_checkPerson (l : Launch) (D : va_G) (ad : Nat → Nat → Nat) (cA : Nat → ClassId) (nb : Nat) (S : ds_S) (hl : l.stackTraces = false) (x : Int32) (h0 : ¬ (¬ x < 0 ∧ x < S.1 1 0 0)) : Ct_t l y_De_checkPerson b_De_checkPerson 2 none ({ frames := 6, cells := 1, slots := 6, locals := 91 } : Room) 1 6 D (ds_ty cA) [.ref (ad 0 0), .int x] (ds_P D ad cA nb S) R_Ia := by
  intro sz
  refine th_of (by decide) (Nat.le_of_ble_eq_true rfl) ?_
  intro p e s m args below meth c hsz C hlk hno hK hZ
  refine aw_lv (lv' := [(0, .ref (ad 0 0)), (1, .int x)]) [0, 1] rfl ?_
  refine aw_iload_n C d_De_checkPerson_0 rfl (j := 1) rfl ?_
  refine aw_if_lt (tgt := 12) C d_De_checkPerson_1 (by decide) (fun c_1 => ?_) (fun c_1 => ?_)
  · exact aw_throw C hl hZ hno hlk bf_Ia cl_De_Ia ii_Ia nx_Ia oa_Ia sr_200 d_De_checkPerson_12 d_De_checkPerson_15 d_De_checkPerson_16 d_De_checkPerson_18 d_De_checkPerson_21 (by decide) (by decide) (by decide) (by decide) (by decide) (by decide)
  · refine aw_iload_n C d_De_checkPerson_4 rfl (j := 1) rfl ?_
    refine aw_aload_n C d_De_checkPerson_5 rfl (j := 0) rfl ?_
    refine gt_De_De_personCount C hK  d_De_checkPerson_6 ?_
    refine aw_icmp_lt (tgt := 22) C d_De_checkPerson_9 (by decide) (fun c_9 => ?_) (fun c_9 => ?_)
    · exact absurd ⟨c_1, c_9⟩ h0
    · exact aw_throw C hl hZ hno hlk bf_Ia cl_De_Ia ii_Ia nx_Ia oa_Ia sr_200 d_De_checkPerson_12 d_De_checkPerson_15 d_De_checkPerson_16 d_De_checkPerson_18 d_De_checkPerson_21 (by decide) (by decide) (by decide) (by decide) (by decide) (by decide)
set_option maxHeartbeats 4000000 in
set_option maxRecDepth 100000 in
theorem c_De_checkDesk (l : Launch) (D : va_G) (ad : Nat → Nat → Nat) (cA : Nat → ClassId) (nb : Nat) (S : ds_S) (x : Int32) (h0 : ¬ x < 0 ∧ x < S.1 0 0 0) : Ct_v l y_De_checkDesk b_De_checkDesk 2 none ({ frames := 6, cells := 0, slots := 0, locals := 91 } : Room) 0 0 D (ds_ty cA) (fun _ => False) [.ref (ad 0 0), .int x] (ds_P D ad cA nb S) (fun (u : ds_S) => S = u) (ds_P D ad cA nb) := by
  intro sz
  refine ct_of (by decide) (Nat.le_of_ble_eq_true rfl) ?_
  intro p e s m args below meth c hsz C hr hlk hnm hK
  refine aw_lv (lv' := [(0, .ref (ad 0 0)), (1, .int x)]) [0, 1] rfl ?_
  refine aw_iload_n C d_De_checkDesk_0 rfl (j := 1) rfl ?_
  refine aw_if_lt (tgt := 12) C d_De_checkDesk_1 (by decide) (fun c_1 => ?_) (fun c_1 => ?_)
  · exact absurd c_1 h0.1
  · refine aw_iload_n C d_De_checkDesk_4 rfl (j := 1) rfl ?_
    refine aw_aload_n C d_De_checkDesk_5 rfl (j := 0) rfl ?_
    refine gt_De_De_deskCount C hK  d_De_checkDesk_6 ?_
    refine aw_icmp_lt (tgt := 22) C d_De_checkDesk_9 (by decide) (fun c_9 => ?_) (fun c_9 => ?_)
    · exact aw_vret C hr hlk S rfl (fun H h => h) d_De_checkDesk_22
    · exact absurd h0.2 c_9
set_option maxHeartbeats 4000000 in
set_option maxRecDepth 100000 in
theorem t_De_checkDesk (l : Launch) (D : va_G) (ad : Nat → Nat → Nat) (cA : Nat → ClassId) (nb : Nat) (S : ds_S) (hl : l.stackTraces = false) (x : Int32) (h0 : ¬ (¬ x < 0 ∧ x < S.1 0 0 0)) : Ct_t l y_De_checkDesk b_De_checkDesk 2 none ({ frames := 6, cells := 1, slots := 6, locals := 91 } : Room) 1 6 D (ds_ty cA) [.ref (ad 0 0), .int x] (ds_P D ad cA nb S) R_Ia := by
  intro sz
  refine th_of (by decide) (Nat.le_of_ble_eq_true rfl) ?_
  intro p e s m args below meth c hsz C hlk hno hK hZ
  refine aw_lv (lv' := [(0, .ref (ad 0 0)), (1, .int x)]) [0, 1] rfl ?_
  refine aw_iload_n C d_De_checkDesk_0 rfl (j := 1) rfl ?_
  refine aw_if_lt (tgt := 12) C d_De_checkDesk_1 (by decide) (fun c_1 => ?_) (fun c_1 => ?_)
  · exact aw_throw C hl hZ hno hlk bf_Ia cl_De_Ia ii_Ia nx_Ia oa_Ia sr_202 d_De_checkDesk_12 d_De_checkDesk_15 d_De_checkDesk_16 d_De_checkDesk_18 d_De_checkDesk_21 (by decide) (by decide) (by decide) (by decide) (by decide) (by decide)
  · refine aw_iload_n C d_De_checkDesk_4 rfl (j := 1) rfl ?_
    refine aw_aload_n C d_De_checkDesk_5 rfl (j := 0) rfl ?_
    refine gt_De_De_deskCount C hK  d_De_checkDesk_6 ?_
    refine aw_icmp_lt (tgt := 22) C d_De_checkDesk_9 (by decide) (fun c_9 => ?_) (fun c_9 => ?_)
    · exact absurd ⟨c_1, c_9⟩ h0
    · exact aw_throw C hl hZ hno hlk bf_Ia cl_De_Ia ii_Ia nx_Ia oa_Ia sr_202 d_De_checkDesk_12 d_De_checkDesk_15 d_De_checkDesk_16 d_De_checkDesk_18 d_De_checkDesk_21 (by decide) (by decide) (by decide) (by decide) (by decide) (by decide)
set_option maxHeartbeats 4000000 in
set_option maxRecDepth 100000 in
theorem c_De_checkRoom (l : Launch) (D : va_G) (ad : Nat → Nat → Nat) (cA : Nat → ClassId) (nb : Nat) (S : ds_S) (x : Int32) (h0 : ¬ x < 0 ∧ x < S.1 2 0 0) : Ct_v l y_De_checkRoom b_De_checkRoom 2 none ({ frames := 6, cells := 0, slots := 0, locals := 91 } : Room) 0 0 D (ds_ty cA) (fun _ => False) [.ref (ad 0 0), .int x] (ds_P D ad cA nb S) (fun (u : ds_S) => S = u) (ds_P D ad cA nb) := by
  intro sz
  refine ct_of (by decide) (Nat.le_of_ble_eq_true rfl) ?_
  intro p e s m args below meth c hsz C hr hlk hnm hK
  refine aw_lv (lv' := [(0, .ref (ad 0 0)), (1, .int x)]) [0, 1] rfl ?_
  refine aw_iload_n C d_De_checkRoom_0 rfl (j := 1) rfl ?_
  refine aw_if_lt (tgt := 12) C d_De_checkRoom_1 (by decide) (fun c_1 => ?_) (fun c_1 => ?_)
  · exact absurd c_1 h0.1
  · refine aw_iload_n C d_De_checkRoom_4 rfl (j := 1) rfl ?_
    refine aw_aload_n C d_De_checkRoom_5 rfl (j := 0) rfl ?_
    refine gt_De_De_roomCount C hK  d_De_checkRoom_6 ?_
    refine aw_icmp_lt (tgt := 22) C d_De_checkRoom_9 (by decide) (fun c_9 => ?_) (fun c_9 => ?_)
    · exact aw_vret C hr hlk S rfl (fun H h => h) d_De_checkRoom_22
    · exact absurd h0.2 c_9
set_option maxHeartbeats 4000000 in
set_option maxRecDepth 100000 in
theorem t_De_checkRoom (l : Launch) (D : va_G) (ad : Nat → Nat → Nat) (cA : Nat → ClassId) (nb : Nat) (S : ds_S) (hl : l.stackTraces = false) (x : Int32) (h0 : ¬ (¬ x < 0 ∧ x < S.1 2 0 0)) : Ct_t l y_De_checkRoom b_De_checkRoom 2 none ({ frames := 6, cells := 1, slots := 6, locals := 91 } : Room) 1 6 D (ds_ty cA) [.ref (ad 0 0), .int x] (ds_P D ad cA nb S) R_Ia := by
  intro sz
  refine th_of (by decide) (Nat.le_of_ble_eq_true rfl) ?_
  intro p e s m args below meth c hsz C hlk hno hK hZ
  refine aw_lv (lv' := [(0, .ref (ad 0 0)), (1, .int x)]) [0, 1] rfl ?_
  refine aw_iload_n C d_De_checkRoom_0 rfl (j := 1) rfl ?_
  refine aw_if_lt (tgt := 12) C d_De_checkRoom_1 (by decide) (fun c_1 => ?_) (fun c_1 => ?_)
  · exact aw_throw C hl hZ hno hlk bf_Ia cl_De_Ia ii_Ia nx_Ia oa_Ia sr_204 d_De_checkRoom_12 d_De_checkRoom_15 d_De_checkRoom_16 d_De_checkRoom_18 d_De_checkRoom_21 (by decide) (by decide) (by decide) (by decide) (by decide) (by decide)
  · refine aw_iload_n C d_De_checkRoom_4 rfl (j := 1) rfl ?_
    refine aw_aload_n C d_De_checkRoom_5 rfl (j := 0) rfl ?_
    refine gt_De_De_roomCount C hK  d_De_checkRoom_6 ?_
    refine aw_icmp_lt (tgt := 22) C d_De_checkRoom_9 (by decide) (fun c_9 => ?_) (fun c_9 => ?_)
    · exact absurd ⟨c_1, c_9⟩ h0
    · exact aw_throw C hl hZ hno hlk bf_Ia cl_De_Ia ii_Ia nx_Ia oa_Ia sr_204 d_De_checkRoom_12 d_De_checkRoom_15 d_De_checkRoom_16 d_De_checkRoom_18 d_De_checkRoom_21 (by decide) (by decide) (by decide) (by decide) (by decide) (by decide)
set_option maxHeartbeats 4000000 in
set_option maxRecDepth 100000 in
theorem c_De_checkMinute (l : Launch) (D : va_G) (ad : Nat → Nat → Nat) (cA : Nat → ClassId) (nb : Nat) (S : ds_S) (x : Int32) (h0 : ¬ x < 0 ∧ x < 10080) : Ct_v l y_De_checkMinute b_De_checkMinute 2 none ({ frames := 6, cells := 0, slots := 0, locals := 91 } : Room) 0 0 D (ds_ty cA) (fun _ => False) [.ref (ad 0 0), .int x] (ds_P D ad cA nb S) (fun (u : ds_S) => S = u) (ds_P D ad cA nb) := by
  intro sz
  refine ct_of (by decide) (Nat.le_of_ble_eq_true rfl) ?_
  intro p e s m args below meth c hsz C hr hlk hnm hK
  refine aw_lv (lv' := [(0, .ref (ad 0 0)), (1, .int x)]) [0, 1] rfl ?_
  refine aw_iload_n C d_De_checkMinute_0 rfl (j := 1) rfl ?_
  refine aw_if_lt (tgt := 11) C d_De_checkMinute_1 (by decide) (fun c_1 => ?_) (fun c_1 => ?_)
  · exact absurd c_1 h0.1
  · refine aw_iload_n C d_De_checkMinute_4 rfl (j := 1) rfl ?_
    refine aw_sipush (v := 10080) C d_De_checkMinute_5 (by decide) ?_
    refine aw_icmp_lt (tgt := 21) C d_De_checkMinute_8 (by decide) (fun c_8 => ?_) (fun c_8 => ?_)
    · exact aw_vret C hr hlk S rfl (fun H h => h) d_De_checkMinute_21
    · exact absurd h0.2 c_8
set_option maxHeartbeats 4000000 in
set_option maxRecDepth 100000 in
theorem t_De_checkMinute (l : Launch) (D : va_G) (ad : Nat → Nat → Nat) (cA : Nat → ClassId) (nb : Nat) (S : ds_S) (hl : l.stackTraces = false) (x : Int32) (h0 : ¬ (¬ x < 0 ∧ x < 10080)) : Ct_t l y_De_checkMinute b_De_checkMinute 2 none ({ frames := 6, cells := 1, slots := 6, locals := 91 } : Room) 1 6 D (ds_ty cA) [.ref (ad 0 0), .int x] (ds_P D ad cA nb S) R_Ia := by
  intro sz
  refine th_of (by decide) (Nat.le_of_ble_eq_true rfl) ?_
  intro p e s m args below meth c hsz C hlk hno hK hZ
  refine aw_lv (lv' := [(0, .ref (ad 0 0)), (1, .int x)]) [0, 1] rfl ?_
  refine aw_iload_n C d_De_checkMinute_0 rfl (j := 1) rfl ?_
  refine aw_if_lt (tgt := 11) C d_De_checkMinute_1 (by decide) (fun c_1 => ?_) (fun c_1 => ?_)
  · exact aw_throw C hl hZ hno hlk bf_Ia cl_De_Ia ii_Ia nx_Ia oa_Ia sr_206 d_De_checkMinute_11 d_De_checkMinute_14 d_De_checkMinute_15 d_De_checkMinute_17 d_De_checkMinute_20 (by decide) (by decide) (by decide) (by decide) (by decide) (by decide)
  · refine aw_iload_n C d_De_checkMinute_4 rfl (j := 1) rfl ?_
    refine aw_sipush (v := 10080) C d_De_checkMinute_5 (by decide) ?_
    refine aw_icmp_lt (tgt := 21) C d_De_checkMinute_8 (by decide) (fun c_8 => ?_) (fun c_8 => ?_)
    · exact absurd ⟨c_1, c_8⟩ h0
    · exact aw_throw C hl hZ hno hlk bf_Ia cl_De_Ia ii_Ia nx_Ia oa_Ia sr_206 d_De_checkMinute_11 d_De_checkMinute_14 d_De_checkMinute_15 d_De_checkMinute_17 d_De_checkMinute_20 (by decide) (by decide) (by decide) (by decide) (by decide) (by decide)
set_option maxHeartbeats 4000000 in
set_option maxRecDepth 100000 in
theorem c_De_checkSeatingMade (l : Launch) (D : va_G) (ad : Nat → Nat → Nat) (cA : Nat → ClassId) (nb : Nat) (S : ds_S)  (h0 : ¬ S.1 4 0 0 = 0) : Ct_v l y_De_checkSeatingMade b_De_checkSeatingMade 1 none ({ frames := 6, cells := 0, slots := 0, locals := 91 } : Room) 0 0 D (ds_ty cA) (fun _ => False) [.ref (ad 0 0)] (ds_P D ad cA nb S) (fun (u : ds_S) => S = u) (ds_P D ad cA nb) := by
  intro sz
  refine ct_of (by decide) (Nat.le_of_ble_eq_true rfl) ?_
  intro p e s m args below meth c hsz C hr hlk hnm hK
  refine aw_lv (lv' := [(0, .ref (ad 0 0))]) [0] rfl ?_
  refine aw_aload_n C d_De_checkSeatingMade_0 rfl (j := 0) rfl ?_
  refine gt_De_De_seatingMade C hK  d_De_checkSeatingMade_1 ?_
  refine aw_if_ne (tgt := 17) C d_De_checkSeatingMade_4 (by decide) (fun c_4 => ?_) (fun c_4 => ?_)
  · exact aw_vret C hr hlk S rfl (fun H h => h) d_De_checkSeatingMade_17
  · exact absurd c_4 h0
set_option maxHeartbeats 4000000 in
set_option maxRecDepth 100000 in
theorem t_De_checkSeatingMade (l : Launch) (D : va_G) (ad : Nat → Nat → Nat) (cA : Nat → ClassId) (nb : Nat) (S : ds_S) (hl : l.stackTraces = false)  (h0 : S.1 4 0 0 = 0) : Ct_t l y_De_checkSeatingMade b_De_checkSeatingMade 1 none ({ frames := 6, cells := 1, slots := 6, locals := 91 } : Room) 1 6 D (ds_ty cA) [.ref (ad 0 0)] (ds_P D ad cA nb S) R_Is := by
  intro sz
  refine th_of (by decide) (Nat.le_of_ble_eq_true rfl) ?_
  intro p e s m args below meth c hsz C hlk hno hK hZ
  refine aw_lv (lv' := [(0, .ref (ad 0 0))]) [0] rfl ?_
  refine aw_aload_n C d_De_checkSeatingMade_0 rfl (j := 0) rfl ?_
  refine gt_De_De_seatingMade C hK  d_De_checkSeatingMade_1 ?_
  refine aw_if_ne (tgt := 17) C d_De_checkSeatingMade_4 (by decide) (fun c_4 => ?_) (fun c_4 => ?_)
  · exact absurd h0 c_4
  · exact aw_throw C hl hZ hno hlk bf_Is cl_De_Is ii_Is nx_Is oa_Is sr_208 d_De_checkSeatingMade_7 d_De_checkSeatingMade_10 d_De_checkSeatingMade_11 d_De_checkSeatingMade_13 d_De_checkSeatingMade_16 (by decide) (by decide) (by decide) (by decide) (by decide) (by decide)
set_option maxHeartbeats 4000000 in
set_option maxRecDepth 100000 in
theorem c_De_checkNobodyElseHas (l : Launch) (D : va_G) (ad : Nat → Nat → Nat) (cA : Nat → ClassId) (nb : Nat) (S : ds_S) (x y : Int32) (M : Nat) (hM : S.1 1 0 0 = nI M) (hM9 : M ≤ 10) (h0 : ∀ q, q < M → ¬ nI q = x → ¬ S.1 12 q 0 = y) : Ct_v l y_De_checkNobodyElseHas b_De_checkNobodyElseHas 4 none ({ frames := 6, cells := 0, slots := 0, locals := 91 } : Room) 0 0 D (ds_ty cA) (fun _ => False) [.ref (ad 0 0), .int x, .int y] (ds_P D ad cA nb S) (fun (u : ds_S) => S = u) (ds_P D ad cA nb) := by
  intro sz
  refine ct_of (by decide) (Nat.le_of_ble_eq_true rfl) ?_
  intro p e s m args below meth c hsz C hr hlk hnm hK
  have lp : ∀ (n k : Nat), k + n = M → AW p l e ({ frames := 6, cells := 0, slots := 0, locals := 91 } : Room) s m args below meth c 4 0 0 (MQ below (va_Qv (fun (u : ds_S) => S = u) (fun u t => (ds_P D ad cA nb) u t.heap) (ct_A (fun _ => False) sz)) args s 0 0 (ct_A (fun _ => False) sz)) (ds_P D ad cA nb S) (ct_A (fun _ => False) sz) 2 [(0, .ref (ad 0 0)), (1, .int x), (2, .int y), (3, .int (nI k))] [] := by
    intro n
    induction n with
    | zero =>
      intro k hkn
      refine aw_iload_n C d_De_checkNobodyElseHas_2 rfl (j := 3) rfl ?_
      refine aw_aload_n C d_De_checkNobodyElseHas_3 rfl (j := 0) rfl ?_
      refine gt_De_De_personCount C hK  d_De_checkNobodyElseHas_4 ?_
      refine aw_icmp_ge (tgt := 44) C d_De_checkNobodyElseHas_7 (by decide) (fun c_7 => ?_) (fun c_7 => ?_)
      · exact aw_vret C hr hlk S rfl (fun H h => h) d_De_checkNobodyElseHas_44
      · exact absurd (by rw [hM, show k = M by omega]; exact nI_le (Nat.le_refl _) (by omega)) c_7
    | succ n ih =>
      intro k hkn
      refine aw_iload_n C d_De_checkNobodyElseHas_2 rfl (j := 3) rfl ?_
      refine aw_aload_n C d_De_checkNobodyElseHas_3 rfl (j := 0) rfl ?_
      refine gt_De_De_personCount C hK  d_De_checkNobodyElseHas_4 ?_
      refine aw_icmp_ge (tgt := 44) C d_De_checkNobodyElseHas_7 (by decide) (fun c_7 => ?_) (fun c_7 => ?_)
      · rw [hM] at c_7
        exact absurd c_7 (nI_ge (by omega) (by omega))
      · refine aw_iload_n C d_De_checkNobodyElseHas_10 rfl (j := 3) rfl ?_
        refine aw_iload_n C d_De_checkNobodyElseHas_11 rfl (j := 1) rfl ?_
        refine aw_icmp_eq (tgt := 38) C d_De_checkNobodyElseHas_12 (by decide) (fun c_12 => ?_) (fun c_12 => ?_)
        · refine aw_iinc (i := 3) (v := (nI (k + 1))) (lv' := [(3, .int (nI (k + 1))), (0, .ref (ad 0 0)), (1, .int x), (2, .int y)]) C d_De_checkNobodyElseHas_38 (j := 3) rfl (nI_1 k) (by decide) rfl ?_
          refine aw_goto (tgt := 2) C d_De_checkNobodyElseHas_41 (by decide) ?_
          exact aw_lv [1, 2, 3, 0] rfl (ih (k + 1) (by omega))
        · refine aw_aload_n C d_De_checkNobodyElseHas_15 rfl (j := 0) rfl ?_
          refine gt_De_De_persons C hK  d_De_checkNobodyElseHas_16 ?_
          refine aw_iload_n C d_De_checkNobodyElseHas_19 rfl (j := 3) rfl ?_
          refine al_1 C hK  k rfl (show k < 10 by omega) d_De_checkNobodyElseHas_20 ?_
          refine gt_De_Pe_oldDesk C hK (show k < 10 by omega) d_De_checkNobodyElseHas_21 ?_
          refine aw_iload_n C d_De_checkNobodyElseHas_24 rfl (j := 2) rfl ?_
          refine aw_icmp_ne (tgt := 38) C d_De_checkNobodyElseHas_25 (by decide) (fun c_25 => ?_) (fun c_25 => ?_)
          · refine aw_iinc (i := 3) (v := (nI (k + 1))) (lv' := [(3, .int (nI (k + 1))), (0, .ref (ad 0 0)), (1, .int x), (2, .int y)]) C d_De_checkNobodyElseHas_38 (j := 3) rfl (nI_1 k) (by decide) rfl ?_
            refine aw_goto (tgt := 2) C d_De_checkNobodyElseHas_41 (by decide) ?_
            exact aw_lv [1, 2, 3, 0] rfl (ih (k + 1) (by omega))
          · exact absurd c_25 (h0 k (by omega) c_12)
  refine aw_lv (lv' := [(0, .ref (ad 0 0)), (1, .int x), (2, .int y)]) [0, 1, 2] rfl ?_
  refine aw_iconst (v := 0) C d_De_checkNobodyElseHas_0 (by decide) ?_
  refine aw_istore_n (i := 3) (lv' := [(3, .int 0), (0, .ref (ad 0 0)), (1, .int x), (2, .int y)]) C d_De_checkNobodyElseHas_1 rfl (by decide) rfl ?_
  exact aw_lv [1, 2, 3, 0] rfl (lp M 0 (by omega))
set_option maxHeartbeats 4000000 in
set_option maxRecDepth 100000 in
theorem t_De_checkNobodyElseHas (l : Launch) (D : va_G) (ad : Nat → Nat → Nat) (cA : Nat → ClassId) (nb : Nat) (S : ds_S) (hl : l.stackTraces = false) (x y : Int32) (M : Nat) (hM : S.1 1 0 0 = nI M) (hM9 : M ≤ 10) (h0 : ∃ q, q < M ∧ ¬ nI q = x ∧ S.1 12 q 0 = y) : Ct_t l y_De_checkNobodyElseHas b_De_checkNobodyElseHas 4 none ({ frames := 6, cells := 1, slots := 6, locals := 91 } : Room) 1 6 D (ds_ty cA) [.ref (ad 0 0), .int x, .int y] (ds_P D ad cA nb S) R_Is := by
  intro sz
  refine th_of (by decide) (Nat.le_of_ble_eq_true rfl) ?_
  intro p e s m args below meth c hsz C hlk hno hK hZ
  have lp : ∀ (n k : Nat), k + n = M → (∃ q, k ≤ q ∧ q < M ∧ ¬ nI q = x ∧ S.1 12 q 0 = y) → AW p l e ({ frames := 6, cells := 1, slots := 6, locals := 91 } : Room) s m args below meth c 4 0 0 (th_MQ below R_Is 1 6 args s) (ds_P D ad cA nb S) (fun q => s.heap.size ≤ q) 2 [(0, .ref (ad 0 0)), (1, .int x), (2, .int y), (3, .int (nI k))] [] := by
    intro n
    induction n with
    | zero =>
      intro k hkn hex
      obtain ⟨q, h1, h2, -, -⟩ := hex
      exact absurd h2 (by omega)
    | succ n ih =>
      intro k hkn hex
      refine aw_iload_n C d_De_checkNobodyElseHas_2 rfl (j := 3) rfl ?_
      refine aw_aload_n C d_De_checkNobodyElseHas_3 rfl (j := 0) rfl ?_
      refine gt_De_De_personCount C hK  d_De_checkNobodyElseHas_4 ?_
      refine aw_icmp_ge (tgt := 44) C d_De_checkNobodyElseHas_7 (by decide) (fun c_7 => ?_) (fun c_7 => ?_)
      · rw [hM] at c_7
        exact absurd c_7 (nI_ge (by omega) (by omega))
      · refine aw_iload_n C d_De_checkNobodyElseHas_10 rfl (j := 3) rfl ?_
        refine aw_iload_n C d_De_checkNobodyElseHas_11 rfl (j := 1) rfl ?_
        refine aw_icmp_eq (tgt := 38) C d_De_checkNobodyElseHas_12 (by decide) (fun c_12 => ?_) (fun c_12 => ?_)
        · refine aw_iinc (i := 3) (v := (nI (k + 1))) (lv' := [(3, .int (nI (k + 1))), (0, .ref (ad 0 0)), (1, .int x), (2, .int y)]) C d_De_checkNobodyElseHas_38 (j := 3) rfl (nI_1 k) (by decide) rfl ?_
          refine aw_goto (tgt := 2) C d_De_checkNobodyElseHas_41 (by decide) ?_
          exact aw_lv [1, 2, 3, 0] rfl (ih (k + 1) (by omega) (by obtain ⟨q, h1, h2, h3, h4⟩ := hex; refine ⟨q, ?_, h2, h3, h4⟩; rcases Nat.lt_or_eq_of_le h1 with h | h; exact h; subst h; exact absurd c_12 h3))
        · refine aw_aload_n C d_De_checkNobodyElseHas_15 rfl (j := 0) rfl ?_
          refine gt_De_De_persons C hK  d_De_checkNobodyElseHas_16 ?_
          refine aw_iload_n C d_De_checkNobodyElseHas_19 rfl (j := 3) rfl ?_
          refine al_1 C hK  k rfl (show k < 10 by omega) d_De_checkNobodyElseHas_20 ?_
          refine gt_De_Pe_oldDesk C hK (show k < 10 by omega) d_De_checkNobodyElseHas_21 ?_
          refine aw_iload_n C d_De_checkNobodyElseHas_24 rfl (j := 2) rfl ?_
          refine aw_icmp_ne (tgt := 38) C d_De_checkNobodyElseHas_25 (by decide) (fun c_25 => ?_) (fun c_25 => ?_)
          · refine aw_iinc (i := 3) (v := (nI (k + 1))) (lv' := [(3, .int (nI (k + 1))), (0, .ref (ad 0 0)), (1, .int x), (2, .int y)]) C d_De_checkNobodyElseHas_38 (j := 3) rfl (nI_1 k) (by decide) rfl ?_
            refine aw_goto (tgt := 2) C d_De_checkNobodyElseHas_41 (by decide) ?_
            exact aw_lv [1, 2, 3, 0] rfl (ih (k + 1) (by omega) (by obtain ⟨q, h1, h2, h3, h4⟩ := hex; refine ⟨q, ?_, h2, h3, h4⟩; rcases Nat.lt_or_eq_of_le h1 with h | h; exact h; subst h; exact absurd h4 c_25))
          · exact aw_throw C hl hZ hno hlk bf_Is cl_De_Is ii_Is nx_Is oa_Is sr_210 d_De_checkNobodyElseHas_28 d_De_checkNobodyElseHas_31 d_De_checkNobodyElseHas_32 d_De_checkNobodyElseHas_34 d_De_checkNobodyElseHas_37 (by decide) (by decide) (by decide) (by decide) (by decide) (by decide)
  refine aw_lv (lv' := [(0, .ref (ad 0 0)), (1, .int x), (2, .int y)]) [0, 1, 2] rfl ?_
  refine aw_iconst (v := 0) C d_De_checkNobodyElseHas_0 (by decide) ?_
  refine aw_istore_n (i := 3) (lv' := [(3, .int 0), (0, .ref (ad 0 0)), (1, .int x), (2, .int y)]) C d_De_checkNobodyElseHas_1 rfl (by decide) rfl ?_
  exact aw_lv [1, 2, 3, 0] rfl (lp M 0 (by omega) (by obtain ⟨q, h1, h2, h3⟩ := h0; exact ⟨q, Nat.zero_le q, h1, h2, h3⟩))
set_option maxHeartbeats 4000000 in
set_option maxRecDepth 100000 in
theorem c_De_bookingNumbered (l : Launch) (D : va_G) (ad : Nat → Nat → Nat) (cA : Nat → ClassId) (nb : Nat) (S : ds_S) (g : Nat) (hg : g < nb) (hg3 : g < 300) (hn : ∀ j, j < nb → S.2.2 5 j = some j) (hn0 : ∀ j, nb ≤ j → S.2.2 5 j = none) : Ct_q l y_De_bookingNumbered b_De_bookingNumbered 3 (some (.object "DeskMoves$Booking")) ({ frames := 6, cells := 0, slots := 0, locals := 91 } : Room) 0 0 D (ds_ty cA) (fun _ => False) [.ref (ad 0 0), .int (nI g)] (ds_P D ad cA nb S) (fun (r : Option Nat) (u : ds_S) => S = u ∧ r = some (ad 15 g)) (ds_P D ad cA nb) := by
  intro sz
  refine ct_of (by decide) (Nat.le_of_ble_eq_true rfl) ?_
  intro p e s m args below meth c hsz C hr hlk hnm hK
  refine aw_lv (lv' := [(0, .ref (ad 0 0)), (1, .int (nI g))]) [0, 1] rfl ?_
  refine aw_iload_n C d_De_bookingNumbered_0 rfl (j := 1) rfl ?_
  refine aw_if_lt (tgt := 11) C d_De_bookingNumbered_1 (by decide) (fun c_1 => ?_) (fun c_1 => ?_)
  · exact absurd c_1 (nI_nn (by omega))
  · refine aw_iload_n C d_De_bookingNumbered_4 rfl (j := 1) rfl ?_
    refine aw_sipush (v := 300) C d_De_bookingNumbered_5 (by decide) ?_
    refine aw_icmp_lt (tgt := 15) C d_De_bookingNumbered_8 (by decide) (fun c_8 => ?_) (fun c_8 => ?_)
    · refine aw_aload_n C d_De_bookingNumbered_15 rfl (j := 0) rfl ?_
      refine gt_De_De_bookings C hK  d_De_bookingNumbered_16 ?_
      refine aw_iload_n C d_De_bookingNumbered_19 rfl (j := 1) rfl ?_
      refine al_9 C hK  g rfl hg3 d_De_bookingNumbered_20 ?_
      rw [hn g hg]
      refine aw_astore_n (i := 2) (lv' := [(2, .ref (ad 15 g)), (0, .ref (ad 0 0)), (1, .int (nI g))]) C d_De_bookingNumbered_21 rfl (by decide) rfl ?_
      refine aw_aload_n C d_De_bookingNumbered_22 rfl (j := 0) rfl ?_
      refine aw_ifnonnull (o := some ((ad 15 g))) (tgt := 36) C d_De_bookingNumbered_23 (by decide) (fun _ _ => ?_) (fun h => nomatch h)
      refine aw_aload_n C d_De_bookingNumbered_36 rfl (j := 0) rfl ?_
      exact aw_qret (v := some (ad 15 g)) C hr hlk S ⟨rfl, rfl⟩ (fun H h => h) d_De_bookingNumbered_37
    · exact absurd (by rw [show (300 : Int32) = nI 300 from rfl]; exact nI_lt hg3 (by omega)) c_8
set_option maxHeartbeats 4000000 in
set_option maxRecDepth 100000 in
theorem t_De_bookingNumbered1 (l : Launch) (D : va_G) (ad : Nat → Nat → Nat) (cA : Nat → ClassId) (nb : Nat) (S : ds_S) (hl : l.stackTraces = false) (x : Int32) (h0 : ¬ (¬ x < 0 ∧ x < 300)) : Ct_t l y_De_bookingNumbered b_De_bookingNumbered 3 (some (.object "DeskMoves$Booking")) ({ frames := 6, cells := 1, slots := 6, locals := 91 } : Room) 1 6 D (ds_ty cA) [.ref (ad 0 0), .int x] (ds_P D ad cA nb S) R_Ia := by
  intro sz
  refine th_of (by decide) (Nat.le_of_ble_eq_true rfl) ?_
  intro p e s m args below meth c hsz C hlk hno hK hZ
  refine aw_lv (lv' := [(0, .ref (ad 0 0)), (1, .int x)]) [0, 1] rfl ?_
  refine aw_iload_n C d_De_bookingNumbered_0 rfl (j := 1) rfl ?_
  refine aw_if_lt (tgt := 11) C d_De_bookingNumbered_1 (by decide) (fun c_1 => ?_) (fun c_1 => ?_)
  · refine aw_null C d_De_bookingNumbered_11 ?_
    refine aw_goto (tgt := 21) C d_De_bookingNumbered_12 (by decide) ?_
    refine aw_astoreq_n (x := none) (i := 2) (lv' := [(2, va_rf none), (0, .ref (ad 0 0)), (1, .int x)]) C d_De_bookingNumbered_21 rfl (by decide) rfl ?_
    refine aw_aloadq_n C d_De_bookingNumbered_22 rfl (j := 0) rfl ?_
    refine aw_ifnonnull (o := none) (tgt := 36) C d_De_bookingNumbered_23 (by decide) (fun _ h => nomatch h) (fun _ => ?_)
    exact aw_throw C hl hZ hno hlk bf_Ia cl_De_Ia ii_Ia nx_Ia oa_Ia sr_212 d_De_bookingNumbered_26 d_De_bookingNumbered_29 d_De_bookingNumbered_30 d_De_bookingNumbered_32 d_De_bookingNumbered_35 (by decide) (by decide) (by decide) (by decide) (by decide) (by decide)
  · refine aw_iload_n C d_De_bookingNumbered_4 rfl (j := 1) rfl ?_
    refine aw_sipush (v := 300) C d_De_bookingNumbered_5 (by decide) ?_
    refine aw_icmp_lt (tgt := 15) C d_De_bookingNumbered_8 (by decide) (fun c_8 => ?_) (fun c_8 => ?_)
    · exact absurd ⟨c_1, c_8⟩ h0
    · refine aw_null C d_De_bookingNumbered_11 ?_
      refine aw_goto (tgt := 21) C d_De_bookingNumbered_12 (by decide) ?_
      refine aw_astoreq_n (x := none) (i := 2) (lv' := [(2, va_rf none), (0, .ref (ad 0 0)), (1, .int x)]) C d_De_bookingNumbered_21 rfl (by decide) rfl ?_
      refine aw_aloadq_n C d_De_bookingNumbered_22 rfl (j := 0) rfl ?_
      refine aw_ifnonnull (o := none) (tgt := 36) C d_De_bookingNumbered_23 (by decide) (fun _ h => nomatch h) (fun _ => ?_)
      exact aw_throw C hl hZ hno hlk bf_Ia cl_De_Ia ii_Ia nx_Ia oa_Ia sr_212 d_De_bookingNumbered_26 d_De_bookingNumbered_29 d_De_bookingNumbered_30 d_De_bookingNumbered_32 d_De_bookingNumbered_35 (by decide) (by decide) (by decide) (by decide) (by decide) (by decide)
set_option maxHeartbeats 4000000 in
set_option maxRecDepth 100000 in
theorem t_De_bookingNumbered2 (l : Launch) (D : va_G) (ad : Nat → Nat → Nat) (cA : Nat → ClassId) (nb : Nat) (S : ds_S) (hl : l.stackTraces = false) (g : Nat) (hg : nb ≤ g) (hg3 : g < 300) (hn : ∀ j, j < nb → S.2.2 5 j = some j) (hn0 : ∀ j, nb ≤ j → S.2.2 5 j = none) : Ct_t l y_De_bookingNumbered b_De_bookingNumbered 3 (some (.object "DeskMoves$Booking")) ({ frames := 6, cells := 1, slots := 6, locals := 91 } : Room) 1 6 D (ds_ty cA) [.ref (ad 0 0), .int (nI g)] (ds_P D ad cA nb S) R_Ia := by
  intro sz
  refine th_of (by decide) (Nat.le_of_ble_eq_true rfl) ?_
  intro p e s m args below meth c hsz C hlk hno hK hZ
  refine aw_lv (lv' := [(0, .ref (ad 0 0)), (1, .int (nI g))]) [0, 1] rfl ?_
  refine aw_iload_n C d_De_bookingNumbered_0 rfl (j := 1) rfl ?_
  refine aw_if_lt (tgt := 11) C d_De_bookingNumbered_1 (by decide) (fun c_1 => ?_) (fun c_1 => ?_)
  · exact absurd c_1 (nI_nn (by omega))
  · refine aw_iload_n C d_De_bookingNumbered_4 rfl (j := 1) rfl ?_
    refine aw_sipush (v := 300) C d_De_bookingNumbered_5 (by decide) ?_
    refine aw_icmp_lt (tgt := 15) C d_De_bookingNumbered_8 (by decide) (fun c_8 => ?_) (fun c_8 => ?_)
    · refine aw_aload_n C d_De_bookingNumbered_15 rfl (j := 0) rfl ?_
      refine gt_De_De_bookings C hK  d_De_bookingNumbered_16 ?_
      refine aw_iload_n C d_De_bookingNumbered_19 rfl (j := 1) rfl ?_
      refine al_9 C hK  g rfl hg3 d_De_bookingNumbered_20 ?_
      rw [hn0 g hg]
      refine aw_astoreq_n (x := none) (i := 2) (lv' := [(2, va_rf none), (0, .ref (ad 0 0)), (1, .int (nI g))]) C d_De_bookingNumbered_21 rfl (by decide) rfl ?_
      refine aw_aloadq_n C d_De_bookingNumbered_22 rfl (j := 0) rfl ?_
      refine aw_ifnonnull (o := none) (tgt := 36) C d_De_bookingNumbered_23 (by decide) (fun _ h => nomatch h) (fun _ => ?_)
      exact aw_throw C hl hZ hno hlk bf_Ia cl_De_Ia ii_Ia nx_Ia oa_Ia sr_212 d_De_bookingNumbered_26 d_De_bookingNumbered_29 d_De_bookingNumbered_30 d_De_bookingNumbered_32 d_De_bookingNumbered_35 (by decide) (by decide) (by decide) (by decide) (by decide) (by decide)
    · exact absurd (by rw [show (300 : Int32) = nI 300 from rfl]; exact nI_lt hg3 (by omega)) c_8
def br_L (S : ds_S) (a b h : Int32) (n0 : Nat) : Nat → Nat → Option Nat → Option Nat
  | 0, _, o => o
  | n + 1, k, o => if S.1 19 k 0 < h then br_L S a b h n0 n (k + 1) o else (match bw_L S a b n0 (S.2.2 2 k) with
    | some _ => br_L S a b h n0 n (k + 1) o
    | none => (match o with
      | none => br_L S a b h n0 n (k + 1) (some k)
      | some j => if S.1 19 j 0 ≤ S.1 19 k 0 then br_L S a b h n0 n (k + 1) (some j) else br_L S a b h n0 n (k + 1) (some k)))
set_option maxHeartbeats 4000000 in
set_option maxRecDepth 100000 in
theorem c_De_bestRoom (l : Launch) (D : va_G) (ad : Nat → Nat → Nat) (cA : Nat → ClassId) (nb : Nat) (S : ds_S) (a b h : Int32) (M : Nat) (hI : ds_I ad nb) (hM : S.1 2 0 0 = nI M) (hM9 : M ≤ 8) (n0 : Nat) (hB : ∀ k k', S.2.2 3 k = some k' → k' < nb) (hF : ∀ r k, S.2.2 2 r = some k → k < nb) (hT : ∀ r, ho_T (S.2.2 3) n0 (S.2.2 2 r)) : Ct_q l y_De_bestRoom b_De_bestRoom 8 (some (.object "DeskMoves$Room")) ({ frames := 1, cells := 0, slots := 0, locals := 23 } : Room) 0 0 D (ds_ty cA) (ds_A ad nb) [.ref (ad 0 0), .int a, .int b, .int h] (ds_P D ad cA nb S) (fun (r : Option Nat) (u : ds_S) => S = u ∧ r = (br_L S a b h n0 M 0 none).map (ad 14)) (ds_P D ad cA nb) := by
  intro sz
  refine ct_of (by decide) (Nat.le_of_ble_eq_true rfl) ?_
  intro p e s m args below meth c hsz C hr hlk hnm hK
  have lp : ∀ (n k : Nat) (o : Option Nat), k + n = M → (∀ j, o = some j → j < 8) → br_L S a b h n0 n k o = br_L S a b h n0 M 0 none → AW p l e ({ frames := 1, cells := 0, slots := 0, locals := 23 } : Room) s m args below meth c 8 0 0 (MQ below (va_Qq (fun (r : Option Nat) (u : ds_S) => S = u ∧ r = (br_L S a b h n0 M 0 none).map (ad 14)) (fun u t => (ds_P D ad cA nb) u t.heap) (ct_A (ds_A ad nb) sz)) args s 0 0 (ct_A (ds_A ad nb) sz)) (ds_P D ad cA nb S) (ct_A (ds_A ad nb) sz) 6 [(0, .ref (ad 0 0)), (1, .int a), (2, .int b), (3, .int h), (4, va_rf (o.map (ad 14))), (5, .int (nI k))] [] := by
    intro n
    induction n with
    | zero =>
      intro k o hkn hj hR
      rcases o with _ | j
      · refine aw_iload C d_De_bestRoom_6 (j := 5) rfl ?_
        refine aw_aload_n C d_De_bestRoom_8 rfl (j := 0) rfl ?_
        refine gt_De_De_roomCount C hK  d_De_bestRoom_9 ?_
        refine aw_icmp_ge (tgt := 83) C d_De_bestRoom_12 (by decide) (fun c_12 => ?_) (fun c_12 => ?_)
        · refine aw_aloadq C d_De_bestRoom_83 (j := 4) rfl ?_
          exact aw_qret (v := none) C hr hlk S ⟨rfl, by rw [← hR]; rfl⟩ (fun H h => h) d_De_bestRoom_85
        · exact absurd (by rw [hM, show k = M by omega]; exact nI_le (Nat.le_refl _) (by omega)) c_12
      · refine aw_iload C d_De_bestRoom_6 (j := 5) rfl ?_
        refine aw_aload_n C d_De_bestRoom_8 rfl (j := 0) rfl ?_
        refine gt_De_De_roomCount C hK  d_De_bestRoom_9 ?_
        refine aw_icmp_ge (tgt := 83) C d_De_bestRoom_12 (by decide) (fun c_12 => ?_) (fun c_12 => ?_)
        · refine aw_aload C d_De_bestRoom_83 (j := 4) rfl ?_
          exact aw_qret (v := some (ad 14 j)) C hr hlk S ⟨rfl, by rw [← hR]; rfl⟩ (fun H h => h) d_De_bestRoom_85
        · exact absurd (by rw [hM, show k = M by omega]; exact nI_le (Nat.le_refl _) (by omega)) c_12
    | succ n ih =>
      intro k o hkn hj hR
      rcases o with _ | j
      · refine aw_iload C d_De_bestRoom_6 (j := 5) rfl ?_
        refine aw_aload_n C d_De_bestRoom_8 rfl (j := 0) rfl ?_
        refine gt_De_De_roomCount C hK  d_De_bestRoom_9 ?_
        refine aw_icmp_ge (tgt := 83) C d_De_bestRoom_12 (by decide) (fun c_12 => ?_) (fun c_12 => ?_)
        · rw [hM] at c_12
          exact absurd c_12 (nI_ge (by omega) (by omega))
        · refine aw_aload_n C d_De_bestRoom_15 rfl (j := 0) rfl ?_
          refine gt_De_De_rooms C hK  d_De_bestRoom_16 ?_
          refine aw_iload C d_De_bestRoom_19 (j := 5) rfl ?_
          refine al_8 C hK  k rfl (show k < 8 by omega) d_De_bestRoom_21 ?_
          refine aw_astore (i := 6) (lv' := [(6, .ref (ad 14 k)), (0, .ref (ad 0 0)), (1, .int a), (2, .int b), (3, .int h), (4, va_rf none), (5, .int (nI k))]) C d_De_bestRoom_22 (by decide) rfl ?_
          refine aw_aload C d_De_bestRoom_24 (j := 0) rfl ?_
          refine gt_De_Ro_places C hK (show k < 8 by omega) d_De_bestRoom_26 ?_
          refine aw_iload_n C d_De_bestRoom_29 rfl (j := 4) rfl ?_
          refine aw_icmp_lt (tgt := 47) C d_De_bestRoom_30 (by decide) (fun c_30 => ?_) (fun c_30 => ?_)
          · refine aw_iconst (v := 0) C d_De_bestRoom_47 (by decide) ?_
            refine aw_istore (i := 7) (lv' := [(7, .int 0), (6, .ref (ad 14 k)), (0, .ref (ad 0 0)), (1, .int a), (2, .int b), (3, .int h), (4, va_rf none), (5, .int (nI k))]) C d_De_bestRoom_48 (by decide) rfl ?_
            refine aw_iload C d_De_bestRoom_50 (j := 0) rfl ?_
            refine aw_if_eq (tgt := 77) C d_De_bestRoom_52 (by decide) (fun _ => ?_) (fun h => absurd h (by decide))
            refine aw_iinc (i := 5) (v := (nI (k + 1))) (lv' := [(5, .int (nI (k + 1))), (7, .int 0), (6, .ref (ad 14 k)), (0, .ref (ad 0 0)), (1, .int a), (2, .int b), (3, .int h), (4, va_rf none)]) C d_De_bestRoom_77 (j := 7) rfl (nI_1 k) (by decide) (by simp [va_rf_cat, ct_ref, ct_int, ct_long]) ?_
            refine aw_goto (tgt := 6) C d_De_bestRoom_80 (by decide) ?_
            exact aw_lv [3, 4, 5, 6, 7, 0] rfl (ih (k + 1) none (by omega) (fun z hz => by cases hz) (by rw [← hR]; simp only [br_L]; rw [if_pos c_30]))
          · refine aw_aload C d_De_bestRoom_33 (j := 0) rfl ?_
            refine aw_iload_n C d_De_bestRoom_35 rfl (j := 2) rfl ?_
            refine aw_iload_n C d_De_bestRoom_36 rfl (j := 3) rfl ?_
            refine aw_callVq (P9 := fun r u => ds_P D ad cA nb u) [.int a, .int b] C hK (c_Ro_bookingWithin l D ad cA nb S n0 k a b hI (by omega) hB (hF k) (hT k)) (cw_De_Ro_bookingWithin C.2.2.2.2 rfl rfl (by decide)) rfl (fun H h => aw_recv hK rfl (h 14 k (show k < 8 by omega))) (fun H h => h) (fun q h => Or.inl h) (fun q h => Or.inr (by rw [← hsz]; exact h)) rfl (Nat.le_of_ble_eq_true rfl) d_De_bestRoom_37 (by decide) (fun H H1 r u _ _ hB _ _ => hB) ?_
            rintro r u ⟨rfl, rfl⟩
            refine aw_ifnonnull (tgt := 47) C d_De_bestRoom_40 (by decide) (fun x_40 c_40 => ?_) (fun c_40 => ?_)
            · have e9 : ∃ z, bw_L S a b n0 (S.2.2 2 k) = some z := by
                cases hq : bw_L S a b n0 (S.2.2 2 k) with
                | none => rw [hq] at c_40; cases c_40
                | some z => exact ⟨z, rfl⟩
              obtain ⟨z9, e9⟩ := e9
              refine aw_iconst (v := 0) C d_De_bestRoom_47 (by decide) ?_
              refine aw_istore (i := 7) (lv' := [(7, .int 0), (6, .ref (ad 14 k)), (0, .ref (ad 0 0)), (1, .int a), (2, .int b), (3, .int h), (4, va_rf none), (5, .int (nI k))]) C d_De_bestRoom_48 (by decide) rfl ?_
              refine aw_iload C d_De_bestRoom_50 (j := 0) rfl ?_
              refine aw_if_eq (tgt := 77) C d_De_bestRoom_52 (by decide) (fun _ => ?_) (fun h => absurd h (by decide))
              refine aw_iinc (i := 5) (v := (nI (k + 1))) (lv' := [(5, .int (nI (k + 1))), (7, .int 0), (6, .ref (ad 14 k)), (0, .ref (ad 0 0)), (1, .int a), (2, .int b), (3, .int h), (4, va_rf none)]) C d_De_bestRoom_77 (j := 7) rfl (nI_1 k) (by decide) (by simp [va_rf_cat, ct_ref, ct_int, ct_long]) ?_
              refine aw_goto (tgt := 6) C d_De_bestRoom_80 (by decide) ?_
              exact aw_lv [3, 4, 5, 6, 7, 0] rfl (ih (k + 1) none (by omega) (fun z hz => by cases hz) (by rw [← hR]; simp only [br_L]; rw [if_neg c_30, e9]))
            · have e9 : bw_L S a b n0 (S.2.2 2 k) = none := Option.map_eq_none_iff.mp c_40
              refine aw_iconst (v := 1) C d_De_bestRoom_43 (by decide) ?_
              refine aw_goto (tgt := 48) C d_De_bestRoom_44 (by decide) ?_
              refine aw_istore (i := 7) (lv' := [(7, .int 1), (6, .ref (ad 14 k)), (0, .ref (ad 0 0)), (1, .int a), (2, .int b), (3, .int h), (4, va_rf none), (5, .int (nI k))]) C d_De_bestRoom_48 (by decide) rfl ?_
              refine aw_iload C d_De_bestRoom_50 (j := 0) rfl ?_
              refine aw_if_eq (tgt := 77) C d_De_bestRoom_52 (by decide) (fun h => absurd h (by decide)) (fun _ => ?_)
              refine aw_aloadq C d_De_bestRoom_55 (j := 6) rfl ?_
              refine aw_ifnull (o := none) (tgt := 73) C d_De_bestRoom_57 (by decide) (fun _ => ?_) (fun _ h => nomatch h)
              refine aw_aload C d_De_bestRoom_73 (j := 1) rfl ?_
              refine aw_astore (i := 4) (lv' := [(4, .ref (ad 14 k)), (7, .int 1), (6, .ref (ad 14 k)), (0, .ref (ad 0 0)), (1, .int a), (2, .int b), (3, .int h), (5, .int (nI k))]) C d_De_bestRoom_75 (by decide) rfl ?_
              refine aw_iinc (i := 5) (v := (nI (k + 1))) (lv' := [(5, .int (nI (k + 1))), (4, .ref (ad 14 k)), (7, .int 1), (6, .ref (ad 14 k)), (0, .ref (ad 0 0)), (1, .int a), (2, .int b), (3, .int h)]) C d_De_bestRoom_77 (j := 7) rfl (nI_1 k) (by decide) rfl ?_
              refine aw_goto (tgt := 6) C d_De_bestRoom_80 (by decide) ?_
              exact aw_lv [4, 5, 6, 7, 1, 0] rfl (ih (k + 1) (some k) (by omega) (fun z hz => by cases hz; omega) (by rw [← hR]; simp only [br_L]; rw [if_neg c_30, e9]))
      · refine aw_iload C d_De_bestRoom_6 (j := 5) rfl ?_
        refine aw_aload_n C d_De_bestRoom_8 rfl (j := 0) rfl ?_
        refine gt_De_De_roomCount C hK  d_De_bestRoom_9 ?_
        refine aw_icmp_ge (tgt := 83) C d_De_bestRoom_12 (by decide) (fun c_12 => ?_) (fun c_12 => ?_)
        · rw [hM] at c_12
          exact absurd c_12 (nI_ge (by omega) (by omega))
        · refine aw_aload_n C d_De_bestRoom_15 rfl (j := 0) rfl ?_
          refine gt_De_De_rooms C hK  d_De_bestRoom_16 ?_
          refine aw_iload C d_De_bestRoom_19 (j := 5) rfl ?_
          refine al_8 C hK  k rfl (show k < 8 by omega) d_De_bestRoom_21 ?_
          refine aw_astore (i := 6) (lv' := [(6, .ref (ad 14 k)), (0, .ref (ad 0 0)), (1, .int a), (2, .int b), (3, .int h), (4, .ref (ad 14 j)), (5, .int (nI k))]) C d_De_bestRoom_22 (by decide) rfl ?_
          refine aw_aload C d_De_bestRoom_24 (j := 0) rfl ?_
          refine gt_De_Ro_places C hK (show k < 8 by omega) d_De_bestRoom_26 ?_
          refine aw_iload_n C d_De_bestRoom_29 rfl (j := 4) rfl ?_
          refine aw_icmp_lt (tgt := 47) C d_De_bestRoom_30 (by decide) (fun c_30 => ?_) (fun c_30 => ?_)
          · refine aw_iconst (v := 0) C d_De_bestRoom_47 (by decide) ?_
            refine aw_istore (i := 7) (lv' := [(7, .int 0), (6, .ref (ad 14 k)), (0, .ref (ad 0 0)), (1, .int a), (2, .int b), (3, .int h), (4, .ref (ad 14 j)), (5, .int (nI k))]) C d_De_bestRoom_48 (by decide) rfl ?_
            refine aw_iload C d_De_bestRoom_50 (j := 0) rfl ?_
            refine aw_if_eq (tgt := 77) C d_De_bestRoom_52 (by decide) (fun _ => ?_) (fun h => absurd h (by decide))
            refine aw_iinc (i := 5) (v := (nI (k + 1))) (lv' := [(5, .int (nI (k + 1))), (7, .int 0), (6, .ref (ad 14 k)), (0, .ref (ad 0 0)), (1, .int a), (2, .int b), (3, .int h), (4, .ref (ad 14 j))]) C d_De_bestRoom_77 (j := 7) rfl (nI_1 k) (by decide) rfl ?_
            refine aw_goto (tgt := 6) C d_De_bestRoom_80 (by decide) ?_
            exact aw_lv [3, 4, 5, 6, 7, 0] rfl (ih (k + 1) (some j) (by omega) hj (by rw [← hR]; simp only [br_L]; rw [if_pos c_30]))
          · refine aw_aload C d_De_bestRoom_33 (j := 0) rfl ?_
            refine aw_iload_n C d_De_bestRoom_35 rfl (j := 2) rfl ?_
            refine aw_iload_n C d_De_bestRoom_36 rfl (j := 3) rfl ?_
            refine aw_callVq (P9 := fun r u => ds_P D ad cA nb u) [.int a, .int b] C hK (c_Ro_bookingWithin l D ad cA nb S n0 k a b hI (by omega) hB (hF k) (hT k)) (cw_De_Ro_bookingWithin C.2.2.2.2 rfl rfl (by decide)) rfl (fun H h => aw_recv hK rfl (h 14 k (show k < 8 by omega))) (fun H h => h) (fun q h => Or.inl h) (fun q h => Or.inr (by rw [← hsz]; exact h)) rfl (Nat.le_of_ble_eq_true rfl) d_De_bestRoom_37 (by decide) (fun H H1 r u _ _ hB _ _ => hB) ?_
            rintro r u ⟨rfl, rfl⟩
            refine aw_ifnonnull (tgt := 47) C d_De_bestRoom_40 (by decide) (fun x_40 c_40 => ?_) (fun c_40 => ?_)
            · have e9 : ∃ z, bw_L S a b n0 (S.2.2 2 k) = some z := by
                cases hq : bw_L S a b n0 (S.2.2 2 k) with
                | none => rw [hq] at c_40; cases c_40
                | some z => exact ⟨z, rfl⟩
              obtain ⟨z9, e9⟩ := e9
              refine aw_iconst (v := 0) C d_De_bestRoom_47 (by decide) ?_
              refine aw_istore (i := 7) (lv' := [(7, .int 0), (6, .ref (ad 14 k)), (0, .ref (ad 0 0)), (1, .int a), (2, .int b), (3, .int h), (4, .ref (ad 14 j)), (5, .int (nI k))]) C d_De_bestRoom_48 (by decide) rfl ?_
              refine aw_iload C d_De_bestRoom_50 (j := 0) rfl ?_
              refine aw_if_eq (tgt := 77) C d_De_bestRoom_52 (by decide) (fun _ => ?_) (fun h => absurd h (by decide))
              refine aw_iinc (i := 5) (v := (nI (k + 1))) (lv' := [(5, .int (nI (k + 1))), (7, .int 0), (6, .ref (ad 14 k)), (0, .ref (ad 0 0)), (1, .int a), (2, .int b), (3, .int h), (4, .ref (ad 14 j))]) C d_De_bestRoom_77 (j := 7) rfl (nI_1 k) (by decide) rfl ?_
              refine aw_goto (tgt := 6) C d_De_bestRoom_80 (by decide) ?_
              exact aw_lv [3, 4, 5, 6, 7, 0] rfl (ih (k + 1) (some j) (by omega) hj (by rw [← hR]; simp only [br_L]; rw [if_neg c_30, e9]))
            · have e9 : bw_L S a b n0 (S.2.2 2 k) = none := Option.map_eq_none_iff.mp c_40
              refine aw_iconst (v := 1) C d_De_bestRoom_43 (by decide) ?_
              refine aw_goto (tgt := 48) C d_De_bestRoom_44 (by decide) ?_
              refine aw_istore (i := 7) (lv' := [(7, .int 1), (6, .ref (ad 14 k)), (0, .ref (ad 0 0)), (1, .int a), (2, .int b), (3, .int h), (4, .ref (ad 14 j)), (5, .int (nI k))]) C d_De_bestRoom_48 (by decide) rfl ?_
              refine aw_iload C d_De_bestRoom_50 (j := 0) rfl ?_
              refine aw_if_eq (tgt := 77) C d_De_bestRoom_52 (by decide) (fun h => absurd h (by decide)) (fun _ => ?_)
              refine aw_aload C d_De_bestRoom_55 (j := 6) rfl ?_
              refine aw_ifnull (o := some ((ad 14 j))) (tgt := 73) C d_De_bestRoom_57 (by decide) (fun h => nomatch h) (fun _ _ => ?_)
              refine aw_aload C d_De_bestRoom_60 (j := 1) rfl ?_
              refine gt_De_Ro_places C hK (show k < 8 by omega) d_De_bestRoom_62 ?_
              refine aw_aload C d_De_bestRoom_65 (j := 6) rfl ?_
              refine gt_De_Ro_places C hK (hj j rfl) d_De_bestRoom_67 ?_
              refine aw_icmp_ge (tgt := 77) C d_De_bestRoom_70 (by decide) (fun c_70 => ?_) (fun c_70 => ?_)
              · refine aw_iinc (i := 5) (v := (nI (k + 1))) (lv' := [(5, .int (nI (k + 1))), (7, .int 1), (6, .ref (ad 14 k)), (0, .ref (ad 0 0)), (1, .int a), (2, .int b), (3, .int h), (4, .ref (ad 14 j))]) C d_De_bestRoom_77 (j := 7) rfl (nI_1 k) (by decide) rfl ?_
                refine aw_goto (tgt := 6) C d_De_bestRoom_80 (by decide) ?_
                exact aw_lv [3, 4, 5, 6, 7, 0] rfl (ih (k + 1) (some j) (by omega) hj (by rw [← hR]; simp only [br_L]; rw [if_neg c_30, e9]; simp only []; rw [if_pos c_70]))
              · refine aw_aload C d_De_bestRoom_73 (j := 1) rfl ?_
                refine aw_astore (i := 4) (lv' := [(4, .ref (ad 14 k)), (7, .int 1), (6, .ref (ad 14 k)), (0, .ref (ad 0 0)), (1, .int a), (2, .int b), (3, .int h), (5, .int (nI k))]) C d_De_bestRoom_75 (by decide) rfl ?_
                refine aw_iinc (i := 5) (v := (nI (k + 1))) (lv' := [(5, .int (nI (k + 1))), (4, .ref (ad 14 k)), (7, .int 1), (6, .ref (ad 14 k)), (0, .ref (ad 0 0)), (1, .int a), (2, .int b), (3, .int h)]) C d_De_bestRoom_77 (j := 7) rfl (nI_1 k) (by decide) rfl ?_
                refine aw_goto (tgt := 6) C d_De_bestRoom_80 (by decide) ?_
                exact aw_lv [4, 5, 6, 7, 1, 0] rfl (ih (k + 1) (some k) (by omega) (fun z hz => by cases hz; omega) (by rw [← hR]; simp only [br_L]; rw [if_neg c_30, e9]; simp only []; rw [if_neg c_70]))
  refine aw_lv (lv' := [(0, .ref (ad 0 0)), (1, .int a), (2, .int b), (3, .int h)]) [0, 1, 2, 3] rfl ?_
  refine aw_null C d_De_bestRoom_0 ?_
  refine aw_astoreq (x := none) (i := 4) (lv' := [(4, va_rf none), (0, .ref (ad 0 0)), (1, .int a), (2, .int b), (3, .int h)]) C d_De_bestRoom_1 (by decide) rfl ?_
  refine aw_iconst (v := 0) C d_De_bestRoom_3 (by decide) ?_
  refine aw_istore (i := 5) (lv' := [(5, .int 0), (4, va_rf none), (0, .ref (ad 0 0)), (1, .int a), (2, .int b), (3, .int h)]) C d_De_bestRoom_4 (by decide) (by simp [va_rf_cat, ct_ref, ct_int, ct_long]) ?_
  exact aw_lv [2, 3, 4, 5, 1, 0] rfl (lp M 0 none (by omega) (fun z hz => by cases hz) rfl)
