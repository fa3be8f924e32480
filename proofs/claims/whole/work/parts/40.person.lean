def pe_wm (S : ds_S) (i : Nat) (x : Int32) : Int32 := if S.1 12 i 0 = -1 ∨ S.1 12 i 0 = x then 0 else 1
def pe_cost (S : ds_S) (i d : Nat) : Int64 := ((if pe_wm S i (nI d) = 0 then (1000 - S.1 10 i d).toInt64 * 17592186044416 else (1000 - S.1 10 i d).toInt64 * 17592186044416 + 1099511627776) : Int64) + (nI d).toInt64 <<< ((4 * (9 - nI i)).toInt64 &&& 63)
set_option maxHeartbeats 4000000 in
set_option maxRecDepth 100000 in
theorem c_Pe_wouldMoveTo (l : Launch) (D : va_G) (ad : Nat → Nat → Nat) (cA : Nat → ClassId) (nb : Nat) (S : ds_S) (i : Nat) (x : Int32) (hi : i < 10) : Ct_i l y_Pe_wouldMoveTo b_Pe_wouldMoveTo 2 (some .boolean) ({ frames := 0, cells := 0, slots := 0, locals := 0 } : Room) 0 0 D (ds_ty cA) (ds_A ad nb) [.ref (ad 10 i), .int x] (ds_P D ad cA nb S) (fun (r : Int32) (u : ds_S) => S = u ∧ r = pe_wm S i x) (ds_P D ad cA nb) := by
  intro sz
  refine ct_of (by decide) (Nat.le_of_ble_eq_true rfl) ?_
  intro p e s m args below meth c hsz C hr hlk hnm hK
  refine aw_lv (lv' := [(0, .ref (ad 10 i)), (1, .int x)]) [0, 1] rfl ?_
  refine aw_aload_n C d_Pe_wouldMoveTo_0 rfl (j := 0) rfl ?_
  refine gt_Pe_Pe_oldDesk C hK hi d_Pe_wouldMoveTo_1 ?_
  refine aw_iconst (v := (-1)) C d_Pe_wouldMoveTo_4 (by decide) ?_
  refine aw_icmp_eq (tgt := 20) C d_Pe_wouldMoveTo_5 (by decide) (fun c_5 => ?_) (fun c_5 => ?_)
  · refine aw_iconst (v := 0) C d_Pe_wouldMoveTo_20 (by decide) ?_
    exact aw_zret C hr hlk rfl S ⟨rfl, by unfold pe_wm; rw [if_pos (Or.inl c_5)]⟩ (fun H h => h) d_Pe_wouldMoveTo_21
  · refine aw_aload_n C d_Pe_wouldMoveTo_8 rfl (j := 0) rfl ?_
    refine gt_Pe_Pe_oldDesk C hK hi d_Pe_wouldMoveTo_9 ?_
    refine aw_iload_n C d_Pe_wouldMoveTo_12 rfl (j := 1) rfl ?_
    refine aw_icmp_eq (tgt := 20) C d_Pe_wouldMoveTo_13 (by decide) (fun c_13 => ?_) (fun c_13 => ?_)
    · refine aw_iconst (v := 0) C d_Pe_wouldMoveTo_20 (by decide) ?_
      exact aw_zret C hr hlk rfl S ⟨rfl, by unfold pe_wm; rw [if_pos (Or.inr c_13)]⟩ (fun H h => h) d_Pe_wouldMoveTo_21
    · refine aw_iconst (v := 1) C d_Pe_wouldMoveTo_16 (by decide) ?_
      refine aw_goto (tgt := 21) C d_Pe_wouldMoveTo_17 (by decide) ?_
      exact aw_zret C hr hlk rfl S ⟨rfl, by unfold pe_wm; rw [if_neg (fun h => h.elim c_5 c_13)]⟩ (fun H h => h) d_Pe_wouldMoveTo_21
set_option maxHeartbeats 4000000 in
set_option maxRecDepth 100000 in
theorem c_Pe_costAt (l : Launch) (D : va_G) (ad : Nat → Nat → Nat) (cA : Nat → ClassId) (nb : Nat) (S : ds_S) (i d : Nat) (hi : i < 10) (hd : d < 14) : Ct_l l y_Pe_costAt b_Pe_costAt 4 (some .long) ({ frames := 1, cells := 0, slots := 0, locals := 21 } : Room) 0 0 D (ds_ty cA) (ds_A ad nb) [.ref (ad 10 i), .int (nI d)] (ds_P D ad cA nb S) (fun (r : Int64) (u : ds_S) => S = u ∧ r = pe_cost S i d) (ds_P D ad cA nb) := by
  intro sz
  refine ct_of (by decide) (Nat.le_of_ble_eq_true rfl) ?_
  intro p e s m args below meth c hsz C hr hlk hnm hK
  refine aw_lv (lv' := [(0, .ref (ad 10 i)), (1, .int (nI d))]) [0, 1] rfl ?_
  refine aw_sipush (v := 1000) C d_Pe_costAt_0 (by decide) ?_
  refine aw_aload_n C d_Pe_costAt_3 rfl (j := 0) rfl ?_
  refine gt_Pe_Pe_wishes C hK hi d_Pe_costAt_4 ?_
  refine aw_iload_n C d_Pe_costAt_7 rfl (j := 1) rfl ?_
  refine al_11 C hK hi d rfl hd d_Pe_costAt_8 ?_
  refine aw_isub C d_Pe_costAt_9 ?_
  refine aw_topi (fun z_9 hz_9 => ?_)
  refine aw_i2l C d_Pe_costAt_10 rfl ?_
  refine aw_topl (fun z_10 hz_10 => ?_)
  refine aw_ldc2 C kl_Pe_17592186044416 d_Pe_costAt_11 ?_
  refine aw_lmul C d_Pe_costAt_14 ?_
  refine aw_topl (fun z_14 hz_14 => ?_)
  refine aw_lstore_n (i := 2) (lv' := [(2, .long z_14), (0, .ref (ad 10 i)), (1, .int (nI d))]) C d_Pe_costAt_15 rfl (by decide) rfl ?_
  refine aw_aload_n C d_Pe_costAt_16 rfl (j := 1) rfl ?_
  refine aw_iload_n C d_Pe_costAt_17 rfl (j := 2) rfl ?_
  refine aw_callVi (P9 := fun r u => ds_P D ad cA nb u) [.int (nI d)] C hK (c_Pe_wouldMoveTo l D ad cA nb S i (nI d) hi) (cw_Pe_Pe_wouldMoveTo C.2.2.2.2 rfl rfl (by decide)) rfl (fun H h => aw_recv hK rfl (h 10 i hi)) (fun H h => h) (fun q h => Or.inl h) (fun q h => Or.inr (by rw [← hsz]; exact h)) rfl (by decide) d_Pe_costAt_18 (by decide) (fun H H1 r u _ _ hB _ _ => hB) ?_
  rintro r u ⟨rfl, rfl⟩
  refine aw_if_eq (tgt := 30) C d_Pe_costAt_21 (by decide) (fun c_21 => ?_) (fun c_21 => ?_)
  · refine aw_lload_n C d_Pe_costAt_30 rfl (j := 0) rfl ?_
    refine aw_iload_n C d_Pe_costAt_31 rfl (j := 2) rfl ?_
    refine aw_i2l C d_Pe_costAt_32 rfl ?_
    refine aw_topl (fun z_32 hz_32 => ?_)
    refine aw_iconst (v := 4) C d_Pe_costAt_33 (by decide) ?_
    refine aw_bipush (v := 9) C d_Pe_costAt_34 (by decide) ?_
    refine aw_aload_n C d_Pe_costAt_36 rfl (j := 1) rfl ?_
    refine gt_Pe_Pe_number C hK hi d_Pe_costAt_37 ?_
    refine aw_isub C d_Pe_costAt_40 ?_
    refine aw_topi (fun z_40 hz_40 => ?_)
    refine aw_imul C d_Pe_costAt_41 ?_
    refine aw_topi (fun z_41 hz_41 => ?_)
    refine aw_lshl C d_Pe_costAt_42 rfl ?_
    refine aw_topl (fun z_42 hz_42 => ?_)
    refine aw_ladd C d_Pe_costAt_43 ?_
    refine aw_topl (fun z_43 hz_43 => ?_)
    exact aw_lret C hr hlk S ⟨rfl, by unfold pe_cost; rw [if_pos c_21, hz_43, hz_42, hz_41, hz_40, hz_32, hz_14, hz_10, hz_9]⟩ (fun H h => h) d_Pe_costAt_44
  · refine aw_lload_n C d_Pe_costAt_24 rfl (j := 0) rfl ?_
    refine aw_ldc2 C kl_Pe_1099511627776 d_Pe_costAt_25 ?_
    refine aw_ladd C d_Pe_costAt_28 ?_
    refine aw_topl (fun z_28 hz_28 => ?_)
    refine aw_lstore_n (i := 2) (lv' := [(2, .long z_28), (0, .ref (ad 10 i)), (1, .int (nI d))]) C d_Pe_costAt_29 rfl (by decide) rfl ?_
    refine aw_lload_n C d_Pe_costAt_30 rfl (j := 0) rfl ?_
    refine aw_iload_n C d_Pe_costAt_31 rfl (j := 2) rfl ?_
    refine aw_i2l C d_Pe_costAt_32 rfl ?_
    refine aw_topl (fun z_32 hz_32 => ?_)
    refine aw_iconst (v := 4) C d_Pe_costAt_33 (by decide) ?_
    refine aw_bipush (v := 9) C d_Pe_costAt_34 (by decide) ?_
    refine aw_aload_n C d_Pe_costAt_36 rfl (j := 1) rfl ?_
    refine gt_Pe_Pe_number C hK hi d_Pe_costAt_37 ?_
    refine aw_isub C d_Pe_costAt_40 ?_
    refine aw_topi (fun z_40 hz_40 => ?_)
    refine aw_imul C d_Pe_costAt_41 ?_
    refine aw_topi (fun z_41 hz_41 => ?_)
    refine aw_lshl C d_Pe_costAt_42 rfl ?_
    refine aw_topl (fun z_42 hz_42 => ?_)
    refine aw_ladd C d_Pe_costAt_43 ?_
    refine aw_topl (fun z_43 hz_43 => ?_)
    exact aw_lret C hr hlk S ⟨rfl, by unfold pe_cost; rw [if_neg c_21, hz_43, hz_42, hz_41, hz_40, hz_32, hz_28, hz_14, hz_10, hz_9]⟩ (fun H h => h) d_Pe_costAt_44
