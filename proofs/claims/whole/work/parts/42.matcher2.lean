set_option maxHeartbeats 4000000 in
set_option maxRecDepth 100000 in
theorem c_Ma_nearestSpot (l : Launch) (D : va_G) (ad : Nat → Nat → Nat) (cA : Nat → ClassId) (nb : Nat) (S : ds_S) (N : Nat) (hI : ds_I ad nb) (hN : N ≤ 14) (h6 : S.1 6 0 0 = nI N) : Ct_q l y_Ma_nearestSpot b_Ma_nearestSpot 5 (some (.object "DeskMoves$Spot")) ({ frames := 0, cells := 0, slots := 0, locals := 0 } : Room) 0 0 D (ds_ty cA) (ds_A ad nb) [.ref (ad 2 0)] (ds_P D ad cA nb S) (fun (r : Option Nat) (u : ds_S) => S = u ∧ r = (ns_F S N).1.map (ad 13)) (ds_P D ad cA nb) := by
  intro sz
  refine ct_of (by decide) (Nat.le_of_ble_eq_true rfl) ?_
  intro p e s m args below meth c hsz C hr hlk hnm hK
  have lp : ∀ (n k : Nat) , k ≤ N → N + 1 ≤ k + n → AW p l e ({ frames := 0, cells := 0, slots := 0, locals := 0 } : Room) s m args below meth c 5 0 0 (MQ below (va_Qq (fun (r : Option Nat) (u : ds_S) => S = u ∧ r = (ns_F S N).1.map (ad 13)) (fun u t => (ds_P D ad cA nb) u t.heap) (ct_A (ds_A ad nb) sz)) args s 0 0 (ct_A (ds_A ad nb) sz)) (ds_P D ad cA nb S) (ct_A (ds_A ad nb) sz) 9 [(0, .ref (ad 2 0)), (1, va_rf ((ns_F S k).1.map (ad 13))), (2, .long (ns_F S k).2), (4, .int (nI k))] [] := by
    intro n
    induction n with
    | zero => intro k h1 h2; exact absurd h2 (by omega)
    | succ n ih =>
      intro k hk hn
      refine aw_iload C d_Ma_nearestSpot_9 (j := 3) rfl ?_
      refine aw_aload_n C d_Ma_nearestSpot_11 rfl (j := 0) rfl ?_
      refine gt_Ma_Ma_spotCount C hK  d_Ma_nearestSpot_12 ?_
      refine aw_icmp_ge (tgt := 65) C d_Ma_nearestSpot_15 (by decide) (fun c_15 => ?_) (fun c_15 => ?_)
      · have hkN : k = N := by rw [h6] at c_15; have := (nI_leI (by omega) (by omega)).mp c_15; omega
        subst hkN
        refine aw_aloadq_n C d_Ma_nearestSpot_65 rfl (j := 1) rfl ?_
        exact aw_qret C hr hlk S ⟨rfl, rfl⟩ (fun H h => h) d_Ma_nearestSpot_66
      · have hlt : k < N := by rw [h6] at c_15; exact Nat.lt_of_not_le (fun h => c_15 (nI_le h (by omega)))
        refine aw_aload_n C d_Ma_nearestSpot_18 rfl (j := 0) rfl ?_
        refine gt_Ma_Ma_spots C hK  d_Ma_nearestSpot_19 ?_
        refine aw_iload C d_Ma_nearestSpot_22 (j := 3) rfl ?_
        refine al_3 C hK  k rfl (show k < 14 by omega) d_Ma_nearestSpot_24 ?_
        refine gt_Ma_Sp_reached C hK (show k < 14 by omega) d_Ma_nearestSpot_25 ?_
        refine aw_if_ne (tgt := 59) C d_Ma_nearestSpot_28 (by decide) (fun c_28 => ?_) (fun c_28 => ?_)
        · refine aw_iinc (i := 4) (v := (nI (k + 1))) (lv' := [(4, .int (nI (k + 1))), (0, .ref (ad 2 0)), (1, va_rf ((ns_F S k).1.map (ad 13))), (2, .long (ns_F S k).2)]) C d_Ma_nearestSpot_59 (j := 3) rfl (nI_1 k) (by decide) rfl ?_
          refine aw_goto (tgt := 9) C d_Ma_nearestSpot_62 (by decide) ?_
          have e9 : ns_F S (k + 1) = ns_F S k := by
            show (if S.1 15 k 0 = 0 then (if S.2.1 2 k < (ns_F S k).2 then (some k, S.2.1 2 k) else ns_F S k) else ns_F S k) = _
            rw [if_neg c_28]
          have h9 := ih (k + 1) (by omega) (by omega)
          rw [e9] at h9
          exact aw_lv [1, 2, 3, 0] rfl h9
        · refine aw_aload_n C d_Ma_nearestSpot_31 rfl (j := 0) rfl ?_
          refine gt_Ma_Ma_spots C hK  d_Ma_nearestSpot_32 ?_
          refine aw_iload C d_Ma_nearestSpot_35 (j := 3) rfl ?_
          refine al_3 C hK  k rfl (show k < 14 by omega) d_Ma_nearestSpot_37 ?_
          refine gt_Ma_Sp_distance C hK (show k < 14 by omega) d_Ma_nearestSpot_38 ?_
          refine aw_lload_n C d_Ma_nearestSpot_41 rfl (j := 2) rfl ?_
          refine aw_lcmp C d_Ma_nearestSpot_42 ?_
          refine aw_topi (fun z_42 hz_42 => ?_)
          refine aw_if_ge (tgt := 59) C d_Ma_nearestSpot_43 (by decide) (fun c_43 => ?_) (fun c_43 => ?_)
          · refine aw_iinc (i := 4) (v := (nI (k + 1))) (lv' := [(4, .int (nI (k + 1))), (0, .ref (ad 2 0)), (1, va_rf ((ns_F S k).1.map (ad 13))), (2, .long (ns_F S k).2)]) C d_Ma_nearestSpot_59 (j := 3) rfl (nI_1 k) (by decide) rfl ?_
            refine aw_goto (tgt := 9) C d_Ma_nearestSpot_62 (by decide) ?_
            have e9 : ns_F S (k + 1) = ns_F S k := by
              show (if S.1 15 k 0 = 0 then (if S.2.1 2 k < (ns_F S k).2 then (some k, S.2.1 2 k) else ns_F S k) else ns_F S k) = _
              rw [if_pos c_28, if_neg (fun h => by rw [hz_42] at c_43; exact absurd h (Int64.not_lt.mpr ((lg_cmp_ge _ _).mp c_43)))]
            have h9 := ih (k + 1) (by omega) (by omega)
            rw [e9] at h9
            exact aw_lv [1, 2, 3, 0] rfl h9
          · refine aw_aload_n C d_Ma_nearestSpot_46 rfl (j := 0) rfl ?_
            refine gt_Ma_Ma_spots C hK  d_Ma_nearestSpot_47 ?_
            refine aw_iload C d_Ma_nearestSpot_50 (j := 3) rfl ?_
            refine al_3 C hK  k rfl (show k < 14 by omega) d_Ma_nearestSpot_52 ?_
            refine aw_astore_n (i := 1) (lv' := [(1, .ref (ad 13 k)), (0, .ref (ad 2 0)), (2, .long (ns_F S k).2), (4, .int (nI k))]) C d_Ma_nearestSpot_53 rfl (by decide) rfl ?_
            refine aw_aload_n C d_Ma_nearestSpot_54 rfl (j := 0) rfl ?_
            refine gt_Ma_Sp_distance C hK (show k < 14 by omega) d_Ma_nearestSpot_55 ?_
            refine aw_lstore_n (i := 2) (lv' := [(2, .long (S.2.1 2 k)), (1, .ref (ad 13 k)), (0, .ref (ad 2 0)), (4, .int (nI k))]) C d_Ma_nearestSpot_58 rfl (by decide) rfl ?_
            refine aw_iinc (i := 4) (v := (nI (k + 1))) (lv' := [(4, .int (nI (k + 1))), (2, .long (S.2.1 2 k)), (1, .ref (ad 13 k)), (0, .ref (ad 2 0))]) C d_Ma_nearestSpot_59 (j := 3) rfl (nI_1 k) (by decide) rfl ?_
            refine aw_goto (tgt := 9) C d_Ma_nearestSpot_62 (by decide) ?_
            have e9 : ns_F S (k + 1) = (some k, S.2.1 2 k) := by
              show (if S.1 15 k 0 = 0 then (if S.2.1 2 k < (ns_F S k).2 then (some k, S.2.1 2 k) else ns_F S k) else ns_F S k) = _
              rw [if_pos c_28, if_pos (by rw [hz_42] at c_43; exact Int64.not_le.mp (fun h => c_43 ((lg_cmp_ge _ _).mpr h)))]
            have h9 := ih (k + 1) (by omega) (by omega)
            rw [e9] at h9
            exact aw_lv [3, 2, 1, 0] rfl h9
  refine aw_lv (lv' := [(0, .ref (ad 2 0))]) [0] rfl ?_
  refine aw_null C d_Ma_nearestSpot_0 ?_
  refine aw_astoreq_n (x := none) (i := 1) (lv' := [(1, va_rf none), (0, .ref (ad 2 0))]) C d_Ma_nearestSpot_1 rfl (by decide) rfl ?_
  refine aw_ldc2 C kl_Ma_4611686018427387904 d_Ma_nearestSpot_2 ?_
  refine aw_lstore_n (i := 2) (lv' := [(2, .long 4611686018427387904), (1, va_rf none), (0, .ref (ad 2 0))]) C d_Ma_nearestSpot_5 rfl (by decide) (by simp [va_rf_cat, ct_ref, ct_int, ct_long]) ?_
  refine aw_iconst (v := 0) C d_Ma_nearestSpot_6 (by decide) ?_
  refine aw_istore (i := 4) (lv' := [(4, .int 0), (2, .long 4611686018427387904), (1, va_rf none), (0, .ref (ad 2 0))]) C d_Ma_nearestSpot_7 (by decide) rfl ?_
  exact aw_lv [3, 2, 1, 0] rfl (lp (N + 1) 0 (by omega) (by omega))
set_option maxHeartbeats 4000000 in
set_option maxRecDepth 100000 in
theorem c_Ma_shiftPrices (l : Launch) (D : va_G) (ad : Nat → Nat → Nat) (cA : Nat → ClassId) (nb : Nat) (S : ds_S) (N q : Nat) (by9 : Int64) (hI : ds_I ad nb) (hN : N ≤ 14) (h6 : S.1 6 0 0 = nI N) (hq : q < 10) (hV : ma_V S) : Ct_v l y_Ma_shiftPrices b_Ma_shiftPrices 6 none ({ frames := 0, cells := 0, slots := 0, locals := 0 } : Room) 0 0 D (ds_ty cA) (ds_A ad nb) [.ref (ad 2 0), .ref (ad 10 q), .long by9] (ds_P D ad cA nb S) (fun (u : ds_S) => u = sp_F (ds_wJ S 0 q (S.2.1 0 q + by9)) by9 N) (ds_P D ad cA nb) := by
  intro sz
  refine ct_of (by decide) (Nat.le_of_ble_eq_true rfl) ?_
  intro p e s m args below meth c hsz C hr hlk hnm hK
  have lp : ∀ (n k : Nat) , k ≤ N → N + 1 ≤ k + n → AW p l e ({ frames := 0, cells := 0, slots := 0, locals := 0 } : Room) s m args below meth c 6 0 0 (MQ below (va_Qv (fun (u : ds_S) => u = sp_F (ds_wJ S 0 q (S.2.1 0 q + by9)) by9 N) (fun u t => (ds_P D ad cA nb) u t.heap) (ct_A (ds_A ad nb) sz)) args s 0 0 (ct_A (ds_A ad nb) sz)) (ds_P D ad cA nb (sp_F (ds_wJ S 0 q (S.2.1 0 q + by9)) by9 k)) (ct_A (ds_A ad nb) sz) 13 [(0, .ref (ad 2 0)), (1, .ref (ad 10 q)), (2, .long by9), (4, .int (nI k))] [] := by
    intro n
    induction n with
    | zero => intro k h1 h2; exact absurd h2 (by omega)
    | succ n ih =>
      intro k hk hn
      refine aw_iload C d_Ma_shiftPrices_13 (j := 3) rfl ?_
      refine aw_aload_n C d_Ma_shiftPrices_15 rfl (j := 0) rfl ?_
      refine gt_Ma_Ma_spotCount C hK  d_Ma_shiftPrices_16 ?_
      refine aw_icmp_ge (tgt := 104) C d_Ma_shiftPrices_19 (by decide) (fun c_19 => ?_) (fun c_19 => ?_)
      · have hkN : k = N := by rw [sp_1, show (ds_wJ S 0 q (S.2.1 0 q + by9)).1 6 0 0 = nI N from h6] at c_19; have := (nI_leI (by omega) (by omega)).mp c_19; omega
        subst hkN
        exact aw_vret C hr hlk _ rfl (fun H h => h) d_Ma_shiftPrices_104
      · have hlt : k < N := by rw [sp_1, show (ds_wJ S 0 q (S.2.1 0 q + by9)).1 6 0 0 = nI N from h6] at c_19; exact Nat.lt_of_not_le (fun h => c_19 (nI_le h (by omega)))
        refine aw_aload_n C d_Ma_shiftPrices_22 rfl (j := 0) rfl ?_
        refine gt_Ma_Ma_spots C hK  d_Ma_shiftPrices_23 ?_
        refine aw_iload C d_Ma_shiftPrices_26 (j := 3) rfl ?_
        refine al_3 C hK  k rfl (show k < 14 by omega) d_Ma_shiftPrices_28 ?_
        refine aw_astore (i := 5) (lv' := [(5, .ref (ad 13 k)), (0, .ref (ad 2 0)), (1, .ref (ad 10 q)), (2, .long by9), (4, .int (nI k))]) C d_Ma_shiftPrices_29 (by decide) rfl ?_
        refine aw_aload C d_Ma_shiftPrices_31 (j := 0) rfl ?_
        refine gt_Ma_Sp_reached C hK (show k < 14 by omega) d_Ma_shiftPrices_33 ?_
        refine aw_if_eq (tgt := 75) C d_Ma_shiftPrices_36 (by decide) (fun c_36 => ?_) (fun c_36 => ?_)
        · refine aw_aload C d_Ma_shiftPrices_75 (j := 0) rfl ?_
          refine gt_Ma_Sp_distance C hK (show k < 14 by omega) d_Ma_shiftPrices_77 ?_
          refine aw_ldc2 C kl_Ma_4611686018427387904 d_Ma_shiftPrices_80 ?_
          refine aw_lcmp C d_Ma_shiftPrices_83 ?_
          refine aw_topi (fun z_83 hz_83 => ?_)
          refine aw_if_ge (tgt := 98) C d_Ma_shiftPrices_84 (by decide) (fun c_84 => ?_) (fun c_84 => ?_)
          · refine aw_iinc (i := 4) (v := (nI (k + 1))) (lv' := [(4, .int (nI (k + 1))), (5, .ref (ad 13 k)), (0, .ref (ad 2 0)), (1, .ref (ad 10 q)), (2, .long by9)]) C d_Ma_shiftPrices_98 (j := 4) rfl (nI_1 k) (by decide) rfl ?_
            refine aw_goto (tgt := 13) C d_Ma_shiftPrices_101 (by decide) ?_
            have e9 : sp_F (ds_wJ S 0 q (S.2.1 0 q + by9)) by9 (k + 1) = sp_F (ds_wJ S 0 q (S.2.1 0 q + by9)) by9 k := by
              show sp_step (sp_F (ds_wJ S 0 q (S.2.1 0 q + by9)) by9 k) by9 k = _
              unfold sp_step
              rw [if_pos c_36, if_neg (fun h => by rw [hz_83] at c_84; exact absurd h (Int64.not_lt.mpr ((lg_cmp_ge _ _).mp c_84)))]
            rw [← e9]
            exact aw_lv [2, 3, 4, 0] rfl (ih (k + 1) (by omega) (by omega))
          · refine aw_aload C d_Ma_shiftPrices_87 (j := 0) rfl ?_
            refine aw_dup C d_Ma_shiftPrices_89 rfl ?_
            refine gt_Ma_Sp_distance C hK (show k < 14 by omega) d_Ma_shiftPrices_90 ?_
            refine aw_lload_n C d_Ma_shiftPrices_93 rfl (j := 3) rfl ?_
            refine aw_lsub C d_Ma_shiftPrices_94 ?_
            refine pt_Ma_Sp_distance (x := ((((sp_F (ds_wJ S 0 q (S.2.1 0 q + by9)) by9 k).2.1 2 k)) - by9)) C hK hI (show k < 14 by omega)  d_Ma_shiftPrices_95 ?_
            refine aw_iinc (i := 4) (v := (nI (k + 1))) (lv' := [(4, .int (nI (k + 1))), (5, .ref (ad 13 k)), (0, .ref (ad 2 0)), (1, .ref (ad 10 q)), (2, .long by9)]) C d_Ma_shiftPrices_98 (j := 4) rfl (nI_1 k) (by decide) rfl ?_
            refine aw_goto (tgt := 13) C d_Ma_shiftPrices_101 (by decide) ?_
            have e9 : sp_F (ds_wJ S 0 q (S.2.1 0 q + by9)) by9 (k + 1) = ds_wJ (sp_F (ds_wJ S 0 q (S.2.1 0 q + by9)) by9 k) 2 k (((((sp_F (ds_wJ S 0 q (S.2.1 0 q + by9)) by9 k).2.1 2 k)) - by9)) := by
              show sp_step (sp_F (ds_wJ S 0 q (S.2.1 0 q + by9)) by9 k) by9 k = _
              unfold sp_step
              rw [if_pos c_36, if_pos (by rw [hz_83] at c_84; exact Int64.not_le.mp (fun h => c_84 ((lg_cmp_ge _ _).mpr h)))]
            rw [← e9]
            exact aw_lv [2, 3, 4, 0] rfl (ih (k + 1) (by omega) (by omega))
        · refine aw_aload C d_Ma_shiftPrices_39 (j := 0) rfl ?_
          refine aw_dup C d_Ma_shiftPrices_41 rfl ?_
          refine gt_Ma_Sp_price C hK (show k < 14 by omega) d_Ma_shiftPrices_42 ?_
          refine aw_lload_n C d_Ma_shiftPrices_45 rfl (j := 3) rfl ?_
          refine aw_lsub C d_Ma_shiftPrices_46 ?_
          refine pt_Ma_Sp_price (x := ((((sp_F (ds_wJ S 0 q (S.2.1 0 q + by9)) by9 k).2.1 1 k)) - by9)) C hK hI (show k < 14 by omega)  d_Ma_shiftPrices_47 ?_
          refine aw_aload C d_Ma_shiftPrices_50 (j := 0) rfl ?_
          refine gt_Ma_Sp_sitter C hK (show k < 14 by omega) d_Ma_shiftPrices_52 ?_
          rcases ho_52 : ((ds_wJ (sp_F (ds_wJ S 0 q (S.2.1 0 q + by9)) by9 k) 1 k (((((sp_F (ds_wJ S 0 q (S.2.1 0 q + by9)) by9 k).2.1 1 k)) - by9))).2.2 0 k) with _ | p_52
          · refine aw_ifnull (o := none) (tgt := 98) C d_Ma_shiftPrices_55 (by decide) (fun _ => ?_) (fun _ h => nomatch h)
            refine aw_iinc (i := 4) (v := (nI (k + 1))) (lv' := [(4, .int (nI (k + 1))), (5, .ref (ad 13 k)), (0, .ref (ad 2 0)), (1, .ref (ad 10 q)), (2, .long by9)]) C d_Ma_shiftPrices_98 (j := 4) rfl (nI_1 k) (by decide) rfl ?_
            refine aw_goto (tgt := 13) C d_Ma_shiftPrices_101 (by decide) ?_
            have e9 : sp_F (ds_wJ S 0 q (S.2.1 0 q + by9)) by9 (k + 1) = ds_wJ (sp_F (ds_wJ S 0 q (S.2.1 0 q + by9)) by9 k) 1 k (((((sp_F (ds_wJ S 0 q (S.2.1 0 q + by9)) by9 k).2.1 1 k)) - by9)) := by
              show sp_step (sp_F (ds_wJ S 0 q (S.2.1 0 q + by9)) by9 k) by9 k = _
              unfold sp_step
              rw [if_neg c_36, show (sp_F (ds_wJ S 0 q (S.2.1 0 q + by9)) by9 k).2.2 0 k = none from ho_52]
            rw [← e9]
            exact aw_lv [2, 3, 4, 0] rfl (ih (k + 1) (by omega) (by omega))
          · refine aw_ifnull (o := some ((ad 10 p_52))) (tgt := 98) C d_Ma_shiftPrices_55 (by decide) (fun h => nomatch h) (fun _ _ => ?_)
            refine aw_aload C d_Ma_shiftPrices_58 (j := 0) rfl ?_
            refine gt_Ma_Sp_sitter C hK (show k < 14 by omega) d_Ma_shiftPrices_60 ?_
            rw [ho_52]
            refine aw_dup C d_Ma_shiftPrices_63 rfl ?_
            refine gt_Ma_Pe_price C hK (hV.1 k p_52 (by rw [← ho_52]; exact (congrFun (congrFun (sp_2 (ds_wJ S 0 q (S.2.1 0 q + by9)) by9 k) 0) k).symm)) d_Ma_shiftPrices_64 ?_
            refine aw_lload_n C d_Ma_shiftPrices_67 rfl (j := 3) rfl ?_
            refine aw_ladd C d_Ma_shiftPrices_68 ?_
            refine pt_Ma_Pe_price (x := ((((ds_wJ (sp_F (ds_wJ S 0 q (S.2.1 0 q + by9)) by9 k) 1 k (((((sp_F (ds_wJ S 0 q (S.2.1 0 q + by9)) by9 k).2.1 1 k)) - by9))).2.1 0 p_52)) + by9)) C hK hI (hV.1 k p_52 (by rw [← ho_52]; exact (congrFun (congrFun (sp_2 (ds_wJ S 0 q (S.2.1 0 q + by9)) by9 k) 0) k).symm))  d_Ma_shiftPrices_69 ?_
            refine aw_goto (tgt := 98) C d_Ma_shiftPrices_72 (by decide) ?_
            refine aw_iinc (i := 4) (v := (nI (k + 1))) (lv' := [(4, .int (nI (k + 1))), (5, .ref (ad 13 k)), (0, .ref (ad 2 0)), (1, .ref (ad 10 q)), (2, .long by9)]) C d_Ma_shiftPrices_98 (j := 4) rfl (nI_1 k) (by decide) rfl ?_
            refine aw_goto (tgt := 13) C d_Ma_shiftPrices_101 (by decide) ?_
            have e9 : sp_F (ds_wJ S 0 q (S.2.1 0 q + by9)) by9 (k + 1) = ds_wJ (ds_wJ (sp_F (ds_wJ S 0 q (S.2.1 0 q + by9)) by9 k) 1 k (((((sp_F (ds_wJ S 0 q (S.2.1 0 q + by9)) by9 k).2.1 1 k)) - by9))) 0 p_52 (((((ds_wJ (sp_F (ds_wJ S 0 q (S.2.1 0 q + by9)) by9 k) 1 k (((((sp_F (ds_wJ S 0 q (S.2.1 0 q + by9)) by9 k).2.1 1 k)) - by9))).2.1 0 p_52)) + by9)) := by
              show sp_step (sp_F (ds_wJ S 0 q (S.2.1 0 q + by9)) by9 k) by9 k = _
              unfold sp_step
              rw [if_neg c_36, show (sp_F (ds_wJ S 0 q (S.2.1 0 q + by9)) by9 k).2.2 0 k = some p_52 from ho_52]
            rw [← e9]
            exact aw_lv [2, 3, 4, 0] rfl (ih (k + 1) (by omega) (by omega))
  refine aw_lv (lv' := [(0, .ref (ad 2 0)), (1, .ref (ad 10 q)), (2, .long by9)]) [0, 1, 2] rfl ?_
  refine aw_aload_n C d_Ma_shiftPrices_0 rfl (j := 1) rfl ?_
  refine aw_dup C d_Ma_shiftPrices_1 rfl ?_
  refine gt_Ma_Pe_price C hK hq d_Ma_shiftPrices_2 ?_
  refine aw_lload_n C d_Ma_shiftPrices_5 rfl (j := 2) rfl ?_
  refine aw_ladd C d_Ma_shiftPrices_6 ?_
  refine pt_Ma_Pe_price (x := (((S.2.1 0 q)) + by9)) C hK hI hq  d_Ma_shiftPrices_7 ?_
  refine aw_iconst (v := 0) C d_Ma_shiftPrices_10 (by decide) ?_
  refine aw_istore (i := 4) (lv' := [(4, .int 0), (0, .ref (ad 2 0)), (1, .ref (ad 10 q)), (2, .long by9)]) C d_Ma_shiftPrices_11 (by decide) rfl ?_
  exact aw_lv [1, 2, 3, 0] rfl (lp (N + 1) 0 (by omega) (by omega))
set_option maxHeartbeats 4000000 in
set_option maxRecDepth 100000 in
theorem c_Ma_tellPersons (l : Launch) (D : va_G) (ad : Nat → Nat → Nat) (cA : Nat → ClassId) (nb : Nat) (S : ds_S) (N : Nat) (hI : ds_I ad nb) (hN : N ≤ 14) (h6 : S.1 6 0 0 = nI N) (hV : ma_V S) : Ct_v l y_Ma_tellPersons b_Ma_tellPersons 3 none ({ frames := 0, cells := 0, slots := 0, locals := 0 } : Room) 0 0 D (ds_ty cA) (ds_A ad nb) [.ref (ad 2 0)] (ds_P D ad cA nb S) (fun (u : ds_S) => u = tp_F S N) (ds_P D ad cA nb) := by
  intro sz
  refine ct_of (by decide) (Nat.le_of_ble_eq_true rfl) ?_
  intro p e s m args below meth c hsz C hr hlk hnm hK
  have lp : ∀ (n k : Nat) , k ≤ N → N + 1 ≤ k + n → AW p l e ({ frames := 0, cells := 0, slots := 0, locals := 0 } : Room) s m args below meth c 3 0 0 (MQ below (va_Qv (fun (u : ds_S) => u = tp_F S N) (fun u t => (ds_P D ad cA nb) u t.heap) (ct_A (ds_A ad nb) sz)) args s 0 0 (ct_A (ds_A ad nb) sz)) (ds_P D ad cA nb (tp_F S k)) (ct_A (ds_A ad nb) sz) 2 [(0, .ref (ad 2 0)), (1, .int (nI k))] [] := by
    intro n
    induction n with
    | zero => intro k h1 h2; exact absurd h2 (by omega)
    | succ n ih =>
      intro k hk hn
      refine aw_iload_n C d_Ma_tellPersons_2 rfl (j := 1) rfl ?_
      refine aw_aload_n C d_Ma_tellPersons_3 rfl (j := 0) rfl ?_
      refine gt_Ma_Ma_spotCount C hK  d_Ma_tellPersons_4 ?_
      refine aw_icmp_ge (tgt := 35) C d_Ma_tellPersons_7 (by decide) (fun c_7 => ?_) (fun c_7 => ?_)
      · have hkN : k = N := by rw [tp_6, h6] at c_7; have := (nI_leI (by omega) (by omega)).mp c_7; omega
        subst hkN
        exact aw_vret C hr hlk _ rfl (fun H h => h) d_Ma_tellPersons_35
      · have hlt : k < N := by rw [tp_6, h6] at c_7; exact Nat.lt_of_not_le (fun h => c_7 (nI_le h (by omega)))
        refine aw_aload_n C d_Ma_tellPersons_10 rfl (j := 0) rfl ?_
        refine gt_Ma_Ma_spots C hK  d_Ma_tellPersons_11 ?_
        refine aw_iload_n C d_Ma_tellPersons_14 rfl (j := 1) rfl ?_
        refine al_3 C hK  k rfl (show k < 14 by omega) d_Ma_tellPersons_15 ?_
        refine gt_Ma_Sp_sitter C hK (show k < 14 by omega) d_Ma_tellPersons_16 ?_
        rcases ho_16 : ((tp_F S k).2.2 0 k) with _ | p_16
        · refine aw_astoreq_n (x := none) (i := 2) (lv' := [(2, va_rf none), (0, .ref (ad 2 0)), (1, .int (nI k))]) C d_Ma_tellPersons_19 rfl (by decide) rfl ?_
          refine aw_aloadq_n C d_Ma_tellPersons_20 rfl (j := 0) rfl ?_
          refine aw_ifnull (o := none) (tgt := 29) C d_Ma_tellPersons_21 (by decide) (fun _ => ?_) (fun _ h => nomatch h)
          refine aw_iinc (i := 1) (v := (nI (k + 1))) (lv' := [(1, .int (nI (k + 1))), (2, va_rf none), (0, .ref (ad 2 0))]) C d_Ma_tellPersons_29 (j := 2) rfl (nI_1 k) (by decide) rfl ?_
          refine aw_goto (tgt := 2) C d_Ma_tellPersons_32 (by decide) ?_
          have e9 : tp_F S (k + 1) = tp_F S k := by
            show (match (tp_F S k).2.2 0 k with | none => tp_F S k | some p => ds_wI (tp_F S k) 13 p 0 (nI k)) = _
            rw [ho_16]
          rw [← e9]
          exact aw_lv [2, 0] rfl (ih (k + 1) (by omega) (by omega))
        · refine aw_astore_n (i := 2) (lv' := [(2, .ref (ad 10 p_16)), (0, .ref (ad 2 0)), (1, .int (nI k))]) C d_Ma_tellPersons_19 rfl (by decide) rfl ?_
          refine aw_aload_n C d_Ma_tellPersons_20 rfl (j := 0) rfl ?_
          refine aw_ifnull (o := some ((ad 10 p_16))) (tgt := 29) C d_Ma_tellPersons_21 (by decide) (fun h => nomatch h) (fun _ _ => ?_)
          refine aw_aload_n C d_Ma_tellPersons_24 rfl (j := 0) rfl ?_
          refine aw_iload_n C d_Ma_tellPersons_25 rfl (j := 2) rfl ?_
          refine pt_Ma_Pe_newDesk (x := (nI k)) C hK hI (hV.1 k p_16 (by rw [← ho_16, tp_2]))  d_Ma_tellPersons_26 ?_
          refine aw_iinc (i := 1) (v := (nI (k + 1))) (lv' := [(1, .int (nI (k + 1))), (2, .ref (ad 10 p_16)), (0, .ref (ad 2 0))]) C d_Ma_tellPersons_29 (j := 2) rfl (nI_1 k) (by decide) rfl ?_
          refine aw_goto (tgt := 2) C d_Ma_tellPersons_32 (by decide) ?_
          have e9 : tp_F S (k + 1) = ds_wI (tp_F S k) 13 p_16 0 ((nI k)) := by
            show (match (tp_F S k).2.2 0 k with | none => tp_F S k | some p => ds_wI (tp_F S k) 13 p 0 (nI k)) = _
            rw [ho_16]
          rw [← e9]
          exact aw_lv [2, 0] rfl (ih (k + 1) (by omega) (by omega))
  refine aw_lv (lv' := [(0, .ref (ad 2 0))]) [0] rfl ?_
  refine aw_iconst (v := 0) C d_Ma_tellPersons_0 (by decide) ?_
  refine aw_istore_n (i := 1) (lv' := [(1, .int 0), (0, .ref (ad 2 0))]) C d_Ma_tellPersons_1 rfl (by decide) rfl ?_
  exact aw_lv [1, 0] rfl (lp (N + 1) 0 (by omega) (by omega))
set_option maxHeartbeats 4000000 in
set_option maxRecDepth 100000 in
theorem c_Ma_worthOfSpots (l : Launch) (D : va_G) (ad : Nat → Nat → Nat) (cA : Nat → ClassId) (nb : Nat) (S : ds_S) (N : Nat) (hI : ds_I ad nb) (hN : N ≤ 14) (h6 : S.1 6 0 0 = nI N) (hV : ma_V S) : Ct_i l y_Ma_worthOfSpots b_Ma_worthOfSpots 4 (some .int) ({ frames := 0, cells := 0, slots := 0, locals := 0 } : Room) 0 0 D (ds_ty cA) (ds_A ad nb) [.ref (ad 2 0)] (ds_P D ad cA nb S) (fun (r : Int32) (u : ds_S) => S = u ∧ r = wo_F S N) (ds_P D ad cA nb) := by
  intro sz
  refine ct_of (by decide) (Nat.le_of_ble_eq_true rfl) ?_
  intro p e s m args below meth c hsz C hr hlk hnm hK
  have lp : ∀ (n k : Nat) , k ≤ N → N + 1 ≤ k + n → AW p l e ({ frames := 0, cells := 0, slots := 0, locals := 0 } : Room) s m args below meth c 4 0 0 (MQ below (va_Qi (fun (r : Int32) (u : ds_S) => S = u ∧ r = wo_F S N) (fun u t => (ds_P D ad cA nb) u t.heap) (ct_A (ds_A ad nb) sz)) args s 0 0 (ct_A (ds_A ad nb) sz)) (ds_P D ad cA nb S) (ct_A (ds_A ad nb) sz) 4 [(0, .ref (ad 2 0)), (1, .int (wo_F S k)), (2, .int (nI k))] [] := by
    intro n
    induction n with
    | zero => intro k h1 h2; exact absurd h2 (by omega)
    | succ n ih =>
      intro k hk hn
      refine aw_iload_n C d_Ma_worthOfSpots_4 rfl (j := 2) rfl ?_
      refine aw_aload_n C d_Ma_worthOfSpots_5 rfl (j := 0) rfl ?_
      refine gt_Ma_Ma_spotCount C hK  d_Ma_worthOfSpots_6 ?_
      refine aw_icmp_ge (tgt := 41) C d_Ma_worthOfSpots_9 (by decide) (fun c_9 => ?_) (fun c_9 => ?_)
      · have hkN : k = N := by rw [h6] at c_9; have := (nI_leI (by omega) (by omega)).mp c_9; omega
        subst hkN
        refine aw_iload_n C d_Ma_worthOfSpots_41 rfl (j := 1) rfl ?_
        exact aw_iret C hr hlk S ⟨rfl, rfl⟩ (fun H h => h) d_Ma_worthOfSpots_42
      · have hlt : k < N := by rw [h6] at c_9; exact Nat.lt_of_not_le (fun h => c_9 (nI_le h (by omega)))
        refine aw_aload_n C d_Ma_worthOfSpots_12 rfl (j := 0) rfl ?_
        refine gt_Ma_Ma_spots C hK  d_Ma_worthOfSpots_13 ?_
        refine aw_iload_n C d_Ma_worthOfSpots_16 rfl (j := 2) rfl ?_
        refine al_3 C hK  k rfl (show k < 14 by omega) d_Ma_worthOfSpots_17 ?_
        refine gt_Ma_Sp_sitter C hK (show k < 14 by omega) d_Ma_worthOfSpots_18 ?_
        rcases ho_18 : (S.2.2 0 k) with _ | p_18
        · refine aw_astoreq_n (x := none) (i := 3) (lv' := [(3, va_rf none), (0, .ref (ad 2 0)), (1, .int (wo_F S k)), (2, .int (nI k))]) C d_Ma_worthOfSpots_21 rfl (by decide) rfl ?_
          refine aw_aloadq_n C d_Ma_worthOfSpots_22 rfl (j := 0) rfl ?_
          refine aw_ifnull (o := none) (tgt := 35) C d_Ma_worthOfSpots_23 (by decide) (fun _ => ?_) (fun _ h => nomatch h)
          refine aw_iinc (i := 2) (v := (nI (k + 1))) (lv' := [(2, .int (nI (k + 1))), (3, va_rf none), (0, .ref (ad 2 0)), (1, .int (wo_F S k))]) C d_Ma_worthOfSpots_35 (j := 3) rfl (nI_1 k) (by decide) rfl ?_
          refine aw_goto (tgt := 4) C d_Ma_worthOfSpots_38 (by decide) ?_
          have e9 : wo_F S (k + 1) = wo_F S k := by
            show (match S.2.2 0 k with | none => wo_F S k | some p => wo_F S k + S.1 10 p k) = _
            rw [ho_18]
          have h9 := ih (k + 1) (by omega) (by omega)
          rw [e9] at h9
          exact aw_lv [2, 3, 0] rfl h9
        · refine aw_astore_n (i := 3) (lv' := [(3, .ref (ad 10 p_18)), (0, .ref (ad 2 0)), (1, .int (wo_F S k)), (2, .int (nI k))]) C d_Ma_worthOfSpots_21 rfl (by decide) rfl ?_
          refine aw_aload_n C d_Ma_worthOfSpots_22 rfl (j := 0) rfl ?_
          refine aw_ifnull (o := some ((ad 10 p_18))) (tgt := 35) C d_Ma_worthOfSpots_23 (by decide) (fun h => nomatch h) (fun _ _ => ?_)
          refine aw_iload_n C d_Ma_worthOfSpots_26 rfl (j := 2) rfl ?_
          refine aw_aload_n C d_Ma_worthOfSpots_27 rfl (j := 0) rfl ?_
          refine gt_Ma_Pe_wishes C hK (hV.1 k p_18 ho_18) d_Ma_worthOfSpots_28 ?_
          refine aw_iload_n C d_Ma_worthOfSpots_31 rfl (j := 3) rfl ?_
          refine al_11 C hK (hV.1 k p_18 ho_18) k rfl (show k < 14 by omega) d_Ma_worthOfSpots_32 ?_
          refine aw_iadd C d_Ma_worthOfSpots_33 ?_
          refine aw_istore_n (i := 1) (lv' := [(1, .int (((wo_F S k)) + ((S.1 10 p_18 k)))), (3, .ref (ad 10 p_18)), (0, .ref (ad 2 0)), (2, .int (nI k))]) C d_Ma_worthOfSpots_34 rfl (by decide) rfl ?_
          refine aw_iinc (i := 2) (v := (nI (k + 1))) (lv' := [(2, .int (nI (k + 1))), (1, .int (((wo_F S k)) + ((S.1 10 p_18 k)))), (3, .ref (ad 10 p_18)), (0, .ref (ad 2 0))]) C d_Ma_worthOfSpots_35 (j := 3) rfl (nI_1 k) (by decide) rfl ?_
          refine aw_goto (tgt := 4) C d_Ma_worthOfSpots_38 (by decide) ?_
          have e9 : wo_F S (k + 1) = wo_F S k + S.1 10 p_18 k := by
            show (match S.2.2 0 k with | none => wo_F S k | some p => wo_F S k + S.1 10 p k) = _
            rw [ho_18]
          have h9 := ih (k + 1) (by omega) (by omega)
          rw [e9] at h9
          exact aw_lv [3, 1, 0] rfl h9
  refine aw_lv (lv' := [(0, .ref (ad 2 0))]) [0] rfl ?_
  refine aw_iconst (v := 0) C d_Ma_worthOfSpots_0 (by decide) ?_
  refine aw_istore_n (i := 1) (lv' := [(1, .int 0), (0, .ref (ad 2 0))]) C d_Ma_worthOfSpots_1 rfl (by decide) rfl ?_
  refine aw_iconst (v := 0) C d_Ma_worthOfSpots_2 (by decide) ?_
  refine aw_istore_n (i := 2) (lv' := [(2, .int 0), (1, .int 0), (0, .ref (ad 2 0))]) C d_Ma_worthOfSpots_3 rfl (by decide) rfl ?_
  exact aw_lv [2, 1, 0] rfl (lp (N + 1) 0 (by omega) (by omega))
def ho_F (q : Nat) : Nat → ds_S → Option Nat → ds_S
  | 0, S, _ => S
  | _ + 1, S, none => S
  | n + 1, S, some d => ho_F q n (ds_wR S 0 d (match S.2.2 1 d with | none => some q | some d' => S.2.2 0 d')) (S.2.2 1 d)
/-- the chain of places before a place has an end -/
def ho_T (B : Nat → Option Nat) : Nat → Option Nat → Prop
  | 0, _ => False
  | _ + 1, none => True
  | n + 1, some d => ho_T B n (B d)
set_option maxHeartbeats 4000000 in
set_option maxRecDepth 100000 in
theorem c_Ma_handOn (l : Launch) (D : va_G) (ad : Nat → Nat → Nat) (cA : Nat → ClassId) (nb : Nat) (S : ds_S) (n0 d0 q : Nat) (hI : ds_I ad nb) (hq : q < 10) (hd0 : d0 < 14) (hB : ∀ d d', S.2.2 1 d = some d' → d' < 14) (hT : ho_T (S.2.2 1) n0 (some d0)) : Ct_v l y_Ma_handOn b_Ma_handOn 4 none ({ frames := 0, cells := 0, slots := 0, locals := 0 } : Room) 0 0 D (ds_ty cA) (ds_A ad nb) [.ref (ad 2 0), .ref (ad 13 d0), .ref (ad 10 q)] (ds_P D ad cA nb S) (fun (u : ds_S) => u = ho_F q n0 S (some d0)) (ds_P D ad cA nb) := by
  intro sz
  refine ct_of (by decide) (Nat.le_of_ble_eq_true rfl) ?_
  intro p e s m args below meth c hsz C hr hlk hnm hK
  have lp : ∀ (n : Nat) (S' : ds_S) (o : Option Nat), S'.2.2 1 = S.2.2 1 → (∀ d, o = some d → d < 14) → ho_T (S.2.2 1) n o → ho_F q n S' o = ho_F q n0 S (some d0) → AW p l e ({ frames := 0, cells := 0, slots := 0, locals := 0 } : Room) s m args below meth c 4 0 0 (MQ below (va_Qv (fun (u : ds_S) => u = ho_F q n0 S (some d0)) (fun u t => (ds_P D ad cA nb) u t.heap) (ct_A (ds_A ad nb) sz)) args s 0 0 (ct_A (ds_A ad nb) sz)) (ds_P D ad cA nb (S')) (ct_A (ds_A ad nb) sz) 2 [(0, .ref (ad 2 0)), (1, .ref (ad 13 d0)), (2, .ref (ad 10 q)), (3, va_rf (o.map (ad 13)))] [] := by
    intro n
    induction n with
    | zero => intro S' o hE ho hT hR; exact hT.elim
    | succ n ih =>
      intro S' o hE ho hT hR
      rcases o with _ | d
      · refine aw_aloadq_n C d_Ma_handOn_2 rfl (j := 3) rfl ?_
        refine aw_ifnull (o := none) (tgt := 36) C d_Ma_handOn_3 (by decide) (fun _ => ?_) (fun _ h => nomatch h)
        exact aw_vret C hr hlk _ (by rw [← hR]; rfl) (fun H h => h) d_Ma_handOn_36
      · have hd : d < 14 := ho d rfl
        refine aw_aload_n C d_Ma_handOn_2 rfl (j := 3) rfl ?_
        refine aw_ifnull (o := some ((ad 13 d))) (tgt := 36) C d_Ma_handOn_3 (by decide) (fun h => nomatch h) (fun _ _ => ?_)
        refine aw_aload_n C d_Ma_handOn_6 rfl (j := 3) rfl ?_
        refine aw_aload_n C d_Ma_handOn_7 rfl (j := 3) rfl ?_
        refine gt_Ma_Sp_before C hK hd d_Ma_handOn_8 ?_
        rcases ho_8 : ((S').2.2 1 d) with _ | p_8
        · refine aw_ifnonnull (o := none) (tgt := 18) C d_Ma_handOn_11 (by decide) (fun _ h => nomatch h) (fun _ => ?_)
          refine aw_aload_n C d_Ma_handOn_14 rfl (j := 2) rfl ?_
          refine aw_goto (tgt := 25) C d_Ma_handOn_15 (by decide) ?_
          refine pt_Ma_Sp_sitter (x := some q) C hK hI hd  d_Ma_handOn_25 ?_
          refine aw_aload_n C d_Ma_handOn_28 rfl (j := 3) rfl ?_
          refine gt_Ma_Sp_before C hK hd d_Ma_handOn_29 ?_
          rw [show (ds_wR (S') 0 d (some q)).2.2 1 d = none from ho_8]
          refine aw_astoreq_n (x := none) (i := 3) (lv' := [(3, va_rf none), (0, .ref (ad 2 0)), (1, .ref (ad 13 d0)), (2, .ref (ad 10 q))]) C d_Ma_handOn_32 rfl (by decide) rfl ?_
          refine aw_goto (tgt := 2) C d_Ma_handOn_33 (by decide) ?_
          exact aw_lv [1, 2, 3, 0] rfl (ih (ds_wR (S') 0 d (some q)) none hE (fun z hz => by cases hz) (by have h9 : ho_T (S.2.2 1) n (S.2.2 1 d) := hT; rw [show S.2.2 1 d = none from by rw [← hE]; exact ho_8] at h9; exact h9) (by rw [← hR]; show _ = ho_F q n (ds_wR S' 0 d (match S'.2.2 1 d with | none => some q | some d' => S'.2.2 0 d')) (S'.2.2 1 d); rw [ho_8]))
        · have hd8 : p_8 < 14 := hB d p_8 (by rw [← hE, ho_8])
          refine aw_ifnonnull (o := some ((ad 13 p_8))) (tgt := 18) C d_Ma_handOn_11 (by decide) (fun _ _ => ?_) (fun h => nomatch h)
          refine aw_aload_n C d_Ma_handOn_18 rfl (j := 3) rfl ?_
          refine gt_Ma_Sp_before C hK hd d_Ma_handOn_19 ?_
          rw [ho_8]
          refine gt_Ma_Sp_sitter C hK hd8 d_Ma_handOn_22 ?_
          refine pt_Ma_Sp_sitter (x := ((S').2.2 0 p_8)) C hK hI hd  d_Ma_handOn_25 ?_
          refine aw_aload_n C d_Ma_handOn_28 rfl (j := 3) rfl ?_
          refine gt_Ma_Sp_before C hK hd d_Ma_handOn_29 ?_
          rw [show (ds_wR (S') 0 d (((S').2.2 0 p_8))).2.2 1 d = some p_8 from ho_8]
          refine aw_astore_n (i := 3) (lv' := [(3, .ref (ad 13 p_8)), (0, .ref (ad 2 0)), (1, .ref (ad 13 d0)), (2, .ref (ad 10 q))]) C d_Ma_handOn_32 rfl (by decide) rfl ?_
          refine aw_goto (tgt := 2) C d_Ma_handOn_33 (by decide) ?_
          exact aw_lv [1, 2, 3, 0] rfl (ih (ds_wR (S') 0 d (((S').2.2 0 p_8))) (some p_8) hE (fun z hz => by cases hz; exact hd8) (by have h9 : ho_T (S.2.2 1) n (S.2.2 1 d) := hT; rw [show S.2.2 1 d = (some p_8) from by rw [← hE]; exact ho_8] at h9; exact h9) (by rw [← hR]; show _ = ho_F q n (ds_wR S' 0 d (match S'.2.2 1 d with | none => some q | some d' => S'.2.2 0 d')) (S'.2.2 1 d); rw [ho_8]))
  refine aw_lv (lv' := [(0, .ref (ad 2 0)), (1, .ref (ad 13 d0)), (2, .ref (ad 10 q))]) [0, 1, 2] rfl ?_
  refine aw_aload_n C d_Ma_handOn_0 rfl (j := 1) rfl ?_
  refine aw_astore_n (i := 3) (lv' := [(3, .ref (ad 13 d0)), (0, .ref (ad 2 0)), (1, .ref (ad 13 d0)), (2, .ref (ad 10 q))]) C d_Ma_handOn_1 rfl (by decide) rfl ?_
  exact aw_lv [1, 2, 3, 0] rfl (lp n0 S (some d0) rfl (fun z hz => by cases hz; exact hd0) hT rfl)
