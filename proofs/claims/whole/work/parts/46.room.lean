def bw_L (S : ds_S) (a b : Int32) : Nat → Option Nat → Option Nat
  | 0, _ => none
  | _ + 1, none => none
  | n + 1, some k => if b ≤ S.1 20 k 0 then bw_L S a b n (S.2.2 3 k) else (if S.1 21 k 0 ≤ a then bw_L S a b n (S.2.2 3 k) else some k)
def fr_L (S : ds_S) (mi : Int32) : Nat → Option Nat → Int32 → Int32
  | 0, _, t => t
  | _ + 1, none, t => t
  | n + 1, some k, t => if t + mi ≤ S.1 20 k 0 then fr_L S mi n (S.2.2 3 k) t else (if S.1 21 k 0 ≤ t then fr_L S mi n (S.2.2 3 k) t else fr_L S mi n (S.2.2 3 k) (S.1 21 k 0))
def lo_L (S : ds_S) (r : Nat) : Nat → Option Nat → Int32 → Int32
  | 0, _, t => t
  | _ + 1, none, t => t
  | n + 1, some k, t => lo_L S r n (S.2.2 3 k) (t + (S.1 19 r 0 - S.1 22 k 0))
def ab_L (S : ds_S) (g : Nat) : Nat → Option Nat → Option Nat → Option Nat
  | 0, bf, _ => bf
  | _ + 1, bf, none => bf
  | n + 1, bf, some k => if S.1 20 g 0 ≤ S.1 20 k 0 then bf else ab_L S g n (some k) (S.2.2 3 k)
def ab_F (S : ds_S) (r g : Nat) (bf : Option Nat) : ds_S := match bf with
  | none => ds_wR (ds_wR S 3 g (S.2.2 2 r)) 2 r (some g)
  | some k => ds_wR (ds_wR S 3 g (S.2.2 3 k)) 3 k (some g)
def rm_L (S : ds_S) (g : Nat) : Nat → Option Nat → Option Nat
  | 0, _ => none
  | _ + 1, none => none
  | n + 1, some k => if S.2.2 3 k = some g then some k else rm_L S g n (S.2.2 3 k)
def rm_F (S : ds_S) (r g n : Nat) : Int32 × ds_S := if S.2.2 2 r = some g then (1, ds_wR S 2 r (S.2.2 3 g)) else (match rm_L S g n (S.2.2 2 r) with
  | none => (0, S)
  | some k => (1, ds_wR S 3 k (S.2.2 3 g)))
theorem ac_eq {ad : Nat → Nat → Nat} {nb g : Nat} {o : Option Nat} (hI : ds_I ad nb) (hg : g < nb) (ho : ∀ k, o = some k → k < nb) : (o.map (ad 15) = some (ad 15 g)) ↔ o = some g := by
  cases o with
  | none => exact ⟨(fun h => nomatch h), (fun h => nomatch h)⟩
  | some k =>
    refine ⟨fun h => ?_, fun h => by rw [h]; rfl⟩
    have h : ad 15 k = ad 15 g := Option.some.inj h
    rw [(hI 15 k 15 g (ho k rfl) hg h).2]
set_option maxHeartbeats 4000000 in
set_option maxRecDepth 100000 in
theorem c_Ro_bookingWithin (l : Launch) (D : va_G) (ad : Nat → Nat → Nat) (cA : Nat → ClassId) (nb : Nat) (S : ds_S) (n0 r8 : Nat) (a b : Int32) (hI : ds_I ad nb) (hr9 : r8 < 8) (hB : ∀ k k', S.2.2 3 k = some k' → k' < nb) (hF : ∀ k, S.2.2 2 r8 = some k → k < nb) (hT : ho_T (S.2.2 3) n0 (S.2.2 2 r8)) : Ct_q l y_Ro_bookingWithin b_Ro_bookingWithin 4 (some (.object "DeskMoves$Booking")) ({ frames := 0, cells := 0, slots := 0, locals := 0 } : Room) 0 0 D (ds_ty cA) (ds_A ad nb) [.ref (ad 14 r8), .int a, .int b] (ds_P D ad cA nb S) (fun (r : Option Nat) (u : ds_S) => S = u ∧ r = (bw_L S a b n0 (S.2.2 2 r8)).map (ad 15)) (ds_P D ad cA nb) := by
  intro sz
  refine ct_of (by decide) (Nat.le_of_ble_eq_true rfl) ?_
  intro p e s m args below meth c hsz C hr hlk hnm hK
  have lp : ∀ (n : Nat) (o : Option Nat), (∀ k, o = some k → k < nb) → ho_T (S.2.2 3) n o → bw_L S a b n o = bw_L S a b n0 (S.2.2 2 r8) → AW p l e ({ frames := 0, cells := 0, slots := 0, locals := 0 } : Room) s m args below meth c 4 0 0 (MQ below (va_Qq (fun (r : Option Nat) (u : ds_S) => S = u ∧ r = (bw_L S a b n0 (S.2.2 2 r8)).map (ad 15)) (fun u t => (ds_P D ad cA nb) u t.heap) (ct_A (ds_A ad nb) sz)) args s 0 0 (ct_A (ds_A ad nb) sz)) (ds_P D ad cA nb S) (ct_A (ds_A ad nb) sz) 5 [(0, .ref (ad 14 r8)), (1, .int a), (2, .int b), (3, va_rf (o.map (ad 15)))] [] := by
    intro n
    induction n with
    | zero => intro o ho hT hR; exact hT.elim
    | succ n ih =>
      intro o ho hT hR
      rcases o with _ | k
      · refine aw_aloadq_n C d_Ro_bookingWithin_5 rfl (j := 3) rfl ?_
        refine aw_ifnull (o := none) (tgt := 35) C d_Ro_bookingWithin_6 (by decide) (fun _ => ?_) (fun _ h => nomatch h)
        refine aw_null C d_Ro_bookingWithin_35 ?_
        exact aw_qret (v := none) C hr hlk S ⟨rfl, by rw [← hR]; rfl⟩ (fun H h => h) d_Ro_bookingWithin_36
      · have hk : k < nb := ho k rfl
        refine aw_aload_n C d_Ro_bookingWithin_5 rfl (j := 3) rfl ?_
        refine aw_ifnull (o := some ((ad 15 k))) (tgt := 35) C d_Ro_bookingWithin_6 (by decide) (fun h => nomatch h) (fun _ _ => ?_)
        refine aw_aload_n C d_Ro_bookingWithin_9 rfl (j := 3) rfl ?_
        refine gt_Ro_Bk_from C hK hk d_Ro_bookingWithin_10 ?_
        refine aw_iload_n C d_Ro_bookingWithin_13 rfl (j := 2) rfl ?_
        refine aw_icmp_ge (tgt := 27) C d_Ro_bookingWithin_14 (by decide) (fun c_14 => ?_) (fun c_14 => ?_)
        · refine aw_aload_n C d_Ro_bookingWithin_27 rfl (j := 3) rfl ?_
          refine gt_Ro_Bk_next C hK hk d_Ro_bookingWithin_28 ?_
          refine aw_astoreq_n (x := ((S.2.2 3 k).map (ad 15))) (i := 3) (lv' := [(3, va_rf ((S.2.2 3 k).map (ad 15))), (0, .ref (ad 14 r8)), (1, .int a), (2, .int b)]) C d_Ro_bookingWithin_31 rfl (by decide) rfl ?_
          refine aw_goto (tgt := 5) C d_Ro_bookingWithin_32 (by decide) ?_
          exact aw_lv [1, 2, 3, 0] rfl (ih (S.2.2 3 k) (fun z hz => hB k z hz) hT (by rw [← hR]; simp only [bw_L]; rw [if_pos c_14]))
        · refine aw_aload_n C d_Ro_bookingWithin_17 rfl (j := 3) rfl ?_
          refine gt_Ro_Bk_to C hK hk d_Ro_bookingWithin_18 ?_
          refine aw_iload_n C d_Ro_bookingWithin_21 rfl (j := 1) rfl ?_
          refine aw_icmp_le (tgt := 27) C d_Ro_bookingWithin_22 (by decide) (fun c_22 => ?_) (fun c_22 => ?_)
          · refine aw_aload_n C d_Ro_bookingWithin_27 rfl (j := 3) rfl ?_
            refine gt_Ro_Bk_next C hK hk d_Ro_bookingWithin_28 ?_
            refine aw_astoreq_n (x := ((S.2.2 3 k).map (ad 15))) (i := 3) (lv' := [(3, va_rf ((S.2.2 3 k).map (ad 15))), (0, .ref (ad 14 r8)), (1, .int a), (2, .int b)]) C d_Ro_bookingWithin_31 rfl (by decide) rfl ?_
            refine aw_goto (tgt := 5) C d_Ro_bookingWithin_32 (by decide) ?_
            exact aw_lv [1, 2, 3, 0] rfl (ih (S.2.2 3 k) (fun z hz => hB k z hz) hT (by rw [← hR]; simp only [bw_L]; rw [if_neg c_14, if_pos c_22]))
          · refine aw_aload_n C d_Ro_bookingWithin_25 rfl (j := 3) rfl ?_
            exact aw_qret (v := some (ad 15 k)) C hr hlk S ⟨rfl, by rw [← hR]; simp only [bw_L]; rw [if_neg c_14, if_neg c_22]; rfl⟩ (fun H h => h) d_Ro_bookingWithin_26
  refine aw_lv (lv' := [(0, .ref (ad 14 r8)), (1, .int a), (2, .int b)]) [0, 1, 2] rfl ?_
  refine aw_aload_n C d_Ro_bookingWithin_0 rfl (j := 0) rfl ?_
  refine gt_Ro_Ro_first C hK hr9 d_Ro_bookingWithin_1 ?_
  refine aw_astoreq_n (x := ((S.2.2 2 r8).map (ad 15))) (i := 3) (lv' := [(3, va_rf ((S.2.2 2 r8).map (ad 15))), (0, .ref (ad 14 r8)), (1, .int a), (2, .int b)]) C d_Ro_bookingWithin_4 rfl (by decide) rfl ?_
  exact aw_lv [1, 2, 3, 0] rfl (lp n0 (S.2.2 2 r8) hF hT rfl)
set_option maxHeartbeats 4000000 in
set_option maxRecDepth 100000 in
theorem c_Ro_firstFree (l : Launch) (D : va_G) (ad : Nat → Nat → Nat) (cA : Nat → ClassId) (nb : Nat) (S : ds_S) (n0 r8 : Nat) (a mi : Int32) (hI : ds_I ad nb) (hr9 : r8 < 8) (hB : ∀ k k', S.2.2 3 k = some k' → k' < nb) (hF : ∀ k, S.2.2 2 r8 = some k → k < nb) (hT : ho_T (S.2.2 3) n0 (S.2.2 2 r8)) : Ct_i l y_Ro_firstFree b_Ro_firstFree 5 (some .int) ({ frames := 0, cells := 0, slots := 0, locals := 0 } : Room) 0 0 D (ds_ty cA) (ds_A ad nb) [.ref (ad 14 r8), .int a, .int mi] (ds_P D ad cA nb S) (fun (r : Int32) (u : ds_S) => S = u ∧ r = fr_L S mi n0 (S.2.2 2 r8) a) (ds_P D ad cA nb) := by
  intro sz
  refine ct_of (by decide) (Nat.le_of_ble_eq_true rfl) ?_
  intro p e s m args below meth c hsz C hr hlk hnm hK
  have lp : ∀ (n : Nat) (o : Option Nat) (t9 : Int32), (∀ k, o = some k → k < nb) → ho_T (S.2.2 3) n o → fr_L S mi n o t9 = fr_L S mi n0 (S.2.2 2 r8) a → AW p l e ({ frames := 0, cells := 0, slots := 0, locals := 0 } : Room) s m args below meth c 5 0 0 (MQ below (va_Qi (fun (r : Int32) (u : ds_S) => S = u ∧ r = fr_L S mi n0 (S.2.2 2 r8) a) (fun u t => (ds_P D ad cA nb) u t.heap) (ct_A (ds_A ad nb) sz)) args s 0 0 (ct_A (ds_A ad nb) sz)) (ds_P D ad cA nb S) (ct_A (ds_A ad nb) sz) 8 [(0, .ref (ad 14 r8)), (1, .int a), (2, .int mi), (3, .int t9), (4, va_rf (o.map (ad 15)))] [] := by
    intro n
    induction n with
    | zero => intro o t9 ho hT hR; exact hT.elim
    | succ n ih =>
      intro o t9 ho hT hR
      rcases o with _ | k
      · refine aw_aloadq C d_Ro_firstFree_8 (j := 4) rfl ?_
        refine aw_ifnull (o := none) (tgt := 49) C d_Ro_firstFree_10 (by decide) (fun _ => ?_) (fun _ h => nomatch h)
        refine aw_iload_n C d_Ro_firstFree_49 rfl (j := 3) rfl ?_
        exact aw_iret C hr hlk S ⟨rfl, by rw [← hR]; rfl⟩ (fun H h => h) d_Ro_firstFree_50
      · have hk : k < nb := ho k rfl
        refine aw_aload C d_Ro_firstFree_8 (j := 4) rfl ?_
        refine aw_ifnull (o := some ((ad 15 k))) (tgt := 49) C d_Ro_firstFree_10 (by decide) (fun h => nomatch h) (fun _ _ => ?_)
        refine aw_aload C d_Ro_firstFree_13 (j := 4) rfl ?_
        refine gt_Ro_Bk_from C hK hk d_Ro_firstFree_15 ?_
        refine aw_iload_n C d_Ro_firstFree_18 rfl (j := 3) rfl ?_
        refine aw_iload_n C d_Ro_firstFree_19 rfl (j := 2) rfl ?_
        refine aw_iadd C d_Ro_firstFree_20 ?_
        refine aw_icmp_ge (tgt := 39) C d_Ro_firstFree_21 (by decide) (fun c_21 => ?_) (fun c_21 => ?_)
        · refine aw_aload C d_Ro_firstFree_39 (j := 4) rfl ?_
          refine gt_Ro_Bk_next C hK hk d_Ro_firstFree_41 ?_
          refine aw_astoreq (x := ((S.2.2 3 k).map (ad 15))) (i := 4) (lv' := [(4, va_rf ((S.2.2 3 k).map (ad 15))), (0, .ref (ad 14 r8)), (1, .int a), (2, .int mi), (3, .int t9)]) C d_Ro_firstFree_44 (by decide) rfl ?_
          refine aw_goto (tgt := 8) C d_Ro_firstFree_46 (by decide) ?_
          exact aw_lv [1, 2, 3, 4, 0] rfl (ih (S.2.2 3 k) t9 (fun z hz => hB k z hz) hT (by rw [← hR]; simp only [fr_L]; rw [if_pos c_21]))
        · refine aw_aload C d_Ro_firstFree_24 (j := 4) rfl ?_
          refine gt_Ro_Bk_to C hK hk d_Ro_firstFree_26 ?_
          refine aw_iload_n C d_Ro_firstFree_29 rfl (j := 3) rfl ?_
          refine aw_icmp_le (tgt := 39) C d_Ro_firstFree_30 (by decide) (fun c_30 => ?_) (fun c_30 => ?_)
          · refine aw_aload C d_Ro_firstFree_39 (j := 4) rfl ?_
            refine gt_Ro_Bk_next C hK hk d_Ro_firstFree_41 ?_
            refine aw_astoreq (x := ((S.2.2 3 k).map (ad 15))) (i := 4) (lv' := [(4, va_rf ((S.2.2 3 k).map (ad 15))), (0, .ref (ad 14 r8)), (1, .int a), (2, .int mi), (3, .int t9)]) C d_Ro_firstFree_44 (by decide) rfl ?_
            refine aw_goto (tgt := 8) C d_Ro_firstFree_46 (by decide) ?_
            exact aw_lv [1, 2, 3, 4, 0] rfl (ih (S.2.2 3 k) t9 (fun z hz => hB k z hz) hT (by rw [← hR]; simp only [fr_L]; rw [if_neg c_21, if_pos c_30]))
          · refine aw_aload C d_Ro_firstFree_33 (j := 4) rfl ?_
            refine gt_Ro_Bk_to C hK hk d_Ro_firstFree_35 ?_
            refine aw_istore_n (i := 3) (lv' := [(3, .int (S.1 21 k 0)), (0, .ref (ad 14 r8)), (1, .int a), (2, .int mi), (4, .ref (ad 15 k))]) C d_Ro_firstFree_38 rfl (by decide) rfl ?_
            refine aw_aload C d_Ro_firstFree_39 (j := 4) rfl ?_
            refine gt_Ro_Bk_next C hK hk d_Ro_firstFree_41 ?_
            refine aw_astoreq (x := ((S.2.2 3 k).map (ad 15))) (i := 4) (lv' := [(4, va_rf ((S.2.2 3 k).map (ad 15))), (3, .int (S.1 21 k 0)), (0, .ref (ad 14 r8)), (1, .int a), (2, .int mi)]) C d_Ro_firstFree_44 (by decide) rfl ?_
            refine aw_goto (tgt := 8) C d_Ro_firstFree_46 (by decide) ?_
            exact aw_lv [2, 3, 4, 1, 0] rfl (ih (S.2.2 3 k) ((S.1 21 k 0)) (fun z hz => hB k z hz) hT (by rw [← hR]; simp only [fr_L]; rw [if_neg c_21, if_neg c_30]))
  refine aw_lv (lv' := [(0, .ref (ad 14 r8)), (1, .int a), (2, .int mi)]) [0, 1, 2] rfl ?_
  refine aw_iload_n C d_Ro_firstFree_0 rfl (j := 1) rfl ?_
  refine aw_istore_n (i := 3) (lv' := [(3, .int a), (0, .ref (ad 14 r8)), (1, .int a), (2, .int mi)]) C d_Ro_firstFree_1 rfl (by decide) rfl ?_
  refine aw_aload_n C d_Ro_firstFree_2 rfl (j := 1) rfl ?_
  refine gt_Ro_Ro_first C hK hr9 d_Ro_firstFree_3 ?_
  refine aw_astoreq (x := ((S.2.2 2 r8).map (ad 15))) (i := 4) (lv' := [(4, va_rf ((S.2.2 2 r8).map (ad 15))), (3, .int a), (0, .ref (ad 14 r8)), (1, .int a), (2, .int mi)]) C d_Ro_firstFree_6 (by decide) rfl ?_
  exact aw_lv [2, 3, 4, 1, 0] rfl (lp n0 (S.2.2 2 r8) a hF hT rfl)
set_option maxHeartbeats 4000000 in
set_option maxRecDepth 100000 in
theorem c_Ro_placesLeftOver (l : Launch) (D : va_G) (ad : Nat → Nat → Nat) (cA : Nat → ClassId) (nb : Nat) (S : ds_S) (n0 r8 : Nat)  (hI : ds_I ad nb) (hr9 : r8 < 8) (hB : ∀ k k', S.2.2 3 k = some k' → k' < nb) (hF : ∀ k, S.2.2 2 r8 = some k → k < nb) (hT : ho_T (S.2.2 3) n0 (S.2.2 2 r8)) : Ct_i l y_Ro_placesLeftOver b_Ro_placesLeftOver 3 (some .int) ({ frames := 0, cells := 0, slots := 0, locals := 0 } : Room) 0 0 D (ds_ty cA) (ds_A ad nb) [.ref (ad 14 r8)] (ds_P D ad cA nb S) (fun (r : Int32) (u : ds_S) => S = u ∧ r = lo_L S r8 n0 (S.2.2 2 r8) 0) (ds_P D ad cA nb) := by
  intro sz
  refine ct_of (by decide) (Nat.le_of_ble_eq_true rfl) ?_
  intro p e s m args below meth c hsz C hr hlk hnm hK
  have lp : ∀ (n : Nat) (o : Option Nat) (t9 : Int32), (∀ k, o = some k → k < nb) → ho_T (S.2.2 3) n o → lo_L S r8 n o t9 = lo_L S r8 n0 (S.2.2 2 r8) 0 → AW p l e ({ frames := 0, cells := 0, slots := 0, locals := 0 } : Room) s m args below meth c 3 0 0 (MQ below (va_Qi (fun (r : Int32) (u : ds_S) => S = u ∧ r = lo_L S r8 n0 (S.2.2 2 r8) 0) (fun u t => (ds_P D ad cA nb) u t.heap) (ct_A (ds_A ad nb) sz)) args s 0 0 (ct_A (ds_A ad nb) sz)) (ds_P D ad cA nb S) (ct_A (ds_A ad nb) sz) 7 [(0, .ref (ad 14 r8)), (1, .int t9), (2, va_rf (o.map (ad 15)))] [] := by
    intro n
    induction n with
    | zero => intro o t9 ho hT hR; exact hT.elim
    | succ n ih =>
      intro o t9 ho hT hR
      rcases o with _ | k
      · refine aw_aloadq_n C d_Ro_placesLeftOver_7 rfl (j := 2) rfl ?_
        refine aw_ifnull (o := none) (tgt := 31) C d_Ro_placesLeftOver_8 (by decide) (fun _ => ?_) (fun _ h => nomatch h)
        refine aw_iload_n C d_Ro_placesLeftOver_31 rfl (j := 1) rfl ?_
        exact aw_iret C hr hlk S ⟨rfl, by rw [← hR]; rfl⟩ (fun H h => h) d_Ro_placesLeftOver_32
      · have hk : k < nb := ho k rfl
        refine aw_aload_n C d_Ro_placesLeftOver_7 rfl (j := 2) rfl ?_
        refine aw_ifnull (o := some ((ad 15 k))) (tgt := 31) C d_Ro_placesLeftOver_8 (by decide) (fun h => nomatch h) (fun _ _ => ?_)
        refine aw_iload_n C d_Ro_placesLeftOver_11 rfl (j := 1) rfl ?_
        refine aw_aload_n C d_Ro_placesLeftOver_12 rfl (j := 0) rfl ?_
        refine gt_Ro_Ro_places C hK hr9 d_Ro_placesLeftOver_13 ?_
        refine aw_aload_n C d_Ro_placesLeftOver_16 rfl (j := 2) rfl ?_
        refine gt_Ro_Bk_heads C hK hk d_Ro_placesLeftOver_17 ?_
        refine aw_isub C d_Ro_placesLeftOver_20 ?_
        refine aw_iadd C d_Ro_placesLeftOver_21 ?_
        refine aw_istore_n (i := 1) (lv' := [(1, .int (t9 + ((((S.1 19 r8 0)) - ((S.1 22 k 0)))))), (0, .ref (ad 14 r8)), (2, .ref (ad 15 k))]) C d_Ro_placesLeftOver_22 rfl (by decide) rfl ?_
        refine aw_aload_n C d_Ro_placesLeftOver_23 rfl (j := 2) rfl ?_
        refine gt_Ro_Bk_next C hK hk d_Ro_placesLeftOver_24 ?_
        refine aw_astoreq_n (x := ((S.2.2 3 k).map (ad 15))) (i := 2) (lv' := [(2, va_rf ((S.2.2 3 k).map (ad 15))), (1, .int (t9 + ((((S.1 19 r8 0)) - ((S.1 22 k 0)))))), (0, .ref (ad 14 r8))]) C d_Ro_placesLeftOver_27 rfl (by decide) rfl ?_
        refine aw_goto (tgt := 7) C d_Ro_placesLeftOver_28 (by decide) ?_
        exact aw_lv [2, 1, 0] rfl (ih (S.2.2 3 k) ((t9 + ((((S.1 19 r8 0)) - ((S.1 22 k 0)))))) (fun z hz => hB k z hz) hT hR)
  refine aw_lv (lv' := [(0, .ref (ad 14 r8))]) [0] rfl ?_
  refine aw_iconst (v := 0) C d_Ro_placesLeftOver_0 (by decide) ?_
  refine aw_istore_n (i := 1) (lv' := [(1, .int 0), (0, .ref (ad 14 r8))]) C d_Ro_placesLeftOver_1 rfl (by decide) rfl ?_
  refine aw_aload_n C d_Ro_placesLeftOver_2 rfl (j := 1) rfl ?_
  refine gt_Ro_Ro_first C hK hr9 d_Ro_placesLeftOver_3 ?_
  refine aw_astoreq_n (x := ((S.2.2 2 r8).map (ad 15))) (i := 2) (lv' := [(2, va_rf ((S.2.2 2 r8).map (ad 15))), (1, .int 0), (0, .ref (ad 14 r8))]) C d_Ro_placesLeftOver_6 rfl (by decide) rfl ?_
  exact aw_lv [2, 1, 0] rfl (lp n0 (S.2.2 2 r8) 0 hF hT rfl)
set_option maxHeartbeats 4000000 in
set_option maxRecDepth 100000 in
theorem c_Ro_add (l : Launch) (D : va_G) (ad : Nat → Nat → Nat) (cA : Nat → ClassId) (nb : Nat) (S : ds_S) (n0 r8 : Nat) (g : Nat) (hI : ds_I ad nb) (hr9 : r8 < 8) (hB : ∀ k k', S.2.2 3 k = some k' → k' < nb) (hF : ∀ k, S.2.2 2 r8 = some k → k < nb) (hT : ho_T (S.2.2 3) n0 (S.2.2 2 r8)) (hg : g < nb) : Ct_v l y_Ro_add b_Ro_add 4 none ({ frames := 0, cells := 0, slots := 0, locals := 0 } : Room) 0 0 D (ds_ty cA) (ds_A ad nb) [.ref (ad 14 r8), .ref (ad 15 g)] (ds_P D ad cA nb S) (fun (u : ds_S) => u = ab_F S r8 g (ab_L S g n0 none (S.2.2 2 r8))) (ds_P D ad cA nb) := by
  intro sz
  refine ct_of (by decide) (Nat.le_of_ble_eq_true rfl) ?_
  intro p e s m args below meth c hsz C hr hlk hnm hK
  have lp : ∀ (n : Nat) (bf o : Option Nat), (∀ k, bf = some k → k < nb) → (∀ k, o = some k → k < nb) → ho_T (S.2.2 3) n o → ab_L S g n bf o = ab_L S g n0 none (S.2.2 2 r8) → AW p l e ({ frames := 0, cells := 0, slots := 0, locals := 0 } : Room) s m args below meth c 4 0 0 (MQ below (va_Qv (fun (u : ds_S) => u = ab_F S r8 g (ab_L S g n0 none (S.2.2 2 r8))) (fun u t => (ds_P D ad cA nb) u t.heap) (ct_A (ds_A ad nb) sz)) args s 0 0 (ct_A (ds_A ad nb) sz)) (ds_P D ad cA nb S) (ct_A (ds_A ad nb) sz) 7 [(0, .ref (ad 14 r8)), (1, .ref (ad 15 g)), (2, va_rf (bf.map (ad 15))), (3, va_rf (o.map (ad 15)))] [] := by
    intro n
    induction n with
    | zero => intro bf o hb ho hT hR; exact hT.elim
    | succ n ih =>
      intro bf o hb ho hT hR
      rcases o with _ | k
      · rcases bf with _ | j9
        · refine aw_aloadq_n C d_Ro_add_7 rfl (j := 3) rfl ?_
          refine aw_ifnull (o := none) (tgt := 32) C d_Ro_add_8 (by decide) (fun _ => ?_) (fun _ h => nomatch h)
          refine aw_aloadq_n C d_Ro_add_32 rfl (j := 2) rfl ?_
          refine aw_ifnonnull (o := none) (tgt := 52) C d_Ro_add_33 (by decide) (fun _ h => nomatch h) (fun _ => ?_)
          refine aw_aload_n C d_Ro_add_36 rfl (j := 1) rfl ?_
          refine aw_aload_n C d_Ro_add_37 rfl (j := 0) rfl ?_
          refine gt_Ro_Ro_first C hK hr9 d_Ro_add_38 ?_
          refine pt_Ro_Bk_next (x := (S.2.2 2 r8)) C hK hI hg  d_Ro_add_41 ?_
          refine aw_aload_n C d_Ro_add_44 rfl (j := 0) rfl ?_
          refine aw_aload_n C d_Ro_add_45 rfl (j := 1) rfl ?_
          refine pt_Ro_Ro_first (x := some g) C hK hI hr9  d_Ro_add_46 ?_
          refine aw_goto (tgt := 65) C d_Ro_add_49 (by decide) ?_
          exact aw_vret C hr hlk _ (by rw [← hR]; rfl) (fun H h => h) d_Ro_add_65
        · refine aw_aloadq_n C d_Ro_add_7 rfl (j := 3) rfl ?_
          refine aw_ifnull (o := none) (tgt := 32) C d_Ro_add_8 (by decide) (fun _ => ?_) (fun _ h => nomatch h)
          refine aw_aload_n C d_Ro_add_32 rfl (j := 2) rfl ?_
          refine aw_ifnonnull (o := some ((ad 15 j9))) (tgt := 52) C d_Ro_add_33 (by decide) (fun _ _ => ?_) (fun h => nomatch h)
          refine aw_aload_n C d_Ro_add_52 rfl (j := 1) rfl ?_
          refine aw_aload_n C d_Ro_add_53 rfl (j := 2) rfl ?_
          refine gt_Ro_Bk_next C hK (hb j9 rfl) d_Ro_add_54 ?_
          refine pt_Ro_Bk_next (x := (S.2.2 3 j9)) C hK hI hg  d_Ro_add_57 ?_
          refine aw_aload_n C d_Ro_add_60 rfl (j := 2) rfl ?_
          refine aw_aload_n C d_Ro_add_61 rfl (j := 1) rfl ?_
          refine pt_Ro_Bk_next (x := some g) C hK hI (hb j9 rfl)  d_Ro_add_62 ?_
          exact aw_vret C hr hlk _ (by rw [← hR]; rfl) (fun H h => h) d_Ro_add_65
      · have hk : k < nb := ho k rfl
        rcases bf with _ | j9
        · refine aw_aload_n C d_Ro_add_7 rfl (j := 3) rfl ?_
          refine aw_ifnull (o := some ((ad 15 k))) (tgt := 32) C d_Ro_add_8 (by decide) (fun h => nomatch h) (fun _ _ => ?_)
          refine aw_aload_n C d_Ro_add_11 rfl (j := 3) rfl ?_
          refine gt_Ro_Bk_from C hK hk d_Ro_add_12 ?_
          refine aw_aload_n C d_Ro_add_15 rfl (j := 1) rfl ?_
          refine gt_Ro_Bk_from C hK hg d_Ro_add_16 ?_
          refine aw_icmp_ge (tgt := 32) C d_Ro_add_19 (by decide) (fun c_19 => ?_) (fun c_19 => ?_)
          · refine aw_aloadq_n C d_Ro_add_32 rfl (j := 2) rfl ?_
            refine aw_ifnonnull (o := none) (tgt := 52) C d_Ro_add_33 (by decide) (fun _ h => nomatch h) (fun _ => ?_)
            refine aw_aload_n C d_Ro_add_36 rfl (j := 1) rfl ?_
            refine aw_aload_n C d_Ro_add_37 rfl (j := 0) rfl ?_
            refine gt_Ro_Ro_first C hK hr9 d_Ro_add_38 ?_
            refine pt_Ro_Bk_next (x := (S.2.2 2 r8)) C hK hI hg  d_Ro_add_41 ?_
            refine aw_aload_n C d_Ro_add_44 rfl (j := 0) rfl ?_
            refine aw_aload_n C d_Ro_add_45 rfl (j := 1) rfl ?_
            refine pt_Ro_Ro_first (x := some g) C hK hI hr9  d_Ro_add_46 ?_
            refine aw_goto (tgt := 65) C d_Ro_add_49 (by decide) ?_
            exact aw_vret C hr hlk _ (by rw [← hR]; simp only [ab_L]; rw [if_pos c_19]; rfl) (fun H h => h) d_Ro_add_65
          · refine aw_aload_n C d_Ro_add_22 rfl (j := 3) rfl ?_
            refine aw_astore_n (i := 2) (lv' := [(2, .ref (ad 15 k)), (0, .ref (ad 14 r8)), (1, .ref (ad 15 g)), (3, .ref (ad 15 k))]) C d_Ro_add_23 rfl (by decide) rfl ?_
            refine aw_aload_n C d_Ro_add_24 rfl (j := 3) rfl ?_
            refine gt_Ro_Bk_next C hK hk d_Ro_add_25 ?_
            refine aw_astoreq_n (x := ((S.2.2 3 k).map (ad 15))) (i := 3) (lv' := [(3, va_rf ((S.2.2 3 k).map (ad 15))), (2, .ref (ad 15 k)), (0, .ref (ad 14 r8)), (1, .ref (ad 15 g))]) C d_Ro_add_28 rfl (by decide) rfl ?_
            refine aw_goto (tgt := 7) C d_Ro_add_29 (by decide) ?_
            exact aw_lv [2, 3, 1, 0] rfl (ih (some k) (S.2.2 3 k) (fun z hz => by cases hz; exact hk) (fun z hz => hB k z hz) hT (by rw [← hR]; simp only [ab_L]; rw [if_neg c_19]))
        · refine aw_aload_n C d_Ro_add_7 rfl (j := 3) rfl ?_
          refine aw_ifnull (o := some ((ad 15 k))) (tgt := 32) C d_Ro_add_8 (by decide) (fun h => nomatch h) (fun _ _ => ?_)
          refine aw_aload_n C d_Ro_add_11 rfl (j := 3) rfl ?_
          refine gt_Ro_Bk_from C hK hk d_Ro_add_12 ?_
          refine aw_aload_n C d_Ro_add_15 rfl (j := 1) rfl ?_
          refine gt_Ro_Bk_from C hK hg d_Ro_add_16 ?_
          refine aw_icmp_ge (tgt := 32) C d_Ro_add_19 (by decide) (fun c_19 => ?_) (fun c_19 => ?_)
          · refine aw_aload_n C d_Ro_add_32 rfl (j := 2) rfl ?_
            refine aw_ifnonnull (o := some ((ad 15 j9))) (tgt := 52) C d_Ro_add_33 (by decide) (fun _ _ => ?_) (fun h => nomatch h)
            refine aw_aload_n C d_Ro_add_52 rfl (j := 1) rfl ?_
            refine aw_aload_n C d_Ro_add_53 rfl (j := 2) rfl ?_
            refine gt_Ro_Bk_next C hK (hb j9 rfl) d_Ro_add_54 ?_
            refine pt_Ro_Bk_next (x := (S.2.2 3 j9)) C hK hI hg  d_Ro_add_57 ?_
            refine aw_aload_n C d_Ro_add_60 rfl (j := 2) rfl ?_
            refine aw_aload_n C d_Ro_add_61 rfl (j := 1) rfl ?_
            refine pt_Ro_Bk_next (x := some g) C hK hI (hb j9 rfl)  d_Ro_add_62 ?_
            exact aw_vret C hr hlk _ (by rw [← hR]; simp only [ab_L]; rw [if_pos c_19]; rfl) (fun H h => h) d_Ro_add_65
          · refine aw_aload_n C d_Ro_add_22 rfl (j := 3) rfl ?_
            refine aw_astore_n (i := 2) (lv' := [(2, .ref (ad 15 k)), (0, .ref (ad 14 r8)), (1, .ref (ad 15 g)), (3, .ref (ad 15 k))]) C d_Ro_add_23 rfl (by decide) rfl ?_
            refine aw_aload_n C d_Ro_add_24 rfl (j := 3) rfl ?_
            refine gt_Ro_Bk_next C hK hk d_Ro_add_25 ?_
            refine aw_astoreq_n (x := ((S.2.2 3 k).map (ad 15))) (i := 3) (lv' := [(3, va_rf ((S.2.2 3 k).map (ad 15))), (2, .ref (ad 15 k)), (0, .ref (ad 14 r8)), (1, .ref (ad 15 g))]) C d_Ro_add_28 rfl (by decide) rfl ?_
            refine aw_goto (tgt := 7) C d_Ro_add_29 (by decide) ?_
            exact aw_lv [2, 3, 1, 0] rfl (ih (some k) (S.2.2 3 k) (fun z hz => by cases hz; exact hk) (fun z hz => hB k z hz) hT (by rw [← hR]; simp only [ab_L]; rw [if_neg c_19]))
  refine aw_lv (lv' := [(0, .ref (ad 14 r8)), (1, .ref (ad 15 g))]) [0, 1] rfl ?_
  refine aw_null C d_Ro_add_0 ?_
  refine aw_astoreq_n (x := none) (i := 2) (lv' := [(2, va_rf none), (0, .ref (ad 14 r8)), (1, .ref (ad 15 g))]) C d_Ro_add_1 rfl (by decide) rfl ?_
  refine aw_aload_n C d_Ro_add_2 rfl (j := 1) rfl ?_
  refine gt_Ro_Ro_first C hK hr9 d_Ro_add_3 ?_
  refine aw_astoreq_n (x := ((S.2.2 2 r8).map (ad 15))) (i := 3) (lv' := [(3, va_rf ((S.2.2 2 r8).map (ad 15))), (2, va_rf none), (0, .ref (ad 14 r8)), (1, .ref (ad 15 g))]) C d_Ro_add_6 rfl (by decide) (by simp [va_rf_cat, ct_ref, ct_int, ct_long]) ?_
  exact aw_lv [2, 3, 1, 0] rfl (lp n0 none (S.2.2 2 r8) (fun z hz => by cases hz) hF hT rfl)
set_option maxHeartbeats 4000000 in
set_option maxRecDepth 100000 in
theorem c_Ro_remove (l : Launch) (D : va_G) (ad : Nat → Nat → Nat) (cA : Nat → ClassId) (nb : Nat) (S : ds_S) (n0 r8 : Nat) (g : Nat) (hI : ds_I ad nb) (hr9 : r8 < 8) (hB : ∀ k k', S.2.2 3 k = some k' → k' < nb) (hF : ∀ k, S.2.2 2 r8 = some k → k < nb) (hT : ho_T (S.2.2 3) n0 (S.2.2 2 r8)) (hg : g < nb) : Ct_i l y_Ro_remove b_Ro_remove 3 (some .boolean) ({ frames := 0, cells := 0, slots := 0, locals := 0 } : Room) 0 0 D (ds_ty cA) (ds_A ad nb) [.ref (ad 14 r8), .ref (ad 15 g)] (ds_P D ad cA nb S) (fun (r : Int32) (u : ds_S) => u = (rm_F S r8 g n0).2 ∧ r = (rm_F S r8 g n0).1) (ds_P D ad cA nb) := by
  intro sz
  refine ct_of (by decide) (Nat.le_of_ble_eq_true rfl) ?_
  intro p e s m args below meth c hsz C hr hlk hnm hK
  have lp : ∀ (c_5 : ¬ (S.2.2 2 r8).map (ad 15) = some (ad 15 g)) (n : Nat) (o : Option Nat), (∀ k, o = some k → k < nb) → ho_T (S.2.2 3) n o → rm_L S g n o = rm_L S g n0 (S.2.2 2 r8) → AW p l e ({ frames := 0, cells := 0, slots := 0, locals := 0 } : Room) s m args below meth c 3 0 0 (MQ below (va_Qi (fun (r : Int32) (u : ds_S) => u = (rm_F S r8 g n0).2 ∧ r = (rm_F S r8 g n0).1) (fun u t => (ds_P D ad cA nb) u t.heap) (ct_A (ds_A ad nb) sz)) args s 0 0 (ct_A (ds_A ad nb) sz)) (ds_P D ad cA nb S) (ct_A (ds_A ad nb) sz) 23 [(0, .ref (ad 14 r8)), (1, .ref (ad 15 g)), (2, va_rf (o.map (ad 15)))] [] := by
    intro c_5 n
    induction n with
    | zero => intro o ho hT hR; exact hT.elim
    | succ n ih =>
      intro o ho hT hR
      rcases o with _ | k
      · refine aw_aloadq_n C d_Ro_remove_23 rfl (j := 2) rfl ?_
        refine aw_ifnull (o := none) (tgt := 53) C d_Ro_remove_24 (by decide) (fun _ => ?_) (fun _ h => nomatch h)
        refine aw_iconst (v := 0) C d_Ro_remove_53 (by decide) ?_
        have e9 : rm_F S r8 g n0 = (0, S) := by unfold rm_F; rw [if_neg (fun h => c_5 ((ac_eq hI hg hF).mpr h)), ← hR]; rfl
        exact aw_zret C hr hlk rfl _ ⟨by rw [e9], by rw [e9]⟩ (fun H h => h) d_Ro_remove_54
      · have hk : k < nb := ho k rfl
        refine aw_aload_n C d_Ro_remove_23 rfl (j := 2) rfl ?_
        refine aw_ifnull (o := some ((ad 15 k))) (tgt := 53) C d_Ro_remove_24 (by decide) (fun h => nomatch h) (fun _ _ => ?_)
        refine aw_aload_n C d_Ro_remove_27 rfl (j := 2) rfl ?_
        refine gt_Ro_Bk_next C hK hk d_Ro_remove_28 ?_
        refine aw_aload_n C d_Ro_remove_31 rfl (j := 1) rfl ?_
        refine aw_acmp_ne (rx := ((S.2.2 3 k).map (ad 15))) (ry := some ((ad 15 g))) (tgt := 45) C d_Ro_remove_32 (by decide) (fun c_32 => ?_) (fun c_32 => ?_)
        · refine aw_aload_n C d_Ro_remove_45 rfl (j := 2) rfl ?_
          refine gt_Ro_Bk_next C hK hk d_Ro_remove_46 ?_
          refine aw_astoreq_n (x := ((S.2.2 3 k).map (ad 15))) (i := 2) (lv' := [(2, va_rf ((S.2.2 3 k).map (ad 15))), (0, .ref (ad 14 r8)), (1, .ref (ad 15 g))]) C d_Ro_remove_49 rfl (by decide) rfl ?_
          refine aw_goto (tgt := 23) C d_Ro_remove_50 (by decide) ?_
          exact aw_lv [1, 2, 0] rfl (ih (S.2.2 3 k) (fun z hz => hB k z hz) hT (by rw [← hR]; simp only [rm_L]; rw [if_neg (fun h => c_32 ((ac_eq hI hg (hB k)).mpr h))]))
        · refine aw_aload_n C d_Ro_remove_35 rfl (j := 2) rfl ?_
          refine aw_aload_n C d_Ro_remove_36 rfl (j := 1) rfl ?_
          refine gt_Ro_Bk_next C hK hg d_Ro_remove_37 ?_
          refine pt_Ro_Bk_next (x := (S.2.2 3 g)) C hK hI hk  d_Ro_remove_40 ?_
          refine aw_iconst (v := 1) C d_Ro_remove_43 (by decide) ?_
          have e9 : rm_F S r8 g n0 = (1, ds_wR S 3 k (S.2.2 3 g)) := by unfold rm_F; rw [if_neg (fun h => c_5 ((ac_eq hI hg hF).mpr h)), ← hR]; simp only [rm_L]; rw [if_pos ((ac_eq hI hg (hB k)).mp c_32)]
          exact aw_zret C hr hlk rfl _ ⟨by rw [e9], by rw [e9]⟩ (fun H h => h) d_Ro_remove_44
  refine aw_lv (lv' := [(0, .ref (ad 14 r8)), (1, .ref (ad 15 g))]) [0, 1] rfl ?_
  refine aw_aload_n C d_Ro_remove_0 rfl (j := 0) rfl ?_
  refine gt_Ro_Ro_first C hK hr9 d_Ro_remove_1 ?_
  refine aw_aload_n C d_Ro_remove_4 rfl (j := 1) rfl ?_
  refine aw_acmp_ne (rx := ((S.2.2 2 r8).map (ad 15))) (ry := some ((ad 15 g))) (tgt := 18) C d_Ro_remove_5 (by decide) (fun c_5 => ?_) (fun c_5 => ?_)
  · refine aw_aload_n C d_Ro_remove_18 rfl (j := 0) rfl ?_
    refine gt_Ro_Ro_first C hK hr9 d_Ro_remove_19 ?_
    refine aw_astoreq_n (x := ((S.2.2 2 r8).map (ad 15))) (i := 2) (lv' := [(2, va_rf ((S.2.2 2 r8).map (ad 15))), (0, .ref (ad 14 r8)), (1, .ref (ad 15 g))]) C d_Ro_remove_22 rfl (by decide) rfl ?_
    exact aw_lv [1, 2, 0] rfl (lp c_5 n0 (S.2.2 2 r8) hF hT rfl)
  · refine aw_aload_n C d_Ro_remove_8 rfl (j := 0) rfl ?_
    refine aw_aload_n C d_Ro_remove_9 rfl (j := 1) rfl ?_
    refine gt_Ro_Bk_next C hK hg d_Ro_remove_10 ?_
    refine pt_Ro_Ro_first (x := (S.2.2 3 g)) C hK hI hr9  d_Ro_remove_13 ?_
    refine aw_iconst (v := 1) C d_Ro_remove_16 (by decide) ?_
    have e9 : rm_F S r8 g n0 = (1, ds_wR S 2 r8 (S.2.2 3 g)) := by unfold rm_F; rw [if_pos ((ac_eq hI hg hF).mp c_5)]
    exact aw_zret C hr hlk rfl _ ⟨by rw [e9], by rw [e9]⟩ (fun H h => h) d_Ro_remove_17
