def ap_3 (N q : Nat) (S1 : ds_S) (d : Nat) : ds_S := ds_wI (sp_F (ds_wJ S1 0 q (S1.2.1 0 q + S1.2.1 2 d)) (S1.2.1 2 d) N) 15 d 0 1
/-- the search for person q: n rounds are left; the answer and the state behind it -/
def ap_L (N q : Nat) : Nat → ds_S → Nat → Option Nat → Int32 × ds_S
  | 0, S, _, _ => (0, S)
  | n + 1, S, x, fr => match (ns_F (lf_F S x fr N) N).1 with
    | none => (0, lf_F S x fr N)
    | some d => match (ap_3 N q (lf_F S x fr N) d).2.2 0 d with
      | none => (1, ho_F q 16 (ap_3 N q (lf_F S x fr N) d) (some d))
      | some p => ap_L N q n (ap_3 N q (lf_F S x fr N) d) p (some d)
/-- its chains have ends -/
def ap_T (N q : Nat) : Nat → ds_S → Nat → Option Nat → Prop
  | 0, _, _, _ => True
  | n + 1, S, x, fr => match (ns_F (lf_F S x fr N) N).1 with
    | none => True
    | some d => match (ap_3 N q (lf_F S x fr N) d).2.2 0 d with
      | none => ho_T ((ap_3 N q (lf_F S x fr N) d).2.2 1) 16 (some d)
      | some p => ap_T N q n (ap_3 N q (lf_F S x fr N) d) p (some d)
theorem ap_L_none {N q n x : Nat} {S : ds_S} {fr : Option Nat} (h : (ns_F (lf_F S x fr N) N).1 = none) : ap_L N q (n + 1) S x fr = (0, lf_F S x fr N) := by simp only [ap_L, h]
theorem ap_L_end {N q n x d : Nat} {S : ds_S} {fr : Option Nat} (h : (ns_F (lf_F S x fr N) N).1 = some d) (h2 : (ap_3 N q (lf_F S x fr N) d).2.2 0 d = none) : ap_L N q (n + 1) S x fr = (1, ho_F q 16 (ap_3 N q (lf_F S x fr N) d) (some d)) := by simp only [ap_L, h, h2]
theorem ap_L_go {N q n x d p : Nat} {S : ds_S} {fr : Option Nat} (h : (ns_F (lf_F S x fr N) N).1 = some d) (h2 : (ap_3 N q (lf_F S x fr N) d).2.2 0 d = some p) : ap_L N q (n + 1) S x fr = ap_L N q n (ap_3 N q (lf_F S x fr N) d) p (some d) := by simp only [ap_L, h, h2]
theorem ap_T_end {N q n x d : Nat} {S : ds_S} {fr : Option Nat} (h : (ns_F (lf_F S x fr N) N).1 = some d) (h2 : (ap_3 N q (lf_F S x fr N) d).2.2 0 d = none) (ht : ap_T N q (n + 1) S x fr) : ho_T ((ap_3 N q (lf_F S x fr N) d).2.2 1) 16 (some d) := by simpa only [ap_T, h, h2] using ht
theorem ap_T_go {N q n x d p : Nat} {S : ds_S} {fr : Option Nat} (h : (ns_F (lf_F S x fr N) N).1 = some d) (h2 : (ap_3 N q (lf_F S x fr N) d).2.2 0 d = some p) (ht : ap_T N q (n + 1) S x fr) : ap_T N q n (ap_3 N q (lf_F S x fr N) d) p (some d) := by simpa only [ap_T, h, h2] using ht
theorem ss_V {S : ds_S} (h : ma_V S) : ∀ k, ma_V (ss_F S k)
  | 0 => h
  | k + 1 => by
    have ih := ss_V h k
    refine ⟨fun d p e => ih.1 d p e, fun d d' e => ?_⟩
    have e : ds_u2 (ss_F S k).2.2 1 k none 1 d = some d' := e
    unfold ds_u2 at e
    split at e
    · cases e
    · exact ih.2 d d' e
theorem lf_V {S : ds_S} {x : Nat} {fr : Option Nat} (h : ma_V S) (hf : ∀ d, fr = some d → d < 14) : ∀ k, ma_V (lf_F S x fr k)
  | 0 => h
  | k + 1 => by
    have ih := lf_V (x := x) h hf k
    show ma_V (lf_step (lf_F S x fr k) x fr k)
    unfold lf_step
    split
    · split
      · split
        · refine ⟨fun d p e => ih.1 d p e, fun d d' e => ?_⟩
          have e : ds_u2 (lf_F S x fr k).2.2 1 k fr 1 d = some d' := e
          unfold ds_u2 at e
          split at e
          · exact hf d' e
          · exact ih.2 d d' e
        · exact ih
      · exact ih
    · exact ih
theorem ap_3V {N q d : Nat} {S : ds_S} (h : ma_V S) : ma_V (ap_3 N q S d) := by
  have e : (ap_3 N q S d).2.2 = S.2.2 := sp_2 _ _ N
  refine ⟨fun d p e1 => h.1 d p (by rw [← e]; exact e1), fun d d' e1 => h.2 d d' (by rw [← e]; exact e1)⟩
theorem ap_36 {N q d : Nat} {S : ds_S} {v : Int32} (h : S.1 6 0 0 = v) : (ap_3 N q S d).1 6 0 0 = v := by
  show (sp_F (ds_wJ S 0 q (S.2.1 0 q + S.2.1 2 d)) (S.2.1 2 d) N).1 6 0 0 = v
  rw [sp_1]; exact h
set_option maxHeartbeats 4000000 in
set_option maxRecDepth 100000 in
theorem c_Ma_addPerson (l : Launch) (D : va_G) (ad : Nat → Nat → Nat) (cA : Nat → ClassId) (nb : Nat) (S : ds_S) (N q : Nat) (hI : ds_I ad nb) (hN : N ≤ 14) (h6 : S.1 6 0 0 = nI N) (hq : q < 10) (hV : ma_V S) (hT : ap_T N q N (ds_wJ (ss_F S N) 0 q 0) q none) : Ct_i l y_Ma_addPerson b_Ma_addPerson 6 (some .boolean) ({ frames := 3, cells := 0, slots := 0, locals := 70 } : Room) 0 0 D (ds_ty cA) (ds_A ad nb) [.ref (ad 2 0), .ref (ad 10 q)] (ds_P D ad cA nb S) (fun (r : Int32) (u : ds_S) => u = (ap_L N q N (ds_wJ (ss_F S N) 0 q 0) q none).2 ∧ r = (ap_L N q N (ds_wJ (ss_F S N) 0 q 0) q none).1) (ds_P D ad cA nb) := by
  intro sz
  refine ct_of (by decide) (Nat.le_of_ble_eq_true rfl) ?_
  intro p e s m args below meth c hsz C hr hlk hnm hK
  have lp : ∀ (n k : Nat) (S' : ds_S) (x : Nat) (fr : Option Nat), k + n = N → S'.1 6 0 0 = nI N → ma_V S' → x < 10 → (∀ d, fr = some d → d < 14) → ap_T N q n S' x fr → ap_L N q n S' x fr = ap_L N q N (ds_wJ (ss_F S N) 0 q 0) q none → AW p l e ({ frames := 3, cells := 0, slots := 0, locals := 70 } : Room) s m args below meth c 6 0 0 (MQ below (va_Qi (fun (r : Int32) (u : ds_S) => u = (ap_L N q N (ds_wJ (ss_F S N) 0 q 0) q none).2 ∧ r = (ap_L N q N (ds_wJ (ss_F S N) 0 q 0) q none).1) (fun u t => (ds_P D ad cA nb) u t.heap) (ct_A (ds_A ad nb) sz)) args s 0 0 (ct_A (ds_A ad nb) sz)) (ds_P D ad cA nb (S')) (ct_A (ds_A ad nb) sz) 16 [(0, .ref (ad 2 0)), (1, .ref (ad 10 q)), (2, .ref (ad 10 x)), (3, va_rf (fr.map (ad 13))), (4, .int (nI k))] [] := by
    intro n
    induction n with
    | zero =>
      intro k S' x fr hkn h6' hV' hx hfr hT' hR
      refine aw_iload C d_Ma_addPerson_16 (j := 4) rfl ?_
      refine aw_aload_n C d_Ma_addPerson_18 rfl (j := 0) rfl ?_
      refine gt_Ma_Ma_spotCount C hK  d_Ma_addPerson_19 ?_
      refine aw_icmp_ge (tgt := 92) C d_Ma_addPerson_22 (by decide) (fun c_22 => ?_) (fun c_22 => ?_)
      · refine aw_iconst (v := 0) C d_Ma_addPerson_92 (by decide) ?_
        have e9 : ap_L N q 0 S' x fr = (0, S') := rfl
        rw [e9] at hR
        exact aw_zret C hr hlk rfl _ ⟨by rw [← hR], by rw [← hR]⟩ (fun H h => h) d_Ma_addPerson_93
      · exact absurd (by rw [h6', show k = N by omega]; exact nI_le (Nat.le_refl _) (by omega)) c_22
    | succ n ih =>
      intro k S' x fr hkn h6' hV' hx hfr hT' hR
      refine aw_iload C d_Ma_addPerson_16 (j := 4) rfl ?_
      refine aw_aload_n C d_Ma_addPerson_18 rfl (j := 0) rfl ?_
      refine gt_Ma_Ma_spotCount C hK  d_Ma_addPerson_19 ?_
      refine aw_icmp_ge (tgt := 92) C d_Ma_addPerson_22 (by decide) (fun c_22 => ?_) (fun c_22 => ?_)
      · exact absurd c_22 (by rw [h6']; exact nI_ge (by omega) (by omega))
      · refine aw_aload_n C d_Ma_addPerson_25 rfl (j := 0) rfl ?_
        refine aw_aload_n C d_Ma_addPerson_26 rfl (j := 2) rfl ?_
        refine aw_aloadq_n C d_Ma_addPerson_27 rfl (j := 3) rfl ?_
        refine aw_callVv (P9 := fun u => ds_P D ad cA nb u) [.ref (ad 10 x), va_rf (fr.map (ad 13))] C hK (c_Ma_lookFrom l D ad cA nb S' N x fr hI hN h6' hx) (cw_Ma_Ma_lookFrom C.2.2.2.2 rfl rfl (by decide)) rfl (fun H h => aw_recv hK rfl (h 2 0 rfl)) (fun H h => h) (fun q h => Or.inl h) (fun q h => Or.inr (by rw [← hsz]; exact h)) rfl (Nat.le_of_ble_eq_true rfl) d_Ma_addPerson_28 (by decide) (fun H H1 u _ _ hB _ _ => hB) ?_
        rintro u rfl
        have h61 : (lf_F S' x fr N).1 6 0 0 = nI N := by rw [lf_1]; exact h6'
        have hV1 := lf_V (x := x) hV' hfr N
        refine aw_aload_n C d_Ma_addPerson_31 rfl (j := 0) rfl ?_
        refine aw_callVq (P9 := fun r u => ds_P D ad cA nb u) [] C hK (c_Ma_nearestSpot l D ad cA nb (lf_F S' x fr N) N hI hN h61) (cw_Ma_Ma_nearestSpot C.2.2.2.2 rfl rfl (by decide)) rfl (fun H h => aw_recv hK rfl (h 2 0 rfl)) (fun H h => h) (fun q h => Or.inl h) (fun q h => Or.inr (by rw [← hsz]; exact h)) rfl (Nat.le_of_ble_eq_true rfl) d_Ma_addPerson_32 (by decide) (fun H H1 r u _ _ hB _ _ => hB) ?_
        rintro r u ⟨rfl, rfl⟩
        rcases hns : (ns_F (lf_F S' x fr N) N).1 with _ | d
        · refine aw_astoreq (x := none) (i := 5) (lv' := [(5, va_rf none), (0, .ref (ad 2 0)), (1, .ref (ad 10 q)), (2, .ref (ad 10 x)), (3, va_rf (fr.map (ad 13))), (4, .int (nI k))]) C d_Ma_addPerson_35 (by decide) rfl ?_
          refine aw_aloadq C d_Ma_addPerson_37 (j := 0) rfl ?_
          refine aw_ifnonnull (o := none) (tgt := 44) C d_Ma_addPerson_39 (by decide) (fun _ h => nomatch h) (fun _ => ?_)
          refine aw_iconst (v := 0) C d_Ma_addPerson_42 (by decide) ?_
          have e9 : ap_L N q (n + 1) S' x fr = (0, lf_F S' x fr N) := ap_L_none hns
          rw [e9] at hR
          exact aw_zret C hr hlk rfl _ ⟨by rw [← hR], by rw [← hR]⟩ (fun H h => h) d_Ma_addPerson_43
        · have hd : d < 14 := Nat.lt_of_lt_of_le (ns_lt _ N d hns) hN
          refine aw_astore (i := 5) (lv' := [(5, .ref (ad 13 d)), (0, .ref (ad 2 0)), (1, .ref (ad 10 q)), (2, .ref (ad 10 x)), (3, va_rf (fr.map (ad 13))), (4, .int (nI k))]) C d_Ma_addPerson_35 (by decide) rfl ?_
          refine aw_aload C d_Ma_addPerson_37 (j := 0) rfl ?_
          refine aw_ifnonnull (o := some ((ad 13 d))) (tgt := 44) C d_Ma_addPerson_39 (by decide) (fun _ _ => ?_) (fun h => nomatch h)
          refine aw_aload_n C d_Ma_addPerson_44 rfl (j := 1) rfl ?_
          refine aw_aload_n C d_Ma_addPerson_45 rfl (j := 2) rfl ?_
          refine aw_aload C d_Ma_addPerson_46 (j := 0) rfl ?_
          refine gt_Ma_Sp_distance C hK hd d_Ma_addPerson_48 ?_
          refine aw_callVv (P9 := fun u => ds_P D ad cA nb u) [.ref (ad 10 q), .long ((lf_F S' x fr N).2.1 2 d)] C hK (c_Ma_shiftPrices l D ad cA nb (lf_F S' x fr N) N q ((lf_F S' x fr N).2.1 2 d) hI hN h61 hq hV1) (cw_Ma_Ma_shiftPrices C.2.2.2.2 rfl rfl (by decide)) rfl (fun H h => aw_recv hK rfl (h 2 0 rfl)) (fun H h => h) (fun q h => Or.inl h) (fun q h => Or.inr (by rw [← hsz]; exact h)) rfl (Nat.le_of_ble_eq_true rfl) d_Ma_addPerson_51 (by decide) (fun H H1 u _ _ hB _ _ => hB) ?_
          rintro u rfl
          refine aw_aload C d_Ma_addPerson_54 (j := 0) rfl ?_
          refine aw_iconst (v := 1) C d_Ma_addPerson_56 (by decide) ?_
          refine pt_Ma_Sp_reached (x := 1) C hK hI hd (Or.inr rfl) d_Ma_addPerson_57 ?_
          show AW p l e _ s m args below meth c _ _ _ _ (ds_P D ad cA nb (ap_3 N q (lf_F S' x fr N) d)) _ 60 _ []
          refine aw_aload C d_Ma_addPerson_60 (j := 0) rfl ?_
          refine gt_Ma_Sp_sitter C hK hd d_Ma_addPerson_62 ?_
          rcases ho_62 : ((ap_3 N q (lf_F S' x fr N) d).2.2 0 d) with _ | p_62
          · refine aw_ifnonnull (o := none) (tgt := 77) C d_Ma_addPerson_65 (by decide) (fun _ h => nomatch h) (fun _ => ?_)
            refine aw_aload_n C d_Ma_addPerson_68 rfl (j := 1) rfl ?_
            refine aw_aload C d_Ma_addPerson_69 (j := 0) rfl ?_
            refine aw_aload_n C d_Ma_addPerson_71 rfl (j := 2) rfl ?_
            refine aw_callVv (P9 := fun u => ds_P D ad cA nb u) [.ref (ad 13 d), .ref (ad 10 q)] C hK (c_Ma_handOn l D ad cA nb (ap_3 N q (lf_F S' x fr N) d) 16 d q hI hq hd (ap_3V hV1).2 (ap_T_end hns ho_62 hT')) (cw_Ma_Ma_handOn C.2.2.2.2 rfl rfl (by decide)) rfl (fun H h => aw_recv hK rfl (h 2 0 rfl)) (fun H h => h) (fun q h => Or.inl h) (fun q h => Or.inr (by rw [← hsz]; exact h)) rfl (Nat.le_of_ble_eq_true rfl) d_Ma_addPerson_72 (by decide) (fun H H1 u _ _ hB _ _ => hB) ?_
            rintro u rfl
            refine aw_iconst (v := 1) C d_Ma_addPerson_75 (by decide) ?_
            have e9 : ap_L N q (n + 1) S' x fr = (1, ho_F q 16 (ap_3 N q (lf_F S' x fr N) d) (some d)) := ap_L_end hns ho_62
            rw [e9] at hR
            exact aw_zret C hr hlk rfl _ ⟨by rw [← hR], by rw [← hR]⟩ (fun H h => h) d_Ma_addPerson_76
          · have hp62 : p_62 < 10 := (ap_3V (N := N) (q := q) (d := d) hV1).1 d p_62 ho_62
            refine aw_ifnonnull (o := some ((ad 10 p_62))) (tgt := 77) C d_Ma_addPerson_65 (by decide) (fun _ _ => ?_) (fun h => nomatch h)
            refine aw_aload C d_Ma_addPerson_77 (j := 0) rfl ?_
            refine gt_Ma_Sp_sitter C hK hd d_Ma_addPerson_79 ?_
            rw [ho_62]
            refine aw_astore_n (i := 2) (lv' := [(2, .ref (ad 10 p_62)), (5, .ref (ad 13 d)), (0, .ref (ad 2 0)), (1, .ref (ad 10 q)), (3, va_rf (fr.map (ad 13))), (4, .int (nI k))]) C d_Ma_addPerson_82 rfl (by decide) rfl ?_
            refine aw_aload C d_Ma_addPerson_83 (j := 1) rfl ?_
            refine aw_astore_n (i := 3) (lv' := [(3, .ref (ad 13 d)), (2, .ref (ad 10 p_62)), (5, .ref (ad 13 d)), (0, .ref (ad 2 0)), (1, .ref (ad 10 q)), (4, .int (nI k))]) C d_Ma_addPerson_85 rfl (by decide) rfl ?_
            refine aw_iinc (i := 4) (v := (nI (k + 1))) (lv' := [(4, .int (nI (k + 1))), (3, .ref (ad 13 d)), (2, .ref (ad 10 p_62)), (5, .ref (ad 13 d)), (0, .ref (ad 2 0)), (1, .ref (ad 10 q))]) C d_Ma_addPerson_86 (j := 5) rfl (nI_1 k) (by decide) rfl ?_
            refine aw_goto (tgt := 16) C d_Ma_addPerson_89 (by decide) ?_
            exact aw_lv [4, 5, 2, 1, 0] rfl (ih (k + 1) (ap_3 N q (lf_F S' x fr N) d) p_62 (some d) (by omega) (ap_36 h61) (ap_3V hV1) hp62 (fun z hz => by cases hz; exact hd) (ap_T_go hns ho_62 hT') (by rw [← hR]; exact (ap_L_go hns ho_62).symm))
  refine aw_lv (lv' := [(0, .ref (ad 2 0)), (1, .ref (ad 10 q))]) [0, 1] rfl ?_
  refine aw_aload_n C d_Ma_addPerson_0 rfl (j := 0) rfl ?_
  refine aw_callVv (P9 := fun u => ds_P D ad cA nb u) [] C hK (c_Ma_startSearch l D ad cA nb S N hI hN h6) (cw_Ma_Ma_startSearch C.2.2.2.2 rfl rfl (by decide)) rfl (fun H h => aw_recv hK rfl (h 2 0 rfl)) (fun H h => h) (fun q h => Or.inl h) (fun q h => Or.inr (by rw [← hsz]; exact h)) rfl (Nat.le_of_ble_eq_true rfl) d_Ma_addPerson_1 (by decide) (fun H H1 u _ _ hB _ _ => hB) ?_
  rintro u rfl
  refine aw_aload_n C d_Ma_addPerson_4 rfl (j := 1) rfl ?_
  refine aw_lconst (v := 0) C d_Ma_addPerson_5 (by decide) ?_
  refine pt_Ma_Pe_price (x := 0) C hK hI hq  d_Ma_addPerson_6 ?_
  refine aw_aload_n C d_Ma_addPerson_9 rfl (j := 1) rfl ?_
  refine aw_astore_n (i := 2) (lv' := [(2, .ref (ad 10 q)), (0, .ref (ad 2 0)), (1, .ref (ad 10 q))]) C d_Ma_addPerson_10 rfl (by decide) rfl ?_
  refine aw_null C d_Ma_addPerson_11 ?_
  refine aw_astoreq_n (x := none) (i := 3) (lv' := [(3, va_rf none), (2, .ref (ad 10 q)), (0, .ref (ad 2 0)), (1, .ref (ad 10 q))]) C d_Ma_addPerson_12 rfl (by decide) rfl ?_
  refine aw_iconst (v := 0) C d_Ma_addPerson_13 (by decide) ?_
  refine aw_istore (i := 4) (lv' := [(4, .int 0), (3, va_rf none), (2, .ref (ad 10 q)), (0, .ref (ad 2 0)), (1, .ref (ad 10 q))]) C d_Ma_addPerson_14 (by decide) (by simp [va_rf_cat, ct_ref, ct_int, ct_long]) ?_
  exact aw_lv [3, 4, 2, 1, 0] rfl (lp N 0 (ds_wJ (ss_F S N) 0 q 0) q none (by omega) (by show (ss_F S N).1 6 0 0 = nI N; rw [ss_6]; exact h6) (ss_V hV N) hq (fun z hz => by cases hz) hT rfl)
