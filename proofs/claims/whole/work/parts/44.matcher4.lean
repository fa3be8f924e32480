theorem ho_V {q : Nat} (hq : q < 10) : ∀ (n : Nat) (S : ds_S) (o : Option Nat), ma_V S → ma_V (ho_F q n S o)
  | 0, _, _, h => h
  | _ + 1, _, none, h => h
  | n + 1, S, some d, h => by
    refine ho_V hq n _ _ ⟨fun e p he => ?_, fun e e' he => h.2 e e' he⟩
    have he : ds_u2 S.2.2 0 d (match S.2.2 1 d with | none => some q | some d' => S.2.2 0 d') 0 e = some p := he
    unfold ds_u2 at he
    split at he
    · split at he
      · cases he; exact hq
      · exact h.1 _ p he
    · exact h.1 e p he
theorem ho_1 {q : Nat} : ∀ (n : Nat) (S : ds_S) (o : Option Nat), (ho_F q n S o).1 = S.1
  | 0, _, _ => rfl
  | _ + 1, _, none => rfl
  | n + 1, S, some d => ho_1 n _ _
theorem ap_LV {N q : Nat} (hq : q < 10) (hN : N ≤ 14) : ∀ (n : Nat) (S : ds_S) (x : Nat) (fr : Option Nat), ma_V S → (∀ d, fr = some d → d < 14) → ma_V (ap_L N q n S x fr).2
  | 0, _, _, _, h, _ => h
  | n + 1, S, x, fr, h, hf => by
    have h1 := lf_V (x := x) h hf N
    rcases hns : (ns_F (lf_F S x fr N) N).1 with _ | d
    · rw [ap_L_none hns]; exact h1
    · rcases hs : (ap_3 N q (lf_F S x fr N) d).2.2 0 d with _ | p
      · rw [ap_L_end hns hs]; exact ho_V hq _ _ _ (ap_3V h1)
      · rw [ap_L_go hns hs]
        exact ap_LV hq hN n _ _ _ (ap_3V h1) (fun z hz => by cases hz; exact Nat.lt_of_lt_of_le (ns_lt _ N d hns) hN)
theorem ap_L6 {N q : Nat} {v : Int32} : ∀ (n : Nat) (S : ds_S) (x : Nat) (fr : Option Nat), S.1 6 0 0 = v → (ap_L N q n S x fr).2.1 6 0 0 = v
  | 0, _, _, _, h => h
  | n + 1, S, x, fr, h => by
    have h1 : (lf_F S x fr N).1 6 0 0 = v := by rw [lf_1]; exact h
    rcases hns : (ns_F (lf_F S x fr N) N).1 with _ | d
    · rw [ap_L_none hns]; exact h1
    · rcases hs : (ap_3 N q (lf_F S x fr N) d).2.2 0 d with _ | p
      · rw [ap_L_end hns hs, ho_1]; exact ap_36 h1
      · rw [ap_L_go hns hs]
        exact ap_L6 n _ _ _ (ap_36 h1)
/-- person after person, from k on: n are left -/
def mt_L (N : Nat) (wo : Int32) : Nat → Nat → ds_S → Int32 × ds_S
  | 0, _, S => (wo_F S N, S)
  | n + 1, k, S => if nI k = wo then mt_L N wo n (k + 1) S else (if (ap_L N k N (ds_wJ (ss_F S N) 0 k 0) k none).1 = 0 then (-1, (ap_L N k N (ds_wJ (ss_F S N) 0 k 0) k none).2) else mt_L N wo n (k + 1) (ap_L N k N (ds_wJ (ss_F S N) 0 k 0) k none).2)
def mt_T (N : Nat) (wo : Int32) : Nat → Nat → ds_S → Prop
  | 0, _, _ => True
  | n + 1, k, S => (nI k = wo → mt_T N wo n (k + 1) S) ∧ (¬ nI k = wo → ap_T N k N (ds_wJ (ss_F S N) 0 k 0) k none ∧ (¬ (ap_L N k N (ds_wJ (ss_F S N) 0 k 0) k none).1 = 0 → mt_T N wo n (k + 1) (ap_L N k N (ds_wJ (ss_F S N) 0 k 0) k none).2))
theorem cs_V {S : ds_S} (h : ma_V S) : ∀ k, ma_V (cs_F S k)
  | 0 => h
  | k + 1 => by
    have ih := cs_V h k
    refine ⟨fun d p e => ?_, fun d d' e => ih.2 d d' e⟩
    have e : ds_u2 (cs_F S k).2.2 0 k none 0 d = some p := e
    unfold ds_u2 at e
    split at e
    · cases e
    · exact ih.1 d p e
set_option maxHeartbeats 4000000 in
set_option maxRecDepth 100000 in
theorem c_Ma_match (l : Launch) (D : va_G) (ad : Nat → Nat → Nat) (cA : Nat → ClassId) (nb : Nat) (S : ds_S) (N M : Nat) (wo : Int32) (hI : ds_I ad nb) (hN : N ≤ 14) (hM : M ≤ 10) (hV : ma_V S) (hT : mt_T N wo M 0 (cs_F (ds_wI S 6 0 0 (nI N)) N)) : Ct_i l y_Ma_match b_Ma_match 6 (some .int) ({ frames := 4, cells := 0, slots := 0, locals := 95 } : Room) 0 0 D (ds_ty cA) (ds_A ad nb) [.ref (ad 2 0), .ref (ad 1 0), .int (nI M), .int wo, .int (nI N)] (ds_P D ad cA nb S) (fun (r : Int32) (u : ds_S) => u = (mt_L N wo M 0 (cs_F (ds_wI S 6 0 0 (nI N)) N)).2 ∧ r = (mt_L N wo M 0 (cs_F (ds_wI S 6 0 0 (nI N)) N)).1) (ds_P D ad cA nb) := by
  intro sz
  refine ct_of (by decide) (Nat.le_of_ble_eq_true rfl) ?_
  intro p e s m args below meth c hsz C hr hlk hnm hK
  have lp : ∀ (n k : Nat) (S' : ds_S), k + n = M → S'.1 6 0 0 = nI N → ma_V S' → mt_T N wo n k S' → mt_L N wo n k S' = mt_L N wo M 0 (cs_F (ds_wI S 6 0 0 (nI N)) N) → AW p l e ({ frames := 4, cells := 0, slots := 0, locals := 95 } : Room) s m args below meth c 6 0 0 (MQ below (va_Qi (fun (r : Int32) (u : ds_S) => u = (mt_L N wo M 0 (cs_F (ds_wI S 6 0 0 (nI N)) N)).2 ∧ r = (mt_L N wo M 0 (cs_F (ds_wI S 6 0 0 (nI N)) N)).1) (fun u t => (ds_P D ad cA nb) u t.heap) (ct_A (ds_A ad nb) sz)) args s 0 0 (ct_A (ds_A ad nb) sz)) (ds_P D ad cA nb (S')) (ct_A (ds_A ad nb) sz) 9 [(0, .ref (ad 2 0)), (1, .ref (ad 1 0)), (2, .int (nI M)), (3, .int wo), (4, .int (nI N)), (5, .int (nI k))] [] := by
    intro n
    induction n with
    | zero =>
      intro k S' hkn h6' hV' hT' hR
      refine aw_iload C d_Ma_match_9 (j := 5) rfl ?_
      refine aw_iload_n C d_Ma_match_11 rfl (j := 2) rfl ?_
      refine aw_icmp_ge (tgt := 47) C d_Ma_match_12 (by decide) (fun c_12 => ?_) (fun c_12 => ?_)
      · refine aw_aload_n C d_Ma_match_47 rfl (j := 0) rfl ?_
        refine aw_callVi (P9 := fun r u => ds_P D ad cA nb u) [] C hK (c_Ma_worthOfSpots l D ad cA nb S' N hI hN h6' hV') (cw_Ma_Ma_worthOfSpots C.2.2.2.2 rfl rfl (by decide)) rfl (fun H h => aw_recv hK rfl (h 2 0 rfl)) (fun H h => h) (fun q h => Or.inl h) (fun q h => Or.inr (by rw [← hsz]; exact h)) rfl (Nat.le_of_ble_eq_true rfl) d_Ma_match_48 (by decide) (fun H H1 r u _ _ hB _ _ => hB) ?_
        rintro r u ⟨rfl, rfl⟩
        have e9 : mt_L N wo 0 k S' = (wo_F S' N, S') := rfl
        rw [e9] at hR
        exact aw_iret C hr hlk _ ⟨by rw [← hR], by rw [← hR]⟩ (fun H h => h) d_Ma_match_51
      · exact absurd (by rw [show k = M by omega]; exact nI_le (Nat.le_refl _) (by omega)) c_12
    | succ n ih =>
      intro k S' hkn h6' hV' hT' hR
      refine aw_iload C d_Ma_match_9 (j := 5) rfl ?_
      refine aw_iload_n C d_Ma_match_11 rfl (j := 2) rfl ?_
      refine aw_icmp_ge (tgt := 47) C d_Ma_match_12 (by decide) (fun c_12 => ?_) (fun c_12 => ?_)
      · exact absurd c_12 (nI_ge (by omega) (by omega))
      · refine aw_iload C d_Ma_match_15 (j := 5) rfl ?_
        refine aw_aload_n C d_Ma_match_17 rfl (j := 1) rfl ?_
        refine ln_1 C hK  d_Ma_match_18 ?_
        refine aw_icmp_ge (tgt := 47) C d_Ma_match_19 (by decide) (fun c_19 => ?_) (fun c_19 => ?_)
        · exact absurd c_19 (nI_ge (by omega) (by omega))
        · refine aw_iload C d_Ma_match_22 (j := 5) rfl ?_
          refine aw_iload_n C d_Ma_match_24 rfl (j := 3) rfl ?_
          refine aw_icmp_eq (tgt := 41) C d_Ma_match_25 (by decide) (fun c_25 => ?_) (fun c_25 => ?_)
          · refine aw_iinc (i := 5) (v := (nI (k + 1))) (lv' := [(5, .int (nI (k + 1))), (0, .ref (ad 2 0)), (1, .ref (ad 1 0)), (2, .int (nI M)), (3, .int wo), (4, .int (nI N))]) C d_Ma_match_41 (j := 5) rfl (nI_1 k) (by decide) rfl ?_
            refine aw_goto (tgt := 9) C d_Ma_match_44 (by decide) ?_
            exact aw_lv [1, 2, 3, 4, 5, 0] rfl (ih (k + 1) S' (by omega) h6' hV' (hT'.1 c_25) (by rw [← hR]; simp only [mt_L]; rw [if_pos c_25]))
          · refine aw_aload_n C d_Ma_match_28 rfl (j := 0) rfl ?_
            refine aw_aload_n C d_Ma_match_29 rfl (j := 1) rfl ?_
            refine aw_iload C d_Ma_match_30 (j := 5) rfl ?_
            refine al_1 C hK  k rfl (show k < 10 by omega) d_Ma_match_32 ?_
            refine aw_callVi (P9 := fun r u => ds_P D ad cA nb u) [.ref (ad 10 k)] C hK (c_Ma_addPerson l D ad cA nb S' N k hI hN h6' (by omega) hV' (hT'.2 c_25).1) (cw_Ma_Ma_addPerson C.2.2.2.2 rfl rfl (by decide)) rfl (fun H h => aw_recv hK rfl (h 2 0 rfl)) (fun H h => h) (fun q h => Or.inl h) (fun q h => Or.inr (by rw [← hsz]; exact h)) rfl (Nat.le_of_ble_eq_true rfl) d_Ma_match_33 (by decide) (fun H H1 r u _ _ hB _ _ => hB) ?_
            rintro r u ⟨rfl, rfl⟩
            refine aw_if_ne (tgt := 41) C d_Ma_match_36 (by decide) (fun c_36 => ?_) (fun c_36 => ?_)
            · refine aw_iinc (i := 5) (v := (nI (k + 1))) (lv' := [(5, .int (nI (k + 1))), (0, .ref (ad 2 0)), (1, .ref (ad 1 0)), (2, .int (nI M)), (3, .int wo), (4, .int (nI N))]) C d_Ma_match_41 (j := 5) rfl (nI_1 k) (by decide) rfl ?_
              refine aw_goto (tgt := 9) C d_Ma_match_44 (by decide) ?_
              exact aw_lv [1, 2, 3, 4, 5, 0] rfl (ih (k + 1) (ap_L N k N (ds_wJ (ss_F S' N) 0 k 0) k none).2 (by omega) (ap_L6 N _ k none (by show (ss_F S' N).1 6 0 0 = nI N; rw [ss_6]; exact h6')) (ap_LV (by omega) hN N _ k none (ss_V hV' N) (fun z hz => by cases hz)) ((hT'.2 c_25).2 c_36) (by rw [← hR]; simp only [mt_L]; rw [if_neg c_25, if_neg c_36]))
            · refine aw_iconst (v := (-1)) C d_Ma_match_39 (by decide) ?_
              have e9 : mt_L N wo (n + 1) k S' = (-1, (ap_L N k N (ds_wJ (ss_F S' N) 0 k 0) k none).2) := by
                simp only [mt_L]
                rw [if_neg c_25, if_pos c_36]
              rw [e9] at hR
              exact aw_iret C hr hlk _ ⟨by rw [← hR], by rw [← hR]⟩ (fun H h => h) d_Ma_match_40
  refine aw_lv (lv' := [(0, .ref (ad 2 0)), (1, .ref (ad 1 0)), (2, .int (nI M)), (3, .int wo), (4, .int (nI N))]) [0, 1, 2, 3, 4] rfl ?_
  refine aw_aload_n C d_Ma_match_0 rfl (j := 0) rfl ?_
  refine aw_iload C d_Ma_match_1 (j := 4) rfl ?_
  refine aw_callVv (P9 := fun u => ds_P D ad cA nb u) [.int (nI N)] C hK (c_Ma_clearSpots l D ad cA nb S N hI hN) (cw_Ma_Ma_clearSpots C.2.2.2.2 rfl rfl (by decide)) rfl (fun H h => aw_recv hK rfl (h 2 0 rfl)) (fun H h => h) (fun q h => Or.inl h) (fun q h => Or.inr (by rw [← hsz]; exact h)) rfl (Nat.le_of_ble_eq_true rfl) d_Ma_match_3 (by decide) (fun H H1 u _ _ hB _ _ => hB) ?_
  rintro u rfl
  refine aw_iconst (v := 0) C d_Ma_match_6 (by decide) ?_
  refine aw_istore (i := 5) (lv' := [(5, .int 0), (0, .ref (ad 2 0)), (1, .ref (ad 1 0)), (2, .int (nI M)), (3, .int wo), (4, .int (nI N))]) C d_Ma_match_7 (by decide) rfl ?_
  exact aw_lv [1, 2, 3, 4, 5, 0] rfl (lp M 0 (cs_F (ds_wI S 6 0 0 (nI N)) N) (by omega) (by rw [cs_1]; rfl) (cs_V (S := ds_wI S 6 0 0 (nI N)) hV N) hT rfl)
