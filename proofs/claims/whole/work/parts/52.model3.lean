def mfw_L (M : ms_S) (Pn : Nat) : Nat → Nat → Option Nat
  | 0, _ => none
  | n + 1, k => if M 8 k = M 4 k then mfw_L M Pn n (k + 1) else (if mf_L M (M 4 k) Pn = 0 then mfw_L M Pn n (k + 1) else some k)
def mwt_L (M : ms_S) : Nat → Int32
  | 0 => -1
  | k + 1 => if mwt_L M k = -1 then (if M 8 k = M 4 k then mwt_L M k else nI k) else mwt_L M k
theorem mwt_or (M : ms_S) : ∀ k, mwt_L M k = -1 ∨ ∃ w, w < k ∧ mwt_L M k = nI w
  | 0 => Or.inl rfl
  | k + 1 => by
    unfold mwt_L
    split
    · split
      · rcases mwt_or M k with h | ⟨w, h1, h2⟩
        · exact Or.inl h
        · exact Or.inr ⟨w, by omega, h2⟩
      · exact Or.inr ⟨k, by omega, rfl⟩
    · rcases mwt_or M k with h | ⟨w, h1, h2⟩
      · exact Or.inl h
      · exact Or.inr ⟨w, by omega, h2⟩
def mff_L (M : ms_S) (Pn : Nat) : Nat → Nat → Option Nat
  | 0, _ => none
  | n + 1, k => if mf_L M (nI k) Pn = 0 then mff_L M Pn n (k + 1) else some k
def mgs (M : ms_S) (Pn Dn g : Nat) : Int32 × ms_S := match mfw_L M Pn Pn 0 with
  | some p => (1, mg_F M p g (M 4 p))
  | none => if mwt_L M Pn = -1 then (0, M) else (match mff_L M Pn Dn 0 with
    | some d => (1, mg_F M (mwt_L M Pn).toNatClampNeg g (nI d))
    | none => (0, ms_w M 27 0 1))
theorem mgs_b (M : ms_S) (Pn Dn g : Nat) : (mgs M Pn Dn g).1 = 0 ∨ (mgs M Pn Dn g).1 = 1 := by
  unfold mgs
  split
  · exact Or.inr rfl
  · split
    · exact Or.inl rfl
    · split
      · exact Or.inr rfl
      · exact Or.inl rfl
theorem mgs_kept (M : ms_S) (Pn Dn g t : Nat) (h7 : t ≠ 7) (h8 : t ≠ 8) (h26 : t ≠ 26) (h27 : t ≠ 27) (i : Nat) : (mgs M Pn Dn g).2 t i = M t i := by
  have e : ∀ p9 d, mg_F M p9 g d t i = M t i := fun p9 d => by
    unfold mg_F
    rw [ms_w_n (fun q => h8 q.1), ms_w_n (fun q => h26 q.1), ms_w_n (fun q => h7 q.1), ms_w_n (fun q => h7 q.1), ms_w_n (fun q => h7 q.1)]
  unfold mgs
  split
  · exact e _ _
  · split
    · rfl
    · split
      · exact e _ _
      · exact ms_w_n (fun q => h27 q.1)
theorem mg_26 (M : ms_S) (p9 g : Nat) (d : Int32) : mg_F M p9 g d 26 0 = nI (g + 1) := rfl
theorem mgs_26 (M : ms_S) (Pn Dn g : Nat) (h : ¬ (mgs M Pn Dn g).1 = 0) : (mgs M Pn Dn g).2 26 0 = nI (g + 1) := by
  unfold mgs at h ⊢
  rcases h1 : mfw_L M Pn Pn 0 with _ | p
  · simp only [h1] at h ⊢
    by_cases h2 : mwt_L M Pn = -1
    · rw [if_pos h2] at h; exact absurd rfl h
    · rw [if_neg h2] at h ⊢
      rcases h3 : mff_L M Pn Dn 0 with _ | d
      · simp only [h3] at h; exact absurd trivial h
      · rfl
  · rfl
set_option maxHeartbeats 4000000 in
set_option maxRecDepth 100000 in
theorem c_Mo_goes (l : Launch) (D : va_G) (ad : Nat → Nat) (cA : Nat → ClassId) (M : ms_S) (Pn Dn g : Nat) (hI : ms_I ad) (hPn : Pn ≤ 10) (hDn : Dn ≤ 14) (hg : g < 200) (h22 : M 22 0 = nI Pn) (h21 : M 21 0 = nI Dn) (h26 : M 26 0 = nI g) : Ct_i l y_Mo_goes b_Mo_goes 3 (some .boolean) ({ frames := 1, cells := 0, slots := 0, locals := 23 } : Room) 0 0 D (ds_ty cA) (ms_A ad) [.ref (ad 0)] (ms_P D ad cA M) (fun (r : Int32) (u : ms_S) => u = (mgs M Pn Dn g).2 ∧ r = (mgs M Pn Dn g).1) (ms_P D ad cA) := by
  intro sz
  refine ct_of (by decide) (Nat.le_of_ble_eq_true rfl) ?_
  intro p e s m args below meth c hsz C hr hlk hnm hK
  have lp2 : mfw_L M Pn Pn 0 = none → ∀ (w : Nat), w < 10 → mwt_L M Pn = nI w → ¬ mwt_L M Pn = -1 → ∀ (n k : Nat), k + n = Dn → mff_L M Pn n k = mff_L M Pn Dn 0 → AW p l e ({ frames := 1, cells := 0, slots := 0, locals := 23 } : Room) s m args below meth c 3 0 0 (MQ below (va_Qi (fun (r : Int32) (u : ms_S) => u = (mgs M Pn Dn g).2 ∧ r = (mgs M Pn Dn g).1) (fun u t => (ms_P D ad cA) u t.heap) (ct_A (ms_A ad) sz)) args s 0 0 (ct_A (ms_A ad) sz)) (ms_P D ad cA M) (ct_A (ms_A ad) sz) 94 [(0, .ref (ad 0)), (1, .int (nI w)), (2, .int (nI k))] [] := by
    intro hfw w hw ew hw1 n
    induction n with
    | zero =>
      intro k hkn hR
      refine aw_iload_n C d_Mo_goes_94 rfl (j := 2) rfl ?_
      refine aw_aload_n C d_Mo_goes_95 rfl (j := 0) rfl ?_
      refine gm_desks (v := M 21 0) C hK rfl d_Mo_goes_96 ?_
      refine aw_icmp_ge (tgt := 124) C d_Mo_goes_99 (by decide) (fun c_99 => ?_) (fun c_99 => ?_)
      · refine aw_aload_n C d_Mo_goes_124 rfl (j := 0) rfl ?_
        refine aw_iconst (v := 1) C d_Mo_goes_125 (by decide) ?_
        refine pm_stuck (x := 1) C hK hI (Or.inr rfl) d_Mo_goes_126 ?_
        refine aw_iconst (v := 0) C d_Mo_goes_129 (by decide) ?_
        have hff : mff_L M Pn Dn 0 = none := by rw [← hR]; rfl
        have e9 : mgs M Pn Dn g = (0, ms_w M 27 0 1) := by simp only [mgs, hfw, hff]; rw [if_neg hw1]
        exact aw_zret C hr hlk rfl _ ⟨by rw [e9], by rw [e9]⟩ (fun H h => h) d_Mo_goes_130
      · exact absurd (by rw [h21, show k = Dn by omega]; exact nI_le (Nat.le_refl _) (by omega)) c_99
    | succ n ih =>
      intro k hkn hR
      refine aw_iload_n C d_Mo_goes_94 rfl (j := 2) rfl ?_
      refine aw_aload_n C d_Mo_goes_95 rfl (j := 0) rfl ?_
      refine gm_desks (v := M 21 0) C hK rfl d_Mo_goes_96 ?_
      refine aw_icmp_ge (tgt := 124) C d_Mo_goes_99 (by decide) (fun c_99 => ?_) (fun c_99 => ?_)
      · exact absurd c_99 (by rw [h21]; exact nI_ge (by omega) (by omega))
      · refine aw_aload_n C d_Mo_goes_102 rfl (j := 0) rfl ?_
        refine aw_iload_n C d_Mo_goes_103 rfl (j := 2) rfl ?_
        refine aw_callVi (P9 := fun r u => ms_P D ad cA u) [.int (nI k)] C hK (c_Mo_isFree l D ad cA M Pn ((nI k)) hPn h22) (cw_Mo_Mo_isFree C.2.2.2.2 rfl rfl (by decide)) rfl (fun H h => aw_recv hK rfl (h 0 (by decide))) (fun H h => h) (fun q h => Or.inl h) (fun q h => Or.inr (by rw [← hsz]; exact h)) rfl (Nat.le_of_ble_eq_true rfl) d_Mo_goes_104 (by decide) (fun H H1 r u _ _ hB _ _ => hB) ?_
        rintro r u ⟨rfl, rfl⟩
        refine aw_if_eq (tgt := 118) C d_Mo_goes_107 (by decide) (fun c_107 => ?_) (fun c_107 => ?_)
        · refine aw_iinc (i := 2) (v := (nI (k + 1))) (lv' := [(2, .int (nI (k + 1))), (0, .ref (ad 0)), (1, .int (nI w))]) C d_Mo_goes_118 (j := 2) rfl (nI_1 k) (by decide) rfl ?_
          refine aw_goto (tgt := 94) C d_Mo_goes_121 (by decide) ?_
          exact aw_lv [1, 2, 0] rfl (ih (k + 1) (by omega) (by rw [← hR]; simp only [mff_L]; rw [if_pos c_107]))
        · refine aw_aload_n C d_Mo_goes_110 rfl (j := 0) rfl ?_
          refine aw_iload_n C d_Mo_goes_111 rfl (j := 1) rfl ?_
          refine aw_iload_n C d_Mo_goes_112 rfl (j := 2) rfl ?_
          refine aw_callVv (P9 := fun u => ms_P D ad cA u) [.int (nI w), .int (nI k)] C hK (c_Mo_go l D ad cA M w g ((nI k)) hI (by omega) hg h26) (cw_Mo_Mo_go C.2.2.2.2 rfl rfl (by decide)) rfl (fun H h => aw_recv hK rfl (h 0 (by decide))) (fun H h => h) (fun q h => Or.inl h) (fun q h => Or.inr (by rw [← hsz]; exact h)) rfl (Nat.le_of_ble_eq_true rfl) d_Mo_goes_113 (by decide) (fun H H1 u _ _ hB _ _ => hB) ?_
          rintro u rfl
          refine aw_iconst (v := 1) C d_Mo_goes_116 (by decide) ?_
          have hff : mff_L M Pn Dn 0 = some k := by rw [← hR]; simp only [mff_L]; rw [if_neg c_107]
          have e9 : mgs M Pn Dn g = (1, mg_F M w g (nI k)) := by simp only [mgs, hfw, hff]; rw [if_neg hw1, ew, nI_clamp (by omega)]
          exact aw_zret C hr hlk rfl _ ⟨by rw [e9], by rw [e9]⟩ (fun H h => h) d_Mo_goes_117
  have lp : ∀ (n k : Nat), k + n = Pn → mfw_L M Pn n k = mfw_L M Pn Pn 0 → AW p l e ({ frames := 1, cells := 0, slots := 0, locals := 23 } : Room) s m args below meth c 3 0 0 (MQ below (va_Qi (fun (r : Int32) (u : ms_S) => u = (mgs M Pn Dn g).2 ∧ r = (mgs M Pn Dn g).1) (fun u t => (ms_P D ad cA) u t.heap) (ct_A (ms_A ad) sz)) args s 0 0 (ct_A (ms_A ad) sz)) (ms_P D ad cA M) (ct_A (ms_A ad) sz) 4 [(0, .ref (ad 0)), (1, .int (mwt_L M k)), (2, .int (nI k))] [] := by
    intro n
    induction n with
    | zero =>
      intro k hkn hR
      refine aw_iload_n C d_Mo_goes_4 rfl (j := 2) rfl ?_
      refine aw_aload_n C d_Mo_goes_5 rfl (j := 0) rfl ?_
      refine gm_persons (v := M 22 0) C hK rfl d_Mo_goes_6 ?_
      refine aw_icmp_ge (tgt := 85) C d_Mo_goes_9 (by decide) (fun c_9 => ?_) (fun c_9 => ?_)
      · refine aw_iload_n C d_Mo_goes_85 rfl (j := 1) rfl ?_
        refine aw_iconst (v := (-1)) C d_Mo_goes_86 (by decide) ?_
        refine aw_icmp_ne (tgt := 92) C d_Mo_goes_87 (by decide) (fun c_87 => ?_) (fun c_87 => ?_)
        · obtain ⟨w, hw, ew⟩ := (mwt_or M k).resolve_left c_87
          rw [ew]
          have hkP : k = Pn := by omega
          rw [hkP] at ew hw c_87
          refine aw_iconst (v := 0) C d_Mo_goes_92 (by decide) ?_
          refine aw_istore_n (i := 2) (lv' := [(2, .int 0), (0, .ref (ad 0)), (1, .int (nI w))]) C d_Mo_goes_93 rfl (by decide) rfl ?_
          exact aw_lv [1, 2, 0] rfl (lp2 (by rw [← hR]; rfl) w (by omega) ew c_87 Dn 0 (by omega) rfl)
        · rw [show k = Pn by omega] at c_87
          refine aw_iconst (v := 0) C d_Mo_goes_90 (by decide) ?_
          have hfw : mfw_L M Pn Pn 0 = none := by rw [← hR]; rfl
          have e9 : mgs M Pn Dn g = (0, M) := by simp only [mgs, hfw]; rw [if_pos c_87]
          exact aw_zret C hr hlk rfl _ ⟨by rw [e9], by rw [e9]⟩ (fun H h => h) d_Mo_goes_91
      · exact absurd (by rw [h22, show k = Pn by omega]; exact nI_le (Nat.le_refl _) (by omega)) c_9
    | succ n ih =>
      intro k hkn hR
      refine aw_iload_n C d_Mo_goes_4 rfl (j := 2) rfl ?_
      refine aw_aload_n C d_Mo_goes_5 rfl (j := 0) rfl ?_
      refine gm_persons (v := M 22 0) C hK rfl d_Mo_goes_6 ?_
      refine aw_icmp_ge (tgt := 85) C d_Mo_goes_9 (by decide) (fun c_9 => ?_) (fun c_9 => ?_)
      · exact absurd c_9 (by rw [h22]; exact nI_ge (by omega) (by omega))
      · refine aw_aload_n C d_Mo_goes_12 rfl (j := 0) rfl ?_
        refine gm_place C hK d_Mo_goes_13 ?_
        refine aw_iload_n C d_Mo_goes_16 rfl (j := 2) rfl ?_
        refine lm_8 (v := M 8 k) C hK k rfl (show k < 10 by omega) rfl d_Mo_goes_17 ?_
        refine aw_aload_n C d_Mo_goes_18 rfl (j := 0) rfl ?_
        refine gm_seats C hK d_Mo_goes_19 ?_
        refine aw_iload_n C d_Mo_goes_22 rfl (j := 2) rfl ?_
        refine lm_4 (v := M 4 k) C hK k rfl (show k < 10 by omega) rfl d_Mo_goes_23 ?_
        refine aw_icmp_eq (tgt := 53) C d_Mo_goes_24 (by decide) (fun c_24 => ?_) (fun c_24 => ?_)
        · refine aw_iload_n C d_Mo_goes_53 rfl (j := 1) rfl ?_
          refine aw_iconst (v := (-1)) C d_Mo_goes_54 (by decide) ?_
          refine aw_icmp_ne (tgt := 77) C d_Mo_goes_55 (by decide) (fun c_55 => ?_) (fun c_55 => ?_)
          · refine aw_iload_n C d_Mo_goes_77 rfl (j := 1) rfl ?_
            refine aw_istore_n (i := 1) (lv' := [(1, .int (mwt_L M k)), (0, .ref (ad 0)), (2, .int (nI k))]) C d_Mo_goes_78 rfl (by decide) rfl ?_
            refine aw_iinc (i := 2) (v := (nI (k + 1))) (lv' := [(2, .int (nI (k + 1))), (1, .int (mwt_L M k)), (0, .ref (ad 0))]) C d_Mo_goes_79 (j := 2) rfl (nI_1 k) (by decide) rfl ?_
            refine aw_goto (tgt := 4) C d_Mo_goes_82 (by decide) ?_
            have e9 : mwt_L M (k + 1) = mwt_L M k := by simp only [mwt_L]; rw [if_neg c_55]
            have h9 := ih (k + 1) (by omega) (by rw [← hR]; simp only [mfw_L]; rw [if_pos c_24])
            rw [e9] at h9
            exact aw_lv [2, 1, 0] rfl h9
          · refine aw_aload_n C d_Mo_goes_58 rfl (j := 0) rfl ?_
            refine gm_place C hK d_Mo_goes_59 ?_
            refine aw_iload_n C d_Mo_goes_62 rfl (j := 2) rfl ?_
            refine lm_8 (v := M 8 k) C hK k rfl (show k < 10 by omega) rfl d_Mo_goes_63 ?_
            refine aw_aload_n C d_Mo_goes_64 rfl (j := 0) rfl ?_
            refine gm_seats C hK d_Mo_goes_65 ?_
            refine aw_iload_n C d_Mo_goes_68 rfl (j := 2) rfl ?_
            refine lm_4 (v := M 4 k) C hK k rfl (show k < 10 by omega) rfl d_Mo_goes_69 ?_
            refine aw_icmp_eq (tgt := 77) C d_Mo_goes_70 (by decide) (fun c_70 => ?_) (fun c_70 => ?_)
            · refine aw_iload_n C d_Mo_goes_77 rfl (j := 1) rfl ?_
              refine aw_istore_n (i := 1) (lv' := [(1, .int (mwt_L M k)), (0, .ref (ad 0)), (2, .int (nI k))]) C d_Mo_goes_78 rfl (by decide) rfl ?_
              refine aw_iinc (i := 2) (v := (nI (k + 1))) (lv' := [(2, .int (nI (k + 1))), (1, .int (mwt_L M k)), (0, .ref (ad 0))]) C d_Mo_goes_79 (j := 2) rfl (nI_1 k) (by decide) rfl ?_
              refine aw_goto (tgt := 4) C d_Mo_goes_82 (by decide) ?_
              have e9 : mwt_L M (k + 1) = mwt_L M k := by simp only [mwt_L]; rw [if_pos c_55, if_pos c_24]
              have h9 := ih (k + 1) (by omega) (by rw [← hR]; simp only [mfw_L]; rw [if_pos c_24])
              rw [e9] at h9
              exact aw_lv [2, 1, 0] rfl h9
            · refine aw_iload_n C d_Mo_goes_73 rfl (j := 2) rfl ?_
              refine aw_goto (tgt := 78) C d_Mo_goes_74 (by decide) ?_
              refine aw_istore_n (i := 1) (lv' := [(1, .int (nI k)), (0, .ref (ad 0)), (2, .int (nI k))]) C d_Mo_goes_78 rfl (by decide) rfl ?_
              refine aw_iinc (i := 2) (v := (nI (k + 1))) (lv' := [(2, .int (nI (k + 1))), (1, .int (nI k)), (0, .ref (ad 0))]) C d_Mo_goes_79 (j := 2) rfl (nI_1 k) (by decide) rfl ?_
              refine aw_goto (tgt := 4) C d_Mo_goes_82 (by decide) ?_
              exact absurd c_24 c_70
        · refine aw_aload_n C d_Mo_goes_27 rfl (j := 0) rfl ?_
          refine aw_aload_n C d_Mo_goes_28 rfl (j := 0) rfl ?_
          refine gm_seats C hK d_Mo_goes_29 ?_
          refine aw_iload_n C d_Mo_goes_32 rfl (j := 2) rfl ?_
          refine lm_4 (v := M 4 k) C hK k rfl (show k < 10 by omega) rfl d_Mo_goes_33 ?_
          refine aw_callVi (P9 := fun r u => ms_P D ad cA u) [.int (M 4 k)] C hK (c_Mo_isFree l D ad cA M Pn ((M 4 k)) hPn h22) (cw_Mo_Mo_isFree C.2.2.2.2 rfl rfl (by decide)) rfl (fun H h => aw_recv hK rfl (h 0 (by decide))) (fun H h => h) (fun q h => Or.inl h) (fun q h => Or.inr (by rw [← hsz]; exact h)) rfl (Nat.le_of_ble_eq_true rfl) d_Mo_goes_34 (by decide) (fun H H1 r u _ _ hB _ _ => hB) ?_
          rintro r u ⟨rfl, rfl⟩
          refine aw_if_eq (tgt := 53) C d_Mo_goes_37 (by decide) (fun c_37 => ?_) (fun c_37 => ?_)
          · refine aw_iload_n C d_Mo_goes_53 rfl (j := 1) rfl ?_
            refine aw_iconst (v := (-1)) C d_Mo_goes_54 (by decide) ?_
            refine aw_icmp_ne (tgt := 77) C d_Mo_goes_55 (by decide) (fun c_55 => ?_) (fun c_55 => ?_)
            · refine aw_iload_n C d_Mo_goes_77 rfl (j := 1) rfl ?_
              refine aw_istore_n (i := 1) (lv' := [(1, .int (mwt_L M k)), (0, .ref (ad 0)), (2, .int (nI k))]) C d_Mo_goes_78 rfl (by decide) rfl ?_
              refine aw_iinc (i := 2) (v := (nI (k + 1))) (lv' := [(2, .int (nI (k + 1))), (1, .int (mwt_L M k)), (0, .ref (ad 0))]) C d_Mo_goes_79 (j := 2) rfl (nI_1 k) (by decide) rfl ?_
              refine aw_goto (tgt := 4) C d_Mo_goes_82 (by decide) ?_
              have e9 : mwt_L M (k + 1) = mwt_L M k := by simp only [mwt_L]; rw [if_neg c_55]
              have h9 := ih (k + 1) (by omega) (by rw [← hR]; simp only [mfw_L]; rw [if_neg c_24, if_pos c_37])
              rw [e9] at h9
              exact aw_lv [2, 1, 0] rfl h9
            · refine aw_aload_n C d_Mo_goes_58 rfl (j := 0) rfl ?_
              refine gm_place C hK d_Mo_goes_59 ?_
              refine aw_iload_n C d_Mo_goes_62 rfl (j := 2) rfl ?_
              refine lm_8 (v := M 8 k) C hK k rfl (show k < 10 by omega) rfl d_Mo_goes_63 ?_
              refine aw_aload_n C d_Mo_goes_64 rfl (j := 0) rfl ?_
              refine gm_seats C hK d_Mo_goes_65 ?_
              refine aw_iload_n C d_Mo_goes_68 rfl (j := 2) rfl ?_
              refine lm_4 (v := M 4 k) C hK k rfl (show k < 10 by omega) rfl d_Mo_goes_69 ?_
              refine aw_icmp_eq (tgt := 77) C d_Mo_goes_70 (by decide) (fun c_70 => ?_) (fun c_70 => ?_)
              · refine aw_iload_n C d_Mo_goes_77 rfl (j := 1) rfl ?_
                refine aw_istore_n (i := 1) (lv' := [(1, .int (mwt_L M k)), (0, .ref (ad 0)), (2, .int (nI k))]) C d_Mo_goes_78 rfl (by decide) rfl ?_
                refine aw_iinc (i := 2) (v := (nI (k + 1))) (lv' := [(2, .int (nI (k + 1))), (1, .int (mwt_L M k)), (0, .ref (ad 0))]) C d_Mo_goes_79 (j := 2) rfl (nI_1 k) (by decide) rfl ?_
                refine aw_goto (tgt := 4) C d_Mo_goes_82 (by decide) ?_
                exact absurd c_70 c_24
              · refine aw_iload_n C d_Mo_goes_73 rfl (j := 2) rfl ?_
                refine aw_goto (tgt := 78) C d_Mo_goes_74 (by decide) ?_
                refine aw_istore_n (i := 1) (lv' := [(1, .int (nI k)), (0, .ref (ad 0)), (2, .int (nI k))]) C d_Mo_goes_78 rfl (by decide) rfl ?_
                refine aw_iinc (i := 2) (v := (nI (k + 1))) (lv' := [(2, .int (nI (k + 1))), (1, .int (nI k)), (0, .ref (ad 0))]) C d_Mo_goes_79 (j := 2) rfl (nI_1 k) (by decide) rfl ?_
                refine aw_goto (tgt := 4) C d_Mo_goes_82 (by decide) ?_
                have e9 : mwt_L M (k + 1) = nI k := by simp only [mwt_L]; rw [if_pos c_55, if_neg c_24]
                have h9 := ih (k + 1) (by omega) (by rw [← hR]; simp only [mfw_L]; rw [if_neg c_24, if_pos c_37])
                rw [e9] at h9
                exact aw_lv [2, 1, 0] rfl h9
          · refine aw_aload_n C d_Mo_goes_40 rfl (j := 0) rfl ?_
            refine aw_iload_n C d_Mo_goes_41 rfl (j := 2) rfl ?_
            refine aw_aload_n C d_Mo_goes_42 rfl (j := 0) rfl ?_
            refine gm_seats C hK d_Mo_goes_43 ?_
            refine aw_iload_n C d_Mo_goes_46 rfl (j := 2) rfl ?_
            refine lm_4 (v := M 4 k) C hK k rfl (show k < 10 by omega) rfl d_Mo_goes_47 ?_
            refine aw_callVv (P9 := fun u => ms_P D ad cA u) [.int (nI k), .int (M 4 k)] C hK (c_Mo_go l D ad cA M k g ((M 4 k)) hI (by omega) hg h26) (cw_Mo_Mo_go C.2.2.2.2 rfl rfl (by decide)) rfl (fun H h => aw_recv hK rfl (h 0 (by decide))) (fun H h => h) (fun q h => Or.inl h) (fun q h => Or.inr (by rw [← hsz]; exact h)) rfl (Nat.le_of_ble_eq_true rfl) d_Mo_goes_48 (by decide) (fun H H1 u _ _ hB _ _ => hB) ?_
            rintro u rfl
            refine aw_iconst (v := 1) C d_Mo_goes_51 (by decide) ?_
            have hfw : mfw_L M Pn Pn 0 = some k := by rw [← hR]; simp only [mfw_L]; rw [if_neg c_24, if_neg c_37]
            have e9 : mgs M Pn Dn g = (1, mg_F M k g (M 4 k)) := by simp only [mgs, hfw]
            exact aw_zret C hr hlk rfl _ ⟨by rw [e9], by rw [e9]⟩ (fun H h => h) d_Mo_goes_52
  refine aw_lv (lv' := [(0, .ref (ad 0))]) [0] rfl ?_
  refine aw_iconst (v := (-1)) C d_Mo_goes_0 (by decide) ?_
  refine aw_istore_n (i := 1) (lv' := [(1, .int (-1)), (0, .ref (ad 0))]) C d_Mo_goes_1 rfl (by decide) rfl ?_
  refine aw_iconst (v := 0) C d_Mo_goes_2 (by decide) ?_
  refine aw_istore_n (i := 2) (lv' := [(2, .int 0), (1, .int (-1)), (0, .ref (ad 0))]) C d_Mo_goes_3 rfl (by decide) rfl ?_
  exact aw_lv [2, 1, 0] rfl (lp Pn 0 (by omega) rfl)
def mwk_F (M : ms_S) : Nat → ms_S
  | 0 => ms_w (ms_w M 26 0 0) 27 0 0
  | k + 1 => ms_w (mwk_F M k) 8 k (mwk_F M k 3 k)
theorem mwk_n (M : ms_S) (t i : Nat) (h8 : t ≠ 8) (h26 : t ≠ 26) (h27 : t ≠ 27) : ∀ k, mwk_F M k t i = M t i
  | 0 => by
    unfold mwk_F
    rw [ms_w_n (fun q => h27 q.1), ms_w_n (fun q => h26 q.1)]
  | k + 1 => by
    unfold mwk_F
    rw [ms_w_n (fun q => h8 q.1)]
    exact mwk_n M t i h8 h26 h27 k
theorem mwk_26 (M : ms_S) : ∀ k, mwk_F M k 26 0 = 0
  | 0 => rfl
  | k + 1 => mwk_26 M k
def mwl (Pn Dn : Nat) : Nat → Nat → ms_S → ms_S
  | 0, _, M => M
  | n + 1, g, M => if (mgs M Pn Dn g).1 = 0 then (mgs M Pn Dn g).2 else mwl Pn Dn n (g + 1) (mgs M Pn Dn g).2
def mwT (Pn Dn : Nat) : Nat → Nat → ms_S → Prop
  | 0, _, _ => False
  | n + 1, g, M => ¬ (mgs M Pn Dn g).1 = 0 → mwT Pn Dn n (g + 1) (mgs M Pn Dn g).2
set_option maxHeartbeats 4000000 in
set_option maxRecDepth 100000 in
theorem c_Mo_walk (l : Launch) (D : va_G) (ad : Nat → Nat) (cA : Nat → ClassId) (M : ms_S) (Pn Dn n0 : Nat) (hI : ms_I ad) (hPn : Pn ≤ 10) (hDn : Dn ≤ 14) (h22 : M 22 0 = nI Pn) (h21 : M 21 0 = nI Dn) (hn0 : n0 ≤ 199) (hT : mwT Pn Dn n0 0 (mwk_F M Pn)) : Ct_v l y_Mo_walk b_Mo_walk 2 none ({ frames := 2, cells := 0, slots := 0, locals := 45 } : Room) 0 0 D (ds_ty cA) (ms_A ad) [.ref (ad 0)] (ms_P D ad cA M) (fun (u : ms_S) => u = mwl Pn Dn n0 0 (mwk_F M Pn)) (ms_P D ad cA) := by
  intro sz
  refine ct_of (by decide) (Nat.le_of_ble_eq_true rfl) ?_
  intro p e s m args below meth c hsz C hr hlk hnm hK
  have lp2 : ∀ (n g : Nat) (M' : ms_S), g + n ≤ 199 → M' 22 0 = nI Pn → M' 21 0 = nI Dn → M' 26 0 = nI g → mwT Pn Dn n g M' → mwl Pn Dn n g M' = mwl Pn Dn n0 0 (mwk_F M Pn) → AW p l e ({ frames := 2, cells := 0, slots := 0, locals := 45 } : Room) s m args below meth c 2 0 0 (MQ below (va_Qv (fun (u : ms_S) => u = mwl Pn Dn n0 0 (mwk_F M Pn)) (fun u t => (ms_P D ad cA) u t.heap) (ct_A (ms_A ad) sz)) args s 0 0 (ct_A (ms_A ad) sz)) (ms_P D ad cA (M')) (ct_A (ms_A ad) sz) 40 [(0, .ref (ad 0)), (1, .int 1)] [] := by
    intro n
    induction n with
    | zero => intro g M' _ _ _ _ hT' _; exact hT'.elim
    | succ n ih =>
      intro g M' hgn h22' h21' h26' hT' hR
      refine aw_iload_n C d_Mo_walk_40 rfl (j := 1) rfl ?_
      refine aw_if_eq (tgt := 52) C d_Mo_walk_41 (by decide) (fun h => absurd h (by decide)) (fun _ => ?_)
      refine aw_aload_n C d_Mo_walk_44 rfl (j := 0) rfl ?_
      refine aw_callVi (P9 := fun r u => ms_P D ad cA u) [] C hK (c_Mo_goes l D ad cA M' Pn Dn g hI hPn hDn (by omega) h22' h21' h26') (cw_Mo_Mo_goes C.2.2.2.2 rfl rfl (by decide)) rfl (fun H h => aw_recv hK rfl (h 0 (by decide))) (fun H h => h) (fun q h => Or.inl h) (fun q h => Or.inr (by rw [← hsz]; exact h)) rfl (Nat.le_of_ble_eq_true rfl) d_Mo_walk_45 (by decide) (fun H H1 r u _ _ hB _ _ => hB) ?_
      rintro r u ⟨rfl, rfl⟩
      refine aw_istore_n (i := 1) (lv' := [(1, .int (mgs M' Pn Dn g).1), (0, .ref (ad 0))]) C d_Mo_walk_48 rfl (by decide) rfl ?_
      refine aw_goto (tgt := 40) C d_Mo_walk_49 (by decide) ?_
      by_cases h0 : (mgs M' Pn Dn g).1 = 0
      · rw [h0]
        refine aw_iload_n C d_Mo_walk_40 rfl (j := 0) rfl ?_
        refine aw_if_eq (tgt := 52) C d_Mo_walk_41 (by decide) (fun _ => ?_) (fun h => absurd h (by decide))
        exact aw_vret C hr hlk _ (by rw [← hR]; simp only [mwl]; rw [if_pos h0]) (fun H h => h) d_Mo_walk_52
      · rw [(mgs_b M' Pn Dn g).resolve_left h0]
        exact aw_lv [1, 0] rfl (ih (g + 1) (mgs M' Pn Dn g).2 (by omega) (by rw [mgs_kept _ _ _ _ 22 (by decide) (by decide) (by decide) (by decide)]; exact h22') (by rw [mgs_kept _ _ _ _ 21 (by decide) (by decide) (by decide) (by decide)]; exact h21') (mgs_26 _ _ _ _ h0) (hT' h0) (by rw [← hR]; simp only [mwl]; rw [if_neg h0]))
  have lp : ∀ (n k : Nat) , k ≤ Pn → Pn + 1 ≤ k + n → AW p l e ({ frames := 2, cells := 0, slots := 0, locals := 45 } : Room) s m args below meth c 2 0 0 (MQ below (va_Qv (fun (u : ms_S) => u = mwl Pn Dn n0 0 (mwk_F M Pn)) (fun u t => (ms_P D ad cA) u t.heap) (ct_A (ms_A ad) sz)) args s 0 0 (ct_A (ms_A ad) sz)) (ms_P D ad cA (mwk_F M k)) (ct_A (ms_A ad) sz) 12 [(0, .ref (ad 0)), (1, .int (nI k))] [] := by
    intro n
    induction n with
    | zero => intro k h1 h2; exact absurd h2 (by omega)
    | succ n ih =>
      intro k hk hn
      refine aw_iload_n C d_Mo_walk_12 rfl (j := 1) rfl ?_
      refine aw_aload_n C d_Mo_walk_13 rfl (j := 0) rfl ?_
      refine gm_persons (v := (mwk_F M k) 22 0) C hK rfl d_Mo_walk_14 ?_
      refine aw_icmp_ge (tgt := 38) C d_Mo_walk_17 (by decide) (fun c_17 => ?_) (fun c_17 => ?_)
      · have hkN : Pn = k := by rw [mwk_n _ _ _ (by decide) (by decide) (by decide), h22] at c_17; have := (nI_leI (by omega) (by omega)).mp c_17; omega
        subst hkN
        refine aw_iconst (v := 1) C d_Mo_walk_38 (by decide) ?_
        refine aw_istore_n (i := 1) (lv' := [(1, .int 1), (0, .ref (ad 0))]) C d_Mo_walk_39 rfl (by decide) rfl ?_
        exact aw_lv [1, 0] rfl (lp2 n0 0 (mwk_F M Pn) (by omega) (by rw [mwk_n _ _ _ (by decide) (by decide) (by decide)]; exact h22) (by rw [mwk_n _ _ _ (by decide) (by decide) (by decide)]; exact h21) (mwk_26 M _) hT rfl)
      · have hlt : k < Pn := by rw [mwk_n _ _ _ (by decide) (by decide) (by decide), h22] at c_17; exact Nat.lt_of_not_le (fun h => c_17 (nI_le h (by omega)))
        refine aw_aload_n C d_Mo_walk_20 rfl (j := 0) rfl ?_
        refine gm_place C hK d_Mo_walk_21 ?_
        refine aw_iload_n C d_Mo_walk_24 rfl (j := 1) rfl ?_
        refine aw_aload_n C d_Mo_walk_25 rfl (j := 0) rfl ?_
        refine gm_olds C hK d_Mo_walk_26 ?_
        refine aw_iload_n C d_Mo_walk_29 rfl (j := 1) rfl ?_
        refine lm_3 (v := (mwk_F M k) 3 k) C hK k rfl (show k < 10 by omega) rfl d_Mo_walk_30 ?_
        refine sm_8 (y := ((mwk_F M k) 3 k)) C hK hI  k rfl (show k < 10 by omega) d_Mo_walk_31 ?_
        refine aw_iinc (i := 1) (v := (nI (k + 1))) (lv' := [(1, .int (nI (k + 1))), (0, .ref (ad 0))]) C d_Mo_walk_32 (j := 1) rfl (nI_1 k) (by decide) rfl ?_
        refine aw_goto (tgt := 12) C d_Mo_walk_35 (by decide) ?_
        exact aw_lv [1, 0] rfl (ih (k + 1) (by omega) (by omega))
  refine aw_lv (lv' := [(0, .ref (ad 0))]) [0] rfl ?_
  refine aw_aload_n C d_Mo_walk_0 rfl (j := 0) rfl ?_
  refine aw_iconst (v := 0) C d_Mo_walk_1 (by decide) ?_
  refine pm_gone (x := 0) C hK hI  d_Mo_walk_2 ?_
  refine aw_aload_n C d_Mo_walk_5 rfl (j := 0) rfl ?_
  refine aw_iconst (v := 0) C d_Mo_walk_6 (by decide) ?_
  refine pm_stuck (x := 0) C hK hI (Or.inl rfl) d_Mo_walk_7 ?_
  refine aw_iconst (v := 0) C d_Mo_walk_10 (by decide) ?_
  refine aw_istore_n (i := 1) (lv' := [(1, .int 0), (0, .ref (ad 0))]) C d_Mo_walk_11 rfl (by decide) rfl ?_
  exact aw_lv [1, 0] rfl (lp (Pn + 1) 0 (by omega) (by omega))
