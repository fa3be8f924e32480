theorem bx_cnt : ∀ k, k < 14 → ((nI k &&& 31).toBitVec.smod 32).toNat = k := by decide +kernel
theorem bx_bit {s k : Nat} (hs : s < 2 ^ 31) (hk : k < 14) : (nI s >>> (nI k &&& 31)) &&& 1 = nI (s / 2 ^ k % 2) := by
  have h1 : s / 2 ^ k < 2 ^ 32 := Nat.lt_of_le_of_lt (Nat.div_le_self _ _) (by omega)
  rw [pk_shrN hs (nI k &&& 31) k (bx_cnt k hk), pk_andN h1 1 (by decide)]
theorem bx_lt2 {s k D : Nat} (hs : s < 2 ^ D) (hk : k < D) (h : ¬ s / 2 ^ k % 2 = 1) : s + 2 ^ k < 2 ^ D := by
  refine bx_lt hs hk ?_
  have h1 : s.testBit k = false := by rw [Nat.testBit_eq_decide_div_mod_eq]; simpa using h
  apply Nat.eq_of_testBit_eq
  intro i
  rw [Nat.testBit_and, Nat.testBit_two_pow, Nat.zero_testBit]
  by_cases hi : k = i
  · rw [← hi, h1]; rfl
  · simp [hi]
/-- the first desk that a best seating gives a person -/
def se_d (M : ms_S) (s p : Nat) : Nat → Nat → Nat
  | 0, k => k
  | n + 1, k => if s / 2 ^ k % 2 = 1 then se_d M s p n (k + 1) else (if M 2 (14 * p + k) = 0 then (if M 5 (s + 2 ^ k) = -1000000000 then se_d M s p n (k + 1) else (if mo_val M p k + M 5 (s + 2 ^ k) = M 5 s then k else se_d M s p n (k + 1))) else se_d M s p n (k + 1))
def se_T (M : ms_S) (s p : Nat) : Nat → Nat → Prop
  | 0, _ => False
  | n + 1, k => (s / 2 ^ k % 2 = 1 → se_T M s p n (k + 1)) ∧ (¬ M 2 (14 * p + k) = 0 → se_T M s p n (k + 1)) ∧ (M 5 (s + 2 ^ k) = -1000000000 → se_T M s p n (k + 1)) ∧ (¬ mo_val M p k + M 5 (s + 2 ^ k) = M 5 s → se_T M s p n (k + 1))
def so_L (Dn : Nat) : Nat → Nat → Nat → ms_S → ms_S
  | 0, _, _, M => M
  | n + 1, p, s, M => so_L Dn n (p + 1) (s + 2 ^ (se_d M s p Dn 0)) (ms_w M 4 p (nI (se_d M s p Dn 0)))
def so_T (Dn : Nat) : Nat → Nat → Nat → ms_S → Prop
  | 0, _, _, _ => True
  | n + 1, p, s, M => se_T M s p Dn 0 ∧ so_T Dn n (p + 1) (s + 2 ^ (se_d M s p Dn 0)) (ms_w M 4 p (nI (se_d M s p Dn 0)))
theorem so_n (Dn t i : Nat) (h : t ≠ 4) : ∀ n p s M, so_L Dn n p s M t i = M t i
  | 0, _, _, _ => rfl
  | n + 1, p, s, M => by
    show so_L Dn n (p + 1) _ _ t i = _
    rw [so_n Dn t i h n]
    exact ms_w_n (fun q => h q.1)
def se_B (M : ms_S) (Pn Dn : Nat) : ms_S := fb_S (fb_O (ms_w M 20 0 0) (-1) Pn).2 Dn (2 ^ Dn) (fb_O (ms_w M 20 0 0) (-1) Pn).1
def se_1 (M : ms_S) (Pn Dn : Nat) : ms_S := ms_w (ms_w (se_B M Pn Dn) 23 0 1) 24 0 (mo_wi (se_B M Pn Dn 5 0))
def se_2 (M : ms_S) (Pn Dn : Nat) : ms_S := so_L Dn Pn 0 0 (se_1 M Pn Dn)
def se_3 (M : ms_S) (Pn Dn n0 : Nat) : ms_S := mwl Pn Dn n0 0 (mwk_F (se_2 M Pn Dn) Pn)
theorem fb_Sn (mn Dn t i : Nat) (h : t ≠ 5) : ∀ s M, fb_S mn Dn s M t i = M t i
  | 0, _ => rfl
  | s + 1, M => (fb_Sn mn Dn t i h s _).trans (fb_Dn M mn Dn s t i h)
theorem se_Bn (M : ms_S) (Pn Dn t i : Nat) (h5 : t ≠ 5) (h6 : t ≠ 6) (h25 : t ≠ 25) (h20 : t ≠ 20) : se_B M Pn Dn t i = M t i := by
  unfold se_B
  rw [fb_Sn _ _ _ _ h5, fb_On _ _ _ _ h6 h25]
  exact ms_w_n (fun q => h20 q.1)
theorem se_1n (M : ms_S) (Pn Dn t i : Nat) (h5 : t ≠ 5) (h6 : t ≠ 6) (h25 : t ≠ 25) (h20 : t ≠ 20) (h23 : t ≠ 23) (h24 : t ≠ 24) : se_1 M Pn Dn t i = M t i := by
  unfold se_1
  rw [ms_w_n (fun q => h24 q.1), ms_w_n (fun q => h23 q.1)]
  exact se_Bn M Pn Dn t i h5 h6 h25 h20
theorem se_2n (M : ms_S) (Pn Dn t i : Nat) (h5 : t ≠ 5) (h6 : t ≠ 6) (h25 : t ≠ 25) (h20 : t ≠ 20) (h23 : t ≠ 23) (h24 : t ≠ 24) (h4 : t ≠ 4) : se_2 M Pn Dn t i = M t i := by
  unfold se_2
  rw [so_n _ _ _ h4]
  exact se_1n M Pn Dn t i h5 h6 h25 h20 h23 h24
set_option maxHeartbeats 4000000 in
set_option maxRecDepth 100000 in
theorem c_Mo_seat (l : Launch) (D : va_G) (ad : Nat → Nat) (cA : Nat → ClassId) (M : ms_S) (Pn Dn n0 : Nat) (hI : ms_I ad) (hPn : Pn ≤ 10) (hDn : Dn ≤ 14) (h22 : M 22 0 = nI Pn) (h21 : M 21 0 = nI Dn) (hn0 : n0 ≤ 199) (hT : ¬ se_B M Pn Dn 5 0 ≤ -1000000000 → so_T Dn Pn 0 0 (se_1 M Pn Dn) ∧ mwT Pn Dn n0 0 (mwk_F (se_2 M Pn Dn) Pn)) : Ct_i l y_Mo_seat b_Mo_seat 5 (some .int) ({ frames := 3, cells := 0, slots := 0, locals := 71 } : Room) 0 0 D (ds_ty cA) (ms_A ad) [.ref (ad 0)] (ms_P D ad cA M) (fun (r : Int32) (u : ms_S) => (se_B M Pn Dn 5 0 ≤ -1000000000 ∧ u = ms_w (se_B M Pn Dn) 23 0 0 ∧ r = -1) ∨ (¬ se_B M Pn Dn 5 0 ≤ -1000000000 ∧ u = se_3 M Pn Dn n0 ∧ r = u 24 0)) (ms_P D ad cA) := by
  intro sz
  refine ct_of (by decide) (Nat.le_of_ble_eq_true rfl) ?_
  intro p e s m args below meth c hsz C hr hlk hnm hK
  have lp3 : ∀ (M' : ms_S) (s9 p9 : Nat), s9 < 2 ^ Dn → s9 < 16384 → p9 < 10 → (∀ d9 : Nat, se_d M' s9 p9 Dn 0 = d9 → d9 < Dn → ¬ s9 / 2 ^ d9 % 2 = 1 → AW p l e ({ frames := 3, cells := 0, slots := 0, locals := 71 } : Room) s m args below meth c 5 0 0 (MQ below (va_Qi (fun (r : Int32) (u : ms_S) => (se_B M Pn Dn 5 0 ≤ -1000000000 ∧ u = ms_w (se_B M Pn Dn) 23 0 0 ∧ r = -1) ∨ (¬ se_B M Pn Dn 5 0 ≤ -1000000000 ∧ u = se_3 M Pn Dn n0 ∧ r = u 24 0)) (fun u t => (ms_P D ad cA) u t.heap) (ct_A (ms_A ad) sz)) args s 0 0 (ct_A (ms_A ad) sz)) (ms_P D ad cA (M')) (ct_A (ms_A ad) sz) 133 [(0, .ref (ad 0)), (1, .int (se_B M Pn Dn 5 0)), (2, .int (nI s9)), (3, .int (nI p9)), (4, .int (nI d9))] []) → ∀ (n k : Nat), k + n = Dn → se_T M' s9 p9 n k → se_d M' s9 p9 n k = se_d M' s9 p9 Dn 0 → AW p l e ({ frames := 3, cells := 0, slots := 0, locals := 71 } : Room) s m args below meth c 5 0 0 (MQ below (va_Qi (fun (r : Int32) (u : ms_S) => (se_B M Pn Dn 5 0 ≤ -1000000000 ∧ u = ms_w (se_B M Pn Dn) 23 0 0 ∧ r = -1) ∨ (¬ se_B M Pn Dn 5 0 ≤ -1000000000 ∧ u = se_3 M Pn Dn n0 ∧ r = u 24 0)) (fun u t => (ms_P D ad cA) u t.heap) (ct_A (ms_A ad) sz)) args s 0 0 (ct_A (ms_A ad) sz)) (ms_P D ad cA (M')) (ct_A (ms_A ad) sz) 58 [(0, .ref (ad 0)), (1, .int (se_B M Pn Dn 5 0)), (2, .int (nI s9)), (3, .int (nI p9)), (4, .int (nI k))] [] := by
    intro M' s9 p9 hs9 hs14 hp9 cont n
    induction n with
    | zero => intro k _ hT3 _; exact hT3.elim
    | succ n ih =>
      intro k hkn hT3 hR3
      have hkD : k < Dn := by omega
      refine aw_iload_n C d_Mo_seat_58 rfl (j := 2) rfl ?_
      refine aw_iload C d_Mo_seat_59 (j := 4) rfl ?_
      refine aw_ishr C d_Mo_seat_61 ?_
      refine aw_topi (fun z_61 hz_61 => ?_)
      refine aw_iconst (v := 1) C d_Mo_seat_62 (by decide) ?_
      refine aw_iand C d_Mo_seat_63 ?_
      refine aw_topi (fun z_63 hz_63 => ?_)
      refine aw_iconst (v := 1) C d_Mo_seat_64 (by decide) ?_
      refine aw_icmp_eq (tgt := 127) C d_Mo_seat_65 (by decide) (fun c_65 => ?_) (fun c_65 => ?_)
      · have hb65 : s9 / 2 ^ k % 2 = 1 := by
          rw [hz_63, hz_61, bx_bit (by omega) (by omega)] at c_65
          exact (nI_eq (b := 1) (by omega) (by omega)).mp c_65
        refine aw_iinc (i := 4) (v := (nI (k + 1))) (lv' := [(4, .int (nI (k + 1))), (0, .ref (ad 0)), (1, .int (se_B M Pn Dn 5 0)), (2, .int (nI s9)), (3, .int (nI p9))]) C d_Mo_seat_127 (j := 4) rfl (nI_1 k) (by decide) rfl ?_
        refine aw_goto (tgt := 58) C d_Mo_seat_130 (by decide) ?_
        exact aw_lv [1, 2, 3, 4, 0] rfl (ih (k + 1) (by omega) (hT3.1 hb65) (by rw [← hR3]; simp only [se_d]; rw [if_pos hb65]))
      · have hb65 : ¬ s9 / 2 ^ k % 2 = 1 := fun h => c_65 (by rw [hz_63, hz_61, bx_bit (by omega) (by omega), h]; rfl)
        have hsum := bx_lt2 hs9 hkD hb65
        have hsum14 : s9 + 2 ^ k < 16384 := Nat.lt_of_lt_of_le hsum (Nat.pow_le_pow_right (by omega) hDn)
        have e2k := bx_shl k (by omega)
        refine aw_aload_n C d_Mo_seat_68 rfl (j := 0) rfl ?_
        refine gm_barred C hK d_Mo_seat_69 ?_
        refine aw_bipush (v := 14) C d_Mo_seat_72 (by decide) ?_
        refine aw_iload_n C d_Mo_seat_74 rfl (j := 3) rfl ?_
        refine aw_imul C d_Mo_seat_75 ?_
        refine aw_topi (fun z_75 hz_75 => ?_)
        refine aw_iload C d_Mo_seat_76 (j := 4) rfl ?_
        refine aw_iadd C d_Mo_seat_78 ?_
        refine aw_topi (fun z_78 hz_78 => ?_)
        refine lm_2 (v := (M') 2 (14 * p9 + k)) C hK (14 * p9 + k) (by rw [hz_78, hz_75, show (14 : Int32) = nI 14 from rfl, pk_mul, nI_add]) (by omega) rfl d_Mo_seat_79 ?_
        refine aw_if_ne (tgt := 127) C d_Mo_seat_80 (by decide) (fun c_80 => ?_) (fun c_80 => ?_)
        · refine aw_iinc (i := 4) (v := (nI (k + 1))) (lv' := [(4, .int (nI (k + 1))), (0, .ref (ad 0)), (1, .int (se_B M Pn Dn 5 0)), (2, .int (nI s9)), (3, .int (nI p9))]) C d_Mo_seat_127 (j := 4) rfl (nI_1 k) (by decide) rfl ?_
          refine aw_goto (tgt := 58) C d_Mo_seat_130 (by decide) ?_
          exact aw_lv [1, 2, 3, 4, 0] rfl (ih (k + 1) (by omega) (hT3.2.1 c_80) (by rw [← hR3]; simp only [se_d]; rw [if_neg hb65, if_neg c_80]))
        · refine aw_aload_n C d_Mo_seat_83 rfl (j := 0) rfl ?_
          refine gm_best C hK d_Mo_seat_84 ?_
          refine aw_iload_n C d_Mo_seat_87 rfl (j := 2) rfl ?_
          refine aw_iconst (v := 1) C d_Mo_seat_88 (by decide) ?_
          refine aw_iload C d_Mo_seat_89 (j := 4) rfl ?_
          refine aw_ishl C d_Mo_seat_91 ?_
          refine aw_topi (fun z_91 hz_91 => ?_)
          refine aw_iadd C d_Mo_seat_92 ?_
          refine aw_topi (fun z_92 hz_92 => ?_)
          refine lm_5 (v := (M') 5 (s9 + 2 ^ k)) C hK (s9 + 2 ^ k) (by rw [hz_92, hz_91, e2k]; exact nI_add _ _) hsum14 rfl d_Mo_seat_93 ?_
          refine aw_ldc C ki_Mo_m1000000000 d_Mo_seat_94 ?_
          refine aw_icmp_eq (tgt := 127) C d_Mo_seat_96 (by decide) (fun c_96 => ?_) (fun c_96 => ?_)
          · refine aw_iinc (i := 4) (v := (nI (k + 1))) (lv' := [(4, .int (nI (k + 1))), (0, .ref (ad 0)), (1, .int (se_B M Pn Dn 5 0)), (2, .int (nI s9)), (3, .int (nI p9))]) C d_Mo_seat_127 (j := 4) rfl (nI_1 k) (by decide) rfl ?_
            refine aw_goto (tgt := 58) C d_Mo_seat_130 (by decide) ?_
            exact aw_lv [1, 2, 3, 4, 0] rfl (ih (k + 1) (by omega) (hT3.2.2.1 c_96) (by rw [← hR3]; simp only [se_d]; rw [if_neg hb65, if_pos c_80, if_pos c_96]))
          · refine aw_aload_n C d_Mo_seat_99 rfl (j := 0) rfl ?_
            refine aw_iload_n C d_Mo_seat_100 rfl (j := 3) rfl ?_
            refine aw_iload C d_Mo_seat_101 (j := 4) rfl ?_
            refine aw_callVi (P9 := fun r u => ms_P D ad cA u) [.int (nI p9), .int (nI k)] C hK (c_Mo_value l D ad cA M' p9 k (by omega) (by omega)) (cw_Mo_Mo_value C.2.2.2.2 rfl rfl (by decide)) rfl (fun H h => aw_recv hK rfl (h 0 (by decide))) (fun H h => h) (fun q h => Or.inl h) (fun q h => Or.inr (by rw [← hsz]; exact h)) rfl (Nat.le_of_ble_eq_true rfl) d_Mo_seat_103 (by decide) (fun H H1 r u _ _ hB _ _ => hB) ?_
            rintro r u ⟨rfl, rfl⟩
            refine aw_aload_n C d_Mo_seat_106 rfl (j := 0) rfl ?_
            refine gm_best C hK d_Mo_seat_107 ?_
            refine aw_iload_n C d_Mo_seat_110 rfl (j := 2) rfl ?_
            refine aw_iconst (v := 1) C d_Mo_seat_111 (by decide) ?_
            refine aw_iload C d_Mo_seat_112 (j := 4) rfl ?_
            refine aw_ishl C d_Mo_seat_114 ?_
            refine aw_topi (fun z_114 hz_114 => ?_)
            refine aw_iadd C d_Mo_seat_115 ?_
            refine aw_topi (fun z_115 hz_115 => ?_)
            refine lm_5 (v := (M') 5 (s9 + 2 ^ k)) C hK (s9 + 2 ^ k) (by rw [hz_115, hz_114, e2k]; exact nI_add _ _) hsum14 rfl d_Mo_seat_116 ?_
            refine aw_iadd C d_Mo_seat_117 ?_
            refine aw_aload_n C d_Mo_seat_118 rfl (j := 0) rfl ?_
            refine gm_best C hK d_Mo_seat_119 ?_
            refine aw_iload_n C d_Mo_seat_122 rfl (j := 2) rfl ?_
            refine lm_5 (v := (M') 5 s9) C hK s9 rfl (by omega) rfl d_Mo_seat_123 ?_
            refine aw_icmp_eq (tgt := 133) C d_Mo_seat_124 (by decide) (fun c_124 => ?_) (fun c_124 => ?_)
            · exact aw_lv [0, 1, 2, 3, 4] rfl (cont k (by rw [← hR3]; simp only [se_d]; rw [if_neg hb65, if_pos c_80, if_neg c_96, if_pos c_124]) hkD hb65)
            · refine aw_iinc (i := 4) (v := (nI (k + 1))) (lv' := [(4, .int (nI (k + 1))), (0, .ref (ad 0)), (1, .int (se_B M Pn Dn 5 0)), (2, .int (nI s9)), (3, .int (nI p9))]) C d_Mo_seat_127 (j := 4) rfl (nI_1 k) (by decide) rfl ?_
              refine aw_goto (tgt := 58) C d_Mo_seat_130 (by decide) ?_
              exact aw_lv [1, 2, 3, 4, 0] rfl (ih (k + 1) (by omega) (hT3.2.2.2 c_124) (by rw [← hR3]; simp only [se_d]; rw [if_neg hb65, if_pos c_80, if_neg c_96, if_neg c_124]))
  have h2D : 2 ^ Dn ≤ 16384 := Nat.pow_le_pow_right (n := 2) (by omega) hDn
  have lp2 : ¬ se_B M Pn Dn 5 0 ≤ -1000000000 → ∀ (n p9 s9 : Nat) (M' : ms_S), p9 + n = Pn → s9 < 2 ^ Dn → M' 22 0 = nI Pn → so_T Dn n p9 s9 M' → so_L Dn n p9 s9 M' = se_2 M Pn Dn → AW p l e ({ frames := 3, cells := 0, slots := 0, locals := 71 } : Room) s m args below meth c 5 0 0 (MQ below (va_Qi (fun (r : Int32) (u : ms_S) => (se_B M Pn Dn 5 0 ≤ -1000000000 ∧ u = ms_w (se_B M Pn Dn) 23 0 0 ∧ r = -1) ∨ (¬ se_B M Pn Dn 5 0 ≤ -1000000000 ∧ u = se_3 M Pn Dn n0 ∧ r = u 24 0)) (fun u t => (ms_P D ad cA) u t.heap) (ct_A (ms_A ad) sz)) args s 0 0 (ct_A (ms_A ad) sz)) (ms_P D ad cA (M')) (ct_A (ms_A ad) sz) 47 [(0, .ref (ad 0)), (1, .int (se_B M Pn Dn 5 0)), (2, .int (nI s9)), (3, .int (nI p9))] [] := by
    intro hv n
    induction n with
    | zero =>
      intro p9 s9 M' hpn hs9 h22' hT2 hR
      refine aw_iload_n C d_Mo_seat_47 rfl (j := 3) rfl ?_
      refine aw_aload_n C d_Mo_seat_48 rfl (j := 0) rfl ?_
      refine gm_persons (v := nI Pn) C hK h22' d_Mo_seat_49 ?_
      refine aw_icmp_ge (tgt := 154) C d_Mo_seat_52 (by decide) (fun c_52 => ?_) (fun c_52 => ?_)
      · refine aw_aload_n C d_Mo_seat_154 rfl (j := 0) rfl ?_
        rw [show M' = se_2 M Pn Dn from hR]
        refine aw_callVv (P9 := fun u => ms_P D ad cA u) [] C hK (c_Mo_walk l D ad cA (se_2 M Pn Dn) Pn Dn n0 hI hPn hDn (by rw [se_2n _ _ _ _ _ (by decide) (by decide) (by decide) (by decide) (by decide) (by decide) (by decide)]; exact h22) (by rw [se_2n _ _ _ _ _ (by decide) (by decide) (by decide) (by decide) (by decide) (by decide) (by decide)]; exact h21) hn0 (hT hv).2) (cw_Mo_Mo_walk C.2.2.2.2 rfl rfl (by decide)) rfl (fun H h => aw_recv hK rfl (h 0 (by decide))) (fun H h => h) (fun q h => Or.inl h) (fun q h => Or.inr (by rw [← hsz]; exact h)) rfl (Nat.le_of_ble_eq_true rfl) d_Mo_seat_155 (by decide) (fun H H1 u _ _ hB _ _ => hB) ?_
        rintro u rfl
        show AW p l e _ s m args below meth c _ _ _ _ (ms_P D ad cA (se_3 M Pn Dn n0)) _ _ _ _
        refine aw_aload_n C d_Mo_seat_158 rfl (j := 0) rfl ?_
        refine gm_worth (v := (se_3 M Pn Dn n0) 24 0) C hK rfl d_Mo_seat_159 ?_
        exact aw_iret C hr hlk _ (Or.inr ⟨hv, rfl, rfl⟩) (fun H h => h) d_Mo_seat_162
      · exact absurd (nI_le (by omega) (by omega)) c_52
    | succ n ih =>
      intro p9 s9 M' hpn hs9 h22' hT2 hR
      refine aw_iload_n C d_Mo_seat_47 rfl (j := 3) rfl ?_
      refine aw_aload_n C d_Mo_seat_48 rfl (j := 0) rfl ?_
      refine gm_persons (v := nI Pn) C hK h22' d_Mo_seat_49 ?_
      refine aw_icmp_ge (tgt := 154) C d_Mo_seat_52 (by decide) (fun c_52 => ?_) (fun c_52 => ?_)
      · exact absurd c_52 (nI_ge (by omega) (by omega))
      · refine aw_iconst (v := 0) C d_Mo_seat_55 (by decide) ?_
        refine aw_istore (i := 4) (lv' := [(4, .int 0), (0, .ref (ad 0)), (1, .int (se_B M Pn Dn 5 0)), (2, .int (nI s9)), (3, .int (nI p9))]) C d_Mo_seat_56 (by decide) rfl ?_
        refine aw_lv [1, 2, 3, 4, 0] rfl (lp3 M' s9 p9 hs9 (by omega) (by omega) ?_ Dn 0 (by omega) hT2.1 rfl)
        intro d9 hd9 hdD hdb
        have hsum := bx_lt2 hs9 hdD hdb
        refine aw_aload_n C d_Mo_seat_133 rfl (j := 0) rfl ?_
        refine gm_seats C hK d_Mo_seat_134 ?_
        refine aw_iload_n C d_Mo_seat_137 rfl (j := 3) rfl ?_
        refine aw_iload C d_Mo_seat_138 (j := 4) rfl ?_
        refine sm_4 (y := (nI d9)) C hK hI  p9 rfl (by omega) d_Mo_seat_140 ?_
        refine aw_iload_n C d_Mo_seat_141 rfl (j := 2) rfl ?_
        refine aw_iconst (v := 1) C d_Mo_seat_142 (by decide) ?_
        refine aw_iload C d_Mo_seat_143 (j := 4) rfl ?_
        refine aw_ishl C d_Mo_seat_145 ?_
        refine aw_topi (fun z_145 hz_145 => ?_)
        refine aw_iadd C d_Mo_seat_146 ?_
        refine aw_topi (fun z_146 hz_146 => ?_)
        obtain rfl : z_146 = nI (s9 + 2 ^ d9) := by rw [hz_146, hz_145, bx_shl d9 (by omega)]; exact nI_add _ _
        refine aw_istore_n (i := 2) (lv' := [(2, .int (nI (s9 + 2 ^ d9))), (0, .ref (ad 0)), (1, .int (se_B M Pn Dn 5 0)), (3, .int (nI p9)), (4, .int (nI d9))]) C d_Mo_seat_147 rfl (by decide) rfl ?_
        refine aw_iinc (i := 3) (v := (nI (p9 + 1))) (lv' := [(3, .int (nI (p9 + 1))), (2, .int (nI (s9 + 2 ^ d9))), (0, .ref (ad 0)), (1, .int (se_B M Pn Dn 5 0)), (4, .int (nI d9))]) C d_Mo_seat_148 (j := 3) rfl (nI_1 p9) (by decide) rfl ?_
        refine aw_goto (tgt := 47) C d_Mo_seat_151 (by decide) ?_
        exact aw_lv [2, 3, 1, 0] rfl (ih (p9 + 1) (s9 + 2 ^ d9) (ms_w (M') 4 p9 ((nI d9))) (by omega) hsum h22' (by have h9 := hT2.2; rw [hd9] at h9; exact h9) (by rw [← hR]; show _ = so_L Dn n (p9 + 1) (s9 + 2 ^ (se_d M' s9 p9 Dn 0)) (ms_w M' 4 p9 (nI (se_d M' s9 p9 Dn 0))); rw [hd9]))
  refine aw_lv (lv' := [(0, .ref (ad 0))]) [0] rfl ?_
  refine aw_aload_n C d_Mo_seat_0 rfl (j := 0) rfl ?_
  refine aw_iconst (v := 0) C d_Mo_seat_1 (by decide) ?_
  refine pm_thrown (x := 0) C hK hI  d_Mo_seat_2 ?_
  refine aw_aload_n C d_Mo_seat_5 rfl (j := 0) rfl ?_
  refine aw_iconst (v := (-1)) C d_Mo_seat_6 (by decide) ?_
  refine aw_callVi (P9 := fun r u => ms_P D ad cA u) [.int (-1)] C hK (c_Mo_findBest l D ad cA (ms_w M 20 0 0) Pn Dn (-1) hI hPn hDn h22 h21) (cw_Mo_Mo_findBest C.2.2.2.2 rfl rfl (by decide)) rfl (fun H h => aw_recv hK rfl (h 0 (by decide))) (fun H h => h) (fun q h => Or.inl h) (fun q h => Or.inr (by rw [← hsz]; exact h)) rfl (Nat.le_of_ble_eq_true rfl) d_Mo_seat_7 (by decide) (fun H H1 r u _ _ hB _ _ => hB) ?_
  rintro r u ⟨rfl, rfl⟩
  show AW p l e _ s m args below meth c _ _ _ _ (ms_P D ad cA (se_B M Pn Dn)) _ _ _ (Value.int (se_B M Pn Dn 5 0) :: _)
  refine aw_istore_n (i := 1) (lv' := [(1, .int (se_B M Pn Dn 5 0)), (0, .ref (ad 0))]) C d_Mo_seat_10 rfl (by decide) rfl ?_
  refine aw_aload_n C d_Mo_seat_11 rfl (j := 1) rfl ?_
  refine aw_iload_n C d_Mo_seat_12 rfl (j := 0) rfl ?_
  refine aw_ldc C ki_Mo_m1000000000 d_Mo_seat_13 ?_
  refine aw_icmp_le (tgt := 22) C d_Mo_seat_15 (by decide) (fun c_15 => ?_) (fun c_15 => ?_)
  · refine aw_iconst (v := 0) C d_Mo_seat_22 (by decide) ?_
    refine pm_made (x := 0) C hK hI (Or.inl rfl) d_Mo_seat_23 ?_
    refine aw_aload_n C d_Mo_seat_26 rfl (j := 1) rfl ?_
    refine gm_made (v := 0) C hK rfl d_Mo_seat_27 ?_
    refine aw_if_ne (tgt := 35) C d_Mo_seat_30 (by decide) (fun h => absurd h (by decide)) (fun _ => ?_)
    refine aw_iconst (v := (-1)) C d_Mo_seat_33 (by decide) ?_
    exact aw_iret C hr hlk _ (Or.inl ⟨c_15, rfl, rfl⟩) (fun H h => h) d_Mo_seat_34
  · refine aw_iconst (v := 1) C d_Mo_seat_18 (by decide) ?_
    refine aw_goto (tgt := 23) C d_Mo_seat_19 (by decide) ?_
    refine pm_made (x := 1) C hK hI (Or.inr rfl) d_Mo_seat_23 ?_
    refine aw_aload_n C d_Mo_seat_26 rfl (j := 1) rfl ?_
    refine gm_made (v := 1) C hK rfl d_Mo_seat_27 ?_
    refine aw_if_ne (tgt := 35) C d_Mo_seat_30 (by decide) (fun _ => ?_) (fun h => absurd h (by decide))
    refine aw_aload_n C d_Mo_seat_35 rfl (j := 1) rfl ?_
    refine aw_iload_n C d_Mo_seat_36 rfl (j := 0) rfl ?_
    refine aw_callSi (Cn := "") (P9 := fun r u => ms_P D ad cA (ms_w (se_B M Pn Dn) 23 0 1)) [.int (se_B M Pn Dn 5 0)] C hK (c_Mo_worthIn l D cA (ms_A ad) (ms_P D ad cA (ms_w (se_B M Pn Dn) 23 0 1)) (se_B M Pn Dn 5 0)) (cw_Mo_Mo_worthIn C.2.2.2.2 rfl rfl (by decide)) rfl (fun H h => h) (fun q h => Or.inl h) (fun q h => Or.inr (by rw [← hsz]; exact h)) rfl (Nat.le_of_ble_eq_true rfl) d_Mo_seat_37 (by decide) (fun H H1 r u _ _ hB _ _ => hB) ?_
    rintro r u rfl
    refine pm_worth (x := (mo_wi (se_B M Pn Dn 5 0))) C hK hI  d_Mo_seat_40 ?_
    refine aw_iconst (v := 0) C d_Mo_seat_43 (by decide) ?_
    refine aw_istore_n (i := 2) (lv' := [(2, .int 0), (1, .int (se_B M Pn Dn 5 0)), (0, .ref (ad 0))]) C d_Mo_seat_44 rfl (by decide) rfl ?_
    refine aw_iconst (v := 0) C d_Mo_seat_45 (by decide) ?_
    refine aw_istore_n (i := 3) (lv' := [(3, .int 0), (2, .int 0), (1, .int (se_B M Pn Dn 5 0)), (0, .ref (ad 0))]) C d_Mo_seat_46 rfl (by decide) rfl ?_
    exact aw_lv [3, 2, 1, 0] rfl (lp2 c_15 Pn 0 0 (se_1 M Pn Dn) (by omega) (Nat.pow_pos (by omega)) (by rw [se_1n _ _ _ _ _ (by decide) (by decide) (by decide) (by decide) (by decide) (by decide)]; exact h22) (hT c_15).1 rfl)
