theorem bx_and (a b : Nat) (ha : a < 2 ^ 31) (hb : b < 2 ^ 31) : nI a &&& nI b = nI (a &&& b) := by
  apply Int32.toBitVec_inj.mp
  apply BitVec.eq_of_toNat_eq
  have h : a &&& b < 2 ^ 32 := Nat.lt_of_le_of_lt Nat.and_le_left (by omega)
  rw [Int32.toBitVec_and, BitVec.toNat_and, pk_tn (by omega), pk_tn (by omega), pk_tn h]
theorem bx_shl : ∀ k, k < 14 → (1 : Int32) <<< (nI k &&& 31) = nI (2 ^ k) := by decide +kernel
theorem bx_lt {s k D : Nat} (hs : s < 2 ^ D) (hk : k < D) (h : s &&& 2 ^ k = 0) : s + 2 ^ k < 2 ^ D := by
  have h1 : s.testBit k = false := by
    have e := congrArg (fun z => Nat.testBit z k) h
    simpa [Nat.testBit_and, Nat.testBit_two_pow_self] using e
  rw [Nat.testBit_eq_decide_div_mod_eq] at h1
  have h2 : ¬ s / 2 ^ k % 2 = 1 := by simpa using h1
  have e1 : 2 ^ D = 2 ^ (k + 1) * 2 ^ (D - (k + 1)) := by rw [← Nat.pow_add]; congr 1; omega
  have e2 : 2 ^ (k + 1) = 2 * 2 ^ k := by rw [Nat.pow_succ, Nat.mul_comm]
  have hp : 0 < 2 ^ k := Nat.pow_pos (by omega)
  -- s = 2^k * (2 * q) + r with r < 2^k
  have h3 : s = 2 ^ k * (s / 2 ^ k) + s % 2 ^ k := (Nat.div_add_mod s (2 ^ k)).symm
  have h4 : s % 2 ^ k < 2 ^ k := Nat.mod_lt _ hp
  obtain ⟨q, hq⟩ : ∃ q, s / 2 ^ k = 2 * q := ⟨s / 2 ^ k / 2, by omega⟩
  have h5 : q < 2 ^ (D - (k + 1)) := by
    have : 2 ^ k * (2 * q) < 2 ^ (k + 1) * 2 ^ (D - (k + 1)) := by
      rw [← e1, ← hq]; omega
    rw [e2, show 2 ^ k * (2 * q) = (2 * 2 ^ k) * q by rw [Nat.mul_left_comm, Nat.mul_assoc]] at this
    exact Nat.lt_of_mul_lt_mul_left this
  have h6 : (2 * 2 ^ k) * (q + 1) ≤ (2 * 2 ^ k) * 2 ^ (D - (k + 1)) := Nat.mul_le_mul_left _ h5
  rw [e1, e2]
  rw [hq] at h3
  rw [Nat.mul_add, Nat.mul_one] at h6
  have h7 : 2 ^ k * (2 * q) = (2 * 2 ^ k) * q := by rw [Nat.mul_left_comm, Nat.mul_assoc]
  omega
theorem bt_le : ∀ f n, bt_L f n ≤ f
  | 0, _ => Nat.le_refl _
  | f + 1, n => by
    unfold bt_L
    split
    · omega
    · have := bt_le f (n / 2)
      omega
theorem nI_dec (x : Int32) : x + Int32.ofInt (-1) = x - 1 := by
  rw [show Int32.ofInt (-1) = -1 from rfl, Int32.sub_eq_add_neg]
/-- the persons in their order, but one -/
def fb_O (M : ms_S) (but : Int32) : Nat → ms_S × Nat
  | 0 => (ms_w M 25 0 0, 0)
  | k + 1 => if nI k = but then fb_O M but k else (ms_w (ms_w (fb_O M but k).1 6 (fb_O M but k).2 (nI k)) 25 0 (nI ((fb_O M but k).2 + 1)), (fb_O M but k).2 + 1)
theorem fb_O25 (M : ms_S) (but : Int32) : ∀ k, (fb_O M but k).1 25 0 = nI (fb_O M but k).2
  | 0 => rfl
  | k + 1 => by
    unfold fb_O
    split
    · exact fb_O25 M but k
    · rfl
theorem fb_Ole (M : ms_S) (but : Int32) : ∀ k, (fb_O M but k).2 ≤ k
  | 0 => Nat.le_refl _
  | k + 1 => by
    unfold fb_O
    have := fb_Ole M but k
    split
    · omega
    · show (fb_O M but k).2 + 1 ≤ k + 1; omega
theorem fb_On (M : ms_S) (but : Int32) (t i : Nat) (h6 : t ≠ 6) (h25 : t ≠ 25) : ∀ k, (fb_O M but k).1 t i = M t i
  | 0 => ms_w_n (fun q => h25 q.1)
  | k + 1 => by
    unfold fb_O
    split
    · exact fb_On M but t i h6 h25 k
    · show ms_w (ms_w _ _ _ _) _ _ _ t i = _
      rw [ms_w_n (fun q => h25 q.1), ms_w_n (fun q => h6 q.1)]
      exact fb_On M but t i h6 h25 k
theorem fb_O6 (M : ms_S) (but : Int32) : ∀ k j, j < (fb_O M but k).2 → ∃ q, q < k ∧ (fb_O M but k).1 6 j = nI q
  | 0, j, h => absurd h (by show ¬ j < 0; omega)
  | k + 1, j, h => by
    unfold fb_O at h ⊢
    split at h
    · rename_i hb
      rw [if_pos hb]
      obtain ⟨q, h1, h2⟩ := fb_O6 M but k j h
      exact ⟨q, by omega, h2⟩
    · rename_i hb
      rw [if_neg hb]
      show ∃ q, q < k + 1 ∧ ms_w (ms_w (fb_O M but k).1 6 (fb_O M but k).2 (nI k)) 25 0 (nI ((fb_O M but k).2 + 1)) 6 j = nI q
      by_cases hj : j = (fb_O M but k).2
      · exact ⟨k, by omega, by rw [ms_w_n (fun q => absurd q.1 (by decide)), hj, ms_w_s]⟩
      · have h : j < (fb_O M but k).2 + 1 := h
        obtain ⟨q, h1, h2⟩ := fb_O6 M but k j (by omega)
        exact ⟨q, by omega, by rw [ms_w_n (fun q => absurd q.1 (by decide)), ms_w_n (fun q => hj q.2)]; exact h2⟩
def fb_step (M : ms_S) (s n k : Nat) : ms_S :=
  if s &&& 2 ^ k = 0 then (if M 2 (14 * (M 6 n).toNatClampNeg + k) = 0 then (if M 5 (s + 2 ^ k) ≤ -1000000000 then M else
    (if mo_val M (M 6 n).toNatClampNeg k + M 5 (s + 2 ^ k) ≤ M 5 s then ms_w M 5 s (M 5 s) else ms_w M 5 s (mo_val M (M 6 n).toNatClampNeg k + M 5 (s + 2 ^ k)))) else M) else M
def fb_I (M : ms_S) (s n : Nat) : Nat → ms_S
  | 0 => M
  | k + 1 => fb_step (fb_I M s n k) s n k
def fb_1 (M : ms_S) (mn s : Nat) : ms_S := ms_w M 5 s (if bt_L 31 s = mn then 0 else -1000000000)
def fb_D (M : ms_S) (mn Dn s : Nat) : ms_S := if bt_L 31 s < mn then fb_I (fb_1 M mn s) s (bt_L 31 s) Dn else fb_1 M mn s
def fb_S (mn Dn : Nat) : Nat → ms_S → ms_S
  | 0, M => M
  | s + 1, M => fb_S mn Dn s (fb_D M mn Dn s)
theorem fb_stepn (M : ms_S) (s n k t i : Nat) (h : t ≠ 5) : fb_step M s n k t i = M t i := by
  unfold fb_step
  split
  · split
    · split
      · rfl
      · split
        · exact ms_w_n (fun q => h q.1)
        · exact ms_w_n (fun q => h q.1)
    · rfl
  · rfl
theorem fb_In (M : ms_S) (s n t i : Nat) (h : t ≠ 5) : ∀ k, fb_I M s n k t i = M t i
  | 0 => rfl
  | k + 1 => (fb_stepn _ s n k t i h).trans (fb_In M s n t i h k)
theorem fb_1n (M : ms_S) (mn s t i : Nat) (h : t ≠ 5) : fb_1 M mn s t i = M t i := ms_w_n (fun q => h q.1)
theorem fb_Dn (M : ms_S) (mn Dn s t i : Nat) (h : t ≠ 5) : fb_D M mn Dn s t i = M t i := by
  unfold fb_D
  split
  · rw [fb_In _ _ _ _ _ h]; exact fb_1n M mn s t i h
  · exact fb_1n M mn s t i h
theorem bx_shl' : ∀ k, k < 15 → (1 : Int32) <<< (nI k &&& 31) = nI (2 ^ k) := by decide +kernel
set_option maxHeartbeats 4000000 in
set_option maxRecDepth 100000 in
theorem c_Mo_findBest (l : Launch) (D : va_G) (ad : Nat → Nat) (cA : Nat → ClassId) (M : ms_S) (Pn Dn : Nat) (but : Int32) (hI : ms_I ad) (hPn : Pn ≤ 10) (hDn : Dn ≤ 14) (h22 : M 22 0 = nI Pn) (h21 : M 21 0 = nI Dn) : Ct_i l y_Mo_findBest b_Mo_findBest 8 (some .int) ({ frames := 2, cells := 0, slots := 0, locals := 44 } : Room) 0 0 D (ds_ty cA) (ms_A ad) [.ref (ad 0), .int but] (ms_P D ad cA M) (fun (r : Int32) (u : ms_S) => u = fb_S (fb_O M but Pn).2 Dn (2 ^ Dn) (fb_O M but Pn).1 ∧ r = (fb_S (fb_O M but Pn).2 Dn (2 ^ Dn) (fb_O M but Pn).1) 5 0) (ms_P D ad cA) := by
  intro sz
  refine ct_of (by decide) (Nat.le_of_ble_eq_true rfl) ?_
  intro p e s m args below meth c hsz C hr hlk hnm hK
  have lp3 : ∀ (M1 : ms_S) (mn s9 n q : Nat), s9 < 2 ^ Dn → s9 < 16384 → n < mn → mn ≤ 10 → q < 10 → M1 21 0 = nI Dn → M1 25 0 = nI mn → M1 6 n = nI q → AW p l e ({ frames := 2, cells := 0, slots := 0, locals := 44 } : Room) s m args below meth c 8 0 0 (MQ below (va_Qi (fun (r : Int32) (u : ms_S) => u = fb_S (fb_O M but Pn).2 Dn (2 ^ Dn) (fb_O M but Pn).1 ∧ r = (fb_S (fb_O M but Pn).2 Dn (2 ^ Dn) (fb_O M but Pn).1) 5 0) (fun u t => (ms_P D ad cA) u t.heap) (ct_A (ms_A ad) sz)) args s 0 0 (ct_A (ms_A ad) sz)) (ms_P D ad cA (fb_I M1 s9 n Dn)) (ct_A (ms_A ad) sz) 209 [(0, .ref (ad 0)), (1, .int but), (2, .int (nI s9))] [] → ∀ (nn k : Nat), k ≤ Dn → Dn + 1 ≤ k + nn → AW p l e ({ frames := 2, cells := 0, slots := 0, locals := 44 } : Room) s m args below meth c 8 0 0 (MQ below (va_Qi (fun (r : Int32) (u : ms_S) => u = fb_S (fb_O M but Pn).2 Dn (2 ^ Dn) (fb_O M but Pn).1 ∧ r = (fb_S (fb_O M but Pn).2 Dn (2 ^ Dn) (fb_O M but Pn).1) 5 0) (fun u t => (ms_P D ad cA) u t.heap) (ct_A (ms_A ad) sz)) args s 0 0 (ct_A (ms_A ad) sz)) (ms_P D ad cA (fb_I M1 s9 n k)) (ct_A (ms_A ad) sz) 87 [(0, .ref (ad 0)), (1, .int but), (2, .int (nI s9)), (3, .int (nI n)), (4, .int (nI k))] [] := by
    intro M1 mn s9 n q hs9 hs14 hnm hmn hq h21' h25' eq6 cont nn
    induction nn with
    | zero => intro k h1 h2; exact absurd h2 (by omega)
    | succ nn ih =>
      intro k hk hn9
      refine aw_iload C d_Mo_findBest_87 (j := 4) rfl ?_
      refine aw_aload_n C d_Mo_findBest_89 rfl (j := 0) rfl ?_
      refine gm_desks (v := nI Dn) C hK (by rw [fb_In _ _ _ _ _ (by decide)]; exact h21') d_Mo_findBest_90 ?_
      refine aw_icmp_ge (tgt := 209) C d_Mo_findBest_93 (by decide) (fun c_93 => ?_) (fun c_93 => ?_)
      · have hkN : k = Dn := by have := (nI_leI (by omega) (by omega)).mp c_93; omega
        rw [hkN]
        exact aw_lv [0, 1, 2] rfl cont
      · have hlt : k < Dn := Nat.lt_of_not_le (fun h => c_93 (nI_le h (by omega)))
        have hk31 : 2 ^ k < 2 ^ 31 := Nat.pow_lt_pow_right (by omega) (by omega)
        refine aw_iload_n C d_Mo_findBest_96 rfl (j := 3) rfl ?_
        refine aw_aload_n C d_Mo_findBest_97 rfl (j := 0) rfl ?_
        refine gm_many (v := nI mn) C hK (by rw [fb_In _ _ _ _ _ (by decide)]; exact h25') d_Mo_findBest_98 ?_
        refine aw_icmp_ge (tgt := 209) C d_Mo_findBest_101 (by decide) (fun c_101 => ?_) (fun c_101 => ?_)
        · exact absurd c_101 (nI_ge (by omega) (by omega))
        · refine aw_iconst (v := 1) C d_Mo_findBest_104 (by decide) ?_
          refine aw_iload C d_Mo_findBest_105 (j := 4) rfl ?_
          refine aw_ishl C d_Mo_findBest_107 ?_
          refine aw_topi (fun z_107 hz_107 => ?_)
          obtain rfl : z_107 = nI (2 ^ k) := by rw [hz_107]; exact bx_shl k (by omega)
          refine aw_istore (i := 5) (lv' := [(5, .int (nI (2 ^ k))), (0, .ref (ad 0)), (1, .int but), (2, .int (nI s9)), (3, .int (nI n)), (4, .int (nI k))]) C d_Mo_findBest_108 (by decide) rfl ?_
          refine aw_aload_n C d_Mo_findBest_110 rfl (j := 1) rfl ?_
          refine gm_order C hK d_Mo_findBest_111 ?_
          refine aw_iload_n C d_Mo_findBest_114 rfl (j := 4) rfl ?_
          refine lm_6 (v := nI q) C hK n rfl (by omega) (by rw [fb_In _ _ _ _ _ (by decide)]; exact eq6) d_Mo_findBest_115 ?_
          refine aw_istore (i := 6) (lv' := [(6, .int (nI q)), (5, .int (nI (2 ^ k))), (0, .ref (ad 0)), (1, .int but), (2, .int (nI s9)), (3, .int (nI n)), (4, .int (nI k))]) C d_Mo_findBest_116 (by decide) rfl ?_
          refine aw_iload_n C d_Mo_findBest_118 rfl (j := 4) rfl ?_
          refine aw_iload C d_Mo_findBest_119 (j := 1) rfl ?_
          refine aw_iand C d_Mo_findBest_121 ?_
          refine aw_topi (fun z_121 hz_121 => ?_)
          refine aw_if_ne (tgt := 203) C d_Mo_findBest_122 (by decide) (fun c_122 => ?_) (fun c_122 => ?_)
          · have h122 : ¬ s9 &&& 2 ^ k = 0 := fun h => c_122 (by rw [hz_121, bx_and _ _ (by omega) hk31, h]; rfl)
            refine aw_iinc (i := 4) (v := (nI (k + 1))) (lv' := [(4, .int (nI (k + 1))), (6, .int (nI q)), (5, .int (nI (2 ^ k))), (0, .ref (ad 0)), (1, .int but), (2, .int (nI s9)), (3, .int (nI n))]) C d_Mo_findBest_203 (j := 6) rfl (nI_1 k) (by decide) rfl ?_
            refine aw_goto (tgt := 87) C d_Mo_findBest_206 (by decide) ?_
            have e9 : fb_I M1 s9 n (k + 1) = fb_I M1 s9 n k := by
              show fb_step (fb_I M1 s9 n k) s9 n k = _
              unfold fb_step
              rw [if_neg h122]
            rw [← e9]
            exact aw_lv [3, 4, 5, 6, 0] rfl (ih (k + 1) (by omega) (by omega))
          · have h122 : s9 &&& 2 ^ k = 0 := by
              rw [hz_121, bx_and _ _ (by omega) hk31] at c_122
              have h9 : s9 &&& 2 ^ k < 2 ^ 31 := Nat.lt_of_le_of_lt Nat.and_le_left (by omega)
              exact (nI_eq (b := 0) h9 (by omega)).mp c_122
            have hsum := bx_lt hs9 hlt h122
            have hsum14 : s9 + 2 ^ k < 16384 := Nat.lt_of_lt_of_le hsum (Nat.pow_le_pow_right (by omega) hDn)
            refine aw_aload_n C d_Mo_findBest_125 rfl (j := 2) rfl ?_
            refine gm_barred C hK d_Mo_findBest_126 ?_
            refine aw_bipush (v := 14) C d_Mo_findBest_129 (by decide) ?_
            refine aw_iload C d_Mo_findBest_131 (j := 0) rfl ?_
            refine aw_imul C d_Mo_findBest_133 ?_
            refine aw_topi (fun z_133 hz_133 => ?_)
            refine aw_iload C d_Mo_findBest_134 (j := 6) rfl ?_
            refine aw_iadd C d_Mo_findBest_136 ?_
            refine aw_topi (fun z_136 hz_136 => ?_)
            refine lm_2 (v := (fb_I M1 s9 n k) 2 (14 * q + k)) C hK (14 * q + k) (by rw [hz_136, hz_133, show (14 : Int32) = nI 14 from rfl, pk_mul, nI_add]) (by omega) rfl d_Mo_findBest_137 ?_
            refine aw_if_ne (tgt := 203) C d_Mo_findBest_138 (by decide) (fun c_138 => ?_) (fun c_138 => ?_)
            · refine aw_iinc (i := 4) (v := (nI (k + 1))) (lv' := [(4, .int (nI (k + 1))), (6, .int (nI q)), (5, .int (nI (2 ^ k))), (0, .ref (ad 0)), (1, .int but), (2, .int (nI s9)), (3, .int (nI n))]) C d_Mo_findBest_203 (j := 6) rfl (nI_1 k) (by decide) rfl ?_
              refine aw_goto (tgt := 87) C d_Mo_findBest_206 (by decide) ?_
              have e9 : fb_I M1 s9 n (k + 1) = fb_I M1 s9 n k := by
                show fb_step (fb_I M1 s9 n k) s9 n k = _
                unfold fb_step
                rw [if_pos h122, show (fb_I M1 s9 n k 6 n).toNatClampNeg = q by rw [fb_In _ _ _ _ _ (by decide), eq6, nI_clamp (by omega)], if_neg c_138]
              rw [← e9]
              exact aw_lv [3, 4, 5, 6, 0] rfl (ih (k + 1) (by omega) (by omega))
            · refine aw_aload_n C d_Mo_findBest_141 rfl (j := 2) rfl ?_
              refine gm_best C hK d_Mo_findBest_142 ?_
              refine aw_iload_n C d_Mo_findBest_145 rfl (j := 4) rfl ?_
              refine aw_iload C d_Mo_findBest_146 (j := 1) rfl ?_
              refine aw_iadd C d_Mo_findBest_148 ?_
              refine aw_topi (fun z_148 hz_148 => ?_)
              refine lm_5 (v := (fb_I M1 s9 n k) 5 (s9 + 2 ^ k)) C hK (s9 + 2 ^ k) (by rw [hz_148]; exact nI_add _ _) hsum14 rfl d_Mo_findBest_149 ?_
              refine aw_ldc C ki_Mo_m1000000000 d_Mo_findBest_150 ?_
              refine aw_icmp_le (tgt := 203) C d_Mo_findBest_152 (by decide) (fun c_152 => ?_) (fun c_152 => ?_)
              · refine aw_iinc (i := 4) (v := (nI (k + 1))) (lv' := [(4, .int (nI (k + 1))), (6, .int (nI q)), (5, .int (nI (2 ^ k))), (0, .ref (ad 0)), (1, .int but), (2, .int (nI s9)), (3, .int (nI n))]) C d_Mo_findBest_203 (j := 6) rfl (nI_1 k) (by decide) rfl ?_
                refine aw_goto (tgt := 87) C d_Mo_findBest_206 (by decide) ?_
                have e9 : fb_I M1 s9 n (k + 1) = fb_I M1 s9 n k := by
                  show fb_step (fb_I M1 s9 n k) s9 n k = _
                  unfold fb_step
                  rw [if_pos h122, show (fb_I M1 s9 n k 6 n).toNatClampNeg = q by rw [fb_In _ _ _ _ _ (by decide), eq6, nI_clamp (by omega)], if_pos c_138, if_pos c_152]
                rw [← e9]
                exact aw_lv [3, 4, 5, 6, 0] rfl (ih (k + 1) (by omega) (by omega))
              · refine aw_aload_n C d_Mo_findBest_155 rfl (j := 2) rfl ?_
                refine aw_iload C d_Mo_findBest_156 (j := 0) rfl ?_
                refine aw_iload C d_Mo_findBest_158 (j := 6) rfl ?_
                refine aw_callVi (P9 := fun r u => ms_P D ad cA u) [.int (nI q), .int (nI k)] C hK (c_Mo_value l D ad cA (fb_I M1 s9 n k) q k hq (by omega)) (cw_Mo_Mo_value C.2.2.2.2 rfl rfl (by decide)) rfl (fun H h => aw_recv hK rfl (h 0 (by decide))) (fun H h => h) (fun q h => Or.inl h) (fun q h => Or.inr (by rw [← hsz]; exact h)) rfl (Nat.le_of_ble_eq_true rfl) d_Mo_findBest_160 (by decide) (fun H H1 r u _ _ hB _ _ => hB) ?_
                rintro r u ⟨rfl, rfl⟩
                refine aw_aload_n C d_Mo_findBest_163 rfl (j := 2) rfl ?_
                refine gm_best C hK d_Mo_findBest_164 ?_
                refine aw_iload_n C d_Mo_findBest_167 rfl (j := 4) rfl ?_
                refine aw_iload C d_Mo_findBest_168 (j := 1) rfl ?_
                refine aw_iadd C d_Mo_findBest_170 ?_
                refine aw_topi (fun z_170 hz_170 => ?_)
                refine lm_5 (v := (fb_I M1 s9 n k) 5 (s9 + 2 ^ k)) C hK (s9 + 2 ^ k) (by rw [hz_170]; exact nI_add _ _) hsum14 rfl d_Mo_findBest_171 ?_
                refine aw_iadd C d_Mo_findBest_172 ?_
                refine aw_istore (i := 7) (lv' := [(7, .int (((mo_val (fb_I M1 s9 n k) q k)) + (((fb_I M1 s9 n k) 5 (s9 + 2 ^ k))))), (6, .int (nI q)), (5, .int (nI (2 ^ k))), (0, .ref (ad 0)), (1, .int but), (2, .int (nI s9)), (3, .int (nI n)), (4, .int (nI k))]) C d_Mo_findBest_173 (by decide) rfl ?_
                refine aw_aload_n C d_Mo_findBest_175 rfl (j := 3) rfl ?_
                refine gm_best C hK d_Mo_findBest_176 ?_
                refine aw_iload_n C d_Mo_findBest_179 rfl (j := 5) rfl ?_
                refine aw_iload C d_Mo_findBest_180 (j := 0) rfl ?_
                refine aw_aload_n C d_Mo_findBest_182 rfl (j := 3) rfl ?_
                refine gm_best C hK d_Mo_findBest_183 ?_
                refine aw_iload_n C d_Mo_findBest_186 rfl (j := 5) rfl ?_
                refine lm_5 (v := (fb_I M1 s9 n k) 5 s9) C hK s9 rfl (by omega) rfl d_Mo_findBest_187 ?_
                refine aw_icmp_le (tgt := 196) C d_Mo_findBest_188 (by decide) (fun c_188 => ?_) (fun c_188 => ?_)
                · refine aw_aload_n C d_Mo_findBest_196 rfl (j := 3) rfl ?_
                  refine gm_best C hK d_Mo_findBest_197 ?_
                  refine aw_iload_n C d_Mo_findBest_200 rfl (j := 5) rfl ?_
                  refine lm_5 (v := (fb_I M1 s9 n k) 5 s9) C hK s9 rfl (by omega) rfl d_Mo_findBest_201 ?_
                  refine sm_5 (y := ((fb_I M1 s9 n k) 5 s9)) C hK hI  s9 rfl (by omega) d_Mo_findBest_202 ?_
                  refine aw_iinc (i := 4) (v := (nI (k + 1))) (lv' := [(4, .int (nI (k + 1))), (7, .int (((mo_val (fb_I M1 s9 n k) q k)) + (((fb_I M1 s9 n k) 5 (s9 + 2 ^ k))))), (6, .int (nI q)), (5, .int (nI (2 ^ k))), (0, .ref (ad 0)), (1, .int but), (2, .int (nI s9)), (3, .int (nI n))]) C d_Mo_findBest_203 (j := 7) rfl (nI_1 k) (by decide) rfl ?_
                  refine aw_goto (tgt := 87) C d_Mo_findBest_206 (by decide) ?_
                  have e9 : fb_I M1 s9 n (k + 1) = ms_w (fb_I M1 s9 n k) 5 s9 (((fb_I M1 s9 n k) 5 s9)) := by
                    show fb_step (fb_I M1 s9 n k) s9 n k = _
                    unfold fb_step
                    rw [if_pos h122, show (fb_I M1 s9 n k 6 n).toNatClampNeg = q by rw [fb_In _ _ _ _ _ (by decide), eq6, nI_clamp (by omega)], if_pos c_138, if_neg c_152, if_pos c_188]
                  rw [← e9]
                  exact aw_lv [4, 5, 6, 7, 0] rfl (ih (k + 1) (by omega) (by omega))
                · refine aw_iload C d_Mo_findBest_191 (j := 0) rfl ?_
                  refine aw_goto (tgt := 202) C d_Mo_findBest_193 (by decide) ?_
                  refine sm_5 (y := (((mo_val (fb_I M1 s9 n k) q k)) + (((fb_I M1 s9 n k) 5 (s9 + 2 ^ k))))) C hK hI  s9 rfl (by omega) d_Mo_findBest_202 ?_
                  refine aw_iinc (i := 4) (v := (nI (k + 1))) (lv' := [(4, .int (nI (k + 1))), (7, .int (((mo_val (fb_I M1 s9 n k) q k)) + (((fb_I M1 s9 n k) 5 (s9 + 2 ^ k))))), (6, .int (nI q)), (5, .int (nI (2 ^ k))), (0, .ref (ad 0)), (1, .int but), (2, .int (nI s9)), (3, .int (nI n))]) C d_Mo_findBest_203 (j := 7) rfl (nI_1 k) (by decide) rfl ?_
                  refine aw_goto (tgt := 87) C d_Mo_findBest_206 (by decide) ?_
                  have e9 : fb_I M1 s9 n (k + 1) = ms_w (fb_I M1 s9 n k) 5 s9 ((((mo_val (fb_I M1 s9 n k) q k)) + (((fb_I M1 s9 n k) 5 (s9 + 2 ^ k))))) := by
                    show fb_step (fb_I M1 s9 n k) s9 n k = _
                    unfold fb_step
                    rw [if_pos h122, show (fb_I M1 s9 n k 6 n).toNatClampNeg = q by rw [fb_In _ _ _ _ _ (by decide), eq6, nI_clamp (by omega)], if_pos c_138, if_neg c_152, if_neg c_188]
                  rw [← e9]
                  exact aw_lv [4, 5, 6, 7, 0] rfl (ih (k + 1) (by omega) (by omega))
  have lp2 : ∀ (mn : Nat), mn ≤ 10 → ∀ (t : Nat) (M' : ms_S), t ≤ 2 ^ Dn → M' 21 0 = nI Dn → M' 25 0 = nI mn → (∀ j, j < mn → ∃ q, q < 10 ∧ M' 6 j = nI q) → fb_S mn Dn t M' = fb_S (fb_O M but Pn).2 Dn (2 ^ Dn) (fb_O M but Pn).1 → AW p l e ({ frames := 2, cells := 0, slots := 0, locals := 44 } : Room) s m args below meth c 8 0 0 (MQ below (va_Qi (fun (r : Int32) (u : ms_S) => u = fb_S (fb_O M but Pn).2 Dn (2 ^ Dn) (fb_O M but Pn).1 ∧ r = (fb_S (fb_O M but Pn).2 Dn (2 ^ Dn) (fb_O M but Pn).1) 5 0) (fun u t => (ms_P D ad cA) u t.heap) (ct_A (ms_A ad) sz)) args s 0 0 (ct_A (ms_A ad) sz)) (ms_P D ad cA (M')) (ct_A (ms_A ad) sz) 55 [(0, .ref (ad 0)), (1, .int but), (2, .int (nI t - 1))] [] := by
    have h2D : 2 ^ Dn ≤ 16384 := Nat.pow_le_pow_right (n := 2) (by omega) hDn
    intro mn hmn t
    induction t with
    | zero =>
      intro M' ht h21' h25' hM6 hR
      refine aw_iload_n C d_Mo_findBest_55 rfl (j := 2) rfl ?_
      refine aw_if_lt (tgt := 215) C d_Mo_findBest_56 (by decide) (fun c_56 => ?_) (fun c_56 => ?_)
      · refine aw_aload_n C d_Mo_findBest_215 rfl (j := 0) rfl ?_
        refine gm_best C hK d_Mo_findBest_216 ?_
        refine aw_iconst (v := 0) C d_Mo_findBest_219 (by decide) ?_
        refine lm_5 (v := (M') 5 0) C hK 0 rfl (by decide) rfl d_Mo_findBest_220 ?_
        exact aw_iret C hr hlk _ ⟨by rw [← hR]; rfl, by rw [← hR]; rfl⟩ (fun H h => h) d_Mo_findBest_221
      · exact absurd (by decide) c_56
    | succ s9 ih =>
      intro M' ht h21' h25' hM6 hR
      rw [nI_pred]
      refine aw_iload_n C d_Mo_findBest_55 rfl (j := 2) rfl ?_
      refine aw_if_lt (tgt := 215) C d_Mo_findBest_56 (by decide) (fun c_56 => ?_) (fun c_56 => ?_)
      · exact absurd c_56 (nI_pos (by omega))
      · refine aw_iload_n C d_Mo_findBest_59 rfl (j := 2) rfl ?_
        refine aw_callSi (Cn := "") (P9 := fun r u => ms_P D ad cA (M')) [.int (nI s9)] C hK (c_Mo_bits l D cA (ms_A ad) (ms_P D ad cA M') s9 (by omega)) (cw_Mo_Mo_bits C.2.2.2.2 rfl rfl (by decide)) rfl (fun H h => h) (fun q h => Or.inl h) (fun q h => Or.inr (by rw [← hsz]; exact h)) rfl (Nat.le_of_ble_eq_true rfl) d_Mo_findBest_60 (by decide) (fun H H1 r u _ _ hB _ _ => hB) ?_
        rintro r u rfl
        refine aw_istore_n (i := 3) (lv' := [(3, .int (nI (bt_L 31 s9))), (0, .ref (ad 0)), (1, .int but), (2, .int (nI s9))]) C d_Mo_findBest_63 rfl (by decide) rfl ?_
        refine aw_aload_n C d_Mo_findBest_64 rfl (j := 1) rfl ?_
        refine gm_best C hK d_Mo_findBest_65 ?_
        refine aw_iload_n C d_Mo_findBest_68 rfl (j := 3) rfl ?_
        refine aw_iload_n C d_Mo_findBest_69 rfl (j := 0) rfl ?_
        refine aw_aload_n C d_Mo_findBest_70 rfl (j := 1) rfl ?_
        refine gm_many (v := nI mn) C hK h25' d_Mo_findBest_71 ?_
        refine aw_icmp_ne (tgt := 81) C d_Mo_findBest_74 (by decide) (fun c_74 => ?_) (fun c_74 => ?_)
        · refine aw_ldc C ki_Mo_m1000000000 d_Mo_findBest_81 ?_
          refine sm_5 (y := (-1000000000)) C hK hI  s9 rfl (by omega) d_Mo_findBest_83 ?_
          refine aw_iconst (v := 0) C d_Mo_findBest_84 (by decide) ?_
          refine aw_istore (i := 4) (lv' := [(4, .int 0), (3, .int (nI (bt_L 31 s9))), (0, .ref (ad 0)), (1, .int but), (2, .int (nI s9))]) C d_Mo_findBest_85 (by decide) rfl ?_
          have e8 : fb_1 M' mn s9 = ms_w (M') 5 s9 ((-1000000000)) := by unfold fb_1; rw [if_neg (fun h => c_74 (by rw [h]))]
          rw [← e8]
          by_cases hnm : bt_L 31 s9 < mn
          · obtain ⟨q, hq, eq6⟩ := hM6 (bt_L 31 s9) hnm
            refine aw_lv [2, 3, 4, 1, 0] rfl (lp3 (fb_1 M' mn s9) mn s9 (bt_L 31 s9) q (by omega) (by omega) hnm hmn (by omega) (by rw [fb_1n _ _ _ _ _ (by decide)]; exact h21') (by rw [fb_1n _ _ _ _ _ (by decide)]; exact h25') (by rw [fb_1n _ _ _ _ _ (by decide)]; exact eq6) ?_ (Dn + 1) 0 (by omega) (by omega))
            rw [show fb_I (fb_1 M' mn s9) s9 (bt_L 31 s9) Dn = fb_D M' mn Dn s9 from (if_pos hnm).symm]
            refine aw_iinc (i := 2) (v := (nI s9 - 1)) (lv' := [(2, .int (nI s9 - 1)), (0, .ref (ad 0)), (1, .int but)]) C d_Mo_findBest_209 (j := 2) rfl (nI_dec _) (by decide) rfl ?_
            refine aw_goto (tgt := 55) C d_Mo_findBest_212 (by decide) ?_
            exact aw_lv [1, 2, 0] rfl (ih (fb_D M' mn Dn s9) (by omega) (by rw [fb_Dn _ _ _ _ _ _ (by decide)]; exact h21') (by rw [fb_Dn _ _ _ _ _ _ (by decide)]; exact h25') (fun j hj => by rw [fb_Dn _ _ _ _ _ _ (by decide)]; exact hM6 j hj) hR)
          · refine aw_iload C d_Mo_findBest_87 (j := 0) rfl ?_
            refine aw_aload_n C d_Mo_findBest_89 rfl (j := 2) rfl ?_
            refine gm_desks (v := nI Dn) C hK (by rw [fb_1n _ _ _ _ _ (by decide)]; exact h21') d_Mo_findBest_90 ?_
            refine aw_icmp_ge (tgt := 209) C d_Mo_findBest_93 (by decide) (fun c_93 => ?_) (fun c_93 => ?_)
            · rw [show fb_1 M' mn s9 = fb_D M' mn Dn s9 from (if_neg hnm).symm]
              refine aw_iinc (i := 2) (v := (nI s9 - 1)) (lv' := [(2, .int (nI s9 - 1)), (4, .int 0), (3, .int (nI (bt_L 31 s9))), (0, .ref (ad 0)), (1, .int but)]) C d_Mo_findBest_209 (j := 4) rfl (nI_dec _) (by decide) rfl ?_
              refine aw_goto (tgt := 55) C d_Mo_findBest_212 (by decide) ?_
              exact aw_lv [3, 4, 0] rfl (ih (fb_D M' mn Dn s9) (by omega) (by rw [fb_Dn _ _ _ _ _ _ (by decide)]; exact h21') (by rw [fb_Dn _ _ _ _ _ _ (by decide)]; exact h25') (fun j hj => by rw [fb_Dn _ _ _ _ _ _ (by decide)]; exact hM6 j hj) hR)
            · refine aw_iload_n C d_Mo_findBest_96 rfl (j := 1) rfl ?_
              refine aw_aload_n C d_Mo_findBest_97 rfl (j := 2) rfl ?_
              refine gm_many (v := nI mn) C hK (by rw [fb_1n _ _ _ _ _ (by decide)]; exact h25') d_Mo_findBest_98 ?_
              refine aw_icmp_ge (tgt := 209) C d_Mo_findBest_101 (by decide) (fun c_101 => ?_) (fun c_101 => ?_)
              · rw [show fb_1 M' mn s9 = fb_D M' mn Dn s9 from (if_neg hnm).symm]
                refine aw_iinc (i := 2) (v := (nI s9 - 1)) (lv' := [(2, .int (nI s9 - 1)), (4, .int 0), (3, .int (nI (bt_L 31 s9))), (0, .ref (ad 0)), (1, .int but)]) C d_Mo_findBest_209 (j := 4) rfl (nI_dec _) (by decide) rfl ?_
                refine aw_goto (tgt := 55) C d_Mo_findBest_212 (by decide) ?_
                exact aw_lv [3, 4, 0] rfl (ih (fb_D M' mn Dn s9) (by omega) (by rw [fb_Dn _ _ _ _ _ _ (by decide)]; exact h21') (by rw [fb_Dn _ _ _ _ _ _ (by decide)]; exact h25') (fun j hj => by rw [fb_Dn _ _ _ _ _ _ (by decide)]; exact hM6 j hj) hR)
              · exact absurd (nI_le (by omega) (by have := bt_le 31 s9; omega)) c_101
        · refine aw_iconst (v := 0) C d_Mo_findBest_77 (by decide) ?_
          refine aw_goto (tgt := 83) C d_Mo_findBest_78 (by decide) ?_
          refine sm_5 (y := 0) C hK hI  s9 rfl (by omega) d_Mo_findBest_83 ?_
          refine aw_iconst (v := 0) C d_Mo_findBest_84 (by decide) ?_
          refine aw_istore (i := 4) (lv' := [(4, .int 0), (3, .int (nI (bt_L 31 s9))), (0, .ref (ad 0)), (1, .int but), (2, .int (nI s9))]) C d_Mo_findBest_85 (by decide) rfl ?_
          have hbm : bt_L 31 s9 = mn := (nI_eq (by have := bt_le 31 s9; omega) (by omega)).mp c_74
          have e8 : fb_1 M' mn s9 = ms_w (M') 5 s9 0 := by unfold fb_1; rw [if_pos hbm]
          rw [← e8]
          by_cases hnm : bt_L 31 s9 < mn
          · obtain ⟨q, hq, eq6⟩ := hM6 (bt_L 31 s9) hnm
            refine aw_lv [2, 3, 4, 1, 0] rfl (lp3 (fb_1 M' mn s9) mn s9 (bt_L 31 s9) q (by omega) (by omega) hnm hmn (by omega) (by rw [fb_1n _ _ _ _ _ (by decide)]; exact h21') (by rw [fb_1n _ _ _ _ _ (by decide)]; exact h25') (by rw [fb_1n _ _ _ _ _ (by decide)]; exact eq6) ?_ (Dn + 1) 0 (by omega) (by omega))
            rw [show fb_I (fb_1 M' mn s9) s9 (bt_L 31 s9) Dn = fb_D M' mn Dn s9 from (if_pos hnm).symm]
            refine aw_iinc (i := 2) (v := (nI s9 - 1)) (lv' := [(2, .int (nI s9 - 1)), (0, .ref (ad 0)), (1, .int but)]) C d_Mo_findBest_209 (j := 2) rfl (nI_dec _) (by decide) rfl ?_
            refine aw_goto (tgt := 55) C d_Mo_findBest_212 (by decide) ?_
            exact aw_lv [1, 2, 0] rfl (ih (fb_D M' mn Dn s9) (by omega) (by rw [fb_Dn _ _ _ _ _ _ (by decide)]; exact h21') (by rw [fb_Dn _ _ _ _ _ _ (by decide)]; exact h25') (fun j hj => by rw [fb_Dn _ _ _ _ _ _ (by decide)]; exact hM6 j hj) hR)
          · refine aw_iload C d_Mo_findBest_87 (j := 0) rfl ?_
            refine aw_aload_n C d_Mo_findBest_89 rfl (j := 2) rfl ?_
            refine gm_desks (v := nI Dn) C hK (by rw [fb_1n _ _ _ _ _ (by decide)]; exact h21') d_Mo_findBest_90 ?_
            refine aw_icmp_ge (tgt := 209) C d_Mo_findBest_93 (by decide) (fun c_93 => ?_) (fun c_93 => ?_)
            · rw [show fb_1 M' mn s9 = fb_D M' mn Dn s9 from (if_neg hnm).symm]
              refine aw_iinc (i := 2) (v := (nI s9 - 1)) (lv' := [(2, .int (nI s9 - 1)), (4, .int 0), (3, .int (nI (bt_L 31 s9))), (0, .ref (ad 0)), (1, .int but)]) C d_Mo_findBest_209 (j := 4) rfl (nI_dec _) (by decide) rfl ?_
              refine aw_goto (tgt := 55) C d_Mo_findBest_212 (by decide) ?_
              exact aw_lv [3, 4, 0] rfl (ih (fb_D M' mn Dn s9) (by omega) (by rw [fb_Dn _ _ _ _ _ _ (by decide)]; exact h21') (by rw [fb_Dn _ _ _ _ _ _ (by decide)]; exact h25') (fun j hj => by rw [fb_Dn _ _ _ _ _ _ (by decide)]; exact hM6 j hj) hR)
            · refine aw_iload_n C d_Mo_findBest_96 rfl (j := 1) rfl ?_
              refine aw_aload_n C d_Mo_findBest_97 rfl (j := 2) rfl ?_
              refine gm_many (v := nI mn) C hK (by rw [fb_1n _ _ _ _ _ (by decide)]; exact h25') d_Mo_findBest_98 ?_
              refine aw_icmp_ge (tgt := 209) C d_Mo_findBest_101 (by decide) (fun c_101 => ?_) (fun c_101 => ?_)
              · rw [show fb_1 M' mn s9 = fb_D M' mn Dn s9 from (if_neg hnm).symm]
                refine aw_iinc (i := 2) (v := (nI s9 - 1)) (lv' := [(2, .int (nI s9 - 1)), (4, .int 0), (3, .int (nI (bt_L 31 s9))), (0, .ref (ad 0)), (1, .int but)]) C d_Mo_findBest_209 (j := 4) rfl (nI_dec _) (by decide) rfl ?_
                refine aw_goto (tgt := 55) C d_Mo_findBest_212 (by decide) ?_
                exact aw_lv [3, 4, 0] rfl (ih (fb_D M' mn Dn s9) (by omega) (by rw [fb_Dn _ _ _ _ _ _ (by decide)]; exact h21') (by rw [fb_Dn _ _ _ _ _ _ (by decide)]; exact h25') (fun j hj => by rw [fb_Dn _ _ _ _ _ _ (by decide)]; exact hM6 j hj) hR)
              · exact absurd (nI_le (by omega) (by have := bt_le 31 s9; omega)) c_101
  have lp : ∀ (n k : Nat) , k ≤ Pn → Pn + 1 ≤ k + n → AW p l e ({ frames := 2, cells := 0, slots := 0, locals := 44 } : Room) s m args below meth c 8 0 0 (MQ below (va_Qi (fun (r : Int32) (u : ms_S) => u = fb_S (fb_O M but Pn).2 Dn (2 ^ Dn) (fb_O M but Pn).1 ∧ r = (fb_S (fb_O M but Pn).2 Dn (2 ^ Dn) (fb_O M but Pn).1) 5 0) (fun u t => (ms_P D ad cA) u t.heap) (ct_A (ms_A ad) sz)) args s 0 0 (ct_A (ms_A ad) sz)) (ms_P D ad cA ((fb_O M but k).1)) (ct_A (ms_A ad) sz) 7 [(0, .ref (ad 0)), (1, .int but), (2, .int (nI k))] [] := by
    intro n
    induction n with
    | zero => intro k h1 h2; exact absurd h2 (by omega)
    | succ n ih =>
      intro k hk hn
      refine aw_iload_n C d_Mo_findBest_7 rfl (j := 2) rfl ?_
      refine aw_aload_n C d_Mo_findBest_8 rfl (j := 0) rfl ?_
      refine gm_persons (v := ((fb_O M but k).1) 22 0) C hK rfl d_Mo_findBest_9 ?_
      refine aw_icmp_ge (tgt := 46) C d_Mo_findBest_12 (by decide) (fun c_12 => ?_) (fun c_12 => ?_)
      · have hkN : Pn = k := by rw [fb_On _ _ _ _ (by decide) (by decide), h22] at c_12; have := (nI_leI (by omega) (by omega)).mp c_12; omega
        subst hkN
        refine aw_iconst (v := 1) C d_Mo_findBest_46 (by decide) ?_
        refine aw_aload_n C d_Mo_findBest_47 rfl (j := 0) rfl ?_
        refine gm_desks (v := nI Dn) C hK (by rw [fb_On _ _ _ _ (by decide) (by decide)]; exact h21) d_Mo_findBest_48 ?_
        refine aw_ishl C d_Mo_findBest_51 ?_
        refine aw_topi (fun z_51 hz_51 => ?_)
        refine aw_iconst (v := 1) C d_Mo_findBest_52 (by decide) ?_
        refine aw_isub C d_Mo_findBest_53 ?_
        refine aw_topi (fun z_53 hz_53 => ?_)
        refine aw_istore_n (i := 2) (lv' := [(2, .int z_53), (0, .ref (ad 0)), (1, .int but)]) C d_Mo_findBest_54 rfl (by decide) rfl ?_
        obtain rfl : z_53 = nI (2 ^ Dn) - 1 := by
          rw [hz_53, hz_51]
          congr 1
          exact bx_shl' Dn (by omega)
        exact aw_lv [1, 2, 0] rfl (lp2 (fb_O M but Pn).2 (by have := fb_Ole M but Pn; omega) (2 ^ Dn) (fb_O M but Pn).1 (Nat.le_refl _) (by rw [fb_On _ _ _ _ (by decide) (by decide)]; exact h21) (fb_O25 M but Pn) (fun j hj => by obtain ⟨q, h1, h2⟩ := fb_O6 M but Pn j hj; exact ⟨q, by omega, h2⟩) rfl)
      · have hlt : k < Pn := by rw [fb_On _ _ _ _ (by decide) (by decide), h22] at c_12; exact Nat.lt_of_not_le (fun h => c_12 (nI_le h (by omega)))
        refine aw_iload_n C d_Mo_findBest_15 rfl (j := 2) rfl ?_
        refine aw_iload_n C d_Mo_findBest_16 rfl (j := 1) rfl ?_
        refine aw_icmp_eq (tgt := 40) C d_Mo_findBest_17 (by decide) (fun c_17 => ?_) (fun c_17 => ?_)
        · refine aw_iinc (i := 2) (v := (nI (k + 1))) (lv' := [(2, .int (nI (k + 1))), (0, .ref (ad 0)), (1, .int but)]) C d_Mo_findBest_40 (j := 2) rfl (nI_1 k) (by decide) rfl ?_
          refine aw_goto (tgt := 7) C d_Mo_findBest_43 (by decide) ?_
          have e9 : (fb_O M but (k + 1)).1 = (fb_O M but k).1 := by simp only [fb_O]; rw [if_pos c_17]
          rw [← e9]
          exact aw_lv [1, 2, 0] rfl (ih (k + 1) (by omega) (by omega))
        · refine aw_aload_n C d_Mo_findBest_20 rfl (j := 0) rfl ?_
          refine gm_order C hK d_Mo_findBest_21 ?_
          refine aw_aload_n C d_Mo_findBest_24 rfl (j := 0) rfl ?_
          refine gm_many (v := nI (fb_O M but k).2) C hK (fb_O25 M but k) d_Mo_findBest_25 ?_
          refine aw_iload_n C d_Mo_findBest_28 rfl (j := 2) rfl ?_
          refine sm_6 (y := (nI k)) C hK hI  ((fb_O M but k).2) rfl (by have := fb_Ole M but k; omega) d_Mo_findBest_29 ?_
          refine aw_aload_n C d_Mo_findBest_30 rfl (j := 0) rfl ?_
          refine aw_dup C d_Mo_findBest_31 rfl ?_
          refine gm_many (v := nI (fb_O M but k).2) C hK (fb_O25 M but k) d_Mo_findBest_32 ?_
          refine aw_iconst (v := 1) C d_Mo_findBest_35 (by decide) ?_
          refine aw_iadd C d_Mo_findBest_36 ?_
          refine aw_topi (fun z_36 hz_36 => ?_)
          obtain rfl : z_36 = nI ((fb_O M but k).2 + 1) := by rw [hz_36]; exact nI_1 _
          refine pm_many (x := (nI ((fb_O M but k).2 + 1))) C hK hI  d_Mo_findBest_37 ?_
          refine aw_iinc (i := 2) (v := (nI (k + 1))) (lv' := [(2, .int (nI (k + 1))), (0, .ref (ad 0)), (1, .int but)]) C d_Mo_findBest_40 (j := 2) rfl (nI_1 k) (by decide) rfl ?_
          refine aw_goto (tgt := 7) C d_Mo_findBest_43 (by decide) ?_
          have e9 : (fb_O M but (k + 1)).1 = ms_w (ms_w ((fb_O M but k).1) 6 ((fb_O M but k).2) ((nI k))) 25 0 ((nI ((fb_O M but k).2 + 1))) := by simp only [fb_O]; rw [if_neg c_17]
          rw [← e9]
          exact aw_lv [1, 2, 0] rfl (ih (k + 1) (by omega) (by omega))
  refine aw_lv (lv' := [(0, .ref (ad 0)), (1, .int but)]) [0, 1] rfl ?_
  refine aw_aload_n C d_Mo_findBest_0 rfl (j := 0) rfl ?_
  refine aw_iconst (v := 0) C d_Mo_findBest_1 (by decide) ?_
  refine pm_many (x := 0) C hK hI  d_Mo_findBest_2 ?_
  refine aw_iconst (v := 0) C d_Mo_findBest_5 (by decide) ?_
  refine aw_istore_n (i := 2) (lv' := [(2, .int 0), (0, .ref (ad 0)), (1, .int but)]) C d_Mo_findBest_6 rfl (by decide) rfl ?_
  exact aw_lv [1, 2, 0] rfl (lp (Pn + 1) 0 (by omega) (by omega))
