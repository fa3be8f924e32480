def bt_L : Nat → Nat → Nat
  | 0, _ => 0
  | f + 1, n => if n = 0 then 0 else n % 2 + bt_L f (n / 2)
set_option maxHeartbeats 4000000 in
set_option maxRecDepth 100000 in
theorem c_Mo_bits (l : Launch) (D : va_G) (cA : Nat → ClassId) (A : Nat → Prop) (P : Heap → Prop) (n : Nat) (hn : n < 2 ^ 31) : Ct_i l y_Mo_bits b_Mo_bits 3 (some .int) ({ frames := 0, cells := 0, slots := 0, locals := 0 } : Room) 0 0 D (ds_ty cA) (A) [.int (nI n)] (P) (fun (r : Int32) (u : Unit) => r = nI (bt_L 31 n)) (fun _ => P) := by
  intro sz
  refine ct_of (by decide) (Nat.le_of_ble_eq_true rfl) ?_
  intro p e s m args below meth c hsz C hr hlk hnm hK
  have lp : ∀ (f a b : Nat), b < 2 ^ 31 → b < 2 ^ f → a + bt_L f b = bt_L 31 n → AW p l e ({ frames := 0, cells := 0, slots := 0, locals := 0 } : Room) s m args below meth c 3 0 0 (MQ below (va_Qi (fun (r : Int32) (u : Unit) => r = nI (bt_L 31 n)) (fun u t => (fun _ => P) u t.heap) (ct_A (A) sz)) args s 0 0 (ct_A (A) sz)) (P) (ct_A (A) sz) 4 [(0, .int (nI n)), (1, .int (nI a)), (2, .int (nI b))] [] := by
    intro f
    induction f using Nat.strongRecOn with
    | _ f ih =>
      intro a b hb31 hf hR
      refine aw_iload_n C d_Mo_bits_4 rfl (j := 2) rfl ?_
      refine aw_if_le (tgt := 21) C d_Mo_bits_5 (by decide) (fun c_5 => ?_) (fun c_5 => ?_)
      · refine aw_iload_n C d_Mo_bits_21 rfl (j := 1) rfl ?_
        have hb0 : b = 0 := by
          have h9 := (nI_leI (b := 0) hb31 (by omega)).mp c_5
          omega
        exact aw_iret C hr hlk () (by rw [← hR, hb0]; cases f <;> rfl) (fun H h => h) d_Mo_bits_22
      · refine aw_iload_n C d_Mo_bits_8 rfl (j := 1) rfl ?_
        refine aw_iload_n C d_Mo_bits_9 rfl (j := 2) rfl ?_
        refine aw_iconst (v := 2) C d_Mo_bits_10 (by decide) ?_
        refine aw_irem C d_Mo_bits_11 (by decide) ?_
        refine aw_topi (fun z_11 hz_11 => ?_)
        refine aw_iadd C d_Mo_bits_12 ?_
        refine aw_topi (fun z_12 hz_12 => ?_)
        obtain rfl : z_12 = nI (a + b % 2) := by rw [hz_12, hz_11, show (2 : Int32) = nI 2 from rfl, pk_rem hb31 (by omega) (by omega), nI_add]
        refine aw_istore_n (i := 1) (lv' := [(1, .int (nI (a + b % 2))), (0, .int (nI n)), (2, .int (nI b))]) C d_Mo_bits_13 rfl (by decide) rfl ?_
        refine aw_iload_n C d_Mo_bits_14 rfl (j := 2) rfl ?_
        refine aw_iconst (v := 2) C d_Mo_bits_15 (by decide) ?_
        refine aw_idiv C d_Mo_bits_16 (by decide) ?_
        refine aw_topi (fun z_16 hz_16 => ?_)
        obtain rfl : z_16 = nI (b / 2) := by rw [hz_16, show (2 : Int32) = nI 2 from rfl, pk_div hb31 (by omega) (by omega)]
        refine aw_istore_n (i := 2) (lv' := [(2, .int (nI (b / 2))), (1, .int (nI (a + b % 2))), (0, .int (nI n))]) C d_Mo_bits_17 rfl (by decide) rfl ?_
        refine aw_goto (tgt := 4) C d_Mo_bits_18 (by decide) ?_
        have hb0 : ¬ b = 0 := fun h => c_5 (by rw [h]; decide)
        rcases f with _ | f
        · exact absurd hf (by omega)
        · exact aw_lv [2, 1, 0] rfl (ih f (by omega) (a + b % 2) (b / 2) (by omega) (Nat.div_lt_of_lt_mul (by rw [Nat.mul_comm, ← Nat.pow_succ]; exact hf)) (by rw [← hR]; simp only [bt_L]; rw [if_neg hb0]; omega))
  refine aw_lv (lv' := [(0, .int (nI n))]) [0] rfl ?_
  refine aw_iconst (v := 0) C d_Mo_bits_0 (by decide) ?_
  refine aw_istore_n (i := 1) (lv' := [(1, .int 0), (0, .int (nI n))]) C d_Mo_bits_1 rfl (by decide) rfl ?_
  refine aw_iload_n C d_Mo_bits_2 rfl (j := 1) rfl ?_
  refine aw_istore_n (i := 2) (lv' := [(2, .int (nI n)), (1, .int 0), (0, .int (nI n))]) C d_Mo_bits_3 rfl (by decide) rfl ?_
  exact aw_lv [2, 1, 0] rfl (lp 31 0 n hn hn (by omega))
def mf_L (M : ms_S) (x : Int32) : Nat → Int32
  | 0 => 1
  | k + 1 => if mf_L M x k = 0 then 0 else (if M 8 k = x then 0 else 1)
theorem mf_b (M : ms_S) (x : Int32) : ∀ k, mf_L M x k = 0 ∨ mf_L M x k = 1
  | 0 => Or.inr rfl
  | k + 1 => by
    unfold mf_L
    split
    · exact Or.inl rfl
    · split
      · exact Or.inl rfl
      · exact Or.inr rfl
set_option maxHeartbeats 4000000 in
set_option maxRecDepth 100000 in
theorem c_Mo_isFree (l : Launch) (D : va_G) (ad : Nat → Nat) (cA : Nat → ClassId) (M : ms_S) (Pn : Nat) (x : Int32) (hPn : Pn ≤ 10) (h22 : M 22 0 = nI Pn) : Ct_i l y_Mo_isFree b_Mo_isFree 4 (some .boolean) ({ frames := 0, cells := 0, slots := 0, locals := 0 } : Room) 0 0 D (ds_ty cA) (ms_A ad) [.ref (ad 0), .int x] (ms_P D ad cA M) (fun (r : Int32) (u : ms_S) => M = u ∧ r = mf_L M x Pn) (ms_P D ad cA) := by
  intro sz
  refine ct_of (by decide) (Nat.le_of_ble_eq_true rfl) ?_
  intro p e s m args below meth c hsz C hr hlk hnm hK
  have lp : ∀ (n k : Nat) , k ≤ Pn → Pn + 1 ≤ k + n → AW p l e ({ frames := 0, cells := 0, slots := 0, locals := 0 } : Room) s m args below meth c 4 0 0 (MQ below (va_Qi (fun (r : Int32) (u : ms_S) => M = u ∧ r = mf_L M x Pn) (fun u t => (ms_P D ad cA) u t.heap) (ct_A (ms_A ad) sz)) args s 0 0 (ct_A (ms_A ad) sz)) (ms_P D ad cA M) (ct_A (ms_A ad) sz) 4 [(0, .ref (ad 0)), (1, .int x), (2, .int (mf_L M x k)), (3, .int (nI k))] [] := by
    intro n
    induction n with
    | zero => intro k h1 h2; exact absurd h2 (by omega)
    | succ n ih =>
      intro k hk hn
      refine aw_iload_n C d_Mo_isFree_4 rfl (j := 3) rfl ?_
      refine aw_aload_n C d_Mo_isFree_5 rfl (j := 0) rfl ?_
      refine gm_persons (v := M 22 0) C hK rfl d_Mo_isFree_6 ?_
      refine aw_icmp_ge (tgt := 38) C d_Mo_isFree_9 (by decide) (fun c_9 => ?_) (fun c_9 => ?_)
      · have hkN : Pn = k := by rw [h22] at c_9; have := (nI_leI (by omega) (by omega)).mp c_9; omega
        subst hkN
        refine aw_iload_n C d_Mo_isFree_38 rfl (j := 2) rfl ?_
        exact aw_zret C hr hlk (nr_z (mf_b M x _)).1 M ⟨rfl, rfl⟩ (fun H h => h) d_Mo_isFree_39
      · have hlt : k < Pn := by rw [h22] at c_9; exact Nat.lt_of_not_le (fun h => c_9 (nI_le h (by omega)))
        refine aw_iload_n C d_Mo_isFree_12 rfl (j := 2) rfl ?_
        refine aw_if_eq (tgt := 30) C d_Mo_isFree_13 (by decide) (fun c_13 => ?_) (fun c_13 => ?_)
        · refine aw_iconst (v := 0) C d_Mo_isFree_30 (by decide) ?_
          refine aw_istore_n (i := 2) (lv' := [(2, .int 0), (0, .ref (ad 0)), (1, .int x), (3, .int (nI k))]) C d_Mo_isFree_31 rfl (by decide) rfl ?_
          refine aw_iinc (i := 3) (v := (nI (k + 1))) (lv' := [(3, .int (nI (k + 1))), (2, .int 0), (0, .ref (ad 0)), (1, .int x)]) C d_Mo_isFree_32 (j := 3) rfl (nI_1 k) (by decide) rfl ?_
          refine aw_goto (tgt := 4) C d_Mo_isFree_35 (by decide) ?_
          have e9 : mf_L M x (k + 1) = 0 := by simp only [mf_L]; rw [if_pos c_13]
          have h9 := ih (k + 1) (by omega) (by omega)
          rw [e9] at h9
          exact aw_lv [2, 3, 1, 0] rfl h9
        · refine aw_aload_n C d_Mo_isFree_16 rfl (j := 0) rfl ?_
          refine gm_place C hK d_Mo_isFree_17 ?_
          refine aw_iload_n C d_Mo_isFree_20 rfl (j := 3) rfl ?_
          refine lm_8 (v := M 8 k) C hK k rfl (show k < 10 by omega) rfl d_Mo_isFree_21 ?_
          refine aw_iload_n C d_Mo_isFree_22 rfl (j := 1) rfl ?_
          refine aw_icmp_eq (tgt := 30) C d_Mo_isFree_23 (by decide) (fun c_23 => ?_) (fun c_23 => ?_)
          · refine aw_iconst (v := 0) C d_Mo_isFree_30 (by decide) ?_
            refine aw_istore_n (i := 2) (lv' := [(2, .int 0), (0, .ref (ad 0)), (1, .int x), (3, .int (nI k))]) C d_Mo_isFree_31 rfl (by decide) rfl ?_
            refine aw_iinc (i := 3) (v := (nI (k + 1))) (lv' := [(3, .int (nI (k + 1))), (2, .int 0), (0, .ref (ad 0)), (1, .int x)]) C d_Mo_isFree_32 (j := 3) rfl (nI_1 k) (by decide) rfl ?_
            refine aw_goto (tgt := 4) C d_Mo_isFree_35 (by decide) ?_
            have e9 : mf_L M x (k + 1) = 0 := by simp only [mf_L]; rw [if_neg c_13, if_pos c_23]
            have h9 := ih (k + 1) (by omega) (by omega)
            rw [e9] at h9
            exact aw_lv [2, 3, 1, 0] rfl h9
          · refine aw_iconst (v := 1) C d_Mo_isFree_26 (by decide) ?_
            refine aw_goto (tgt := 31) C d_Mo_isFree_27 (by decide) ?_
            refine aw_istore_n (i := 2) (lv' := [(2, .int 1), (0, .ref (ad 0)), (1, .int x), (3, .int (nI k))]) C d_Mo_isFree_31 rfl (by decide) rfl ?_
            refine aw_iinc (i := 3) (v := (nI (k + 1))) (lv' := [(3, .int (nI (k + 1))), (2, .int 1), (0, .ref (ad 0)), (1, .int x)]) C d_Mo_isFree_32 (j := 3) rfl (nI_1 k) (by decide) rfl ?_
            refine aw_goto (tgt := 4) C d_Mo_isFree_35 (by decide) ?_
            have e9 : mf_L M x (k + 1) = 1 := by simp only [mf_L]; rw [if_neg c_13, if_neg c_23]
            have h9 := ih (k + 1) (by omega) (by omega)
            rw [e9] at h9
            exact aw_lv [2, 3, 1, 0] rfl h9
  refine aw_lv (lv' := [(0, .ref (ad 0)), (1, .int x)]) [0, 1] rfl ?_
  refine aw_iconst (v := 1) C d_Mo_isFree_0 (by decide) ?_
  refine aw_istore_n (i := 2) (lv' := [(2, .int 1), (0, .ref (ad 0)), (1, .int x)]) C d_Mo_isFree_1 rfl (by decide) rfl ?_
  refine aw_iconst (v := 0) C d_Mo_isFree_2 (by decide) ?_
  refine aw_istore_n (i := 3) (lv' := [(3, .int 0), (2, .int 1), (0, .ref (ad 0)), (1, .int x)]) C d_Mo_isFree_3 rfl (by decide) rfl ?_
  exact aw_lv [2, 3, 1, 0] rfl (lp (Pn + 1) 0 (by omega) (by omega))
def mg_F (M : ms_S) (p9 g : Nat) (d : Int32) : ms_S := ms_w (ms_w (ms_w (ms_w (ms_w M 7 (3 * g) (nI p9)) 7 (3 * g + 1) (M 8 p9)) 7 (3 * g + 2) d) 26 0 (nI (g + 1))) 8 p9 d
set_option maxHeartbeats 4000000 in
set_option maxRecDepth 100000 in
theorem c_Mo_go (l : Launch) (D : va_G) (ad : Nat → Nat) (cA : Nat → ClassId) (M : ms_S) (p9 g : Nat) (d9 : Int32) (hI : ms_I ad) (hp : p9 < 10) (hg : g < 200) (h26 : M 26 0 = nI g) : Ct_v l y_Mo_go b_Mo_go 3 none ({ frames := 0, cells := 0, slots := 0, locals := 0 } : Room) 0 0 D (ds_ty cA) (ms_A ad) [.ref (ad 0), .int (nI p9), .int d9] (ms_P D ad cA M) (fun (u : ms_S) => u = mg_F M p9 g d9) (ms_P D ad cA) := by
  intro sz
  refine ct_of (by decide) (Nat.le_of_ble_eq_true rfl) ?_
  intro p e s m args below meth c hsz C hr hlk hnm hK
  refine aw_lv (lv' := [(0, .ref (ad 0)), (1, .int (nI p9)), (2, .int d9)]) [0, 1, 2] rfl ?_
  refine aw_aload_n C d_Mo_go_0 rfl (j := 0) rfl ?_
  refine gm_path C hK d_Mo_go_1 ?_
  refine aw_iconst (v := 3) C d_Mo_go_4 (by decide) ?_
  refine aw_aload_n C d_Mo_go_5 rfl (j := 0) rfl ?_
  refine gm_gone (v := nI g) C hK h26 d_Mo_go_6 ?_
  refine aw_imul C d_Mo_go_9 ?_
  refine aw_topi (fun z_9 hz_9 => ?_)
  refine aw_iload_n C d_Mo_go_10 rfl (j := 1) rfl ?_
  refine sm_7 (y := (nI p9)) C hK hI  (3 * g) (by rw [hz_9, show (3 : Int32) = nI 3 from rfl, pk_mul]) (by omega) d_Mo_go_11 ?_
  refine aw_aload_n C d_Mo_go_12 rfl (j := 0) rfl ?_
  refine gm_path C hK d_Mo_go_13 ?_
  refine aw_iconst (v := 3) C d_Mo_go_16 (by decide) ?_
  refine aw_aload_n C d_Mo_go_17 rfl (j := 0) rfl ?_
  refine gm_gone (v := nI g) C hK h26 d_Mo_go_18 ?_
  refine aw_imul C d_Mo_go_21 ?_
  refine aw_topi (fun z_21 hz_21 => ?_)
  refine aw_iconst (v := 1) C d_Mo_go_22 (by decide) ?_
  refine aw_iadd C d_Mo_go_23 ?_
  refine aw_topi (fun z_23 hz_23 => ?_)
  refine aw_aload_n C d_Mo_go_24 rfl (j := 0) rfl ?_
  refine gm_place C hK d_Mo_go_25 ?_
  refine aw_iload_n C d_Mo_go_28 rfl (j := 1) rfl ?_
  refine lm_8 (v := M 8 p9) C hK p9 rfl hp rfl d_Mo_go_29 ?_
  refine sm_7 (y := (M 8 p9)) C hK hI  (3 * g + 1) (by rw [hz_23, hz_21, show (3 : Int32) = nI 3 from rfl, pk_mul, nI_1]) (by omega) d_Mo_go_30 ?_
  refine aw_aload_n C d_Mo_go_31 rfl (j := 0) rfl ?_
  refine gm_path C hK d_Mo_go_32 ?_
  refine aw_iconst (v := 3) C d_Mo_go_35 (by decide) ?_
  refine aw_aload_n C d_Mo_go_36 rfl (j := 0) rfl ?_
  refine gm_gone (v := nI g) C hK h26 d_Mo_go_37 ?_
  refine aw_imul C d_Mo_go_40 ?_
  refine aw_topi (fun z_40 hz_40 => ?_)
  refine aw_iconst (v := 2) C d_Mo_go_41 (by decide) ?_
  refine aw_iadd C d_Mo_go_42 ?_
  refine aw_topi (fun z_42 hz_42 => ?_)
  refine aw_iload_n C d_Mo_go_43 rfl (j := 2) rfl ?_
  refine sm_7 (y := d9) C hK hI  (3 * g + 2) (by rw [hz_42, hz_40, show (3 : Int32) = nI 3 from rfl, show (2 : Int32) = nI 2 from rfl, pk_mul, nI_add]) (by omega) d_Mo_go_44 ?_
  refine aw_aload_n C d_Mo_go_45 rfl (j := 0) rfl ?_
  refine aw_dup C d_Mo_go_46 rfl ?_
  refine gm_gone (v := nI g) C hK h26 d_Mo_go_47 ?_
  refine aw_iconst (v := 1) C d_Mo_go_50 (by decide) ?_
  refine aw_iadd C d_Mo_go_51 ?_
  refine aw_topi (fun z_51 hz_51 => ?_)
  obtain rfl : z_51 = nI (g + 1) := by rw [hz_51]; exact nI_1 g
  refine pm_gone (x := (nI (g + 1))) C hK hI  d_Mo_go_52 ?_
  refine aw_aload_n C d_Mo_go_55 rfl (j := 0) rfl ?_
  refine gm_place C hK d_Mo_go_56 ?_
  refine aw_iload_n C d_Mo_go_59 rfl (j := 1) rfl ?_
  refine aw_iload_n C d_Mo_go_60 rfl (j := 2) rfl ?_
  refine sm_8 (y := d9) C hK hI  p9 rfl hp d_Mo_go_61 ?_
  exact aw_vret C hr hlk _ rfl (fun H h => h) d_Mo_go_62
def mm_L (M : ms_S) (r a b : Int32) : Nat → Int32
  | 0 => -1
  | k + 1 => if M 14 k = 0 then mm_L M r a b k else (if M 10 k = r then (if b ≤ M 11 k then mm_L M r a b k else (if M 12 k ≤ a then mm_L M r a b k else nI k)) else mm_L M r a b k)
set_option maxHeartbeats 4000000 in
set_option maxRecDepth 100000 in
theorem c_Mo_meeting (l : Launch) (D : va_G) (ad : Nat → Nat) (cA : Nat → ClassId) (M : ms_S) (Bn : Nat) (r8 a b : Int32) (hBn : Bn ≤ 300) (h29 : M 29 0 = nI Bn) : Ct_i l y_Mo_meeting b_Mo_meeting 6 (some .int) ({ frames := 0, cells := 0, slots := 0, locals := 0 } : Room) 0 0 D (ds_ty cA) (ms_A ad) [.ref (ad 0), .int r8, .int a, .int b] (ms_P D ad cA M) (fun (r : Int32) (u : ms_S) => M = u ∧ r = mm_L M r8 a b Bn) (ms_P D ad cA) := by
  intro sz
  refine ct_of (by decide) (Nat.le_of_ble_eq_true rfl) ?_
  intro p e s m args below meth c hsz C hr hlk hnm hK
  have lp : ∀ (n k : Nat) , k ≤ Bn → Bn + 1 ≤ k + n → AW p l e ({ frames := 0, cells := 0, slots := 0, locals := 0 } : Room) s m args below meth c 6 0 0 (MQ below (va_Qi (fun (r : Int32) (u : ms_S) => M = u ∧ r = mm_L M r8 a b Bn) (fun u t => (ms_P D ad cA) u t.heap) (ct_A (ms_A ad) sz)) args s 0 0 (ct_A (ms_A ad) sz)) (ms_P D ad cA M) (ct_A (ms_A ad) sz) 6 [(0, .ref (ad 0)), (1, .int r8), (2, .int a), (3, .int b), (4, .int (mm_L M r8 a b k)), (5, .int (nI k))] [] := by
    intro n
    induction n with
    | zero => intro k h1 h2; exact absurd h2 (by omega)
    | succ n ih =>
      intro k hk hn
      refine aw_iload C d_Mo_meeting_6 (j := 5) rfl ?_
      refine aw_aload_n C d_Mo_meeting_8 rfl (j := 0) rfl ?_
      refine gm_bookings (v := M 29 0) C hK rfl d_Mo_meeting_9 ?_
      refine aw_icmp_ge (tgt := 73) C d_Mo_meeting_12 (by decide) (fun c_12 => ?_) (fun c_12 => ?_)
      · have hkN : Bn = k := by rw [h29] at c_12; have := (nI_leI (by omega) (by omega)).mp c_12; omega
        subst hkN
        refine aw_iload C d_Mo_meeting_73 (j := 4) rfl ?_
        exact aw_iret C hr hlk M ⟨rfl, rfl⟩ (fun H h => h) d_Mo_meeting_75
      · have hlt : k < Bn := by rw [h29] at c_12; exact Nat.lt_of_not_le (fun h => c_12 (nI_le h (by omega)))
        refine aw_aload_n C d_Mo_meeting_15 rfl (j := 0) rfl ?_
        refine gm_there C hK d_Mo_meeting_16 ?_
        refine aw_iload C d_Mo_meeting_19 (j := 5) rfl ?_
        refine lm_14 (v := M 14 k) C hK k rfl (show k < 300 by omega) rfl d_Mo_meeting_21 ?_
        refine aw_if_eq (tgt := 63) C d_Mo_meeting_22 (by decide) (fun c_22 => ?_) (fun c_22 => ?_)
        · refine aw_iload C d_Mo_meeting_63 (j := 4) rfl ?_
          refine aw_istore (i := 4) (lv' := [(4, .int (mm_L M r8 a b k)), (0, .ref (ad 0)), (1, .int r8), (2, .int a), (3, .int b), (5, .int (nI k))]) C d_Mo_meeting_65 (by decide) rfl ?_
          refine aw_iinc (i := 5) (v := (nI (k + 1))) (lv' := [(5, .int (nI (k + 1))), (4, .int (mm_L M r8 a b k)), (0, .ref (ad 0)), (1, .int r8), (2, .int a), (3, .int b)]) C d_Mo_meeting_67 (j := 5) rfl (nI_1 k) (by decide) rfl ?_
          refine aw_goto (tgt := 6) C d_Mo_meeting_70 (by decide) ?_
          have e9 : mm_L M r8 a b (k + 1) = mm_L M r8 a b k := by simp only [mm_L]; rw [if_pos c_22]
          have h9 := ih (k + 1) (by omega) (by omega)
          rw [e9] at h9
          exact aw_lv [2, 3, 4, 5, 1, 0] rfl h9
        · refine aw_aload_n C d_Mo_meeting_25 rfl (j := 0) rfl ?_
          refine gm_room C hK d_Mo_meeting_26 ?_
          refine aw_iload C d_Mo_meeting_29 (j := 5) rfl ?_
          refine lm_10 (v := M 10 k) C hK k rfl (show k < 300 by omega) rfl d_Mo_meeting_31 ?_
          refine aw_iload_n C d_Mo_meeting_32 rfl (j := 1) rfl ?_
          refine aw_icmp_ne (tgt := 63) C d_Mo_meeting_33 (by decide) (fun c_33 => ?_) (fun c_33 => ?_)
          · refine aw_iload C d_Mo_meeting_63 (j := 4) rfl ?_
            refine aw_istore (i := 4) (lv' := [(4, .int (mm_L M r8 a b k)), (0, .ref (ad 0)), (1, .int r8), (2, .int a), (3, .int b), (5, .int (nI k))]) C d_Mo_meeting_65 (by decide) rfl ?_
            refine aw_iinc (i := 5) (v := (nI (k + 1))) (lv' := [(5, .int (nI (k + 1))), (4, .int (mm_L M r8 a b k)), (0, .ref (ad 0)), (1, .int r8), (2, .int a), (3, .int b)]) C d_Mo_meeting_67 (j := 5) rfl (nI_1 k) (by decide) rfl ?_
            refine aw_goto (tgt := 6) C d_Mo_meeting_70 (by decide) ?_
            have e9 : mm_L M r8 a b (k + 1) = mm_L M r8 a b k := by simp only [mm_L]; rw [if_neg c_22, if_neg c_33]
            have h9 := ih (k + 1) (by omega) (by omega)
            rw [e9] at h9
            exact aw_lv [2, 3, 4, 5, 1, 0] rfl h9
          · refine aw_aload_n C d_Mo_meeting_36 rfl (j := 0) rfl ?_
            refine gm_from C hK d_Mo_meeting_37 ?_
            refine aw_iload C d_Mo_meeting_40 (j := 5) rfl ?_
            refine lm_11 (v := M 11 k) C hK k rfl (show k < 300 by omega) rfl d_Mo_meeting_42 ?_
            refine aw_iload_n C d_Mo_meeting_43 rfl (j := 3) rfl ?_
            refine aw_icmp_ge (tgt := 63) C d_Mo_meeting_44 (by decide) (fun c_44 => ?_) (fun c_44 => ?_)
            · refine aw_iload C d_Mo_meeting_63 (j := 4) rfl ?_
              refine aw_istore (i := 4) (lv' := [(4, .int (mm_L M r8 a b k)), (0, .ref (ad 0)), (1, .int r8), (2, .int a), (3, .int b), (5, .int (nI k))]) C d_Mo_meeting_65 (by decide) rfl ?_
              refine aw_iinc (i := 5) (v := (nI (k + 1))) (lv' := [(5, .int (nI (k + 1))), (4, .int (mm_L M r8 a b k)), (0, .ref (ad 0)), (1, .int r8), (2, .int a), (3, .int b)]) C d_Mo_meeting_67 (j := 5) rfl (nI_1 k) (by decide) rfl ?_
              refine aw_goto (tgt := 6) C d_Mo_meeting_70 (by decide) ?_
              have e9 : mm_L M r8 a b (k + 1) = mm_L M r8 a b k := by simp only [mm_L]; rw [if_neg c_22, if_pos c_33, if_pos c_44]
              have h9 := ih (k + 1) (by omega) (by omega)
              rw [e9] at h9
              exact aw_lv [2, 3, 4, 5, 1, 0] rfl h9
            · refine aw_iload_n C d_Mo_meeting_47 rfl (j := 2) rfl ?_
              refine aw_aload_n C d_Mo_meeting_48 rfl (j := 0) rfl ?_
              refine gm_to C hK d_Mo_meeting_49 ?_
              refine aw_iload C d_Mo_meeting_52 (j := 5) rfl ?_
              refine lm_12 (v := M 12 k) C hK k rfl (show k < 300 by omega) rfl d_Mo_meeting_54 ?_
              refine aw_icmp_ge (tgt := 63) C d_Mo_meeting_55 (by decide) (fun c_55 => ?_) (fun c_55 => ?_)
              · refine aw_iload C d_Mo_meeting_63 (j := 4) rfl ?_
                refine aw_istore (i := 4) (lv' := [(4, .int (mm_L M r8 a b k)), (0, .ref (ad 0)), (1, .int r8), (2, .int a), (3, .int b), (5, .int (nI k))]) C d_Mo_meeting_65 (by decide) rfl ?_
                refine aw_iinc (i := 5) (v := (nI (k + 1))) (lv' := [(5, .int (nI (k + 1))), (4, .int (mm_L M r8 a b k)), (0, .ref (ad 0)), (1, .int r8), (2, .int a), (3, .int b)]) C d_Mo_meeting_67 (j := 5) rfl (nI_1 k) (by decide) rfl ?_
                refine aw_goto (tgt := 6) C d_Mo_meeting_70 (by decide) ?_
                have e9 : mm_L M r8 a b (k + 1) = mm_L M r8 a b k := by simp only [mm_L]; rw [if_neg c_22, if_pos c_33, if_neg c_44, if_pos c_55]
                have h9 := ih (k + 1) (by omega) (by omega)
                rw [e9] at h9
                exact aw_lv [2, 3, 4, 5, 1, 0] rfl h9
              · refine aw_iload C d_Mo_meeting_58 (j := 5) rfl ?_
                refine aw_goto (tgt := 65) C d_Mo_meeting_60 (by decide) ?_
                refine aw_istore (i := 4) (lv' := [(4, .int (nI k)), (0, .ref (ad 0)), (1, .int r8), (2, .int a), (3, .int b), (5, .int (nI k))]) C d_Mo_meeting_65 (by decide) rfl ?_
                refine aw_iinc (i := 5) (v := (nI (k + 1))) (lv' := [(5, .int (nI (k + 1))), (4, .int (nI k)), (0, .ref (ad 0)), (1, .int r8), (2, .int a), (3, .int b)]) C d_Mo_meeting_67 (j := 5) rfl (nI_1 k) (by decide) rfl ?_
                refine aw_goto (tgt := 6) C d_Mo_meeting_70 (by decide) ?_
                have e9 : mm_L M r8 a b (k + 1) = nI k := by simp only [mm_L]; rw [if_neg c_22, if_pos c_33, if_neg c_44, if_neg c_55]
                have h9 := ih (k + 1) (by omega) (by omega)
                rw [e9] at h9
                exact aw_lv [2, 3, 4, 5, 1, 0] rfl h9
  refine aw_lv (lv' := [(0, .ref (ad 0)), (1, .int r8), (2, .int a), (3, .int b)]) [0, 1, 2, 3] rfl ?_
  refine aw_iconst (v := (-1)) C d_Mo_meeting_0 (by decide) ?_
  refine aw_istore (i := 4) (lv' := [(4, .int (-1)), (0, .ref (ad 0)), (1, .int r8), (2, .int a), (3, .int b)]) C d_Mo_meeting_1 (by decide) rfl ?_
  refine aw_iconst (v := 0) C d_Mo_meeting_3 (by decide) ?_
  refine aw_istore (i := 5) (lv' := [(5, .int 0), (4, .int (-1)), (0, .ref (ad 0)), (1, .int r8), (2, .int a), (3, .int b)]) C d_Mo_meeting_4 (by decide) rfl ?_
  exact aw_lv [2, 3, 4, 5, 1, 0] rfl (lp (Bn + 1) 0 (by omega) (by omega))
