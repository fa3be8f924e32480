section MM
variable {p : Program} {l : Launch} {e : Env} {R : Room} {s : State} {m : MethodId} {args : Array Value} {below : List Frame} {meth : Method} {c : Code} {cc : ByteArray} {nL cells slots : Nat} {Q : State → Prop} {P : Heap → Prop} {A : Nat → Prop} {pc : Nat} {lv : List (Nat × Value)} {st : List Value}
theorem aw_mmin (C : CallFix p m c cc nL s args tb_G R_Ma) (hfr : 1 ≤ R.frames) (hlo : (st.map fun v => v.category).sum + 13 ≤ R.locals) (hc : cells ≤ R.cells) (hs : slots ≤ R.slots) {x y : Int32} (hd : decode cc pc = .ok (.invokestatic 43, 3)) (kk : AW p l e R s m args below meth c nL cells slots Q P A (pc + 3) lv (.int (if y < x then y else x) :: st)) : AW p l e R s m args below meth c nL cells slots Q P A pc lv (.int y :: .int x :: st) := fun H locs ls hP hS hl =>
  va_mmin C.1 C.2.1 (C.2.2.1.trans hl.1.symm) C.2.2.2.1 (C.2.2.2.2 _ ml_Ma_Mt_min) (C.2.2.2.2 _ sm_Mt_min) (C.2.2.2.2 _ ii_Mt) (C.2.2.2.2 _ cd_Mt_min) hfr hlo hc hs hd (kk H locs ls hP hS hl)
end MM
/-! what each method of the matcher does, as functions -/
def cs_F (S : ds_S) : Nat → ds_S
  | 0 => S
  | k + 1 => ds_wJ (ds_wR (cs_F S k) 0 k none) 1 k 0
theorem cs_1 (S : ds_S) : ∀ k, (cs_F S k).1 = S.1
  | 0 => rfl
  | k + 1 => cs_1 S k
def ss_F (S : ds_S) : Nat → ds_S
  | 0 => S
  | k + 1 => ds_wI (ds_wR (ds_wJ (ss_F S k) 2 k 4611686018427387904) 1 k none) 15 k 0 0
theorem ss_6 (S : ds_S) : ∀ k, (ss_F S k).1 6 0 0 = S.1 6 0 0
  | 0 => rfl
  | k + 1 => ss_6 S k
def lf_z (S : ds_S) (x k : Nat) : Int64 := pe_cost S x k - S.2.1 0 x - S.2.1 1 k
def lf_step (S : ds_S) (x : Nat) (fr : Option Nat) (k : Nat) : ds_S := if S.1 15 k 0 = 0 then (if S.1 11 x k = 0 then (if lf_z S x k < S.2.1 2 k then ds_wR (ds_wJ S 2 k (lf_z S x k)) 1 k fr else S) else S) else S
def lf_F (S : ds_S) (x : Nat) (fr : Option Nat) : Nat → ds_S
  | 0 => S
  | k + 1 => lf_step (lf_F S x fr k) x fr k
theorem lf_1 (S : ds_S) (x : Nat) (fr : Option Nat) : ∀ k, (lf_F S x fr k).1 = S.1
  | 0 => rfl
  | k + 1 => by
    show (lf_step (lf_F S x fr k) x fr k).1 = S.1
    unfold lf_step
    have := lf_1 S x fr k
    split
    · split
      · split
        · exact this
        · exact this
      · exact this
    · exact this
def ns_F (S : ds_S) : Nat → Option Nat × Int64
  | 0 => (none, 4611686018427387904)
  | k + 1 => if S.1 15 k 0 = 0 then (if S.2.1 2 k < (ns_F S k).2 then (some k, S.2.1 2 k) else ns_F S k) else ns_F S k
theorem ns_lt (S : ds_S) : ∀ k d, (ns_F S k).1 = some d → d < k
  | 0, d, h => by cases h
  | k + 1, d, h => by
    unfold ns_F at h
    split at h
    · split at h
      · cases h; omega
      · have := ns_lt S k d h; omega
    · have := ns_lt S k d h; omega
def sp_step (S : ds_S) (by' : Int64) (k : Nat) : ds_S := if S.1 15 k 0 = 0 then (if S.2.1 2 k < 4611686018427387904 then ds_wJ S 2 k (S.2.1 2 k - by') else S) else (match S.2.2 0 k with
  | none => ds_wJ S 1 k (S.2.1 1 k - by')
  | some p => ds_wJ (ds_wJ S 1 k (S.2.1 1 k - by')) 0 p ((ds_wJ S 1 k (S.2.1 1 k - by')).2.1 0 p + by'))
def sp_F (S : ds_S) (by' : Int64) : Nat → ds_S
  | 0 => S
  | k + 1 => sp_step (sp_F S by' k) by' k
theorem sp_1 (S : ds_S) (by' : Int64) : ∀ k, (sp_F S by' k).1 = S.1
  | 0 => rfl
  | k + 1 => by
    show (sp_step (sp_F S by' k) by' k).1 = S.1
    unfold sp_step
    have := sp_1 S by' k
    split
    · split
      · exact this
      · exact this
    · split
      · exact this
      · exact this
theorem sp_2 (S : ds_S) (by' : Int64) : ∀ k, (sp_F S by' k).2.2 = S.2.2
  | 0 => rfl
  | k + 1 => by
    show (sp_step (sp_F S by' k) by' k).2.2 = S.2.2
    unfold sp_step
    have := sp_2 S by' k
    split
    · split
      · exact this
      · exact this
    · split
      · exact this
      · exact this
def tp_F (S : ds_S) : Nat → ds_S
  | 0 => S
  | k + 1 => match (tp_F S k).2.2 0 k with
    | none => tp_F S k
    | some p => ds_wI (tp_F S k) 13 p 0 (nI k)
theorem tp_2 (S : ds_S) : ∀ k, (tp_F S k).2 = S.2
  | 0 => rfl
  | k + 1 => by
    unfold tp_F
    split
    · exact tp_2 S k
    · exact tp_2 S k
theorem tp_6 (S : ds_S) : ∀ k, (tp_F S k).1 6 0 0 = S.1 6 0 0
  | 0 => rfl
  | k + 1 => by
    unfold tp_F
    split
    · exact tp_6 S k
    · exact tp_6 S k
def wo_F (S : ds_S) : Nat → Int32
  | 0 => 0
  | k + 1 => match S.2.2 0 k with
    | none => wo_F S k
    | some p => wo_F S k + S.1 10 p k
/-- sitters are persons, what is before a spot is a spot -/
def ma_V (S : ds_S) : Prop := (∀ d p, S.2.2 0 d = some p → p < 10) ∧ (∀ d d', S.2.2 1 d = some d' → d' < 14)
set_option maxHeartbeats 4000000 in
set_option maxRecDepth 100000 in
theorem c_Ma_clearSpots (l : Launch) (D : va_G) (ad : Nat → Nat → Nat) (cA : Nat → ClassId) (nb : Nat) (S : ds_S) (N : Nat) (hI : ds_I ad nb) (hN : N ≤ 14) : Ct_v l y_Ma_clearSpots b_Ma_clearSpots 3 none ({ frames := 1, cells := 0, slots := 0, locals := 21 } : Room) 0 0 D (ds_ty cA) (ds_A ad nb) [.ref (ad 2 0), .int (nI N)] (ds_P D ad cA nb S) (fun (u : ds_S) => u = cs_F (ds_wI S 6 0 0 (nI N)) N) (ds_P D ad cA nb) := by
  intro sz
  refine ct_of (by decide) (Nat.le_of_ble_eq_true rfl) ?_
  intro p e s m args below meth c hsz C hr hlk hnm hK
  have lp : ∀ (n k : Nat) , k ≤ N → N + 1 ≤ k + n → AW p l e ({ frames := 1, cells := 0, slots := 0, locals := 21 } : Room) s m args below meth c 3 0 0 (MQ below (va_Qv (fun (u : ds_S) => u = cs_F (ds_wI S 6 0 0 (nI N)) N) (fun u t => (ds_P D ad cA nb) u t.heap) (ct_A (ds_A ad nb) sz)) args s 0 0 (ct_A (ds_A ad nb) sz)) (ds_P D ad cA nb (cs_F (ds_wI S 6 0 0 (nI N)) k)) (ct_A (ds_A ad nb) sz) 12 [(0, .ref (ad 2 0)), (1, .int (nI N)), (2, .int (nI k))] [] := by
    intro n
    induction n with
    | zero => intro k h1 h2; exact absurd h2 (by omega)
    | succ n ih =>
      intro k hk hn
      refine aw_iload_n C d_Ma_clearSpots_12 rfl (j := 2) rfl ?_
      refine aw_aload_n C d_Ma_clearSpots_13 rfl (j := 0) rfl ?_
      refine gt_Ma_Ma_spotCount C hK  d_Ma_clearSpots_14 ?_
      refine aw_icmp_ge (tgt := 46) C d_Ma_clearSpots_17 (by decide) (fun c_17 => ?_) (fun c_17 => ?_)
      · have hkN : k = N := by rw [cs_1, show (ds_wI S 6 0 0 (nI N)).1 6 0 0 = nI N from rfl] at c_17; have := (nI_leI (by omega) (by omega)).mp c_17; omega
        subst hkN
        exact aw_vret C hr hlk _ rfl (fun H h => h) d_Ma_clearSpots_46
      · have hlt : k < N := by rw [cs_1, show (ds_wI S 6 0 0 (nI N)).1 6 0 0 = nI N from rfl] at c_17; exact Nat.lt_of_not_le (fun h => c_17 (nI_le h (by omega)))
        refine aw_aload_n C d_Ma_clearSpots_20 rfl (j := 0) rfl ?_
        refine gt_Ma_Ma_spots C hK  d_Ma_clearSpots_21 ?_
        refine aw_iload_n C d_Ma_clearSpots_24 rfl (j := 2) rfl ?_
        refine al_3 C hK  k rfl (show k < 14 by omega) d_Ma_clearSpots_25 ?_
        refine aw_null C d_Ma_clearSpots_26 ?_
        refine pt_Ma_Sp_sitter (x := none) C hK hI (show k < 14 by omega)  d_Ma_clearSpots_27 ?_
        refine aw_aload_n C d_Ma_clearSpots_30 rfl (j := 0) rfl ?_
        refine gt_Ma_Ma_spots C hK  d_Ma_clearSpots_31 ?_
        refine aw_iload_n C d_Ma_clearSpots_34 rfl (j := 2) rfl ?_
        refine al_3 C hK  k rfl (show k < 14 by omega) d_Ma_clearSpots_35 ?_
        refine aw_lconst (v := 0) C d_Ma_clearSpots_36 (by decide) ?_
        refine pt_Ma_Sp_price (x := 0) C hK hI (show k < 14 by omega)  d_Ma_clearSpots_37 ?_
        refine aw_iinc (i := 2) (v := (nI (k + 1))) (lv' := [(2, .int (nI (k + 1))), (0, .ref (ad 2 0)), (1, .int (nI N))]) C d_Ma_clearSpots_40 (j := 2) rfl (nI_1 k) (by decide) rfl ?_
        refine aw_goto (tgt := 12) C d_Ma_clearSpots_43 (by decide) ?_
        exact aw_lv [1, 2, 0] rfl (ih (k + 1) (by omega) (by omega))
  refine aw_lv (lv' := [(0, .ref (ad 2 0)), (1, .int (nI N))]) [0, 1] rfl ?_
  refine aw_aload_n C d_Ma_clearSpots_0 rfl (j := 0) rfl ?_
  refine aw_iload_n C d_Ma_clearSpots_1 rfl (j := 1) rfl ?_
  refine aw_bipush (v := 14) C d_Ma_clearSpots_2 (by decide) ?_
  refine aw_mmin C (by decide) (Nat.le_of_ble_eq_true rfl) (by decide) (by decide) d_Ma_clearSpots_4 ?_
  rw [show (if (14 : Int32) < nI N then (14 : Int32) else nI N) = nI N from if_neg (by rw [show (14 : Int32) = nI 14 from rfl]; exact nI_nlt hN (by omega))]
  refine pt_Ma_Ma_spotCount (x := (nI N)) C hK hI   d_Ma_clearSpots_7 ?_
  refine aw_iconst (v := 0) C d_Ma_clearSpots_10 (by decide) ?_
  refine aw_istore_n (i := 2) (lv' := [(2, .int 0), (0, .ref (ad 2 0)), (1, .int (nI N))]) C d_Ma_clearSpots_11 rfl (by decide) rfl ?_
  exact aw_lv [1, 2, 0] rfl (lp (N + 1) 0 (by omega) (by omega))
set_option maxHeartbeats 4000000 in
set_option maxRecDepth 100000 in
theorem c_Ma_startSearch (l : Launch) (D : va_G) (ad : Nat → Nat → Nat) (cA : Nat → ClassId) (nb : Nat) (S : ds_S) (N : Nat) (hI : ds_I ad nb) (hN : N ≤ 14) (h6 : S.1 6 0 0 = nI N) : Ct_v l y_Ma_startSearch b_Ma_startSearch 2 none ({ frames := 0, cells := 0, slots := 0, locals := 0 } : Room) 0 0 D (ds_ty cA) (ds_A ad nb) [.ref (ad 2 0)] (ds_P D ad cA nb S) (fun (u : ds_S) => u = ss_F S N) (ds_P D ad cA nb) := by
  intro sz
  refine ct_of (by decide) (Nat.le_of_ble_eq_true rfl) ?_
  intro p e s m args below meth c hsz C hr hlk hnm hK
  have lp : ∀ (n k : Nat) , k ≤ N → N + 1 ≤ k + n → AW p l e ({ frames := 0, cells := 0, slots := 0, locals := 0 } : Room) s m args below meth c 2 0 0 (MQ below (va_Qv (fun (u : ds_S) => u = ss_F S N) (fun u t => (ds_P D ad cA nb) u t.heap) (ct_A (ds_A ad nb) sz)) args s 0 0 (ct_A (ds_A ad nb) sz)) (ds_P D ad cA nb (ss_F S k)) (ct_A (ds_A ad nb) sz) 2 [(0, .ref (ad 2 0)), (1, .int (nI k))] [] := by
    intro n
    induction n with
    | zero => intro k h1 h2; exact absurd h2 (by omega)
    | succ n ih =>
      intro k hk hn
      refine aw_iload_n C d_Ma_startSearch_2 rfl (j := 1) rfl ?_
      refine aw_aload_n C d_Ma_startSearch_3 rfl (j := 0) rfl ?_
      refine gt_Ma_Ma_spotCount C hK  d_Ma_startSearch_4 ?_
      refine aw_icmp_ge (tgt := 48) C d_Ma_startSearch_7 (by decide) (fun c_7 => ?_) (fun c_7 => ?_)
      · have hkN : k = N := by rw [ss_6, h6] at c_7; have := (nI_leI (by omega) (by omega)).mp c_7; omega
        subst hkN
        exact aw_vret C hr hlk _ rfl (fun H h => h) d_Ma_startSearch_48
      · have hlt : k < N := by rw [ss_6, h6] at c_7; exact Nat.lt_of_not_le (fun h => c_7 (nI_le h (by omega)))
        refine aw_aload_n C d_Ma_startSearch_10 rfl (j := 0) rfl ?_
        refine gt_Ma_Ma_spots C hK  d_Ma_startSearch_11 ?_
        refine aw_iload_n C d_Ma_startSearch_14 rfl (j := 1) rfl ?_
        refine al_3 C hK  k rfl (show k < 14 by omega) d_Ma_startSearch_15 ?_
        refine aw_ldc2 C kl_Ma_4611686018427387904 d_Ma_startSearch_16 ?_
        refine pt_Ma_Sp_distance (x := 4611686018427387904) C hK hI (show k < 14 by omega)  d_Ma_startSearch_19 ?_
        refine aw_aload_n C d_Ma_startSearch_22 rfl (j := 0) rfl ?_
        refine gt_Ma_Ma_spots C hK  d_Ma_startSearch_23 ?_
        refine aw_iload_n C d_Ma_startSearch_26 rfl (j := 1) rfl ?_
        refine al_3 C hK  k rfl (show k < 14 by omega) d_Ma_startSearch_27 ?_
        refine aw_null C d_Ma_startSearch_28 ?_
        refine pt_Ma_Sp_before (x := none) C hK hI (show k < 14 by omega)  d_Ma_startSearch_29 ?_
        refine aw_aload_n C d_Ma_startSearch_32 rfl (j := 0) rfl ?_
        refine gt_Ma_Ma_spots C hK  d_Ma_startSearch_33 ?_
        refine aw_iload_n C d_Ma_startSearch_36 rfl (j := 1) rfl ?_
        refine al_3 C hK  k rfl (show k < 14 by omega) d_Ma_startSearch_37 ?_
        refine aw_iconst (v := 0) C d_Ma_startSearch_38 (by decide) ?_
        refine pt_Ma_Sp_reached (x := 0) C hK hI (show k < 14 by omega) (Or.inl rfl) d_Ma_startSearch_39 ?_
        refine aw_iinc (i := 1) (v := (nI (k + 1))) (lv' := [(1, .int (nI (k + 1))), (0, .ref (ad 2 0))]) C d_Ma_startSearch_42 (j := 1) rfl (nI_1 k) (by decide) rfl ?_
        refine aw_goto (tgt := 2) C d_Ma_startSearch_45 (by decide) ?_
        exact aw_lv [1, 0] rfl (ih (k + 1) (by omega) (by omega))
  refine aw_lv (lv' := [(0, .ref (ad 2 0))]) [0] rfl ?_
  refine aw_iconst (v := 0) C d_Ma_startSearch_0 (by decide) ?_
  refine aw_istore_n (i := 1) (lv' := [(1, .int 0), (0, .ref (ad 2 0))]) C d_Ma_startSearch_1 rfl (by decide) rfl ?_
  exact aw_lv [1, 0] rfl (lp (N + 1) 0 (by omega) (by omega))
set_option maxHeartbeats 4000000 in
set_option maxRecDepth 100000 in
theorem c_Ma_lookFrom (l : Launch) (D : va_G) (ad : Nat → Nat → Nat) (cA : Nat → ClassId) (nb : Nat) (S : ds_S) (N x : Nat) (fr : Option Nat) (hI : ds_I ad nb) (hN : N ≤ 14) (h6 : S.1 6 0 0 = nI N) (hx : x < 10) : Ct_v l y_Ma_lookFrom b_Ma_lookFrom 7 none ({ frames := 2, cells := 0, slots := 0, locals := 44 } : Room) 0 0 D (ds_ty cA) (ds_A ad nb) [.ref (ad 2 0), .ref (ad 10 x), va_rf (fr.map (ad 13))] (ds_P D ad cA nb S) (fun (u : ds_S) => u = lf_F S x fr N) (ds_P D ad cA nb) := by
  intro sz
  refine ct_of (by decide) (by simp [lg_sl, va_rf_cat, ct_ref, ct_int, ct_long]) ?_
  intro p e s m args below meth c hsz C hr hlk hnm hK
  have lp : ∀ (n k : Nat) , k ≤ N → N + 1 ≤ k + n → AW p l e ({ frames := 2, cells := 0, slots := 0, locals := 44 } : Room) s m args below meth c 7 0 0 (MQ below (va_Qv (fun (u : ds_S) => u = lf_F S x fr N) (fun u t => (ds_P D ad cA nb) u t.heap) (ct_A (ds_A ad nb) sz)) args s 0 0 (ct_A (ds_A ad nb) sz)) (ds_P D ad cA nb (lf_F S x fr k)) (ct_A (ds_A ad nb) sz) 2 [(0, .ref (ad 2 0)), (1, .ref (ad 10 x)), (2, va_rf (fr.map (ad 13))), (3, .int (nI k))] [] := by
    intro n
    induction n with
    | zero => intro k h1 h2; exact absurd h2 (by omega)
    | succ n ih =>
      intro k hk hn
      refine aw_iload_n C d_Ma_lookFrom_2 rfl (j := 3) rfl ?_
      refine aw_aload_n C d_Ma_lookFrom_3 rfl (j := 0) rfl ?_
      refine gt_Ma_Ma_spotCount C hK  d_Ma_lookFrom_4 ?_
      refine aw_icmp_ge (tgt := 86) C d_Ma_lookFrom_7 (by decide) (fun c_7 => ?_) (fun c_7 => ?_)
      · have hkN : k = N := by rw [lf_1, h6] at c_7; have := (nI_leI (by omega) (by omega)).mp c_7; omega
        subst hkN
        exact aw_vret C hr hlk _ rfl (fun H h => h) d_Ma_lookFrom_86
      · have hlt : k < N := by rw [lf_1, h6] at c_7; exact Nat.lt_of_not_le (fun h => c_7 (nI_le h (by omega)))
        refine aw_aload_n C d_Ma_lookFrom_10 rfl (j := 0) rfl ?_
        refine gt_Ma_Ma_spots C hK  d_Ma_lookFrom_11 ?_
        refine aw_iload_n C d_Ma_lookFrom_14 rfl (j := 3) rfl ?_
        refine al_3 C hK  k rfl (show k < 14 by omega) d_Ma_lookFrom_15 ?_
        refine aw_astore (i := 4) (lv' := [(4, .ref (ad 13 k)), (0, .ref (ad 2 0)), (1, .ref (ad 10 x)), (2, va_rf (fr.map (ad 13))), (3, .int (nI k))]) C d_Ma_lookFrom_16 (by decide) rfl ?_
        refine aw_aload C d_Ma_lookFrom_18 (j := 0) rfl ?_
        refine gt_Ma_Sp_reached C hK (show k < 14 by omega) d_Ma_lookFrom_20 ?_
        refine aw_if_ne (tgt := 80) C d_Ma_lookFrom_23 (by decide) (fun c_23 => ?_) (fun c_23 => ?_)
        · refine aw_iinc (i := 3) (v := (nI (k + 1))) (lv' := [(3, .int (nI (k + 1))), (4, .ref (ad 13 k)), (0, .ref (ad 2 0)), (1, .ref (ad 10 x)), (2, va_rf (fr.map (ad 13)))]) C d_Ma_lookFrom_80 (j := 4) rfl (nI_1 k) (by decide) (by simp [va_rf_cat, ct_ref, ct_int, ct_long]) ?_
          refine aw_goto (tgt := 2) C d_Ma_lookFrom_83 (by decide) ?_
          have e9 : lf_F S x fr (k + 1) = lf_F S x fr k := by
            show lf_step (lf_F S x fr k) x fr k = _
            unfold lf_step
            rw [if_neg c_23]
          rw [← e9]
          exact aw_lv [2, 3, 4, 0] rfl (ih (k + 1) (by omega) (by omega))
        · refine aw_aload_n C d_Ma_lookFrom_26 rfl (j := 2) rfl ?_
          refine gt_Ma_Pe_barred C hK hx d_Ma_lookFrom_27 ?_
          refine aw_iload_n C d_Ma_lookFrom_30 rfl (j := 4) rfl ?_
          refine al_12 C hK hx k rfl (show k < 14 by omega) d_Ma_lookFrom_31 ?_
          refine aw_if_eq (tgt := 38) C d_Ma_lookFrom_32 (by decide) (fun c_32 => ?_) (fun c_32 => ?_)
          · refine aw_aload_n C d_Ma_lookFrom_38 rfl (j := 2) rfl ?_
            refine aw_iload_n C d_Ma_lookFrom_39 rfl (j := 4) rfl ?_
            refine aw_callVl (P9 := fun r u => ds_P D ad cA nb u) [.int (nI k)] C hK (c_Pe_costAt l D ad cA nb (lf_F S x fr k) x k hx (by omega)) (cw_Ma_Pe_costAt C.2.2.2.2 rfl rfl (by decide)) rfl (fun H h => aw_recv hK rfl (h 10 x hx)) (fun H h => h) (fun q h => Or.inl h) (fun q h => Or.inr (by rw [← hsz]; exact h)) rfl (Nat.le_of_ble_eq_true rfl) d_Ma_lookFrom_40 (by decide) (fun H H1 r u _ _ hB _ _ => hB) ?_
            rintro r u ⟨rfl, rfl⟩
            refine aw_aload_n C d_Ma_lookFrom_43 rfl (j := 2) rfl ?_
            refine gt_Ma_Pe_price C hK hx d_Ma_lookFrom_44 ?_
            refine aw_lsub C d_Ma_lookFrom_47 ?_
            refine aw_topl (fun z_47 hz_47 => ?_)
            refine aw_aload C d_Ma_lookFrom_48 (j := 0) rfl ?_
            refine gt_Ma_Sp_price C hK (show k < 14 by omega) d_Ma_lookFrom_50 ?_
            refine aw_lsub C d_Ma_lookFrom_53 ?_
            refine aw_topl (fun z_53 hz_53 => ?_)
            refine aw_lstore (i := 5) (lv' := [(5, .long z_53), (4, .ref (ad 13 k)), (0, .ref (ad 2 0)), (1, .ref (ad 10 x)), (2, va_rf (fr.map (ad 13))), (3, .int (nI k))]) C d_Ma_lookFrom_54 (by decide) rfl ?_
            refine aw_lload C d_Ma_lookFrom_56 (j := 0) rfl ?_
            refine aw_aload C d_Ma_lookFrom_58 (j := 1) rfl ?_
            refine gt_Ma_Sp_distance C hK (show k < 14 by omega) d_Ma_lookFrom_60 ?_
            refine aw_lcmp C d_Ma_lookFrom_63 ?_
            refine aw_topi (fun z_63 hz_63 => ?_)
            refine aw_if_ge (tgt := 80) C d_Ma_lookFrom_64 (by decide) (fun c_64 => ?_) (fun c_64 => ?_)
            · refine aw_iinc (i := 3) (v := (nI (k + 1))) (lv' := [(3, .int (nI (k + 1))), (5, .long z_53), (4, .ref (ad 13 k)), (0, .ref (ad 2 0)), (1, .ref (ad 10 x)), (2, va_rf (fr.map (ad 13)))]) C d_Ma_lookFrom_80 (j := 5) rfl (nI_1 k) (by decide) (by simp [va_rf_cat, ct_ref, ct_int, ct_long]) ?_
              refine aw_goto (tgt := 2) C d_Ma_lookFrom_83 (by decide) ?_
              have e9 : lf_F S x fr (k + 1) = lf_F S x fr k := by
                show lf_step (lf_F S x fr k) x fr k = _
                unfold lf_step
                rw [if_pos c_23, if_pos c_32, if_neg (fun h => by rw [hz_63] at c_64; have h9 := (lg_cmp_ge _ _).mp c_64; rw [hz_53, hz_47] at h9; unfold lf_z at h; exact absurd h (Int64.not_lt.mpr h9))]
              rw [← e9]
              exact aw_lv [3, 4, 5, 0] rfl (ih (k + 1) (by omega) (by omega))
            · refine aw_aload C d_Ma_lookFrom_67 (j := 1) rfl ?_
              refine aw_lload C d_Ma_lookFrom_69 (j := 0) rfl ?_
              refine pt_Ma_Sp_distance (x := z_53) C hK hI (show k < 14 by omega)  d_Ma_lookFrom_71 ?_
              refine aw_aload C d_Ma_lookFrom_74 (j := 1) rfl ?_
              refine aw_aloadq_n C d_Ma_lookFrom_76 rfl (j := 4) rfl ?_
              refine pt_Ma_Sp_before (x := fr) C hK hI (show k < 14 by omega)  d_Ma_lookFrom_77 ?_
              refine aw_iinc (i := 3) (v := (nI (k + 1))) (lv' := [(3, .int (nI (k + 1))), (5, .long z_53), (4, .ref (ad 13 k)), (0, .ref (ad 2 0)), (1, .ref (ad 10 x)), (2, va_rf (fr.map (ad 13)))]) C d_Ma_lookFrom_80 (j := 5) rfl (nI_1 k) (by decide) (by simp [va_rf_cat, ct_ref, ct_int, ct_long]) ?_
              refine aw_goto (tgt := 2) C d_Ma_lookFrom_83 (by decide) ?_
              have e9 : lf_F S x fr (k + 1) = ds_wR (ds_wJ (lf_F S x fr k) 2 k z_53) 1 k fr := by
                show lf_step (lf_F S x fr k) x fr k = _
                unfold lf_step
                rw [if_pos c_23, if_pos c_32, if_pos (by rw [hz_63] at c_64; have h9 := fun h => c_64 ((lg_cmp_ge _ _).mpr h); rw [hz_53, hz_47] at h9; unfold lf_z; exact Int64.not_le.mp h9), show lf_z (lf_F S x fr k) x k = z_53 by unfold lf_z; rw [hz_53, hz_47]]
              rw [← e9]
              exact aw_lv [3, 4, 5, 0] rfl (ih (k + 1) (by omega) (by omega))
          · refine aw_goto (tgt := 80) C d_Ma_lookFrom_35 (by decide) ?_
            refine aw_iinc (i := 3) (v := (nI (k + 1))) (lv' := [(3, .int (nI (k + 1))), (4, .ref (ad 13 k)), (0, .ref (ad 2 0)), (1, .ref (ad 10 x)), (2, va_rf (fr.map (ad 13)))]) C d_Ma_lookFrom_80 (j := 4) rfl (nI_1 k) (by decide) (by simp [va_rf_cat, ct_ref, ct_int, ct_long]) ?_
            refine aw_goto (tgt := 2) C d_Ma_lookFrom_83 (by decide) ?_
            have e9 : lf_F S x fr (k + 1) = lf_F S x fr k := by
              show lf_step (lf_F S x fr k) x fr k = _
              unfold lf_step
              rw [if_pos c_23, if_neg c_32]
            rw [← e9]
            exact aw_lv [2, 3, 4, 0] rfl (ih (k + 1) (by omega) (by omega))
  refine aw_lv (lv' := [(0, .ref (ad 2 0)), (1, .ref (ad 10 x)), (2, va_rf (fr.map (ad 13)))]) [0, 1, 2] rfl ?_
  refine aw_iconst (v := 0) C d_Ma_lookFrom_0 (by decide) ?_
  refine aw_istore_n (i := 3) (lv' := [(3, .int 0), (0, .ref (ad 2 0)), (1, .ref (ad 10 x)), (2, va_rf (fr.map (ad 13)))]) C d_Ma_lookFrom_1 rfl (by decide) (by simp [va_rf_cat, ct_ref, ct_int, ct_long]) ?_
  exact aw_lv [1, 2, 3, 0] rfl (lp (N + 1) 0 (by omega) (by omega))
