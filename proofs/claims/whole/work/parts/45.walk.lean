def wf_free (S : ds_S) (x : Int32) : Int32 := if S.1 9 0 0 &&& ((1 : Int32) <<< (x &&& 31)) = 0 then 1 else 0
def go_4 (S : ds_S) (p c : Nat) (x : Int32) : ds_S := ds_wI (ds_wI (ds_wI (ds_wI S 16 0 c (nI p)) 17 0 c (S.1 14 p 0)) 18 0 c x) 7 0 0 (nI (c + 1))
def go_5 (S : ds_S) (p c : Nat) (x : Int32) : ds_S := if S.1 14 p 0 = -1 then go_4 S p c x else ds_wI (go_4 S p c x) 9 0 0 (S.1 9 0 0 &&& (((1 : Int32) <<< (S.1 14 p 0 &&& 31)) ^^^ (-1)))
def go_F (S : ds_S) (p c : Nat) (x : Int32) : ds_S := ds_wI (ds_wI (go_5 S p c x) 9 0 0 ((go_5 S p c x).1 9 0 0 ||| ((1 : Int32) <<< (x &&& 31)))) 14 p 0 x
theorem go_7 (S : ds_S) (p c : Nat) (x : Int32) : (go_F S p c x).1 7 0 0 = nI (c + 1) := by
  show (go_5 S p c x).1 7 0 0 = nI (c + 1)
  unfold go_5
  split <;> rfl
def sa_0 (S : ds_S) : ds_S := ds_wI (ds_wI (ds_wI S 7 0 0 0) 8 0 0 0) 9 0 0 0
def sa_F (S : ds_S) : Nat → ds_S
  | 0 => sa_0 S
  | k + 1 => if (sa_F S k).1 12 k 0 = -1 then ds_wI (sa_F S k) 14 k 0 ((sa_F S k).1 12 k 0) else ds_wI (ds_wI (sa_F S k) 14 k 0 ((sa_F S k).1 12 k 0)) 9 0 0 ((sa_F S k).1 9 0 0 ||| ((1 : Int32) <<< ((sa_F S k).1 12 k 0 &&& 31)))
theorem sa_7 (S : ds_S) : ∀ k, (sa_F S k).1 7 0 0 = 0
  | 0 => rfl
  | k + 1 => by
    unfold sa_F
    split
    · exact sa_7 S k
    · exact sa_7 S k
def fw_L (S : ds_S) : Nat → Nat → Option Nat
  | 0, _ => none
  | n + 1, k => if S.1 14 k 0 = S.1 13 k 0 then fw_L S n (k + 1) else (if wf_free S (S.1 13 k 0) = 0 then fw_L S n (k + 1) else some k)
def fn_L (S : ds_S) : Nat → Nat → Option Nat
  | 0, _ => none
  | n + 1, k => if S.1 14 k 0 = S.1 13 k 0 then fn_L S n (k + 1) else some k
def ff_L (S : ds_S) : Nat → Nat → Int32
  | 0, _ => -1
  | n + 1, k => if wf_free S (nI k) = 0 then ff_L S n (k + 1) else nI k
theorem fw_lt {S : ds_S} : ∀ n k p, fw_L S n k = some p → p < k + n
  | 0, _, _, h => by cases h
  | n + 1, k, p, h => by
    unfold fw_L at h
    split at h
    · have := fw_lt n (k + 1) p h; omega
    · split at h
      · have := fw_lt n (k + 1) p h; omega
      · cases h; omega
theorem fn_lt {S : ds_S} : ∀ n k p, fn_L S n k = some p → p < k + n
  | 0, _, _, h => by cases h
  | n + 1, k, p, h => by
    unfold fn_L at h
    split at h
    · have := fn_lt n (k + 1) p h; omega
    · cases h; omega
/-- the steps: n of 15 are left, k are gone -/
def pl_L (M N : Nat) : Nat → Nat → ds_S → ds_S
  | 0, _, S => S
  | n + 1, k, S => match fw_L S M 0 with
    | some p => pl_L M N n (k + 1) (go_F S p k (S.1 13 p 0))
    | none => match fn_L S M 0 with
      | none => S
      | some p => if ff_L S N 0 = -1 then ds_wI S 8 0 0 1 else pl_L M N n (k + 1) (go_F S p k (ff_L S N 0))
set_option maxHeartbeats 4000000 in
set_option maxRecDepth 100000 in
theorem c_Wa_isFree (l : Launch) (D : va_G) (ad : Nat → Nat → Nat) (cA : Nat → ClassId) (nb : Nat) (S : ds_S) (x : Int32) : Ct_i l y_Wa_isFree b_Wa_isFree 2 (some .boolean) ({ frames := 0, cells := 0, slots := 0, locals := 0 } : Room) 0 0 D (ds_ty cA) (ds_A ad nb) [.ref (ad 4 0), .int x] (ds_P D ad cA nb S) (fun (r : Int32) (u : ds_S) => S = u ∧ r = wf_free S x) (ds_P D ad cA nb) := by
  intro sz
  refine ct_of (by decide) (Nat.le_of_ble_eq_true rfl) ?_
  intro p e s m args below meth c hsz C hr hlk hnm hK
  refine aw_lv (lv' := [(0, .ref (ad 4 0)), (1, .int x)]) [0, 1] rfl ?_
  refine aw_aload_n C d_Wa_isFree_0 rfl (j := 0) rfl ?_
  refine gt_Wa_Wa_taken C hK  d_Wa_isFree_1 ?_
  refine aw_iconst (v := 1) C d_Wa_isFree_4 (by decide) ?_
  refine aw_iload_n C d_Wa_isFree_5 rfl (j := 1) rfl ?_
  refine aw_ishl C d_Wa_isFree_6 ?_
  refine aw_iand C d_Wa_isFree_7 ?_
  refine aw_if_ne (tgt := 15) C d_Wa_isFree_8 (by decide) (fun c_8 => ?_) (fun c_8 => ?_)
  · refine aw_iconst (v := 0) C d_Wa_isFree_15 (by decide) ?_
    exact aw_zret C hr hlk rfl S ⟨rfl, by unfold wf_free; rw [if_neg c_8]⟩ (fun H h => h) d_Wa_isFree_16
  · refine aw_iconst (v := 1) C d_Wa_isFree_11 (by decide) ?_
    refine aw_goto (tgt := 16) C d_Wa_isFree_12 (by decide) ?_
    exact aw_zret C hr hlk rfl S ⟨rfl, by unfold wf_free; rw [if_pos c_8]⟩ (fun H h => h) d_Wa_isFree_16
set_option maxHeartbeats 4000000 in
set_option maxRecDepth 100000 in
theorem c_Wa_go (l : Launch) (D : va_G) (ad : Nat → Nat → Nat) (cA : Nat → ClassId) (nb : Nat) (S : ds_S) (g9 c9 : Nat) (x : Int32) (hI : ds_I ad nb) (hp : g9 < 10) (hc : S.1 7 0 0 = nI c9) (h15 : c9 < 15) : Ct_v l y_Wa_go b_Wa_go 3 none ({ frames := 0, cells := 0, slots := 0, locals := 0 } : Room) 0 0 D (ds_ty cA) (ds_A ad nb) [.ref (ad 4 0), .ref (ad 10 g9), .int x] (ds_P D ad cA nb S) (fun (u : ds_S) => u = go_F S g9 c9 x) (ds_P D ad cA nb) := by
  intro sz
  refine ct_of (by decide) (Nat.le_of_ble_eq_true rfl) ?_
  intro p e s m args below meth c hsz C hr hlk hnm hK
  refine aw_lv (lv' := [(0, .ref (ad 4 0)), (1, .ref (ad 10 g9)), (2, .int x)]) [0, 1, 2] rfl ?_
  refine aw_aload_n C d_Wa_go_0 rfl (j := 0) rfl ?_
  refine gt_Wa_Wa_count C hK  d_Wa_go_1 ?_
  refine aw_bipush (v := 15) C d_Wa_go_4 (by decide) ?_
  refine aw_icmp_lt (tgt := 10) C d_Wa_go_6 (by decide) (fun c_6 => ?_) (fun c_6 => ?_)
  · refine aw_aload_n C d_Wa_go_10 rfl (j := 0) rfl ?_
    refine gt_Wa_Wa_goers C hK  d_Wa_go_11 ?_
    refine aw_aload_n C d_Wa_go_14 rfl (j := 0) rfl ?_
    refine gt_Wa_Wa_count C hK  d_Wa_go_15 ?_
    refine aw_aload_n C d_Wa_go_18 rfl (j := 1) rfl ?_
    refine gt_Wa_Pe_number C hK hp d_Wa_go_19 ?_
    refine as_5 C hK hI   c9 hc h15 d_Wa_go_22 ?_
    refine aw_aload_n C d_Wa_go_23 rfl (j := 0) rfl ?_
    refine gt_Wa_Wa_starts C hK  d_Wa_go_24 ?_
    refine aw_aload_n C d_Wa_go_27 rfl (j := 0) rfl ?_
    refine gt_Wa_Wa_count C hK  d_Wa_go_28 ?_
    refine aw_aload_n C d_Wa_go_31 rfl (j := 1) rfl ?_
    refine gt_Wa_Pe_place C hK hp d_Wa_go_32 ?_
    refine as_6 C hK hI   c9 hc h15 d_Wa_go_35 ?_
    refine aw_aload_n C d_Wa_go_36 rfl (j := 0) rfl ?_
    refine gt_Wa_Wa_goals C hK  d_Wa_go_37 ?_
    refine aw_aload_n C d_Wa_go_40 rfl (j := 0) rfl ?_
    refine gt_Wa_Wa_count C hK  d_Wa_go_41 ?_
    refine aw_iload_n C d_Wa_go_44 rfl (j := 2) rfl ?_
    refine as_7 C hK hI   c9 hc h15 d_Wa_go_45 ?_
    refine aw_aload_n C d_Wa_go_46 rfl (j := 0) rfl ?_
    refine aw_dup C d_Wa_go_47 rfl ?_
    refine gt_Wa_Wa_count C hK  d_Wa_go_48 ?_
    refine aw_iconst (v := 1) C d_Wa_go_51 (by decide) ?_
    refine aw_iadd C d_Wa_go_52 ?_
    refine aw_topi (fun z_52 hz_52 => ?_)
    obtain rfl : z_52 = nI (c9 + 1) := by rw [hz_52]; show S.1 7 0 0 + 1 = _; rw [hc]; exact nI_1 c9
    refine pt_Wa_Wa_count (x := (nI (c9 + 1))) C hK hI   d_Wa_go_53 ?_
    refine aw_aload_n C d_Wa_go_56 rfl (j := 1) rfl ?_
    refine gt_Wa_Pe_place C hK hp d_Wa_go_57 ?_
    refine aw_iconst (v := (-1)) C d_Wa_go_60 (by decide) ?_
    refine aw_icmp_eq (tgt := 81) C d_Wa_go_61 (by decide) (fun c_61 => ?_) (fun c_61 => ?_)
    · refine aw_aload_n C d_Wa_go_81 rfl (j := 0) rfl ?_
      refine aw_dup C d_Wa_go_82 rfl ?_
      refine gt_Wa_Wa_taken C hK  d_Wa_go_83 ?_
      refine aw_iconst (v := 1) C d_Wa_go_86 (by decide) ?_
      refine aw_iload_n C d_Wa_go_87 rfl (j := 2) rfl ?_
      refine aw_ishl C d_Wa_go_88 ?_
      refine aw_ior C d_Wa_go_89 ?_
      refine pt_Wa_Wa_taken (x := ((((ds_wI (ds_wI (ds_wI (ds_wI S 16 0 c9 ((nI g9))) 17 0 c9 (((ds_wI S 16 0 c9 ((nI g9))).1 14 g9 0))) 18 0 c9 x) 7 0 0 ((nI (c9 + 1)))).1 9 0 0)) ||| ((1 <<< (x &&& 31))))) C hK hI   d_Wa_go_90 ?_
      refine aw_aload_n C d_Wa_go_93 rfl (j := 1) rfl ?_
      refine aw_iload_n C d_Wa_go_94 rfl (j := 2) rfl ?_
      refine pt_Wa_Pe_place (x := x) C hK hI hp  d_Wa_go_95 ?_
      exact aw_vret C hr hlk _ (by have c9x : S.1 14 g9 0 = -1 := c_61; unfold go_F go_5; rw [if_pos c9x]; rfl) (fun H h => h) d_Wa_go_98
    · refine aw_aload_n C d_Wa_go_64 rfl (j := 0) rfl ?_
      refine aw_dup C d_Wa_go_65 rfl ?_
      refine gt_Wa_Wa_taken C hK  d_Wa_go_66 ?_
      refine aw_iconst (v := 1) C d_Wa_go_69 (by decide) ?_
      refine aw_aload_n C d_Wa_go_70 rfl (j := 1) rfl ?_
      refine gt_Wa_Pe_place C hK hp d_Wa_go_71 ?_
      refine aw_ishl C d_Wa_go_74 ?_
      refine aw_iconst (v := (-1)) C d_Wa_go_75 (by decide) ?_
      refine aw_ixor C d_Wa_go_76 ?_
      refine aw_iand C d_Wa_go_77 ?_
      refine pt_Wa_Wa_taken (x := ((((ds_wI (ds_wI (ds_wI (ds_wI S 16 0 c9 ((nI g9))) 17 0 c9 (((ds_wI S 16 0 c9 ((nI g9))).1 14 g9 0))) 18 0 c9 x) 7 0 0 ((nI (c9 + 1)))).1 9 0 0)) &&& ((((1 <<< ((((ds_wI (ds_wI (ds_wI (ds_wI S 16 0 c9 ((nI g9))) 17 0 c9 (((ds_wI S 16 0 c9 ((nI g9))).1 14 g9 0))) 18 0 c9 x) 7 0 0 ((nI (c9 + 1)))).1 14 g9 0)) &&& 31))) ^^^ ((-1)))))) C hK hI   d_Wa_go_78 ?_
      refine aw_aload_n C d_Wa_go_81 rfl (j := 0) rfl ?_
      refine aw_dup C d_Wa_go_82 rfl ?_
      refine gt_Wa_Wa_taken C hK  d_Wa_go_83 ?_
      refine aw_iconst (v := 1) C d_Wa_go_86 (by decide) ?_
      refine aw_iload_n C d_Wa_go_87 rfl (j := 2) rfl ?_
      refine aw_ishl C d_Wa_go_88 ?_
      refine aw_ior C d_Wa_go_89 ?_
      refine pt_Wa_Wa_taken (x := ((((ds_wI (ds_wI (ds_wI (ds_wI (ds_wI S 16 0 c9 ((nI g9))) 17 0 c9 (((ds_wI S 16 0 c9 ((nI g9))).1 14 g9 0))) 18 0 c9 x) 7 0 0 ((nI (c9 + 1)))) 9 0 0 (((((ds_wI (ds_wI (ds_wI (ds_wI S 16 0 c9 ((nI g9))) 17 0 c9 (((ds_wI S 16 0 c9 ((nI g9))).1 14 g9 0))) 18 0 c9 x) 7 0 0 ((nI (c9 + 1)))).1 9 0 0)) &&& ((((1 <<< ((((ds_wI (ds_wI (ds_wI (ds_wI S 16 0 c9 ((nI g9))) 17 0 c9 (((ds_wI S 16 0 c9 ((nI g9))).1 14 g9 0))) 18 0 c9 x) 7 0 0 ((nI (c9 + 1)))).1 14 g9 0)) &&& 31))) ^^^ ((-1))))))).1 9 0 0)) ||| ((1 <<< (x &&& 31))))) C hK hI   d_Wa_go_90 ?_
      refine aw_aload_n C d_Wa_go_93 rfl (j := 1) rfl ?_
      refine aw_iload_n C d_Wa_go_94 rfl (j := 2) rfl ?_
      refine pt_Wa_Pe_place (x := x) C hK hI hp  d_Wa_go_95 ?_
      exact aw_vret C hr hlk _ (by have c9x : ¬ S.1 14 g9 0 = -1 := c_61; unfold go_F go_5; rw [if_neg c9x]; rfl) (fun H h => h) d_Wa_go_98
  · exact absurd (by rw [hc, show (15 : Int32) = nI 15 from rfl]; exact nI_lt h15 (by omega)) c_6
set_option maxHeartbeats 4000000 in
set_option maxRecDepth 100000 in
theorem c_Wa_sitAtOldDesks (l : Launch) (D : va_G) (ad : Nat → Nat → Nat) (cA : Nat → ClassId) (nb : Nat) (S : ds_S) (M : Nat) (hI : ds_I ad nb) (hM : M ≤ 10) : Ct_v l y_Wa_sitAtOldDesks b_Wa_sitAtOldDesks 4 none ({ frames := 0, cells := 0, slots := 0, locals := 0 } : Room) 0 0 D (ds_ty cA) (ds_A ad nb) [.ref (ad 4 0), .ref (ad 1 0), .int (nI M)] (ds_P D ad cA nb S) (fun (u : ds_S) => u = sa_F S M) (ds_P D ad cA nb) := by
  intro sz
  refine ct_of (by decide) (Nat.le_of_ble_eq_true rfl) ?_
  intro p e s m args below meth c hsz C hr hlk hnm hK
  have lp : ∀ (n k : Nat) , k ≤ M → M + 1 ≤ k + n → AW p l e ({ frames := 0, cells := 0, slots := 0, locals := 0 } : Room) s m args below meth c 4 0 0 (MQ below (va_Qv (fun (u : ds_S) => u = sa_F S M) (fun u t => (ds_P D ad cA nb) u t.heap) (ct_A (ds_A ad nb) sz)) args s 0 0 (ct_A (ds_A ad nb) sz)) (ds_P D ad cA nb (sa_F S k)) (ct_A (ds_A ad nb) sz) 17 [(0, .ref (ad 4 0)), (1, .ref (ad 1 0)), (2, .int (nI M)), (3, .int (nI k))] [] := by
    intro n
    induction n with
    | zero => intro k h1 h2; exact absurd h2 (by omega)
    | succ n ih =>
      intro k hk hn
      refine aw_iload_n C d_Wa_sitAtOldDesks_17 rfl (j := 3) rfl ?_
      refine aw_iload_n C d_Wa_sitAtOldDesks_18 rfl (j := 2) rfl ?_
      refine aw_icmp_ge (tgt := 73) C d_Wa_sitAtOldDesks_19 (by decide) (fun c_19 => ?_) (fun c_19 => ?_)
      · have hkM : k = M := by have := (nI_leI (by omega) (by omega)).mp c_19; omega
        subst hkM
        exact aw_vret C hr hlk _ rfl (fun H h => h) d_Wa_sitAtOldDesks_73
      · have hlt : k < M := Nat.lt_of_not_le (fun h => c_19 (nI_le h (by omega)))
        refine aw_iload_n C d_Wa_sitAtOldDesks_22 rfl (j := 3) rfl ?_
        refine aw_aload_n C d_Wa_sitAtOldDesks_23 rfl (j := 1) rfl ?_
        refine ln_1 C hK  d_Wa_sitAtOldDesks_24 ?_
        refine aw_icmp_ge (tgt := 73) C d_Wa_sitAtOldDesks_25 (by decide) (fun c_25 => ?_) (fun c_25 => ?_)
        · exact absurd c_25 (nI_ge (by omega) (by omega))
        · refine aw_aload_n C d_Wa_sitAtOldDesks_28 rfl (j := 1) rfl ?_
          refine aw_iload_n C d_Wa_sitAtOldDesks_29 rfl (j := 3) rfl ?_
          refine al_1 C hK  k rfl (show k < 10 by omega) d_Wa_sitAtOldDesks_30 ?_
          refine aw_aload_n C d_Wa_sitAtOldDesks_31 rfl (j := 1) rfl ?_
          refine aw_iload_n C d_Wa_sitAtOldDesks_32 rfl (j := 3) rfl ?_
          refine al_1 C hK  k rfl (show k < 10 by omega) d_Wa_sitAtOldDesks_33 ?_
          refine gt_Wa_Pe_oldDesk C hK (show k < 10 by omega) d_Wa_sitAtOldDesks_34 ?_
          refine pt_Wa_Pe_place (x := ((sa_F S k).1 12 k 0)) C hK hI (show k < 10 by omega)  d_Wa_sitAtOldDesks_37 ?_
          refine aw_aload_n C d_Wa_sitAtOldDesks_40 rfl (j := 1) rfl ?_
          refine aw_iload_n C d_Wa_sitAtOldDesks_41 rfl (j := 3) rfl ?_
          refine al_1 C hK  k rfl (show k < 10 by omega) d_Wa_sitAtOldDesks_42 ?_
          refine gt_Wa_Pe_place C hK (show k < 10 by omega) d_Wa_sitAtOldDesks_43 ?_
          rw [show (ds_wI (sa_F S k) 14 k 0 (((sa_F S k).1 12 k 0))).1 14 k 0 = (sa_F S k).1 12 k 0 from ds_u3_s _ _ _ _ _]
          refine aw_iconst (v := (-1)) C d_Wa_sitAtOldDesks_46 (by decide) ?_
          refine aw_icmp_eq (tgt := 67) C d_Wa_sitAtOldDesks_47 (by decide) (fun c_47 => ?_) (fun c_47 => ?_)
          · refine aw_iinc (i := 3) (v := (nI (k + 1))) (lv' := [(3, .int (nI (k + 1))), (0, .ref (ad 4 0)), (1, .ref (ad 1 0)), (2, .int (nI M))]) C d_Wa_sitAtOldDesks_67 (j := 3) rfl (nI_1 k) (by decide) rfl ?_
            refine aw_goto (tgt := 17) C d_Wa_sitAtOldDesks_70 (by decide) ?_
            have e9 : sa_F S (k + 1) = ds_wI (sa_F S k) 14 k 0 (((sa_F S k).1 12 k 0)) := by
              show (if (sa_F S k).1 12 k 0 = -1 then ds_wI (sa_F S k) 14 k 0 ((sa_F S k).1 12 k 0) else ds_wI (ds_wI (sa_F S k) 14 k 0 ((sa_F S k).1 12 k 0)) 9 0 0 ((sa_F S k).1 9 0 0 ||| ((1 : Int32) <<< ((sa_F S k).1 12 k 0 &&& 31)))) = _
              rw [if_pos c_47]
            rw [← e9]
            exact aw_lv [1, 2, 3, 0] rfl (ih (k + 1) (by omega) (by omega))
          · refine aw_aload_n C d_Wa_sitAtOldDesks_50 rfl (j := 0) rfl ?_
            refine aw_dup C d_Wa_sitAtOldDesks_51 rfl ?_
            refine gt_Wa_Wa_taken C hK  d_Wa_sitAtOldDesks_52 ?_
            refine aw_iconst (v := 1) C d_Wa_sitAtOldDesks_55 (by decide) ?_
            refine aw_aload_n C d_Wa_sitAtOldDesks_56 rfl (j := 1) rfl ?_
            refine aw_iload_n C d_Wa_sitAtOldDesks_57 rfl (j := 3) rfl ?_
            refine al_1 C hK  k rfl (show k < 10 by omega) d_Wa_sitAtOldDesks_58 ?_
            refine gt_Wa_Pe_place C hK (show k < 10 by omega) d_Wa_sitAtOldDesks_59 ?_
            rw [show (ds_wI (sa_F S k) 14 k 0 (((sa_F S k).1 12 k 0))).1 14 k 0 = (sa_F S k).1 12 k 0 from ds_u3_s _ _ _ _ _]
            refine aw_ishl C d_Wa_sitAtOldDesks_62 ?_
            refine aw_ior C d_Wa_sitAtOldDesks_63 ?_
            refine pt_Wa_Wa_taken (x := ((((ds_wI (sa_F S k) 14 k 0 (((sa_F S k).1 12 k 0))).1 9 0 0)) ||| ((1 <<< ((((sa_F S k).1 12 k 0)) &&& 31))))) C hK hI   d_Wa_sitAtOldDesks_64 ?_
            refine aw_iinc (i := 3) (v := (nI (k + 1))) (lv' := [(3, .int (nI (k + 1))), (0, .ref (ad 4 0)), (1, .ref (ad 1 0)), (2, .int (nI M))]) C d_Wa_sitAtOldDesks_67 (j := 3) rfl (nI_1 k) (by decide) rfl ?_
            refine aw_goto (tgt := 17) C d_Wa_sitAtOldDesks_70 (by decide) ?_
            have e9 : sa_F S (k + 1) = ds_wI (ds_wI (sa_F S k) 14 k 0 (((sa_F S k).1 12 k 0))) 9 0 0 (((((ds_wI (sa_F S k) 14 k 0 (((sa_F S k).1 12 k 0))).1 9 0 0)) ||| ((1 <<< ((((sa_F S k).1 12 k 0)) &&& 31))))) := by
              show (if (sa_F S k).1 12 k 0 = -1 then ds_wI (sa_F S k) 14 k 0 ((sa_F S k).1 12 k 0) else ds_wI (ds_wI (sa_F S k) 14 k 0 ((sa_F S k).1 12 k 0)) 9 0 0 ((sa_F S k).1 9 0 0 ||| ((1 : Int32) <<< ((sa_F S k).1 12 k 0 &&& 31)))) = _
              rw [if_neg c_47]; rfl
            rw [← e9]
            exact aw_lv [1, 2, 3, 0] rfl (ih (k + 1) (by omega) (by omega))
  refine aw_lv (lv' := [(0, .ref (ad 4 0)), (1, .ref (ad 1 0)), (2, .int (nI M))]) [0, 1, 2] rfl ?_
  refine aw_aload_n C d_Wa_sitAtOldDesks_0 rfl (j := 0) rfl ?_
  refine aw_iconst (v := 0) C d_Wa_sitAtOldDesks_1 (by decide) ?_
  refine pt_Wa_Wa_count (x := 0) C hK hI   d_Wa_sitAtOldDesks_2 ?_
  refine aw_aload_n C d_Wa_sitAtOldDesks_5 rfl (j := 0) rfl ?_
  refine aw_iconst (v := 0) C d_Wa_sitAtOldDesks_6 (by decide) ?_
  refine pt_Wa_Wa_stuck (x := 0) C hK hI  (Or.inl rfl) d_Wa_sitAtOldDesks_7 ?_
  refine aw_aload_n C d_Wa_sitAtOldDesks_10 rfl (j := 0) rfl ?_
  refine aw_iconst (v := 0) C d_Wa_sitAtOldDesks_11 (by decide) ?_
  refine pt_Wa_Wa_taken (x := 0) C hK hI   d_Wa_sitAtOldDesks_12 ?_
  refine aw_iconst (v := 0) C d_Wa_sitAtOldDesks_15 (by decide) ?_
  refine aw_istore_n (i := 3) (lv' := [(3, .int 0), (0, .ref (ad 4 0)), (1, .ref (ad 1 0)), (2, .int (nI M))]) C d_Wa_sitAtOldDesks_16 rfl (by decide) rfl ?_
  exact aw_lv [1, 2, 3, 0] rfl (lp (M + 1) 0 (by omega) (by omega))
set_option maxHeartbeats 4000000 in
set_option maxRecDepth 100000 in
theorem c_Wa_firstWhoCanGoHome (l : Launch) (D : va_G) (ad : Nat → Nat → Nat) (cA : Nat → ClassId) (nb : Nat) (S : ds_S) (M : Nat) (hI : ds_I ad nb) (hM : M ≤ 10) : Ct_q l y_Wa_firstWhoCanGoHome b_Wa_firstWhoCanGoHome 5 (some (.object "DeskMoves$Person")) ({ frames := 1, cells := 0, slots := 0, locals := 21 } : Room) 0 0 D (ds_ty cA) (ds_A ad nb) [.ref (ad 4 0), .ref (ad 1 0), .int (nI M)] (ds_P D ad cA nb S) (fun (r : Option Nat) (u : ds_S) => S = u ∧ r = (fw_L S M 0).map (ad 10)) (ds_P D ad cA nb) := by
  intro sz
  refine ct_of (by decide) (Nat.le_of_ble_eq_true rfl) ?_
  intro p e s m args below meth c hsz C hr hlk hnm hK
  have lp : ∀ (n k : Nat), k + n = M → fw_L S n k = fw_L S M 0 → AW p l e ({ frames := 1, cells := 0, slots := 0, locals := 21 } : Room) s m args below meth c 5 0 0 (MQ below (va_Qq (fun (r : Option Nat) (u : ds_S) => S = u ∧ r = (fw_L S M 0).map (ad 10)) (fun u t => (ds_P D ad cA nb) u t.heap) (ct_A (ds_A ad nb) sz)) args s 0 0 (ct_A (ds_A ad nb) sz)) (ds_P D ad cA nb S) (ct_A (ds_A ad nb) sz) 2 [(0, .ref (ad 4 0)), (1, .ref (ad 1 0)), (2, .int (nI M)), (3, .int (nI k))] [] := by
    intro n
    induction n with
    | zero =>
      intro k hkn hR
      refine aw_iload_n C d_Wa_firstWhoCanGoHome_2 rfl (j := 3) rfl ?_
      refine aw_iload_n C d_Wa_firstWhoCanGoHome_3 rfl (j := 2) rfl ?_
      refine aw_icmp_ge (tgt := 52) C d_Wa_firstWhoCanGoHome_4 (by decide) (fun c_4 => ?_) (fun c_4 => ?_)
      · refine aw_null C d_Wa_firstWhoCanGoHome_52 ?_
        exact aw_qret (v := none) C hr hlk S ⟨rfl, by rw [← hR]; rfl⟩ (fun H h => h) d_Wa_firstWhoCanGoHome_53
      · exact absurd (by rw [show k = M by omega]; exact nI_le (Nat.le_refl _) (by omega)) c_4
    | succ n ih =>
      intro k hkn hR
      refine aw_iload_n C d_Wa_firstWhoCanGoHome_2 rfl (j := 3) rfl ?_
      refine aw_iload_n C d_Wa_firstWhoCanGoHome_3 rfl (j := 2) rfl ?_
      refine aw_icmp_ge (tgt := 52) C d_Wa_firstWhoCanGoHome_4 (by decide) (fun c_4 => ?_) (fun c_4 => ?_)
      · exact absurd c_4 (nI_ge (by omega) (by omega))
      · refine aw_iload_n C d_Wa_firstWhoCanGoHome_7 rfl (j := 3) rfl ?_
        refine aw_aload_n C d_Wa_firstWhoCanGoHome_8 rfl (j := 1) rfl ?_
        refine ln_1 C hK  d_Wa_firstWhoCanGoHome_9 ?_
        refine aw_icmp_ge (tgt := 52) C d_Wa_firstWhoCanGoHome_10 (by decide) (fun c_10 => ?_) (fun c_10 => ?_)
        · exact absurd c_10 (nI_ge (by omega) (by omega))
        · refine aw_aload_n C d_Wa_firstWhoCanGoHome_13 rfl (j := 1) rfl ?_
          refine aw_iload_n C d_Wa_firstWhoCanGoHome_14 rfl (j := 3) rfl ?_
          refine al_1 C hK  k rfl (show k < 10 by omega) d_Wa_firstWhoCanGoHome_15 ?_
          refine aw_astore (i := 4) (lv' := [(4, .ref (ad 10 k)), (0, .ref (ad 4 0)), (1, .ref (ad 1 0)), (2, .int (nI M)), (3, .int (nI k))]) C d_Wa_firstWhoCanGoHome_16 (by decide) rfl ?_
          refine aw_aload C d_Wa_firstWhoCanGoHome_18 (j := 0) rfl ?_
          refine gt_Wa_Pe_place C hK (show k < 10 by omega) d_Wa_firstWhoCanGoHome_20 ?_
          refine aw_aload C d_Wa_firstWhoCanGoHome_23 (j := 0) rfl ?_
          refine gt_Wa_Pe_newDesk C hK (show k < 10 by omega) d_Wa_firstWhoCanGoHome_25 ?_
          refine aw_icmp_eq (tgt := 46) C d_Wa_firstWhoCanGoHome_28 (by decide) (fun c_28 => ?_) (fun c_28 => ?_)
          · refine aw_iinc (i := 3) (v := (nI (k + 1))) (lv' := [(3, .int (nI (k + 1))), (4, .ref (ad 10 k)), (0, .ref (ad 4 0)), (1, .ref (ad 1 0)), (2, .int (nI M))]) C d_Wa_firstWhoCanGoHome_46 (j := 4) rfl (nI_1 k) (by decide) rfl ?_
            refine aw_goto (tgt := 2) C d_Wa_firstWhoCanGoHome_49 (by decide) ?_
            exact aw_lv [2, 3, 4, 0] rfl (ih (k + 1) (by omega) (by rw [← hR]; simp only [fw_L]; rw [if_pos c_28]))
          · refine aw_aload_n C d_Wa_firstWhoCanGoHome_31 rfl (j := 1) rfl ?_
            refine aw_aload C d_Wa_firstWhoCanGoHome_32 (j := 0) rfl ?_
            refine gt_Wa_Pe_newDesk C hK (show k < 10 by omega) d_Wa_firstWhoCanGoHome_34 ?_
            refine aw_callVi (P9 := fun r u => ds_P D ad cA nb u) [.int (S.1 13 k 0)] C hK (c_Wa_isFree l D ad cA nb S (S.1 13 k 0)) (cw_Wa_Wa_isFree C.2.2.2.2 rfl rfl (by decide)) rfl (fun H h => aw_recv hK rfl (h 4 0 rfl)) (fun H h => h) (fun q h => Or.inl h) (fun q h => Or.inr (by rw [← hsz]; exact h)) rfl (Nat.le_of_ble_eq_true rfl) d_Wa_firstWhoCanGoHome_37 (by decide) (fun H H1 r u _ _ hB _ _ => hB) ?_
            rintro r u ⟨rfl, rfl⟩
            refine aw_if_eq (tgt := 46) C d_Wa_firstWhoCanGoHome_40 (by decide) (fun c_40 => ?_) (fun c_40 => ?_)
            · refine aw_iinc (i := 3) (v := (nI (k + 1))) (lv' := [(3, .int (nI (k + 1))), (4, .ref (ad 10 k)), (0, .ref (ad 4 0)), (1, .ref (ad 1 0)), (2, .int (nI M))]) C d_Wa_firstWhoCanGoHome_46 (j := 4) rfl (nI_1 k) (by decide) rfl ?_
              refine aw_goto (tgt := 2) C d_Wa_firstWhoCanGoHome_49 (by decide) ?_
              exact aw_lv [2, 3, 4, 0] rfl (ih (k + 1) (by omega) (by rw [← hR]; simp only [fw_L]; rw [if_neg c_28, if_pos c_40]))
            · refine aw_aload C d_Wa_firstWhoCanGoHome_43 (j := 0) rfl ?_
              exact aw_qret (v := some (ad 10 k)) C hr hlk S ⟨rfl, by rw [← hR]; simp only [fw_L]; rw [if_neg c_28, if_neg c_40]; rfl⟩ (fun H h => h) d_Wa_firstWhoCanGoHome_45
  refine aw_lv (lv' := [(0, .ref (ad 4 0)), (1, .ref (ad 1 0)), (2, .int (nI M))]) [0, 1, 2] rfl ?_
  refine aw_iconst (v := 0) C d_Wa_firstWhoCanGoHome_0 (by decide) ?_
  refine aw_istore_n (i := 3) (lv' := [(3, .int 0), (0, .ref (ad 4 0)), (1, .ref (ad 1 0)), (2, .int (nI M))]) C d_Wa_firstWhoCanGoHome_1 rfl (by decide) rfl ?_
  exact aw_lv [1, 2, 3, 0] rfl (lp M 0 (by omega) rfl)
set_option maxHeartbeats 4000000 in
set_option maxRecDepth 100000 in
theorem c_Wa_firstNotHome (l : Launch) (D : va_G) (ad : Nat → Nat → Nat) (cA : Nat → ClassId) (nb : Nat) (S : ds_S) (M : Nat) (hI : ds_I ad nb) (hM : M ≤ 10) : Ct_q l y_Wa_firstNotHome b_Wa_firstNotHome 4 (some (.object "DeskMoves$Person")) ({ frames := 0, cells := 0, slots := 0, locals := 0 } : Room) 0 0 D (ds_ty cA) (ds_A ad nb) [.ref (ad 4 0), .ref (ad 1 0), .int (nI M)] (ds_P D ad cA nb S) (fun (r : Option Nat) (u : ds_S) => S = u ∧ r = (fn_L S M 0).map (ad 10)) (ds_P D ad cA nb) := by
  intro sz
  refine ct_of (by decide) (Nat.le_of_ble_eq_true rfl) ?_
  intro p e s m args below meth c hsz C hr hlk hnm hK
  have lp : ∀ (n k : Nat), k + n = M → fn_L S n k = fn_L S M 0 → AW p l e ({ frames := 0, cells := 0, slots := 0, locals := 0 } : Room) s m args below meth c 4 0 0 (MQ below (va_Qq (fun (r : Option Nat) (u : ds_S) => S = u ∧ r = (fn_L S M 0).map (ad 10)) (fun u t => (ds_P D ad cA nb) u t.heap) (ct_A (ds_A ad nb) sz)) args s 0 0 (ct_A (ds_A ad nb) sz)) (ds_P D ad cA nb S) (ct_A (ds_A ad nb) sz) 2 [(0, .ref (ad 4 0)), (1, .ref (ad 1 0)), (2, .int (nI M)), (3, .int (nI k))] [] := by
    intro n
    induction n with
    | zero =>
      intro k hkn hR
      refine aw_iload_n C d_Wa_firstNotHome_2 rfl (j := 3) rfl ?_
      refine aw_iload_n C d_Wa_firstNotHome_3 rfl (j := 2) rfl ?_
      refine aw_icmp_ge (tgt := 38) C d_Wa_firstNotHome_4 (by decide) (fun c_4 => ?_) (fun c_4 => ?_)
      · refine aw_null C d_Wa_firstNotHome_38 ?_
        exact aw_qret (v := none) C hr hlk S ⟨rfl, by rw [← hR]; rfl⟩ (fun H h => h) d_Wa_firstNotHome_39
      · exact absurd (by rw [show k = M by omega]; exact nI_le (Nat.le_refl _) (by omega)) c_4
    | succ n ih =>
      intro k hkn hR
      refine aw_iload_n C d_Wa_firstNotHome_2 rfl (j := 3) rfl ?_
      refine aw_iload_n C d_Wa_firstNotHome_3 rfl (j := 2) rfl ?_
      refine aw_icmp_ge (tgt := 38) C d_Wa_firstNotHome_4 (by decide) (fun c_4 => ?_) (fun c_4 => ?_)
      · exact absurd c_4 (nI_ge (by omega) (by omega))
      · refine aw_iload_n C d_Wa_firstNotHome_7 rfl (j := 3) rfl ?_
        refine aw_aload_n C d_Wa_firstNotHome_8 rfl (j := 1) rfl ?_
        refine ln_1 C hK  d_Wa_firstNotHome_9 ?_
        refine aw_icmp_ge (tgt := 38) C d_Wa_firstNotHome_10 (by decide) (fun c_10 => ?_) (fun c_10 => ?_)
        · exact absurd c_10 (nI_ge (by omega) (by omega))
        · refine aw_aload_n C d_Wa_firstNotHome_13 rfl (j := 1) rfl ?_
          refine aw_iload_n C d_Wa_firstNotHome_14 rfl (j := 3) rfl ?_
          refine al_1 C hK  k rfl (show k < 10 by omega) d_Wa_firstNotHome_15 ?_
          refine gt_Wa_Pe_place C hK (show k < 10 by omega) d_Wa_firstNotHome_16 ?_
          refine aw_aload_n C d_Wa_firstNotHome_19 rfl (j := 1) rfl ?_
          refine aw_iload_n C d_Wa_firstNotHome_20 rfl (j := 3) rfl ?_
          refine al_1 C hK  k rfl (show k < 10 by omega) d_Wa_firstNotHome_21 ?_
          refine gt_Wa_Pe_newDesk C hK (show k < 10 by omega) d_Wa_firstNotHome_22 ?_
          refine aw_icmp_eq (tgt := 32) C d_Wa_firstNotHome_25 (by decide) (fun c_25 => ?_) (fun c_25 => ?_)
          · refine aw_iinc (i := 3) (v := (nI (k + 1))) (lv' := [(3, .int (nI (k + 1))), (0, .ref (ad 4 0)), (1, .ref (ad 1 0)), (2, .int (nI M))]) C d_Wa_firstNotHome_32 (j := 3) rfl (nI_1 k) (by decide) rfl ?_
            refine aw_goto (tgt := 2) C d_Wa_firstNotHome_35 (by decide) ?_
            exact aw_lv [1, 2, 3, 0] rfl (ih (k + 1) (by omega) (by rw [← hR]; simp only [fn_L]; rw [if_pos c_25]))
          · refine aw_aload_n C d_Wa_firstNotHome_28 rfl (j := 1) rfl ?_
            refine aw_iload_n C d_Wa_firstNotHome_29 rfl (j := 3) rfl ?_
            refine al_1 C hK  k rfl (show k < 10 by omega) d_Wa_firstNotHome_30 ?_
            exact aw_qret (v := some (ad 10 k)) C hr hlk S ⟨rfl, by rw [← hR]; simp only [fn_L]; rw [if_neg c_25]; rfl⟩ (fun H h => h) d_Wa_firstNotHome_31
  refine aw_lv (lv' := [(0, .ref (ad 4 0)), (1, .ref (ad 1 0)), (2, .int (nI M))]) [0, 1, 2] rfl ?_
  refine aw_iconst (v := 0) C d_Wa_firstNotHome_0 (by decide) ?_
  refine aw_istore_n (i := 3) (lv' := [(3, .int 0), (0, .ref (ad 4 0)), (1, .ref (ad 1 0)), (2, .int (nI M))]) C d_Wa_firstNotHome_1 rfl (by decide) rfl ?_
  exact aw_lv [1, 2, 3, 0] rfl (lp M 0 (by omega) rfl)
set_option maxHeartbeats 4000000 in
set_option maxRecDepth 100000 in
theorem c_Wa_firstFreeDesk (l : Launch) (D : va_G) (ad : Nat → Nat → Nat) (cA : Nat → ClassId) (nb : Nat) (S : ds_S) (N : Nat) (hN : N ≤ 14) : Ct_i l y_Wa_firstFreeDesk b_Wa_firstFreeDesk 3 (some .int) ({ frames := 1, cells := 0, slots := 0, locals := 21 } : Room) 0 0 D (ds_ty cA) (ds_A ad nb) [.ref (ad 4 0), .int (nI N)] (ds_P D ad cA nb S) (fun (r : Int32) (u : ds_S) => S = u ∧ r = ff_L S N 0) (ds_P D ad cA nb) := by
  intro sz
  refine ct_of (by decide) (Nat.le_of_ble_eq_true rfl) ?_
  intro p e s m args below meth c hsz C hr hlk hnm hK
  have lp : ∀ (n k : Nat), k + n = N → ff_L S n k = ff_L S N 0 → AW p l e ({ frames := 1, cells := 0, slots := 0, locals := 21 } : Room) s m args below meth c 3 0 0 (MQ below (va_Qi (fun (r : Int32) (u : ds_S) => S = u ∧ r = ff_L S N 0) (fun u t => (ds_P D ad cA nb) u t.heap) (ct_A (ds_A ad nb) sz)) args s 0 0 (ct_A (ds_A ad nb) sz)) (ds_P D ad cA nb S) (ct_A (ds_A ad nb) sz) 2 [(0, .ref (ad 4 0)), (1, .int (nI N)), (2, .int (nI k))] [] := by
    intro n
    induction n with
    | zero =>
      intro k hkn hR
      refine aw_iload_n C d_Wa_firstFreeDesk_2 rfl (j := 2) rfl ?_
      refine aw_iload_n C d_Wa_firstFreeDesk_3 rfl (j := 1) rfl ?_
      refine aw_icmp_ge (tgt := 23) C d_Wa_firstFreeDesk_4 (by decide) (fun c_4 => ?_) (fun c_4 => ?_)
      · refine aw_iconst (v := (-1)) C d_Wa_firstFreeDesk_23 (by decide) ?_
        exact aw_iret C hr hlk S ⟨rfl, by rw [← hR]; rfl⟩ (fun H h => h) d_Wa_firstFreeDesk_24
      · exact absurd (by rw [show k = N by omega]; exact nI_le (Nat.le_refl _) (by omega)) c_4
    | succ n ih =>
      intro k hkn hR
      refine aw_iload_n C d_Wa_firstFreeDesk_2 rfl (j := 2) rfl ?_
      refine aw_iload_n C d_Wa_firstFreeDesk_3 rfl (j := 1) rfl ?_
      refine aw_icmp_ge (tgt := 23) C d_Wa_firstFreeDesk_4 (by decide) (fun c_4 => ?_) (fun c_4 => ?_)
      · exact absurd c_4 (nI_ge (by omega) (by omega))
      · refine aw_aload_n C d_Wa_firstFreeDesk_7 rfl (j := 0) rfl ?_
        refine aw_iload_n C d_Wa_firstFreeDesk_8 rfl (j := 2) rfl ?_
        refine aw_callVi (P9 := fun r u => ds_P D ad cA nb u) [.int (nI k)] C hK (c_Wa_isFree l D ad cA nb S (nI k)) (cw_Wa_Wa_isFree C.2.2.2.2 rfl rfl (by decide)) rfl (fun H h => aw_recv hK rfl (h 4 0 rfl)) (fun H h => h) (fun q h => Or.inl h) (fun q h => Or.inr (by rw [← hsz]; exact h)) rfl (Nat.le_of_ble_eq_true rfl) d_Wa_firstFreeDesk_9 (by decide) (fun H H1 r u _ _ hB _ _ => hB) ?_
        rintro r u ⟨rfl, rfl⟩
        refine aw_if_eq (tgt := 17) C d_Wa_firstFreeDesk_12 (by decide) (fun c_12 => ?_) (fun c_12 => ?_)
        · refine aw_iinc (i := 2) (v := (nI (k + 1))) (lv' := [(2, .int (nI (k + 1))), (0, .ref (ad 4 0)), (1, .int (nI N))]) C d_Wa_firstFreeDesk_17 (j := 2) rfl (nI_1 k) (by decide) rfl ?_
          refine aw_goto (tgt := 2) C d_Wa_firstFreeDesk_20 (by decide) ?_
          exact aw_lv [1, 2, 0] rfl (ih (k + 1) (by omega) (by rw [← hR]; simp only [ff_L]; rw [if_pos c_12]))
        · refine aw_iload_n C d_Wa_firstFreeDesk_15 rfl (j := 2) rfl ?_
          exact aw_iret C hr hlk S ⟨rfl, by rw [← hR]; simp only [ff_L]; rw [if_neg c_12]⟩ (fun H h => h) d_Wa_firstFreeDesk_16
  refine aw_lv (lv' := [(0, .ref (ad 4 0)), (1, .int (nI N))]) [0, 1] rfl ?_
  refine aw_iconst (v := 0) C d_Wa_firstFreeDesk_0 (by decide) ?_
  refine aw_istore_n (i := 2) (lv' := [(2, .int 0), (0, .ref (ad 4 0)), (1, .int (nI N))]) C d_Wa_firstFreeDesk_1 rfl (by decide) rfl ?_
  exact aw_lv [1, 2, 0] rfl (lp N 0 (by omega) rfl)
set_option maxHeartbeats 4000000 in
set_option maxRecDepth 100000 in
theorem c_Wa_plan (l : Launch) (D : va_G) (ad : Nat → Nat → Nat) (cA : Nat → ClassId) (nb : Nat) (S : ds_S) (M N : Nat) (hI : ds_I ad nb) (hM : M ≤ 10) (hN : N ≤ 14) : Ct_v l y_Wa_plan b_Wa_plan 7 none ({ frames := 2, cells := 0, slots := 0, locals := 45 } : Room) 0 0 D (ds_ty cA) (ds_A ad nb) [.ref (ad 4 0), .ref (ad 1 0), .int (nI M), .int (nI N)] (ds_P D ad cA nb S) (fun (u : ds_S) => u = pl_L M N 15 0 (sa_F S M)) (ds_P D ad cA nb) := by
  intro sz
  refine ct_of (by decide) (Nat.le_of_ble_eq_true rfl) ?_
  intro p e s m args below meth c hsz C hr hlk hnm hK
  have lp : ∀ (n k : Nat) (S' : ds_S), k + n = 15 → S'.1 7 0 0 = nI k → pl_L M N n k S' = pl_L M N 15 0 (sa_F S M) → AW p l e ({ frames := 2, cells := 0, slots := 0, locals := 45 } : Room) s m args below meth c 7 0 0 (MQ below (va_Qv (fun (u : ds_S) => u = pl_L M N 15 0 (sa_F S M)) (fun u t => (ds_P D ad cA nb) u t.heap) (ct_A (ds_A ad nb) sz)) args s 0 0 (ct_A (ds_A ad nb) sz)) (ds_P D ad cA nb (S')) (ct_A (ds_A ad nb) sz) 9 [(0, .ref (ad 4 0)), (1, .ref (ad 1 0)), (2, .int (nI M)), (3, .int (nI N)), (4, .int (nI k))] [] := by
    intro n
    induction n with
    | zero =>
      intro k S' hkn hc hR
      refine aw_iload C d_Wa_plan_9 (j := 4) rfl ?_
      refine aw_bipush (v := 15) C d_Wa_plan_11 (by decide) ?_
      refine aw_icmp_ge (tgt := 90) C d_Wa_plan_13 (by decide) (fun c_13 => ?_) (fun c_13 => ?_)
      · exact aw_vret C hr hlk _ (by rw [← hR]; rfl) (fun H h => h) d_Wa_plan_90
      · exact absurd (by rw [show k = 15 by omega]; exact nI_le (Nat.le_refl _) (by omega)) c_13
    | succ n ih =>
      intro k S' hkn hc hR
      refine aw_iload C d_Wa_plan_9 (j := 4) rfl ?_
      refine aw_bipush (v := 15) C d_Wa_plan_11 (by decide) ?_
      refine aw_icmp_ge (tgt := 90) C d_Wa_plan_13 (by decide) (fun c_13 => ?_) (fun c_13 => ?_)
      · exact absurd c_13 (by rw [show (15 : Int32) = nI 15 from rfl]; exact nI_ge (by omega) (by omega))
      · refine aw_aload_n C d_Wa_plan_16 rfl (j := 0) rfl ?_
        refine aw_aload_n C d_Wa_plan_17 rfl (j := 1) rfl ?_
        refine aw_iload_n C d_Wa_plan_18 rfl (j := 2) rfl ?_
        refine aw_callVq (P9 := fun r u => ds_P D ad cA nb u) [.ref (ad 1 0), .int (nI M)] C hK (c_Wa_firstWhoCanGoHome l D ad cA nb S' M hI hM) (cw_Wa_Wa_firstWhoCanGoHome C.2.2.2.2 rfl rfl (by decide)) rfl (fun H h => aw_recv hK rfl (h 4 0 rfl)) (fun H h => h) (fun q h => Or.inl h) (fun q h => Or.inr (by rw [← hsz]; exact h)) rfl (Nat.le_of_ble_eq_true rfl) d_Wa_plan_19 (by decide) (fun H H1 r u _ _ hB _ _ => hB) ?_
        rintro r u ⟨rfl, rfl⟩
        rcases hfw : fw_L S' M 0 with _ | p
        · refine aw_astoreq (x := none) (i := 5) (lv' := [(5, va_rf none), (0, .ref (ad 4 0)), (1, .ref (ad 1 0)), (2, .int (nI M)), (3, .int (nI N)), (4, .int (nI k))]) C d_Wa_plan_22 (by decide) rfl ?_
          refine aw_aloadq C d_Wa_plan_24 (j := 0) rfl ?_
          refine aw_ifnull (o := none) (tgt := 43) C d_Wa_plan_26 (by decide) (fun _ => ?_) (fun _ h => nomatch h)
          refine aw_aload_n C d_Wa_plan_43 rfl (j := 1) rfl ?_
          refine aw_aload_n C d_Wa_plan_44 rfl (j := 2) rfl ?_
          refine aw_iload_n C d_Wa_plan_45 rfl (j := 3) rfl ?_
          refine aw_callVq (P9 := fun r u => ds_P D ad cA nb u) [.ref (ad 1 0), .int (nI M)] C hK (c_Wa_firstNotHome l D ad cA nb S' M hI hM) (cw_Wa_Wa_firstNotHome C.2.2.2.2 rfl rfl (by decide)) rfl (fun H h => aw_recv hK rfl (h 4 0 rfl)) (fun H h => h) (fun q h => Or.inl h) (fun q h => Or.inr (by rw [← hsz]; exact h)) rfl (Nat.le_of_ble_eq_true rfl) d_Wa_plan_46 (by decide) (fun H H1 r u _ _ hB _ _ => hB) ?_
          rintro r u ⟨rfl, rfl⟩
          rcases hfn : fn_L S' M 0 with _ | p
          · refine aw_astoreq (x := none) (i := 5) (lv' := [(5, va_rf none), (0, .ref (ad 4 0)), (1, .ref (ad 1 0)), (2, .int (nI M)), (3, .int (nI N)), (4, .int (nI k))]) C d_Wa_plan_49 (by decide) rfl ?_
            refine aw_aloadq C d_Wa_plan_51 (j := 0) rfl ?_
            refine aw_ifnonnull (o := none) (tgt := 57) C d_Wa_plan_53 (by decide) (fun _ h => nomatch h) (fun _ => ?_)
            exact aw_vret C hr hlk _ (by rw [← hR]; simp only [pl_L, hfw, hfn]) (fun H h => h) d_Wa_plan_56
          · have hp : p < 10 := by have := fn_lt _ _ _ hfn; omega
            refine aw_astore (i := 5) (lv' := [(5, .ref (ad 10 p)), (0, .ref (ad 4 0)), (1, .ref (ad 1 0)), (2, .int (nI M)), (3, .int (nI N)), (4, .int (nI k))]) C d_Wa_plan_49 (by decide) rfl ?_
            refine aw_aload C d_Wa_plan_51 (j := 0) rfl ?_
            refine aw_ifnonnull (o := some ((ad 10 p))) (tgt := 57) C d_Wa_plan_53 (by decide) (fun _ _ => ?_) (fun h => nomatch h)
            refine aw_aload_n C d_Wa_plan_57 rfl (j := 1) rfl ?_
            refine aw_iload_n C d_Wa_plan_58 rfl (j := 4) rfl ?_
            refine aw_callVi (P9 := fun r u => ds_P D ad cA nb u) [.int (nI N)] C hK (c_Wa_firstFreeDesk l D ad cA nb S' N hN) (cw_Wa_Wa_firstFreeDesk C.2.2.2.2 rfl rfl (by decide)) rfl (fun H h => aw_recv hK rfl (h 4 0 rfl)) (fun H h => h) (fun q h => Or.inl h) (fun q h => Or.inr (by rw [← hsz]; exact h)) rfl (Nat.le_of_ble_eq_true rfl) d_Wa_plan_59 (by decide) (fun H H1 r u _ _ hB _ _ => hB) ?_
            rintro r u ⟨rfl, rfl⟩
            refine aw_istore (i := 6) (lv' := [(6, .int (ff_L S' N 0)), (5, .ref (ad 10 p)), (0, .ref (ad 4 0)), (1, .ref (ad 1 0)), (2, .int (nI M)), (3, .int (nI N)), (4, .int (nI k))]) C d_Wa_plan_62 (by decide) rfl ?_
            refine aw_iload C d_Wa_plan_64 (j := 0) rfl ?_
            refine aw_iconst (v := (-1)) C d_Wa_plan_66 (by decide) ?_
            refine aw_icmp_ne (tgt := 76) C d_Wa_plan_67 (by decide) (fun c_67 => ?_) (fun c_67 => ?_)
            · refine aw_aload_n C d_Wa_plan_76 rfl (j := 2) rfl ?_
              refine aw_aload C d_Wa_plan_77 (j := 1) rfl ?_
              refine aw_iload C d_Wa_plan_79 (j := 0) rfl ?_
              refine aw_callVv (P9 := fun u => ds_P D ad cA nb u) [.ref (ad 10 p), .int (ff_L S' N 0)] C hK (c_Wa_go l D ad cA nb S' p k ((ff_L S' N 0)) hI hp hc (by omega)) (cw_Wa_Wa_go C.2.2.2.2 rfl rfl (by decide)) rfl (fun H h => aw_recv hK rfl (h 4 0 rfl)) (fun H h => h) (fun q h => Or.inl h) (fun q h => Or.inr (by rw [← hsz]; exact h)) rfl (Nat.le_of_ble_eq_true rfl) d_Wa_plan_81 (by decide) (fun H H1 u _ _ hB _ _ => hB) ?_
              rintro u rfl
              refine aw_iinc (i := 4) (v := (nI (k + 1))) (lv' := [(4, .int (nI (k + 1))), (6, .int (ff_L S' N 0)), (5, .ref (ad 10 p)), (0, .ref (ad 4 0)), (1, .ref (ad 1 0)), (2, .int (nI M)), (3, .int (nI N))]) C d_Wa_plan_84 (j := 6) rfl (nI_1 k) (by decide) rfl ?_
              refine aw_goto (tgt := 9) C d_Wa_plan_87 (by decide) ?_
              exact aw_lv [3, 4, 5, 6, 0] rfl (ih (k + 1) (go_F S' p k ((ff_L S' N 0))) (by omega) (go_7 _ _ _ _) (by rw [← hR]; simp only [pl_L, hfw, hfn]; rw [if_neg c_67]))
            · refine aw_aload_n C d_Wa_plan_70 rfl (j := 2) rfl ?_
              refine aw_iconst (v := 1) C d_Wa_plan_71 (by decide) ?_
              refine pt_Wa_Wa_stuck (x := 1) C hK hI  (Or.inr rfl) d_Wa_plan_72 ?_
              exact aw_vret C hr hlk _ (by rw [← hR]; simp only [pl_L, hfw, hfn]; rw [if_pos c_67]) (fun H h => h) d_Wa_plan_75
        · have hp : p < 10 := by have := fw_lt _ _ _ hfw; omega
          refine aw_astore (i := 5) (lv' := [(5, .ref (ad 10 p)), (0, .ref (ad 4 0)), (1, .ref (ad 1 0)), (2, .int (nI M)), (3, .int (nI N)), (4, .int (nI k))]) C d_Wa_plan_22 (by decide) rfl ?_
          refine aw_aload C d_Wa_plan_24 (j := 0) rfl ?_
          refine aw_ifnull (o := some ((ad 10 p))) (tgt := 43) C d_Wa_plan_26 (by decide) (fun h => nomatch h) (fun _ _ => ?_)
          refine aw_aload_n C d_Wa_plan_29 rfl (j := 1) rfl ?_
          refine aw_aload C d_Wa_plan_30 (j := 0) rfl ?_
          refine aw_aload C d_Wa_plan_32 (j := 0) rfl ?_
          refine gt_Wa_Pe_newDesk C hK hp d_Wa_plan_34 ?_
          refine aw_callVv (P9 := fun u => ds_P D ad cA nb u) [.ref (ad 10 p), .int ((S').1 13 p 0)] C hK (c_Wa_go l D ad cA nb S' p k (((S').1 13 p 0)) hI hp hc (by omega)) (cw_Wa_Wa_go C.2.2.2.2 rfl rfl (by decide)) rfl (fun H h => aw_recv hK rfl (h 4 0 rfl)) (fun H h => h) (fun q h => Or.inl h) (fun q h => Or.inr (by rw [← hsz]; exact h)) rfl (Nat.le_of_ble_eq_true rfl) d_Wa_plan_37 (by decide) (fun H H1 u _ _ hB _ _ => hB) ?_
          rintro u rfl
          refine aw_goto (tgt := 84) C d_Wa_plan_40 (by decide) ?_
          refine aw_iinc (i := 4) (v := (nI (k + 1))) (lv' := [(4, .int (nI (k + 1))), (5, .ref (ad 10 p)), (0, .ref (ad 4 0)), (1, .ref (ad 1 0)), (2, .int (nI M)), (3, .int (nI N))]) C d_Wa_plan_84 (j := 5) rfl (nI_1 k) (by decide) rfl ?_
          refine aw_goto (tgt := 9) C d_Wa_plan_87 (by decide) ?_
          exact aw_lv [2, 3, 4, 5, 0] rfl (ih (k + 1) (go_F S' p k (((S').1 13 p 0))) (by omega) (go_7 _ _ _ _) (by rw [← hR]; simp only [pl_L, hfw]))
  refine aw_lv (lv' := [(0, .ref (ad 4 0)), (1, .ref (ad 1 0)), (2, .int (nI M)), (3, .int (nI N))]) [0, 1, 2, 3] rfl ?_
  refine aw_aload_n C d_Wa_plan_0 rfl (j := 0) rfl ?_
  refine aw_aload_n C d_Wa_plan_1 rfl (j := 1) rfl ?_
  refine aw_iload_n C d_Wa_plan_2 rfl (j := 2) rfl ?_
  refine aw_callVv (P9 := fun u => ds_P D ad cA nb u) [.ref (ad 1 0), .int (nI M)] C hK (c_Wa_sitAtOldDesks l D ad cA nb S M hI hM) (cw_Wa_Wa_sitAtOldDesks C.2.2.2.2 rfl rfl (by decide)) rfl (fun H h => aw_recv hK rfl (h 4 0 rfl)) (fun H h => h) (fun q h => Or.inl h) (fun q h => Or.inr (by rw [← hsz]; exact h)) rfl (Nat.le_of_ble_eq_true rfl) d_Wa_plan_3 (by decide) (fun H H1 u _ _ hB _ _ => hB) ?_
  rintro u rfl
  refine aw_iconst (v := 0) C d_Wa_plan_6 (by decide) ?_
  refine aw_istore (i := 4) (lv' := [(4, .int 0), (0, .ref (ad 4 0)), (1, .ref (ad 1 0)), (2, .int (nI M)), (3, .int (nI N))]) C d_Wa_plan_7 (by decide) rfl ?_
  exact aw_lv [1, 2, 3, 4, 0] rfl (lp 15 0 (sa_F S M) (by omega) (sa_7 S M) rfl)
