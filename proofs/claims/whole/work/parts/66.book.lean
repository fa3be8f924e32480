set_option maxHeartbeats 4000000 in
set_option maxRecDepth 100000 in
theorem c_De_book_none (l : Launch) (D : va_G) (ad : Nat → Nat → Nat) (cA : Nat → ClassId) (nb : Nat) (S : ds_S) (a b h9 : Int32) (M : Nat) (hI : ds_I ad nb) (hM : S.1 2 0 0 = nI M) (hM9 : M ≤ 8) (n0 : Nat) (hB : ∀ k k', S.2.2 3 k = some k' → k' < nb) (hF : ∀ r k, S.2.2 2 r = some k → k < nb) (hT : ∀ r, ho_T (S.2.2 3) n0 (S.2.2 2 r)) (h0 : ¬ h9 < 1 ∧ h9 ≤ 200) (h1 : ¬ a < 0 ∧ b ≤ 10080 ∧ a < b) (h2 : S.1 3 0 0 < 300) (hbr : br_L S a b h9 n0 M 0 none = none) : Ct_i l y_De_book b_De_book 6 (some .int) ({ frames := 6, cells := 0, slots := 0, locals := 91 } : Room) 0 0 D (ds_ty cA) (ds_A ad nb) [.ref (ad 0 0), .int a, .int b, .int h9] (ds_P D ad cA nb S) (fun (r : Int32) (u : ds_S) => S = u ∧ r = -1) (ds_P D ad cA nb) := by
  intro sz
  refine ct_of (by decide) (Nat.le_of_ble_eq_true rfl) ?_
  intro p e s m args below meth c hsz C hr hlk hnm hK
  refine aw_lv (lv' := [(0, .ref (ad 0 0)), (1, .int a), (2, .int b), (3, .int h9)]) [0, 1, 2, 3] rfl ?_
  refine aw_iload_n C d_De_book_0 rfl (j := 3) rfl ?_
  refine aw_iconst (v := 1) C d_De_book_1 (by decide) ?_
  refine aw_icmp_lt (tgt := 12) C d_De_book_2 (by decide) (fun c_2 => ?_) (fun c_2 => ?_)
  · exact absurd c_2 h0.1
  · refine aw_iload_n C d_De_book_5 rfl (j := 3) rfl ?_
    refine aw_sipush (v := 200) C d_De_book_6 (by decide) ?_
    refine aw_icmp_le (tgt := 22) C d_De_book_9 (by decide) (fun c_9 => ?_) (fun c_9 => ?_)
    · refine aw_iload_n C d_De_book_22 rfl (j := 1) rfl ?_
      refine aw_if_lt (tgt := 38) C d_De_book_23 (by decide) (fun c_23 => ?_) (fun c_23 => ?_)
      · exact absurd c_23 h1.1
      · refine aw_iload_n C d_De_book_26 rfl (j := 2) rfl ?_
        refine aw_sipush (v := 10080) C d_De_book_27 (by decide) ?_
        refine aw_icmp_gt (tgt := 38) C d_De_book_30 (by decide) (fun c_30 => ?_) (fun c_30 => ?_)
        · exact absurd h1.2.1 (Int32.not_le.mpr c_30)
        · refine aw_iload_n C d_De_book_33 rfl (j := 1) rfl ?_
          refine aw_iload_n C d_De_book_34 rfl (j := 2) rfl ?_
          refine aw_icmp_lt (tgt := 48) C d_De_book_35 (by decide) (fun c_35 => ?_) (fun c_35 => ?_)
          · refine aw_aload_n C d_De_book_48 rfl (j := 0) rfl ?_
            refine gt_De_De_bookingCount C hK  d_De_book_49 ?_
            refine aw_sipush (v := 300) C d_De_book_52 (by decide) ?_
            refine aw_icmp_lt (tgt := 68) C d_De_book_55 (by decide) (fun c_55 => ?_) (fun c_55 => ?_)
            · refine aw_aload_n C d_De_book_68 rfl (j := 0) rfl ?_
              refine aw_iload_n C d_De_book_69 rfl (j := 1) rfl ?_
              refine aw_iload_n C d_De_book_70 rfl (j := 2) rfl ?_
              refine aw_iload_n C d_De_book_71 rfl (j := 3) rfl ?_
              refine aw_callVq (P9 := fun r u => ds_P D ad cA nb u) [.int a, .int b, .int h9] C hK (c_De_bestRoom l D ad cA nb S a b h9 M hI hM hM9 n0 hB hF hT) (cw_De_De_bestRoom C.2.2.2.2 rfl rfl (by decide)) rfl (fun H h => aw_recv hK rfl (h 0 0 rfl)) (fun H h => h) (fun q h => Or.inl h) (fun q h => Or.inr (by rw [← hsz]; exact h)) rfl (Nat.le_of_ble_eq_true rfl) d_De_book_72 (by decide) (fun H H1 r u _ _ hB _ _ => hB) ?_
              rintro r u ⟨rfl, rfl⟩
              rw [hbr]
              refine aw_astoreq (x := none) (i := 4) (lv' := [(4, va_rf none), (0, .ref (ad 0 0)), (1, .int a), (2, .int b), (3, .int h9)]) C d_De_book_75 (by decide) rfl ?_
              refine aw_aloadq C d_De_book_77 (j := 0) rfl ?_
              refine aw_ifnonnull (o := none) (tgt := 84) C d_De_book_79 (by decide) (fun _ h => nomatch h) (fun _ => ?_)
              refine aw_iconst (v := (-1)) C d_De_book_82 (by decide) ?_
              exact aw_iret C hr hlk S ⟨rfl, rfl⟩ (fun H h => h) d_De_book_83
            · exact absurd h2 c_55
          · exact absurd h1.2.2 c_35
    · exact absurd h0.2 c_9
set_option maxHeartbeats 4000000 in
set_option maxRecDepth 100000 in
theorem t_De_book1 (l : Launch) (D : va_G) (ad : Nat → Nat → Nat) (cA : Nat → ClassId) (nb : Nat) (S : ds_S) (hl : l.stackTraces = false) (a b h9 : Int32) (h0 : ¬ (¬ h9 < 1 ∧ h9 ≤ 200)) : Ct_t l y_De_book b_De_book 6 (some .int) ({ frames := 6, cells := 1, slots := 6, locals := 91 } : Room) 1 6 D (ds_ty cA) [.ref (ad 0 0), .int a, .int b, .int h9] (ds_P D ad cA nb S) R_Ia := by
  intro sz
  refine th_of (by decide) (Nat.le_of_ble_eq_true rfl) ?_
  intro p e s m args below meth c hsz C hlk hno hK hZ
  refine aw_lv (lv' := [(0, .ref (ad 0 0)), (1, .int a), (2, .int b), (3, .int h9)]) [0, 1, 2, 3] rfl ?_
  refine aw_iload_n C d_De_book_0 rfl (j := 3) rfl ?_
  refine aw_iconst (v := 1) C d_De_book_1 (by decide) ?_
  refine aw_icmp_lt (tgt := 12) C d_De_book_2 (by decide) (fun c_2 => ?_) (fun c_2 => ?_)
  · exact aw_throw C hl hZ hno hlk bf_Ia cl_De_Ia ii_Ia nx_Ia oa_Ia sr_144 d_De_book_12 d_De_book_15 d_De_book_16 d_De_book_18 d_De_book_21 (by decide) (by decide) (by decide) (by decide) (by decide) (by decide)
  · refine aw_iload_n C d_De_book_5 rfl (j := 3) rfl ?_
    refine aw_sipush (v := 200) C d_De_book_6 (by decide) ?_
    refine aw_icmp_le (tgt := 22) C d_De_book_9 (by decide) (fun c_9 => ?_) (fun c_9 => ?_)
    · exact absurd ⟨c_2, c_9⟩ h0
    · exact aw_throw C hl hZ hno hlk bf_Ia cl_De_Ia ii_Ia nx_Ia oa_Ia sr_144 d_De_book_12 d_De_book_15 d_De_book_16 d_De_book_18 d_De_book_21 (by decide) (by decide) (by decide) (by decide) (by decide) (by decide)
set_option maxHeartbeats 4000000 in
set_option maxRecDepth 100000 in
theorem t_De_book2 (l : Launch) (D : va_G) (ad : Nat → Nat → Nat) (cA : Nat → ClassId) (nb : Nat) (S : ds_S) (hl : l.stackTraces = false) (a b h9 : Int32) (h0 : ¬ h9 < 1 ∧ h9 ≤ 200) (h1 : ¬ (¬ a < 0 ∧ b ≤ 10080 ∧ a < b)) : Ct_t l y_De_book b_De_book 6 (some .int) ({ frames := 6, cells := 1, slots := 6, locals := 91 } : Room) 1 6 D (ds_ty cA) [.ref (ad 0 0), .int a, .int b, .int h9] (ds_P D ad cA nb S) R_Ia := by
  intro sz
  refine th_of (by decide) (Nat.le_of_ble_eq_true rfl) ?_
  intro p e s m args below meth c hsz C hlk hno hK hZ
  refine aw_lv (lv' := [(0, .ref (ad 0 0)), (1, .int a), (2, .int b), (3, .int h9)]) [0, 1, 2, 3] rfl ?_
  refine aw_iload_n C d_De_book_0 rfl (j := 3) rfl ?_
  refine aw_iconst (v := 1) C d_De_book_1 (by decide) ?_
  refine aw_icmp_lt (tgt := 12) C d_De_book_2 (by decide) (fun c_2 => ?_) (fun c_2 => ?_)
  · exact absurd c_2 h0.1
  · refine aw_iload_n C d_De_book_5 rfl (j := 3) rfl ?_
    refine aw_sipush (v := 200) C d_De_book_6 (by decide) ?_
    refine aw_icmp_le (tgt := 22) C d_De_book_9 (by decide) (fun c_9 => ?_) (fun c_9 => ?_)
    · refine aw_iload_n C d_De_book_22 rfl (j := 1) rfl ?_
      refine aw_if_lt (tgt := 38) C d_De_book_23 (by decide) (fun c_23 => ?_) (fun c_23 => ?_)
      · exact aw_throw C hl hZ hno hlk bf_Ia cl_De_Ia ii_Ia nx_Ia oa_Ia sr_146 d_De_book_38 d_De_book_41 d_De_book_42 d_De_book_44 d_De_book_47 (by decide) (by decide) (by decide) (by decide) (by decide) (by decide)
      · refine aw_iload_n C d_De_book_26 rfl (j := 2) rfl ?_
        refine aw_sipush (v := 10080) C d_De_book_27 (by decide) ?_
        refine aw_icmp_gt (tgt := 38) C d_De_book_30 (by decide) (fun c_30 => ?_) (fun c_30 => ?_)
        · exact aw_throw C hl hZ hno hlk bf_Ia cl_De_Ia ii_Ia nx_Ia oa_Ia sr_146 d_De_book_38 d_De_book_41 d_De_book_42 d_De_book_44 d_De_book_47 (by decide) (by decide) (by decide) (by decide) (by decide) (by decide)
        · refine aw_iload_n C d_De_book_33 rfl (j := 1) rfl ?_
          refine aw_iload_n C d_De_book_34 rfl (j := 2) rfl ?_
          refine aw_icmp_lt (tgt := 48) C d_De_book_35 (by decide) (fun c_35 => ?_) (fun c_35 => ?_)
          · exact absurd ⟨c_23, Int32.not_lt.mp c_30, c_35⟩ h1
          · exact aw_throw C hl hZ hno hlk bf_Ia cl_De_Ia ii_Ia nx_Ia oa_Ia sr_146 d_De_book_38 d_De_book_41 d_De_book_42 d_De_book_44 d_De_book_47 (by decide) (by decide) (by decide) (by decide) (by decide) (by decide)
    · exact absurd h0.2 c_9
set_option maxHeartbeats 4000000 in
set_option maxRecDepth 100000 in
theorem t_De_book3 (l : Launch) (D : va_G) (ad : Nat → Nat → Nat) (cA : Nat → ClassId) (nb : Nat) (S : ds_S) (hl : l.stackTraces = false) (a b h9 : Int32) (h0 : ¬ h9 < 1 ∧ h9 ≤ 200) (h1 : ¬ a < 0 ∧ b ≤ 10080 ∧ a < b) (h2 : ¬ S.1 3 0 0 < 300) : Ct_t l y_De_book b_De_book 6 (some .int) ({ frames := 6, cells := 1, slots := 6, locals := 91 } : Room) 1 6 D (ds_ty cA) [.ref (ad 0 0), .int a, .int b, .int h9] (ds_P D ad cA nb S) R_Is := by
  intro sz
  refine th_of (by decide) (Nat.le_of_ble_eq_true rfl) ?_
  intro p e s m args below meth c hsz C hlk hno hK hZ
  refine aw_lv (lv' := [(0, .ref (ad 0 0)), (1, .int a), (2, .int b), (3, .int h9)]) [0, 1, 2, 3] rfl ?_
  refine aw_iload_n C d_De_book_0 rfl (j := 3) rfl ?_
  refine aw_iconst (v := 1) C d_De_book_1 (by decide) ?_
  refine aw_icmp_lt (tgt := 12) C d_De_book_2 (by decide) (fun c_2 => ?_) (fun c_2 => ?_)
  · exact absurd c_2 h0.1
  · refine aw_iload_n C d_De_book_5 rfl (j := 3) rfl ?_
    refine aw_sipush (v := 200) C d_De_book_6 (by decide) ?_
    refine aw_icmp_le (tgt := 22) C d_De_book_9 (by decide) (fun c_9 => ?_) (fun c_9 => ?_)
    · refine aw_iload_n C d_De_book_22 rfl (j := 1) rfl ?_
      refine aw_if_lt (tgt := 38) C d_De_book_23 (by decide) (fun c_23 => ?_) (fun c_23 => ?_)
      · exact absurd c_23 h1.1
      · refine aw_iload_n C d_De_book_26 rfl (j := 2) rfl ?_
        refine aw_sipush (v := 10080) C d_De_book_27 (by decide) ?_
        refine aw_icmp_gt (tgt := 38) C d_De_book_30 (by decide) (fun c_30 => ?_) (fun c_30 => ?_)
        · exact absurd h1.2.1 (Int32.not_le.mpr c_30)
        · refine aw_iload_n C d_De_book_33 rfl (j := 1) rfl ?_
          refine aw_iload_n C d_De_book_34 rfl (j := 2) rfl ?_
          refine aw_icmp_lt (tgt := 48) C d_De_book_35 (by decide) (fun c_35 => ?_) (fun c_35 => ?_)
          · refine aw_aload_n C d_De_book_48 rfl (j := 0) rfl ?_
            refine gt_De_De_bookingCount C hK  d_De_book_49 ?_
            refine aw_sipush (v := 300) C d_De_book_52 (by decide) ?_
            refine aw_icmp_lt (tgt := 68) C d_De_book_55 (by decide) (fun c_55 => ?_) (fun c_55 => ?_)
            · exact absurd c_55 h2
            · exact aw_throw C hl hZ hno hlk bf_Is cl_De_Is ii_Is nx_Is oa_Is sr_151 d_De_book_58 d_De_book_61 d_De_book_62 d_De_book_64 d_De_book_67 (by decide) (by decide) (by decide) (by decide) (by decide) (by decide)
          · exact absurd h1.2.2 c_35
    · exact absurd h0.2 c_9
def Ct_is (l : Launch) (y : MethodName) (b : ByteArray) (maxL : Nat) (ret : Option FieldType) (rm : Room) (mc ms : Nat) (D : va_G) (tys : List (ClassId × FieldType)) (A : Nat → Prop) (As : List Value) (P : Heap → Prop) {S : Type} (post : Nat → Int32 → S → Prop) (B : S → Heap → Prop) : Prop := ∀ sz : Nat, Met l y (ct_ws y b maxL ret) rm (ct_Pc D tys As P sz) (va_Qi (post sz) (fun u t => B u t.heap) (ct_A A sz)) mc ms (ct_A A sz)
section BK
variable {p : Program} {l : Launch} {e : Env} {R : Room} {s : State} {m : MethodId} {args : Array Value} {below : List Frame} {meth : Method} {c : Code} {cc : ByteArray} {nL cells slots : Nat} {Q : State → Prop} {P P' : Heap → Prop} {A : Nat → Prop} {own : String} {pc : Nat} {lv lv' : List (Nat × Value)} {st : List Value} {D : va_G} {tys : List (ClassId × FieldType)} {a : Nat}
theorem aw_sz (k : ∀ z, s.heap.size ≤ z → AW p l e R s m args below meth c nL cells slots Q (fun H => P H ∧ H.size = z) A pc lv st) : AW p l e R s m args below meth c nL cells slots Q P A pc lv st := fun H locs ls hP hS hl => k H.size hS.1 H locs ls ⟨hP, rfl⟩ hS hl
theorem aw_callVs {S : Type} {post : Nat → Int32 → S → Prop} {B : S → Heap → Prop} {P2 : Heap → Prop} {P9 : Int32 → S → Heap → Prop} {A2 : Nat → Prop} {y : MethodName} {b2 : ByteArray} {mL2 mc ms n index : Nat} {ret2 : Option FieldType} {rm2 : Room} {Cn : String} {stk : List Value} (As : List Value) (C : CallFix p m c cc nL s args tb_G own) (hK : va_K D cl_all tys s) (hc : Ct_is l y b2 mL2 ret2 rm2 mc ms D tys A2 (.ref a :: As) P2 post B) (cw : CallW R s args own Cn index y b2 mL2 ret2 (ct_ws y b2 mL2 ret2) rm2 mc ms n) (hn : As.length = n) (hrecv : ∀ H, P H → ∃ cell : Cell, H[a]? = some cell ∧ cell.vm.isStatics = false ∧ s.vm.findClass Cn = some cell.cls) (hpre : ∀ H, P H → P2 H) (hA : ∀ q, A2 q → A q) (hAs : ∀ q, s.heap.size ≤ q → A q) (hst : stk = As.reverse ++ .ref a :: st) (hroom : (st.map fun v => v.category).sum ≤ 8) (hd : decode cc pc = .ok (.invokevirtual index, 3)) (hcs : cells + mc ≤ R.cells ∧ slots + ms ≤ R.slots)
    (hP9 : ∀ (H H1 : Heap) (r : Int32) (u : S), P H → s.heap.size ≤ H.size → post H.size r u → B u H1 → H.size ≤ H1.size → (∀ q : Nat, q < H.size → ¬ A2 q → H1[q]? = H[q]?) → P9 r u H1) (kk : ∀ (r : Int32) (u : S), AW p l e R s m args below meth c nL (cells + mc) (slots + ms) Q (P9 r u) A (pc + 3) lv (.int r :: st)) : AW p l e R s m args below meth c nL cells slots Q P A pc lv stk := fun H locs ls hPH hS hl => by
  have hz := hS.1
  refine va_calli (A1 := ct_A A2 H.size) (va_runV (g := F0 m pc ls stk) (As := As) (rest := st) C (hc H.size) cw ⟨ct_blind, hrecv H hPH, fun U hU hW => ⟨rfl, by rw [hU], va_K.moved hW.alike hK, by rw [hU]; exact hpre H hPH⟩⟩ rfl hn hl.1 hst (lv_room hroom) hd hcs) hS (fun q _ h => h.elim (hA q) (fun h => hAs q (Nat.le_trans hz h))) (fun q h => h.elim (hA q) (fun h => hAs q (Nat.le_trans hz h))) (fun r u t H1 locs1 ht hvm hw hB hz1 hk1 hS1 => ?_)
  rw [ht] at hB
  exact kk r u H1 locs1 ls (hP9 H H1 r u hPH hz hw hB hz1 (fun q h1 h2 => hk1 q h1 (fun h => h.elim h2 (fun h => absurd h1 (Nat.not_lt.mpr h))))) hS1 hl
end BK
def bk_ad (ad : Nat → Nat → Nat) (nb z : Nat) : Nat → Nat → Nat := fun k i => if k = 15 ∧ i = nb then z else ad k i
theorem bk_ad_n {ad : Nat → Nat → Nat} {nb z k i : Nat} (h : ¬ (k = 15 ∧ i = nb)) : bk_ad ad nb z k i = ad k i := if_neg h
theorem bk_ad_s (ad : Nat → Nat → Nat) (nb z : Nat) : bk_ad ad nb z 15 nb = z := if_pos ⟨rfl, rfl⟩
def bk_S (S : ds_S) (g ro : Nat) (a b h : Int32) : ds_S := ds_wR (ds_wR (ds_wI (ds_wI (ds_wI S 20 g 0 a) 21 g 0 b) 22 g 0 h) 4 g (some ro)) 3 g none
theorem bk_dm {nb k i : Nat} (h : ds_dm (nb + 1) k i) : (k = 15 ∧ i = nb) ∨ (ds_dm nb k i ∧ ¬ (k = 15 ∧ i = nb)) := by
  by_cases h15 : k = 15
  · subst h15
    have h : i < nb + 1 := h
    by_cases hi : i = nb
    · exact Or.inl ⟨rfl, hi⟩
    · exact Or.inr ⟨show i < nb by omega, fun h => hi h.2⟩
  · refine Or.inr ⟨?_, fun h => h15 h.1⟩
    unfold ds_dm at h ⊢
    split at h <;> first | exact h | exact absurd rfl h15 | omega
theorem bk_In {ad : Nat → Nat → Nat} {nb z : Nat} (hI : ds_I ad nb) (hlt : ∀ k i, ds_dm nb k i → ad k i < z) : ds_I (bk_ad ad nb z) (nb + 1) := by
  intro k i k' i' hd hd' he
  rcases bk_dm hd with ⟨rfl, rfl⟩ | ⟨h1, h2⟩
  · rcases bk_dm hd' with ⟨rfl, rfl⟩ | ⟨h3, h4⟩
    · exact ⟨rfl, rfl⟩
    · rw [bk_ad_s, bk_ad_n h4] at he
      exact absurd (hlt _ _ h3) (by omega)
  · rcases bk_dm hd' with ⟨rfl, rfl⟩ | ⟨h3, h4⟩
    · rw [bk_ad_s, bk_ad_n h2] at he
      exact absurd (hlt _ _ h1) (by omega)
    · rw [bk_ad_n h2, bk_ad_n h4] at he
      exact hI _ _ _ _ h1 h3 he
theorem bk_map {ad : Nat → Nat → Nat} {nb z : Nat} {o : Option Nat} (h : ∀ k, o = some k → k < nb) : o.map (bk_ad ad nb z 15) = o.map (ad 15) := by
  cases o with
  | none => rfl
  | some k => exact congrArg some (bk_ad_n (fun q => absurd (h k rfl) (by omega)))
theorem bk_dm_mono {nb k i : Nat} (h : ds_dm nb k i) : ds_dm (nb + 1) k i := by
  unfold ds_dm at h ⊢
  split at h <;> first | exact h | omega
set_option maxHeartbeats 4000000 in
theorem bk_ce {ad : Nat → Nat → Nat} {cA : Nat → ClassId} {nb z ro k i : Nat} {S : ds_S} {a b h : Int32} (hB : ∀ k k', S.2.2 3 k = some k' → k' < nb) (hF : ∀ r k, S.2.2 2 r = some k → k < nb) (h5 : ∀ j k, S.2.2 5 j = some k → k < nb) (hd : ds_dm nb k i) : ds_ce (bk_ad ad nb z) cA (nb + 1) (bk_S S nb ro a b h) k i = ds_ce ad cA nb S k i := by
  have e15 : ∀ o : Option Nat, (∀ k, o = some k → k < nb) → o.map (bk_ad ad nb z 15) = o.map (ad 15) := fun o ho => bk_map ho
  have en : ∀ k i, ¬ (k = 15 ∧ i = nb) → bk_ad ad nb z k i = ad k i := fun k i h => bk_ad_n h
  have ef : ∀ k, k ≠ 15 → bk_ad ad nb z k = ad k := fun k hk => funext fun i => bk_ad_n (fun q => hk q.1)
  by_cases h9 : k = 9
  · subst h9
    have e9 : (fun j => ((bk_S S nb ro a b h).2.2 5 j).map (bk_ad ad nb z 15)) = fun j => (S.2.2 5 j).map (ad 15) := by
      funext j
      show (S.2.2 5 j).map (bk_ad ad nb z 15) = _
      exact e15 _ (h5 j)
    show Sum.inl (cA 5, 300, _) = Sum.inl (cA 5, 300, _)
    rw [e9]
  · by_cases hk15 : k = 15
    · subst hk15
      have hi : i < nb := hd
      have hne : ¬ i = nb := by omega
      have e3 : (bk_S S nb ro a b h).2.2 3 i = S.2.2 3 i := by simp [bk_S, ds_wR, ds_wI, ds_u2, ds_u3, hne]
      have e4 : (bk_S S nb ro a b h).2.2 4 i = S.2.2 4 i := by simp [bk_S, ds_wR, ds_wI, ds_u2, ds_u3, hne]
      have e20 : (bk_S S nb ro a b h).1 20 i 0 = S.1 20 i 0 := by simp [bk_S, ds_wR, ds_wI, ds_u2, ds_u3, hne]
      have e21 : (bk_S S nb ro a b h).1 21 i 0 = S.1 21 i 0 := by simp [bk_S, ds_wR, ds_wI, ds_u2, ds_u3, hne]
      have e22 : (bk_S S nb ro a b h).1 22 i 0 = S.1 22 i 0 := by simp [bk_S, ds_wR, ds_wI, ds_u2, ds_u3, hne]
      simp only [ds_ce]
      rw [e3, e4, e20, e21, e22, ef 14 (by decide), e15 _ (hB i)]
    · have e1 : ∀ t i j, t ≠ 20 → t ≠ 21 → t ≠ 22 → (bk_S S nb ro a b h).1 t i j = S.1 t i j := fun t i j h1 h2 h3 => by simp [bk_S, ds_wR, ds_wI, ds_u2, ds_u3, h1, h2, h3]
      have e2 : (bk_S S nb ro a b h).2.1 = S.2.1 := rfl
      have e3 : ∀ t i, t ≠ 3 → t ≠ 4 → (bk_S S nb ro a b h).2.2 t i = S.2.2 t i := fun t i h1 h2 => by simp [bk_S, ds_wR, ds_wI, ds_u2, ds_u3, h1, h2]
      have e6 := e15 (S.2.2 2 i) (hF i)
      unfold ds_ce
      split <;> simp_all
theorem bk_A {ad : Nat → Nat → Nat} {nb z sz : Nat} (hz : sz ≤ z) : ct_A (ds_A ad nb) sz = ct_A (ds_A (bk_ad ad nb z) (nb + 1)) sz := by
  funext q
  apply propext
  constructor
  · rintro (⟨k, i, h, rfl⟩ | h)
    · by_cases hq : k = 15 ∧ i = nb
      · obtain ⟨rfl, rfl⟩ := hq
        exact absurd (show i < i from h) (Nat.lt_irrefl i)
      · exact Or.inl ⟨k, i, bk_dm_mono h, (bk_ad_n hq).symm⟩
    · exact Or.inr h
  · rintro (⟨k, i, h, rfl⟩ | h)
    · rcases bk_dm h with ⟨rfl, rfl⟩ | ⟨h1, h2⟩
      · exact Or.inr (by rw [bk_ad_s]; exact hz)
      · exact Or.inl ⟨k, i, h1, bk_ad_n h2⟩
    · exact Or.inr h
theorem ho_T_eq {f f' : Nat → Option Nat} {nb : Nat} (hf : ∀ k, k < nb → f' k = f k) (hB : ∀ k k', f k = some k' → k' < nb) : ∀ (n : Nat) (o : Option Nat), (∀ k, o = some k → k < nb) → ho_T f n o → ho_T f' n o
  | 0, _, _, h => h
  | _ + 1, none, _, h => h
  | n + 1, some k, ho, h => by
    show ho_T f' n (f' k)
    rw [hf k (ho k rfl)]
    exact ho_T_eq hf hB n (f k) (hB k) h
theorem ab_1 (S : ds_S) (r g : Nat) (bf : Option Nat) : (ab_F S r g bf).1 = S.1 := by
  cases bf <;> rfl
def bk_Z (S : ds_S) (g ro n0 : Nat) (a b h : Int32) : ds_S := ds_wI (ds_wR (ab_F (bk_S S g ro a b h) ro g (ab_L (bk_S S g ro a b h) g n0 none ((bk_S S g ro a b h).2.2 2 ro))) 5 g (some g)) 3 0 0 (nI g + 1)
set_option maxHeartbeats 4000000 in
set_option maxRecDepth 100000 in
theorem c_De_book_some (l : Launch) (D : va_G) (ad : Nat → Nat → Nat) (cA : Nat → ClassId) (nb : Nat) (S : ds_S) (a b h9 : Int32) (M : Nat) (hI : ds_I ad nb) (hM : S.1 2 0 0 = nI M) (hM9 : M ≤ 8) (n0 : Nat) (hB : ∀ k k', S.2.2 3 k = some k' → k' < nb) (hF : ∀ r k, S.2.2 2 r = some k → k < nb) (hT : ∀ r, ho_T (S.2.2 3) n0 (S.2.2 2 r)) (h0 : ¬ h9 < 1 ∧ h9 ≤ 200) (h1 : ¬ a < 0 ∧ b ≤ 10080 ∧ a < b) (h2 : S.1 3 0 0 < 300) (ro : Nat) (hro : ro < 8) (hbr : br_L S a b h9 n0 M 0 none = some ro) (hnb : S.1 3 0 0 = nI nb) (hnb3 : nb < 300) (h5 : ∀ j k, S.2.2 5 j = some k → k < nb) : Ct_is l y_De_book b_De_book 6 (some .int) ({ frames := 6, cells := 1, slots := 6, locals := 91 } : Room) 1 6 D (ds_ty cA) (ds_A ad nb) [.ref (ad 0 0), .int a, .int b, .int h9] (ds_P D ad cA nb S) (fun (sz : Nat) (r : Int32) (u : ((Nat → Nat → Nat) × ds_S)) => r = nI nb ∧ u.2 = bk_Z S nb ro n0 a b h9 ∧ ds_I u.1 (nb + 1) ∧ (∀ k i, ds_dm nb k i → u.1 k i = ad k i) ∧ sz ≤ u.1 15 nb) (fun (u : ((Nat → Nat → Nat) × ds_S)) => ds_P D u.1 cA (nb + 1) u.2) := by
  intro sz
  refine ct_of (by decide) (Nat.le_of_ble_eq_true rfl) ?_
  intro p e s m args below meth c hsz C hr hlk hnm hK
  refine aw_lv (lv' := [(0, .ref (ad 0 0)), (1, .int a), (2, .int b), (3, .int h9)]) [0, 1, 2, 3] rfl ?_
  refine aw_iload_n C d_De_book_0 rfl (j := 3) rfl ?_
  refine aw_iconst (v := 1) C d_De_book_1 (by decide) ?_
  refine aw_icmp_lt (tgt := 12) C d_De_book_2 (by decide) (fun c_2 => ?_) (fun c_2 => ?_)
  · exact absurd c_2 h0.1
  · refine aw_iload_n C d_De_book_5 rfl (j := 3) rfl ?_
    refine aw_sipush (v := 200) C d_De_book_6 (by decide) ?_
    refine aw_icmp_le (tgt := 22) C d_De_book_9 (by decide) (fun c_9 => ?_) (fun c_9 => ?_)
    · refine aw_iload_n C d_De_book_22 rfl (j := 1) rfl ?_
      refine aw_if_lt (tgt := 38) C d_De_book_23 (by decide) (fun c_23 => ?_) (fun c_23 => ?_)
      · exact absurd c_23 h1.1
      · refine aw_iload_n C d_De_book_26 rfl (j := 2) rfl ?_
        refine aw_sipush (v := 10080) C d_De_book_27 (by decide) ?_
        refine aw_icmp_gt (tgt := 38) C d_De_book_30 (by decide) (fun c_30 => ?_) (fun c_30 => ?_)
        · exact absurd h1.2.1 (Int32.not_le.mpr c_30)
        · refine aw_iload_n C d_De_book_33 rfl (j := 1) rfl ?_
          refine aw_iload_n C d_De_book_34 rfl (j := 2) rfl ?_
          refine aw_icmp_lt (tgt := 48) C d_De_book_35 (by decide) (fun c_35 => ?_) (fun c_35 => ?_)
          · refine aw_aload_n C d_De_book_48 rfl (j := 0) rfl ?_
            refine gt_De_De_bookingCount C hK  d_De_book_49 ?_
            refine aw_sipush (v := 300) C d_De_book_52 (by decide) ?_
            refine aw_icmp_lt (tgt := 68) C d_De_book_55 (by decide) (fun c_55 => ?_) (fun c_55 => ?_)
            · refine aw_aload_n C d_De_book_68 rfl (j := 0) rfl ?_
              refine aw_iload_n C d_De_book_69 rfl (j := 1) rfl ?_
              refine aw_iload_n C d_De_book_70 rfl (j := 2) rfl ?_
              refine aw_iload_n C d_De_book_71 rfl (j := 3) rfl ?_
              refine aw_callVq (P9 := fun r u => ds_P D ad cA nb u) [.int a, .int b, .int h9] C hK (c_De_bestRoom l D ad cA nb S a b h9 M hI hM hM9 n0 hB hF hT) (cw_De_De_bestRoom C.2.2.2.2 rfl rfl (by decide)) rfl (fun H h => aw_recv hK rfl (h 0 0 rfl)) (fun H h => h) (fun q h => Or.inl h) (fun q h => Or.inr (by rw [← hsz]; exact h)) rfl (Nat.le_of_ble_eq_true rfl) d_De_book_72 (by decide) (fun H H1 r u _ _ hB _ _ => hB) ?_
              rintro r u ⟨rfl, rfl⟩
              rw [hbr]
              refine aw_astore (i := 4) (lv' := [(4, .ref (ad 14 ro)), (0, .ref (ad 0 0)), (1, .int a), (2, .int b), (3, .int h9)]) C d_De_book_75 (by decide) rfl ?_
              refine aw_aload C d_De_book_77 (j := 0) rfl ?_
              refine aw_ifnonnull (o := some ((ad 14 ro))) (tgt := 84) C d_De_book_79 (by decide) (fun _ _ => ?_) (fun h => nomatch h)
              refine aw_lv (lv' := [(0, .ref (ad 0 0)), (1, .int a), (2, .int b), (3, .int h9), (4, .ref (ad 14 ro))]) [1, 2, 3, 4, 0] rfl ?_
              refine aw_sz (fun z hz => ?_)
              refine aw_have (F := ∀ k i, ds_dm nb k i → ad k i < z) (fun H h k i hd => by have h7 := (h.1 k i hd).lt; rw [h.2] at h7; exact h7) (fun hlt => ?_)
              refine aw_new (fs := [.int 0, .null, .int 0, .int 0, .int 0, .null]) C hK i_Bk t_Bk t_Bk_ok cl_De_Bk nn_Bk ii_Bk (ci := 0) rfl df_Bk (by decide) (by decide) d_De_book_84 (fun q => ?_)
              refine aw_have (F := z = q) (fun H h => by obtain ⟨H9, h9, e9, _⟩ := h; rw [← e9]; exact h9.2.symm) (fun hq => ?_)
              subst hq
              refine aw_P (P' := fun H => H.size = z + 1 ∧ ds_P D ad cA nb S H ∧ va_at D cl_all (z, .inr (0, [.int 0, .null, .int 0, .int 0, .int 0, .null])) H) (fun H h => by obtain ⟨H9, h9, e9, ha9, hz9, ho⟩ := h; exact ⟨hz9, fun k i hd => (h9.1 k i hd).kept (ho _ (hlt k i hd)), ha9⟩) ?_
              refine aw_dup C d_De_book_87 rfl ?_
              refine aw_aload_n C d_De_book_88 rfl (j := 0) rfl ?_
              refine aw_get (k := 8) C hK i_De rfl (by decide) fl_De_De_bookingCount (fun H h => h.2.1 0 0 rfl) rfl d_De_book_89 ?_
              rw [hnb]
              refine aw_aload C d_De_book_92 (j := 4) rfl ?_
              refine aw_iload_n C d_De_book_94 rfl (j := 1) rfl ?_
              refine aw_iload_n C d_De_book_95 rfl (j := 2) rfl ?_
              refine aw_iload_n C d_De_book_96 rfl (j := 3) rfl ?_
              refine aw_callIv (ret2 := none) (Cn := "") (P9 := fun _ => fun H => H.size = z + 1 ∧ ds_P D ad cA nb S H ∧ va_at D cl_all (z, .inr (0, [.int (nI nb), .ref (ad 14 ro), .int a, .int b, .int h9, .null])) H) [.int (nI nb), .ref (ad 14 ro), .int a, .int b, .int h9] C hK (c_Bk_init l D cA z (z + 1) (ad 14 ro) (nI nb) a b h9) (cw_De_Bk_init C.2.2.2.2 rfl rfl (by decide)) rfl (fun H h => ⟨h.1, h.2.2⟩) (fun q hq => by have hq : q = z := hq; subst hq; exact Or.inr (by rw [← hsz]; exact hz)) (fun q h => Or.inr (by rw [← hsz]; exact h)) rfl (Nat.le_of_ble_eq_true rfl) d_De_book_97 (by decide) (fun H H1 u h _ g _ hk9 => ⟨g.1, fun k i hd => (h.2.1 k i hd).kept (hk9 _ (by rw [h.1]; have := hlt k i hd; omega) (fun e => by have e : ad k i = z := e; have := hlt k i hd; omega)), g.2⟩) ?_
              rintro ⟨⟩ -
              have hsz2 : sz ≤ z := by rw [← hsz]; exact hz
              have hI2 := bk_In (z := z) hI hlt
              have hA2 := bk_A (ad := ad) (nb := nb) hsz2
              have e0 : bk_ad ad nb z 0 0 = ad 0 0 := rfl
              have e14 : bk_ad ad nb z 14 ro = ad 14 ro := rfl
              have e15 := bk_ad_s ad nb z
              have hon : ∀ k i, ds_dm nb k i → bk_ad ad nb z k i = ad k i := fun k i hd => bk_ad_n (fun q => by obtain ⟨rfl, rfl⟩ := q; exact absurd (show i < i from hd) (Nat.lt_irrefl i))
              have hw9 : ∀ H : Heap, (fun H => H.size = z + 1 ∧ ds_P D ad cA nb S H ∧ va_at D cl_all (z, .inr (0, [.int (nI nb), .ref (ad 14 ro), .int a, .int b, .int h9, .null])) H) H → ds_P D (bk_ad ad nb z) cA (nb + 1) (bk_S S nb ro a b h9) H := by
                intro H h k i hd
                rcases bk_dm hd with ⟨rfl, rfl⟩ | ⟨h1, h2⟩
                · rw [e15]
                  have ec : ds_ce (bk_ad ad i z) cA (i + 1) (bk_S S i ro a b h9) 15 i = .inr (0, [.int (nI i), .ref (ad 14 ro), .int a, .int b, .int h9, .null]) := by
                    simp [ds_ce, bk_S, ds_wR, ds_wI, ds_u2, ds_u3, va_rf, e14]
                  rw [ec]
                  exact h.2.2
                · rw [bk_ad_n h2, bk_ce hB hF h5 h1]
                  exact h.2.1 k i h1
              have hzq : sz ≤ bk_ad ad nb z 15 nb := by rw [e15]; exact hsz2
              have eS : (bk_S S nb ro a b h9).1 3 0 0 = nI nb := hnb
              have hB2 : ∀ k k', (bk_S S nb ro a b h9).2.2 3 k = some k' → k' < nb + 1 := by
                intro k k' hk
                by_cases hq : k = nb
                · subst hq; rw [show (bk_S S k ro a b h9).2.2 3 k = none by simp [bk_S, ds_wR, ds_u2]] at hk; cases hk
                · rw [show (bk_S S nb ro a b h9).2.2 3 k = S.2.2 3 k by simp [bk_S, ds_wR, ds_wI, ds_u2, hq]] at hk; have := hB k k' hk; omega
              have hF2 : ∀ k, (bk_S S nb ro a b h9).2.2 2 ro = some k → k < nb + 1 := fun k hk => by have := hF ro k hk; omega
              have hT2 : ho_T ((bk_S S nb ro a b h9).2.2 3) n0 ((bk_S S nb ro a b h9).2.2 2 ro) := ho_T_eq (nb := nb) (f := S.2.2 3) (fun k hk => by simp [bk_S, ds_wR, ds_wI, ds_u2, show ¬ k = nb by omega]) hB n0 _ (hF ro) (hT ro)
              refine aw_P hw9 ?_
              rw [hA2, ← e0, ← e14]
              have tail : ∀ (S2 : ds_S) (ad2 : Nat → Nat → Nat), S2 = bk_S S nb ro a b h9 → ds_I ad2 (nb + 1) → (∀ k i, ds_dm nb k i → ad2 k i = ad k i) → sz ≤ ad2 15 nb → AW p l e ({ frames := 6, cells := 1, slots := 6, locals := 91 } : Room) s m args below meth c 6 (0 + 1 + 0) (0 + 6 + 0) (MQ below (va_Qi ((fun (sz : Nat) (r : Int32) (u : ((Nat → Nat → Nat) × ds_S)) => r = nI nb ∧ u.2 = bk_Z S nb ro n0 a b h9 ∧ ds_I u.1 (nb + 1) ∧ (∀ k i, ds_dm nb k i → u.1 k i = ad k i) ∧ sz ≤ u.1 15 nb) sz) (fun u t => (fun (u : ((Nat → Nat → Nat) × ds_S)) => ds_P D u.1 cA (nb + 1) u.2) u t.heap) (ct_A (ds_A ad2 (nb + 1)) sz)) args s 1 6 (ct_A (ds_A ad2 (nb + 1)) sz)) (ds_P D ad2 cA (nb + 1) S2) (ct_A (ds_A ad2 (nb + 1)) sz) 100 [(0, .ref (ad2 0 0)), (1, .int a), (2, .int b), (3, .int h9), (4, .ref (ad2 14 ro))] [.ref (ad2 15 nb)] := by
                intro S2 ad2 hS2 hI2 hon2 hzq2
                have eS2 : S2.1 3 0 0 = nI nb := by rw [hS2]; exact eS
                rw [← hS2] at hB2 hF2 hT2
                refine aw_astore (i := 5) (lv' := [(5, .ref (ad2 15 nb)), (0, .ref (ad2 0 0)), (1, .int a), (2, .int b), (3, .int h9), (4, .ref (ad2 14 ro))]) C d_De_book_100 (by decide) rfl ?_
                refine aw_aload C d_De_book_102 (j := 5) rfl ?_
                refine aw_aload C d_De_book_104 (j := 0) rfl ?_
                refine aw_callVv (P9 := fun u => ds_P D ad2 cA (nb + 1) u) [.ref (ad2 15 nb)] C hK (c_Ro_add l D ad2 cA (nb + 1) S2 n0 ro nb hI2 hro hB2 hF2 hT2 (show nb < nb + 1 by omega)) (cw_De_Ro_add C.2.2.2.2 rfl rfl (by decide)) rfl (fun H h => aw_recv hK rfl (h 14 ro hro)) (fun H h => h) (fun q h => Or.inl h) (fun q h => Or.inr (by rw [← hsz]; exact h)) rfl (Nat.le_of_ble_eq_true rfl) d_De_book_106 (by decide) (fun H H1 u _ _ hB _ _ => hB) ?_
                rintro u rfl
                refine aw_aload_n C d_De_book_109 rfl (j := 1) rfl ?_
                refine gt_De_De_bookings C hK  d_De_book_110 ?_
                refine aw_aload_n C d_De_book_113 rfl (j := 1) rfl ?_
                refine gt_De_De_bookingCount C hK  d_De_book_114 ?_
                rw [show (ab_F S2 ro nb (ab_L S2 nb n0 none (S2.2.2 2 ro))).1 3 0 0 = nI nb from by rw [ab_1]; exact eS2]
                refine aw_aload C d_De_book_117 (j := 0) rfl ?_
                refine as_9 C hK hI2 (show nb < nb + 1 by omega) nb rfl hnb3 d_De_book_119 ?_
                refine aw_aload_n C d_De_book_120 rfl (j := 1) rfl ?_
                refine aw_dup C d_De_book_121 rfl ?_
                refine gt_De_De_bookingCount C hK  d_De_book_122 ?_
                rw [show (ds_wR (ab_F S2 ro nb (ab_L S2 nb n0 none (S2.2.2 2 ro))) 5 nb (some nb)).1 3 0 0 = nI nb from by show (ab_F _ _ _ _).1 3 0 0 = _; rw [ab_1]; exact eS2]
                refine aw_iconst (v := 1) C d_De_book_125 (by decide) ?_
                refine aw_iadd C d_De_book_126 ?_
                refine pt_De_De_bookingCount (x := (((nI nb)) + 1)) C hK hI2   d_De_book_127 ?_
                refine aw_aload C d_De_book_130 (j := 0) rfl ?_
                refine gt_De_Bk_number C hK (show nb < nb + 1 by omega) d_De_book_132 ?_
                exact aw_iret C hr hlk (ad2, ds_wI (ds_wR (ab_F S2 ro nb (ab_L S2 nb n0 none (S2.2.2 2 ro))) 5 nb (some nb)) 3 0 0 ((((nI nb)) + 1))) ⟨rfl, by rw [hS2]; rfl, hI2, hon2, hzq2⟩ (fun H h => h) d_De_book_135
              have h7 := tail (bk_S S nb ro a b h9) (bk_ad ad nb z) rfl hI2 hon hzq
              rw [e15] at h7
              exact h7
            · exact absurd h2 c_55
          · exact absurd h1.2.2 c_35
    · exact absurd h0.2 c_9
