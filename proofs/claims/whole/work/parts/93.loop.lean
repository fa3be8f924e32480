/-! THE LAW: its loop -/
theorem and31 (x : Int32) : ∃ n, n ≤ 31 ∧ x &&& 31 = nI n := by
  have hle : x.toBitVec.toNat &&& 31 ≤ 31 := Nat.and_le_right
  refine ⟨x.toBitVec.toNat &&& 31, hle, ?_⟩
  apply Int32.toBitVec_inj.mp
  apply BitVec.eq_of_toNat_eq
  rw [Int32.toBitVec_and, BitVec.toNat_and, pk_tn (by omega)]
  rfl
theorem lw_gt {L j : Nat} (hL : L ≤ 2048) (hj : 4 * j ≤ L) (h : ¬ nI L - 4 < nI (4 * j)) : 4 * j + 4 ≤ L := by
  have e : (nI L - 4).toInt = (L : Int) - 4 := by
    rw [i_sub (by rw [nI_i (by omega)]; show _ ≤ (L : Int) - 4; omega) (by rw [nI_i (by omega)]; show (L : Int) - 4 < _; omega), nI_i (by omega)]
    rfl
  rw [Int32.lt_iff_toInt_lt, e, nI_i (by omega)] at h
  omega
set_option maxHeartbeats 4000000 in
set_option maxRecDepth 100000 in
theorem law_loop {p : Program} {l : Launch} {e : Env} {s : State} {m : MethodId} {below : List Frame} {meth : Method} {c : Code} {Q : State → Prop} {D : va_G} {cA : Nat → ClassId} {am : Nat → Nat} {oa : Nat} {b L : Nat} {xs : Nat → Int32} (hl : l.stackTraces = false) (C : CallFix p m c code 7 s #[Value.ref b] tb_G R_La) (hK : va_K D cl_all (ds_ty cA) s) (hZ : th_Z s) (hN : nc_Z s) (hX : va_X b L xs s s.heap) (hbl : b < s.heap.size) (hL : L ≤ 2048) (hF : lwF s am oa)
    (hend : ∀ (P : Heap → Prop) (cells slots : Nat) (lv : List (Nat × Value)), cells ≤ 601024 → slots ≤ 7293034 → AW p l e room_1 s m #[Value.ref b] below meth c 7 cells slots Q P (fun q => s.heap.size ≤ q) 1183 lv []) :
    ∀ (n j : Nat) (ad : Nat → Nat → Nat) (nb : Nat) (S : ds_S) (M : ms_S) (v : Int64) (cells slots : Nat), 4 * j ≤ L → L < 4 * j + 4 * n → cells + n ≤ 601024 → slots + 6 * n ≤ 7293034 → lwG s am oa ad nb → Rel S M nb →
      AW p l e room_1 s m #[Value.ref b] below meth c 7 cells slots Q (lwP D cA am oa ad nb S M v) (fun q => s.heap.size ≤ q) 23 [(0, .ref b), (1, .ref (ad 0 0)), (2, .ref (am 0)), (3, .ref oa), (4, .int (nI (4 * j)))] [] := by
  intro n
  induction n with
  | zero => intro j ad nb S M v cells slots h1 h2; exact absurd h2 (by omega)
  | succ n ih =>
    intro j ad nb S M v cells slots h1 h2 h3 h4 hG hRel
    refine aw_iload C d_law_23 (j := 4) rfl ?_
    refine aw_aload_n C d_law_25 rfl (j := 0) rfl ?_
    refine aw_slen C hX hbl (Nat.not_le.mpr hbl) d_law_26 ?_
    refine aw_iconst (v := 4) C d_law_27 (by decide) ?_
    refine aw_isub C d_law_28 ?_
    refine aw_icmp_gt (tgt := 1183) C d_law_29 (by decide) (fun _ => hend _ _ _ _ (by omega) (by omega)) (fun hgt => ?_)
    have hj := lw_gt hL h1 hgt
    refine aw_aload_n C d_law_32 rfl (j := 0) rfl ?_
    refine aw_iload C d_law_33 (j := 4) rfl ?_
    refine aw_sld (v := xs (4 * j)) C hX hbl (Nat.not_le.mpr hbl) (4 * j) rfl (by omega) (by omega) rfl d_law_35 ?_
    refine aw_bipush (v := 31) C d_law_36 (by decide) ?_
    refine aw_iand C d_law_38 ?_
    have kk : lc_K p l e s m below meth c (cells + 1) (slots + 6) Q D cA am oa b j := by
      intro ad nb S M v hG hRel
      refine aw_iinc (i := 4) (v := nI (4 * (j + 1))) (lv' := [(4, .int (nI (4 * (j + 1)))), (0, .ref b), (1, .ref (ad 0 0)), (2, .ref (am 0)), (3, .ref oa)]) C d_law_1177 (j := 4) rfl (by rw [show 4 * (j + 1) = 4 * j + 4 by omega]; exact nI_ad (4 * j) 4) (by decide) rfl ?_
      refine aw_goto (tgt := 23) C d_law_1180 (by decide) ?_
      refine aw_lv (lv' := [(0, .ref b), (1, .ref (ad 0 0)), (2, .ref (am 0)), (3, .ref oa), (4, .int (nI (4 * (j + 1))))]) [1, 2, 3, 4, 0] rfl ?_
      exact ih (j + 1) ad nb S M v (cells + 1) (slots + 6) (by omega) (by omega) (by omega) (by omega) hG hRel
    obtain ⟨w, hw, ew⟩ := and31 (xs (4 * j))
    rw [ew]
    rcases (show w = 0 ∨ w = 1 ∨ w = 2 ∨ w = 3 ∨ w = 4 ∨ w = 5 ∨ w = 6 ∨ w = 7 ∨ w = 8 ∨ w = 9 ∨ w = 10 ∨ w = 11 ∨ w = 12 ∨ w = 13 ∨ w = 14 ∨ w = 15 ∨ w = 16 ∨ w = 17 ∨ w = 18 ∨ 18 < w by omega) with rfl | rfl | rfl | rfl | rfl | rfl | rfl | rfl | rfl | rfl | rfl | rfl | rfl | rfl | rfl | rfl | rfl | rfl | rfl | hw18
    · refine aw_tableIn (tgt := 128) C d_law_39 (by decide) (by decide) (off := 89) (by decide) (by decide) ?_
      exact lc_desk hl C hK hZ hN hX hbl hL hF hG hRel hj (by omega) (by omega) kk
    · refine aw_tableIn (tgt := 172) C d_law_39 (by decide) (by decide) (off := 133) (by decide) (by decide) ?_
      exact lc_person hl C hK hZ hN hX hbl hL hF hG hRel hj (by omega) (by omega) kk
    · refine aw_tableIn (tgt := 216) C d_law_39 (by decide) (by decide) (off := 177) (by decide) (by decide) ?_
      exact lc_wish hl C hK hZ hN hX hbl hL hF hG hRel hj (by omega) (by omega) kk
    · refine aw_tableIn (tgt := 296) C d_law_39 (by decide) (by decide) (off := 257) (by decide) (by decide) ?_
      exact lc_bar hl C hK hZ hN hX hbl hL hF hG hRel hj (by omega) (by omega) kk
    · refine aw_tableIn (tgt := 399) C d_law_39 (by decide) (by decide) (off := 360) (by decide) (by decide) ?_
      exact lc_sits hl C hK hZ hN hX hbl hL hF hG hRel hj (by omega) (by omega) kk
    · refine aw_tableIn (tgt := 467) C d_law_39 (by decide) (by decide) (off := 428) (by decide) (by decide) ?_
      exact lc_seat hl C hK hZ hN hX hbl hL hF hG hRel hj (by omega) (by omega) kk
    · refine aw_tableIn (tgt := 480) C d_law_39 (by decide) (by decide) (off := 441) (by decide) (by decide) ?_
      exact lc_deskOf hl C hK hZ hN hX hbl hL hF hG hRel hj (by omega) (by omega) kk
    · refine aw_tableIn (tgt := 536) C d_law_39 (by decide) (by decide) (off := 497) (by decide) (by decide) ?_
      exact lc_moved hl C hK hZ hN hX hbl hL hF hG hRel hj (by omega) (by omega) kk
    · refine aw_tableIn (tgt := 549) C d_law_39 (by decide) (by decide) (off := 510) (by decide) (by decide) ?_
      exact lc_steps hl C hK hZ hN hX hbl hL hF hG hRel hj (by omega) (by omega) kk
    · refine aw_tableIn (tgt := 593) C d_law_39 (by decide) (by decide) (off := 554) (by decide) (by decide) ?_
      exact lc_step hl C hK hZ hN hX hbl hL hF hG hRel hj (by omega) (by omega) kk
    · refine aw_tableIn (tgt := 661) C d_law_39 (by decide) (by decide) (off := 622) (by decide) (by decide) ?_
      exact lc_settle hl C hK hZ hN hX hbl hL hF hG hRel hj (by omega) (by omega) kk
    · refine aw_tableIn (tgt := 705) C d_law_39 (by decide) (by decide) (off := 666) (by decide) (by decide) ?_
      exact lc_worthOf hl C hK hZ hN hX hbl hL hF hG hRel hj (by omega) (by omega) kk
    · refine aw_tableIn (tgt := 761) C d_law_39 (by decide) (by decide) (off := 722) (by decide) (by decide) ?_
      exact lc_room hl C hK hZ hN hX hbl hL hF hG hRel hj (by omega) (by omega) kk
    · refine aw_tableIn (tgt := 817) C d_law_39 (by decide) (by decide) (off := 778) (by decide) (by decide) ?_
      exact lc_book hl C hK hZ hN hX hbl hL hF hG hRel hj (by omega) (by omega) kk
    · refine aw_tableIn (tgt := 897) C d_law_39 (by decide) (by decide) (off := 858) (by decide) (by decide) ?_
      exact lc_cancel hl C hK hZ hN hX hbl hL hF hG hRel hj (by omega) (by omega) kk
    · refine aw_tableIn (tgt := 960) C d_law_39 (by decide) (by decide) (off := 921) (by decide) (by decide) ?_
      exact lc_roomOf hl C hK hZ hN hX hbl hL hF hG hRel hj (by omega) (by omega) kk
    · refine aw_tableIn (tgt := 1016) C d_law_39 (by decide) (by decide) (off := 977) (by decide) (by decide) ?_
      exact lc_inside hl C hK hZ hN hX hbl hL hF hG hRel hj (by omega) (by omega) kk
    · refine aw_tableIn (tgt := 1084) C d_law_39 (by decide) (by decide) (off := 1045) (by decide) (by decide) ?_
      exact lc_gap hl C hK hZ hN hX hbl hL hF hG hRel hj (by omega) (by omega) kk
    · refine aw_tableIn (tgt := 1164) C d_law_39 (by decide) (by decide) (off := 1125) (by decide) (by decide) ?_
      exact lc_waste hl C hK hZ hN hX hbl hL hF hG hRel hj (by omega) (by omega) kk
    · refine aw_tableOut (tgt := 1177) C d_law_39 (Or.inr (by rw [nI_i (by omega)]; omega)) (by decide) ?_
      refine aw_widen (k := cells + 1) (n := slots + 6) (by omega) (by omega) ?_
      exact kk ad nb S M v hG hRel
