set_option maxHeartbeats 4000000 in
set_option maxRecDepth 100000 in
theorem lc_room {p : Program} {l : Launch} {e : Env} {s : State} {m : MethodId} {below : List Frame} {meth : Method} {c : Code} {cells slots : Nat} {Q : State → Prop} {D : va_G} {cA : Nat → ClassId} {am : Nat → Nat} {oa : Nat} {ad : Nat → Nat → Nat} {nb : Nat} {S : ds_S} {M : ms_S} {v : Int64} {b L j : Nat} {xs : Nat → Int32} (hl : l.stackTraces = false) (C : CallFix p m c code 7 s #[Value.ref b] tb_G R_La) (hK : va_K D cl_all (ds_ty cA) s) (hZ : th_Z s) (hN : nc_Z s) (hX : va_X b L xs s s.heap) (hbl : b < s.heap.size) (hL : L ≤ 2048) (hF : lwF s am oa) (hG : lwG s am oa ad nb) (hRel : Rel S M nb) (hj : 4 * j + 4 ≤ L) (hcl : cells + 1 ≤ 601024) (hsl : slots + 6 ≤ 7293034) (kk : lc_K p l e s m below meth c (cells + 1) (slots + 6) Q D cA am oa b j) : AW p l e room_1 s m #[Value.ref b] below meth c 7 cells slots Q (lwP D cA am oa ad nb S M v) (fun q => s.heap.size ≤ q) 761 [(0, .ref b), (1, .ref (ad 0 0)), (2, .ref (am 0)), (3, .ref oa), (4, .int (nI (4 * j)))] [] := by
  have hoa : ∀ k i, ds_dm nb k i → ad k i ≠ oa := fun k i h => (hG.2 k i h).2.1
  rcases op_room hRel (xs (4 * j + 1)) with ⟨k9, b1, b2, b3, b4, b5, b6, b7⟩ | ⟨b1, b2⟩ | ⟨b1, b2, b3, b4⟩
  · refine aw_aload_n C d_law_761 rfl (j := 1) rfl ?_
    refine aw_aload_n C d_law_762 rfl (j := 0) rfl ?_
    refine aw_iload C d_law_763 (j := 4) rfl ?_
    refine aw_iconst (v := 1) C d_law_765 (by decide) ?_
    refine aw_iadd C d_law_766 ?_
    refine aw_sld (v := (xs (4 * j + 1))) C hX hbl (Nat.not_le.mpr hbl) (4 * j + 1) (nI_ad (4 * j) 1) (by omega) (by omega) rfl d_law_767 ?_
    refine aw_aload_n C d_law_768 rfl (j := 3) rfl ?_
    refine aw_lawH [.ref (ad 0 0), .int (xs (4 * j + 1)), .ref oa] C hK hZ hN rfl hF hG (k_La_room l D ad cA nb S oa v (xs (4 * j + 1)) hoa _ (c_De_room l D ad cA nb S (xs (4 * j + 1)) k9 hG.1 b1 b2 b4)) (lh_cw 3 C.2.2.2.2 ml_La_La_room sm_La_room ii_La cd_La_room rfl rfl (by decide +kernel) (by decide)) rfl rfl (Nat.le_of_ble_eq_true rfl) d_law_769 ⟨show _ ≤ 601024 by omega, show _ ≤ 7293034 by omega⟩ ?_
    rintro r9 S9 ⟨rfl, rfl⟩
    refine aw_istore (i := 5) (lv' := _) C d_law_772 (by decide) rfl ?_
    refine aw_aload_n C d_law_774 rfl (j := 3) rfl ?_
    refine aw_aload_n C d_law_775 rfl (j := 1) rfl ?_
    refine aw_iload C d_law_776 (j := 5) rfl ?_
    refine aw_iconst (v := 1) C d_law_778 (by decide) ?_
    refine aw_iadd C d_law_779 ?_
    refine aw_sld (v := (xs (4 * j + 1))) C hX hbl (Nat.not_le.mpr hbl) (4 * j + 1) (nI_ad (4 * j) 1) (by omega) (by omega) rfl d_law_780 ?_
    refine aw_lawM (Cn := R_Mo) [.int (xs (4 * j + 1))] C hK rfl hF hG (c_Mo_room l D am cA M hF.1 (xs (4 * j + 1)) k9 b1 b3 b5) (cw_La_Mo_room C.2.2.2.2 rfl rfl (by decide)) rfl (fun H h => aw_recv hK rfl (h 0 (by decide))) rfl (Nat.le_of_ble_eq_true rfl) d_law_781 ⟨show _ ≤ 601024 by omega, show _ ≤ 7293034 by omega⟩ ?_
    rintro r8 M8 ⟨rfl, rfl⟩
    refine aw_istore (i := 6) (lv' := _) C d_law_784 (by decide) rfl ?_
    refine aw_aload_n C d_law_786 rfl (j := 4) rfl ?_
    refine aw_lawM (Cn := R_Mo) [] C hK rfl hF hG (c_Mo_thrown l D am cA _) (cw_La_Mo_thrown C.2.2.2.2 rfl rfl (by decide)) rfl (fun H h => aw_recv hK rfl (h 0 (by decide))) rfl (Nat.le_of_ble_eq_true rfl) d_law_787 ⟨show _ ≤ 601024 by omega, show _ ≤ 7293034 by omega⟩ ?_
    rintro r7 M7 ⟨rfl, e7⟩
    obtain rfl : r7 = 0 := e7.trans (by simp [ms_w])
    refine aw_iload C d_law_790 (j := 1) rfl ?_
    refine aw_icmp_eq (tgt := 797) C d_law_792 (by decide) (fun _ => ?_) (fun h => absurd rfl h)
    refine aw_iload C d_law_797 (j := 1) rfl ?_
    refine aw_if_ne (tgt := 814) C d_law_799 (by decide) (fun h => absurd rfl h) (fun _ => ?_)
    refine aw_aload_n C d_law_802 rfl (j := 5) rfl ?_
    refine aw_iconst (v := 0) C d_law_803 (by decide) ?_
    refine aw_lald C hK 6 rfl (fun H h => h.2.2) (ix_in (k := 0) rfl (by decide) (by decide)).1 d_law_804 ?_
    refine aw_iload C d_law_805 (j := 0) rfl ?_
    refine aw_i2l C d_law_807 rfl ?_
    refine aw_lcmp C d_law_808 ?_
    refine aw_topi (fun z7 e7 => ?_)
    obtain rfl : z7 = 0 := e7.trans (lg_eq (congrArg Int32.toInt64 b7))
    refine aw_if_eq (tgt := 814) C d_law_809 (by decide) (fun _ => ?_) (fun h => absurd rfl h)
    refine aw_goto (tgt := 1177) C d_law_814 (by decide) ?_
    refine aw_widen (k := cells + 1) (n := slots + 6) (by omega) (by omega) ?_
    refine aw_lv (lv' := [(0, .ref b), (1, .ref (ad 0 0)), (2, .ref (am 0)), (3, .ref oa), (4, .int (nI (4 * j)))]) [2, 3, 4, 5, 6] rfl ?_
    exact kk ad nb _ _ _ hG (b6)
  · refine aw_aload_n C d_law_761 rfl (j := 1) rfl ?_
    refine aw_aload_n C d_law_762 rfl (j := 0) rfl ?_
    refine aw_iload C d_law_763 (j := 4) rfl ?_
    refine aw_iconst (v := 1) C d_law_765 (by decide) ?_
    refine aw_iadd C d_law_766 ?_
    refine aw_sld (v := (xs (4 * j + 1))) C hX hbl (Nat.not_le.mpr hbl) (4 * j + 1) (nI_ad (4 * j) 1) (by omega) (by omega) rfl d_law_767 ?_
    refine aw_aload_n C d_law_768 rfl (j := 3) rfl ?_
    refine aw_lawQ [.ref (ad 0 0), .int (xs (4 * j + 1)), .ref oa] C hK hZ hN rfl (q_La_room_Ia l D ad cA nb S oa (xs (4 * j + 1)) (t_De_room1 l D ad cA nb S hl (xs (4 * j + 1)) b1)) (lh_cw 3 C.2.2.2.2 ml_La_La_room sm_La_room ii_La cd_La_room rfl rfl (by decide +kernel) (by decide)) rfl rfl (Nat.le_of_ble_eq_true rfl) d_law_769 ⟨show _ ≤ 601024 by omega, show _ ≤ 7293034 by omega⟩ ?_
    refine aw_istore (i := 5) (lv' := _) C d_law_772 (by decide) rfl ?_
    refine aw_aload_n C d_law_774 rfl (j := 3) rfl ?_
    refine aw_aload_n C d_law_775 rfl (j := 1) rfl ?_
    refine aw_iload C d_law_776 (j := 5) rfl ?_
    refine aw_iconst (v := 1) C d_law_778 (by decide) ?_
    refine aw_iadd C d_law_779 ?_
    refine aw_sld (v := (xs (4 * j + 1))) C hX hbl (Nat.not_le.mpr hbl) (4 * j + 1) (nI_ad (4 * j) 1) (by omega) (by omega) rfl d_law_780 ?_
    refine aw_lawM (Cn := R_Mo) [.int (xs (4 * j + 1))] C hK rfl hF hG (b_Mo_room1_t l D am cA M hF.1 (xs (4 * j + 1)) b2) (cw_La_Mo_room C.2.2.2.2 rfl rfl (by decide)) rfl (fun H h => aw_recv hK rfl (h 0 (by decide))) rfl (Nat.le_of_ble_eq_true rfl) d_law_781 ⟨show _ ≤ 601024 by omega, show _ ≤ 7293034 by omega⟩ ?_
    rintro r8 M8 ⟨rfl, rfl⟩
    refine aw_istore (i := 6) (lv' := _) C d_law_784 (by decide) rfl ?_
    refine aw_aload_n C d_law_786 rfl (j := 4) rfl ?_
    refine aw_lawM (Cn := R_Mo) [] C hK rfl hF hG (c_Mo_thrown l D am cA _) (cw_La_Mo_thrown C.2.2.2.2 rfl rfl (by decide)) rfl (fun H h => aw_recv hK rfl (h 0 (by decide))) rfl (Nat.le_of_ble_eq_true rfl) d_law_787 ⟨show _ ≤ 601024 by omega, show _ ≤ 7293034 by omega⟩ ?_
    rintro r7 M7 ⟨rfl, e7⟩
    obtain rfl : r7 = 1 := e7.trans (ms_w_s _ _ _ _)
    refine aw_iload C d_law_790 (j := 1) rfl ?_
    refine aw_icmp_eq (tgt := 797) C d_law_792 (by decide) (fun _ => ?_) (fun h => absurd rfl h)
    refine aw_iload C d_law_797 (j := 1) rfl ?_
    refine aw_if_ne (tgt := 814) C d_law_799 (by decide) (fun _ => ?_) (fun h => absurd h (by decide))
    refine aw_goto (tgt := 1177) C d_law_814 (by decide) ?_
    refine aw_widen (k := cells + 1) (n := slots + 6) (by omega) (by omega) ?_
    refine aw_lv (lv' := [(0, .ref b), (1, .ref (ad 0 0)), (2, .ref (am 0)), (3, .ref oa), (4, .int (nI (4 * j)))]) [2, 3, 4, 5, 6] rfl ?_
    exact kk ad nb _ _ _ hG (Rel_20 hRel 1)
  · refine aw_aload_n C d_law_761 rfl (j := 1) rfl ?_
    refine aw_aload_n C d_law_762 rfl (j := 0) rfl ?_
    refine aw_iload C d_law_763 (j := 4) rfl ?_
    refine aw_iconst (v := 1) C d_law_765 (by decide) ?_
    refine aw_iadd C d_law_766 ?_
    refine aw_sld (v := (xs (4 * j + 1))) C hX hbl (Nat.not_le.mpr hbl) (4 * j + 1) (nI_ad (4 * j) 1) (by omega) (by omega) rfl d_law_767 ?_
    refine aw_aload_n C d_law_768 rfl (j := 3) rfl ?_
    refine aw_lawQ [.ref (ad 0 0), .int (xs (4 * j + 1)), .ref oa] C hK hZ hN rfl (q_La_room_Is l D ad cA nb S oa (xs (4 * j + 1)) (t_De_room2 l D ad cA nb S hl (xs (4 * j + 1)) b1 b2)) (lh_cw 3 C.2.2.2.2 ml_La_La_room sm_La_room ii_La cd_La_room rfl rfl (by decide +kernel) (by decide)) rfl rfl (Nat.le_of_ble_eq_true rfl) d_law_769 ⟨show _ ≤ 601024 by omega, show _ ≤ 7293034 by omega⟩ ?_
    refine aw_istore (i := 5) (lv' := _) C d_law_772 (by decide) rfl ?_
    refine aw_aload_n C d_law_774 rfl (j := 3) rfl ?_
    refine aw_aload_n C d_law_775 rfl (j := 1) rfl ?_
    refine aw_iload C d_law_776 (j := 5) rfl ?_
    refine aw_iconst (v := 1) C d_law_778 (by decide) ?_
    refine aw_iadd C d_law_779 ?_
    refine aw_sld (v := (xs (4 * j + 1))) C hX hbl (Nat.not_le.mpr hbl) (4 * j + 1) (nI_ad (4 * j) 1) (by omega) (by omega) rfl d_law_780 ?_
    refine aw_lawM (Cn := R_Mo) [.int (xs (4 * j + 1))] C hK rfl hF hG (b_Mo_room2_t l D am cA M hF.1 (xs (4 * j + 1)) b3 b4) (cw_La_Mo_room C.2.2.2.2 rfl rfl (by decide)) rfl (fun H h => aw_recv hK rfl (h 0 (by decide))) rfl (Nat.le_of_ble_eq_true rfl) d_law_781 ⟨show _ ≤ 601024 by omega, show _ ≤ 7293034 by omega⟩ ?_
    rintro r8 M8 ⟨rfl, rfl⟩
    refine aw_istore (i := 6) (lv' := _) C d_law_784 (by decide) rfl ?_
    refine aw_aload_n C d_law_786 rfl (j := 4) rfl ?_
    refine aw_lawM (Cn := R_Mo) [] C hK rfl hF hG (c_Mo_thrown l D am cA _) (cw_La_Mo_thrown C.2.2.2.2 rfl rfl (by decide)) rfl (fun H h => aw_recv hK rfl (h 0 (by decide))) rfl (Nat.le_of_ble_eq_true rfl) d_law_787 ⟨show _ ≤ 601024 by omega, show _ ≤ 7293034 by omega⟩ ?_
    rintro r7 M7 ⟨rfl, e7⟩
    obtain rfl : r7 = 2 := e7.trans (ms_w_s _ _ _ _)
    refine aw_iload C d_law_790 (j := 1) rfl ?_
    refine aw_icmp_eq (tgt := 797) C d_law_792 (by decide) (fun _ => ?_) (fun h => absurd rfl h)
    refine aw_iload C d_law_797 (j := 1) rfl ?_
    refine aw_if_ne (tgt := 814) C d_law_799 (by decide) (fun _ => ?_) (fun h => absurd h (by decide))
    refine aw_goto (tgt := 1177) C d_law_814 (by decide) ?_
    refine aw_widen (k := cells + 1) (n := slots + 6) (by omega) (by omega) ?_
    refine aw_lv (lv' := [(0, .ref b), (1, .ref (ad 0 0)), (2, .ref (am 0)), (3, .ref oa), (4, .int (nI (4 * j)))]) [2, 3, 4, 5, 6] rfl ?_
    exact kk ad nb _ _ _ hG (Rel_20 hRel 2)
set_option maxHeartbeats 4000000 in
set_option maxRecDepth 100000 in
theorem lc_book {p : Program} {l : Launch} {e : Env} {s : State} {m : MethodId} {below : List Frame} {meth : Method} {c : Code} {cells slots : Nat} {Q : State → Prop} {D : va_G} {cA : Nat → ClassId} {am : Nat → Nat} {oa : Nat} {ad : Nat → Nat → Nat} {nb : Nat} {S : ds_S} {M : ms_S} {v : Int64} {b L j : Nat} {xs : Nat → Int32} (hl : l.stackTraces = false) (C : CallFix p m c code 7 s #[Value.ref b] tb_G R_La) (hK : va_K D cl_all (ds_ty cA) s) (hZ : th_Z s) (hN : nc_Z s) (hX : va_X b L xs s s.heap) (hbl : b < s.heap.size) (hL : L ≤ 2048) (hF : lwF s am oa) (hG : lwG s am oa ad nb) (hRel : Rel S M nb) (hj : 4 * j + 4 ≤ L) (hcl : cells + 1 ≤ 601024) (hsl : slots + 6 ≤ 7293034) (kk : lc_K p l e s m below meth c (cells + 1) (slots + 6) Q D cA am oa b j) : AW p l e room_1 s m #[Value.ref b] below meth c 7 cells slots Q (lwP D cA am oa ad nb S M v) (fun q => s.heap.size ≤ q) 817 [(0, .ref b), (1, .ref (ad 0 0)), (2, .ref (am 0)), (3, .ref oa), (4, .int (nI (4 * j)))] [] := by
  have hoa : ∀ k i, ds_dm nb k i → ad k i ≠ oa := fun k i h => (hG.2 k i h).2.1
  obtain ⟨hb3, e3, e29, h5, hs⟩ := op_book hRel (xs (4 * j + 1)) (xs (4 * j + 2)) (xs (4 * j + 3))
  rcases hs with ⟨Rn, n0, b1, b2, b3, b4, b5, b6, b7, b8, b9, b10, b11, b12, ⟨d1, d2⟩ | ⟨ro, d1, d2, d3, d4⟩⟩ | ⟨b1, b2⟩ | ⟨b1, b2, b3⟩ | ⟨b1, b2, b3, b4, b5, b6, b7, b8⟩
  · refine aw_aload_n C d_law_817 rfl (j := 1) rfl ?_
    refine aw_aload_n C d_law_818 rfl (j := 0) rfl ?_
    refine aw_iload C d_law_819 (j := 4) rfl ?_
    refine aw_iconst (v := 1) C d_law_821 (by decide) ?_
    refine aw_iadd C d_law_822 ?_
    refine aw_sld (v := (xs (4 * j + 1))) C hX hbl (Nat.not_le.mpr hbl) (4 * j + 1) (nI_ad (4 * j) 1) (by omega) (by omega) rfl d_law_823 ?_
    refine aw_aload_n C d_law_824 rfl (j := 0) rfl ?_
    refine aw_iload C d_law_825 (j := 4) rfl ?_
    refine aw_iconst (v := 2) C d_law_827 (by decide) ?_
    refine aw_iadd C d_law_828 ?_
    refine aw_sld (v := (xs (4 * j + 2))) C hX hbl (Nat.not_le.mpr hbl) (4 * j + 2) (nI_ad (4 * j) 2) (by omega) (by omega) rfl d_law_829 ?_
    refine aw_aload_n C d_law_830 rfl (j := 0) rfl ?_
    refine aw_iload C d_law_831 (j := 4) rfl ?_
    refine aw_iconst (v := 3) C d_law_833 (by decide) ?_
    refine aw_iadd C d_law_834 ?_
    refine aw_sld (v := (xs (4 * j + 3))) C hX hbl (Nat.not_le.mpr hbl) (4 * j + 3) (nI_ad (4 * j) 3) (by omega) (by omega) rfl d_law_835 ?_
    refine aw_aload_n C d_law_836 rfl (j := 3) rfl ?_
    refine aw_lawH [.ref (ad 0 0), .int (xs (4 * j + 1)), .int (xs (4 * j + 2)), .int (xs (4 * j + 3)), .ref oa] C hK hZ hN rfl hF hG (k_La_book l D ad cA nb S oa v (xs (4 * j + 1)) (xs (4 * j + 2)) (xs (4 * j + 3)) hoa _ (c_De_book_none l D ad cA nb S (xs (4 * j + 1)) (xs (4 * j + 2)) (xs (4 * j + 3)) Rn hG.1 b3 b1 n0 b5.1 b5.2.1 b5.2.2 b6 b7 b8 d1)) (lh_cw 5 C.2.2.2.2 ml_La_La_book sm_La_book ii_La cd_La_book rfl rfl (by decide +kernel) (by decide)) rfl rfl (Nat.le_of_ble_eq_true rfl) d_law_837 ⟨show _ ≤ 601024 by omega, show _ ≤ 7293034 by omega⟩ ?_
    rintro r9 S9 ⟨rfl, rfl⟩
    refine aw_istore (i := 5) (lv' := _) C d_law_840 (by decide) rfl ?_
    refine aw_aload_n C d_law_842 rfl (j := 3) rfl ?_
    refine aw_aload_n C d_law_843 rfl (j := 1) rfl ?_
    refine aw_iload C d_law_844 (j := 5) rfl ?_
    refine aw_iconst (v := 1) C d_law_846 (by decide) ?_
    refine aw_iadd C d_law_847 ?_
    refine aw_sld (v := (xs (4 * j + 1))) C hX hbl (Nat.not_le.mpr hbl) (4 * j + 1) (nI_ad (4 * j) 1) (by omega) (by omega) rfl d_law_848 ?_
    refine aw_aload_n C d_law_849 rfl (j := 1) rfl ?_
    refine aw_iload C d_law_850 (j := 5) rfl ?_
    refine aw_iconst (v := 2) C d_law_852 (by decide) ?_
    refine aw_iadd C d_law_853 ?_
    refine aw_sld (v := (xs (4 * j + 2))) C hX hbl (Nat.not_le.mpr hbl) (4 * j + 2) (nI_ad (4 * j) 2) (by omega) (by omega) rfl d_law_854 ?_
    refine aw_aload_n C d_law_855 rfl (j := 1) rfl ?_
    refine aw_iload C d_law_856 (j := 5) rfl ?_
    refine aw_iconst (v := 3) C d_law_858 (by decide) ?_
    refine aw_iadd C d_law_859 ?_
    refine aw_sld (v := (xs (4 * j + 3))) C hX hbl (Nat.not_le.mpr hbl) (4 * j + 3) (nI_ad (4 * j) 3) (by omega) (by omega) rfl d_law_860 ?_
    refine aw_lawM (Cn := R_Mo) [.int (xs (4 * j + 1)), .int (xs (4 * j + 2)), .int (xs (4 * j + 3))] C hK rfl hF hG (c_Mo_book l D am cA M hF.1 (xs (4 * j + 1)) (xs (4 * j + 2)) (xs (4 * j + 3)) Rn nb b1 b4 b2 e29 b9 b10 b11 b12) (cw_La_Mo_book C.2.2.2.2 rfl rfl (by decide)) rfl (fun H h => aw_recv hK rfl (h 0 (by decide))) rfl (Nat.le_of_ble_eq_true rfl) d_law_861 ⟨show _ ≤ 601024 by omega, show _ ≤ 7293034 by omega⟩ ?_
    rintro r8 M8 ⟨q1, q2⟩
    rw [d2] at q1 q2
    obtain rfl : M8 = ms_w M 20 0 0 := q1
    obtain rfl : r8 = -1 := q2
    refine aw_istore (i := 6) (lv' := _) C d_law_864 (by decide) rfl ?_
    refine aw_aload_n C d_law_866 rfl (j := 4) rfl ?_
    refine aw_lawM (Cn := R_Mo) [] C hK rfl hF hG (c_Mo_thrown l D am cA _) (cw_La_Mo_thrown C.2.2.2.2 rfl rfl (by decide)) rfl (fun H h => aw_recv hK rfl (h 0 (by decide))) rfl (Nat.le_of_ble_eq_true rfl) d_law_867 ⟨show _ ≤ 601024 by omega, show _ ≤ 7293034 by omega⟩ ?_
    rintro r7 M7 ⟨rfl, e7⟩
    obtain rfl : r7 = 0 := e7.trans (ms_w_s _ _ _ _)
    refine aw_iload C d_law_870 (j := 1) rfl ?_
    refine aw_icmp_eq (tgt := 877) C d_law_872 (by decide) (fun _ => ?_) (fun h => absurd rfl h)
    refine aw_iload C d_law_877 (j := 1) rfl ?_
    refine aw_if_ne (tgt := 894) C d_law_879 (by decide) (fun h => absurd rfl h) (fun _ => ?_)
    refine aw_aload_n C d_law_882 rfl (j := 5) rfl ?_
    refine aw_iconst (v := 0) C d_law_883 (by decide) ?_
    refine aw_lald C hK 6 rfl (fun H h => h.2.2) (ix_in (k := 0) rfl (by decide) (by decide)).1 d_law_884 ?_
    refine aw_iload C d_law_885 (j := 0) rfl ?_
    refine aw_i2l C d_law_887 rfl ?_
    refine aw_lcmp C d_law_888 ?_
    refine aw_topi (fun z7 e7 => ?_)
    obtain rfl : z7 = 0 := e7.trans (lg_eq rfl)
    refine aw_if_eq (tgt := 894) C d_law_889 (by decide) (fun _ => ?_) (fun h => absurd rfl h)
    refine aw_goto (tgt := 1177) C d_law_894 (by decide) ?_
    refine aw_widen (k := cells + 1) (n := slots + 6) (by omega) (by omega) ?_
    refine aw_lv (lv' := [(0, .ref b), (1, .ref (ad 0 0)), (2, .ref (am 0)), (3, .ref oa), (4, .int (nI (4 * j)))]) [2, 3, 4, 5, 6] rfl ?_
    exact kk ad nb _ _ _ hG (Rel_20 hRel 0)
  · refine aw_aload_n C d_law_817 rfl (j := 1) rfl ?_
    refine aw_aload_n C d_law_818 rfl (j := 0) rfl ?_
    refine aw_iload C d_law_819 (j := 4) rfl ?_
    refine aw_iconst (v := 1) C d_law_821 (by decide) ?_
    refine aw_iadd C d_law_822 ?_
    refine aw_sld (v := (xs (4 * j + 1))) C hX hbl (Nat.not_le.mpr hbl) (4 * j + 1) (nI_ad (4 * j) 1) (by omega) (by omega) rfl d_law_823 ?_
    refine aw_aload_n C d_law_824 rfl (j := 0) rfl ?_
    refine aw_iload C d_law_825 (j := 4) rfl ?_
    refine aw_iconst (v := 2) C d_law_827 (by decide) ?_
    refine aw_iadd C d_law_828 ?_
    refine aw_sld (v := (xs (4 * j + 2))) C hX hbl (Nat.not_le.mpr hbl) (4 * j + 2) (nI_ad (4 * j) 2) (by omega) (by omega) rfl d_law_829 ?_
    refine aw_aload_n C d_law_830 rfl (j := 0) rfl ?_
    refine aw_iload C d_law_831 (j := 4) rfl ?_
    refine aw_iconst (v := 3) C d_law_833 (by decide) ?_
    refine aw_iadd C d_law_834 ?_
    refine aw_sld (v := (xs (4 * j + 3))) C hX hbl (Nat.not_le.mpr hbl) (4 * j + 3) (nI_ad (4 * j) 3) (by omega) (by omega) rfl d_law_835 ?_
    refine aw_aload_n C d_law_836 rfl (j := 3) rfl ?_
    refine aw_lawB [.ref (ad 0 0), .int (xs (4 * j + 1)), .int (xs (4 * j + 2)), .int (xs (4 * j + 3)), .ref oa] C hK hZ hN rfl hF hG (k_La_book_some l D ad cA nb S oa v (xs (4 * j + 1)) (xs (4 * j + 2)) (xs (4 * j + 3)) hoa _ (c_De_book_some l D ad cA nb S (xs (4 * j + 1)) (xs (4 * j + 2)) (xs (4 * j + 3)) Rn hG.1 b3 b1 n0 b5.1 b5.2.1 b5.2.2 b6 b7 b8 ro d1 d2 e3 b2 h5) (fun z r u hz hp k i hk => by rcases bk_dm hk with ⟨rfl, rfl⟩ | ⟨hk2, -⟩; exact (fun e => by have := hp.2.2.2.2; omega); rw [hp.2.2.2.1 k i hk2]; exact (hG.2 k i hk2).2.1)) (lh_cw 5 C.2.2.2.2 ml_La_La_book sm_La_book ii_La cd_La_book rfl rfl (by decide +kernel) (by decide)) rfl rfl (Nat.le_of_ble_eq_true rfl) d_law_837 ⟨show _ ≤ 601024 by omega, show _ ≤ 7293034 by omega⟩ ?_
    intro ad' hG' had
    refine aw_istore (i := 5) (lv' := _) C d_law_840 (by decide) rfl ?_
    refine aw_aload_n C d_law_842 rfl (j := 3) rfl ?_
    refine aw_aload_n C d_law_843 rfl (j := 1) rfl ?_
    refine aw_iload C d_law_844 (j := 5) rfl ?_
    refine aw_iconst (v := 1) C d_law_846 (by decide) ?_
    refine aw_iadd C d_law_847 ?_
    refine aw_sld (v := (xs (4 * j + 1))) C hX hbl (Nat.not_le.mpr hbl) (4 * j + 1) (nI_ad (4 * j) 1) (by omega) (by omega) rfl d_law_848 ?_
    refine aw_aload_n C d_law_849 rfl (j := 1) rfl ?_
    refine aw_iload C d_law_850 (j := 5) rfl ?_
    refine aw_iconst (v := 2) C d_law_852 (by decide) ?_
    refine aw_iadd C d_law_853 ?_
    refine aw_sld (v := (xs (4 * j + 2))) C hX hbl (Nat.not_le.mpr hbl) (4 * j + 2) (nI_ad (4 * j) 2) (by omega) (by omega) rfl d_law_854 ?_
    refine aw_aload_n C d_law_855 rfl (j := 1) rfl ?_
    refine aw_iload C d_law_856 (j := 5) rfl ?_
    refine aw_iconst (v := 3) C d_law_858 (by decide) ?_
    refine aw_iadd C d_law_859 ?_
    refine aw_sld (v := (xs (4 * j + 3))) C hX hbl (Nat.not_le.mpr hbl) (4 * j + 3) (nI_ad (4 * j) 3) (by omega) (by omega) rfl d_law_860 ?_
    refine aw_lawM (Cn := R_Mo) [.int (xs (4 * j + 1)), .int (xs (4 * j + 2)), .int (xs (4 * j + 3))] C hK rfl hF hG' (c_Mo_book l D am cA M hF.1 (xs (4 * j + 1)) (xs (4 * j + 2)) (xs (4 * j + 3)) Rn nb b1 b4 b2 e29 b9 b10 b11 b12) (cw_La_Mo_book C.2.2.2.2 rfl rfl (by decide)) rfl (fun H h => aw_recv hK rfl (h 0 (by decide))) rfl (Nat.le_of_ble_eq_true rfl) d_law_861 ⟨show _ ≤ 601024 by omega, show _ ≤ 7293034 by omega⟩ ?_
    rintro r8 M8 ⟨q1, q2⟩
    rw [d3] at q1 q2
    obtain rfl : M8 = bk_F (ms_w M 20 0 0) (xs (4 * j + 1)) (xs (4 * j + 2)) (xs (4 * j + 3)) nb ro := q1
    obtain rfl : r8 = nI nb + 1 - 1 := q2
    refine aw_istore (i := 6) (lv' := _) C d_law_864 (by decide) rfl ?_
    refine aw_aload_n C d_law_866 rfl (j := 4) rfl ?_
    refine aw_lawM (Cn := R_Mo) [] C hK rfl hF hG' (c_Mo_thrown l D am cA _) (cw_La_Mo_thrown C.2.2.2.2 rfl rfl (by decide)) rfl (fun H h => aw_recv hK rfl (h 0 (by decide))) rfl (Nat.le_of_ble_eq_true rfl) d_law_867 ⟨show _ ≤ 601024 by omega, show _ ≤ 7293034 by omega⟩ ?_
    rintro r7 M7 ⟨rfl, e7⟩
    obtain rfl : r7 = 0 := e7.trans (by simp [bk_F, ms_w])
    refine aw_iload C d_law_870 (j := 1) rfl ?_
    refine aw_icmp_eq (tgt := 877) C d_law_872 (by decide) (fun _ => ?_) (fun h => absurd rfl h)
    refine aw_iload C d_law_877 (j := 1) rfl ?_
    refine aw_if_ne (tgt := 894) C d_law_879 (by decide) (fun h => absurd rfl h) (fun _ => ?_)
    refine aw_aload_n C d_law_882 rfl (j := 5) rfl ?_
    refine aw_iconst (v := 0) C d_law_883 (by decide) ?_
    refine aw_lald C hK 6 rfl (fun H h => h.2.2) (ix_in (k := 0) rfl (by decide) (by decide)).1 d_law_884 ?_
    refine aw_iload C d_law_885 (j := 0) rfl ?_
    refine aw_i2l C d_law_887 rfl ?_
    refine aw_lcmp C d_law_888 ?_
    refine aw_topi (fun z7 e7 => ?_)
    obtain rfl : z7 = 0 := e7.trans (lg_eq (congrArg Int32.toInt64 (Int32.add_sub_cancel _ _).symm))
    refine aw_if_eq (tgt := 894) C d_law_889 (by decide) (fun _ => ?_) (fun h => absurd rfl h)
    refine aw_goto (tgt := 1177) C d_law_894 (by decide) ?_
    refine aw_widen (k := cells + 1) (n := slots + 6) (by omega) (by omega) ?_
    refine aw_lv (lv' := [(0, .ref b), (1, .ref (ad 0 0)), (2, .ref (am 0)), (3, .ref oa), (4, .int (nI (4 * j)))]) [2, 3, 4, 5, 6] rfl ?_
    have k9 := kk ad' (nb + 1) _ _ (nI nb).toInt64 hG' (d4)
    rw [had] at k9
    exact k9
  · refine aw_aload_n C d_law_817 rfl (j := 1) rfl ?_
    refine aw_aload_n C d_law_818 rfl (j := 0) rfl ?_
    refine aw_iload C d_law_819 (j := 4) rfl ?_
    refine aw_iconst (v := 1) C d_law_821 (by decide) ?_
    refine aw_iadd C d_law_822 ?_
    refine aw_sld (v := (xs (4 * j + 1))) C hX hbl (Nat.not_le.mpr hbl) (4 * j + 1) (nI_ad (4 * j) 1) (by omega) (by omega) rfl d_law_823 ?_
    refine aw_aload_n C d_law_824 rfl (j := 0) rfl ?_
    refine aw_iload C d_law_825 (j := 4) rfl ?_
    refine aw_iconst (v := 2) C d_law_827 (by decide) ?_
    refine aw_iadd C d_law_828 ?_
    refine aw_sld (v := (xs (4 * j + 2))) C hX hbl (Nat.not_le.mpr hbl) (4 * j + 2) (nI_ad (4 * j) 2) (by omega) (by omega) rfl d_law_829 ?_
    refine aw_aload_n C d_law_830 rfl (j := 0) rfl ?_
    refine aw_iload C d_law_831 (j := 4) rfl ?_
    refine aw_iconst (v := 3) C d_law_833 (by decide) ?_
    refine aw_iadd C d_law_834 ?_
    refine aw_sld (v := (xs (4 * j + 3))) C hX hbl (Nat.not_le.mpr hbl) (4 * j + 3) (nI_ad (4 * j) 3) (by omega) (by omega) rfl d_law_835 ?_
    refine aw_aload_n C d_law_836 rfl (j := 3) rfl ?_
    refine aw_lawQ [.ref (ad 0 0), .int (xs (4 * j + 1)), .int (xs (4 * j + 2)), .int (xs (4 * j + 3)), .ref oa] C hK hZ hN rfl (q_La_book_Ia l D ad cA nb S oa (xs (4 * j + 1)) (xs (4 * j + 2)) (xs (4 * j + 3)) (t_De_book1 l D ad cA nb S hl (xs (4 * j + 1)) (xs (4 * j + 2)) (xs (4 * j + 3)) b1)) (lh_cw 5 C.2.2.2.2 ml_La_La_book sm_La_book ii_La cd_La_book rfl rfl (by decide +kernel) (by decide)) rfl rfl (Nat.le_of_ble_eq_true rfl) d_law_837 ⟨show _ ≤ 601024 by omega, show _ ≤ 7293034 by omega⟩ ?_
    refine aw_istore (i := 5) (lv' := _) C d_law_840 (by decide) rfl ?_
    refine aw_aload_n C d_law_842 rfl (j := 3) rfl ?_
    refine aw_aload_n C d_law_843 rfl (j := 1) rfl ?_
    refine aw_iload C d_law_844 (j := 5) rfl ?_
    refine aw_iconst (v := 1) C d_law_846 (by decide) ?_
    refine aw_iadd C d_law_847 ?_
    refine aw_sld (v := (xs (4 * j + 1))) C hX hbl (Nat.not_le.mpr hbl) (4 * j + 1) (nI_ad (4 * j) 1) (by omega) (by omega) rfl d_law_848 ?_
    refine aw_aload_n C d_law_849 rfl (j := 1) rfl ?_
    refine aw_iload C d_law_850 (j := 5) rfl ?_
    refine aw_iconst (v := 2) C d_law_852 (by decide) ?_
    refine aw_iadd C d_law_853 ?_
    refine aw_sld (v := (xs (4 * j + 2))) C hX hbl (Nat.not_le.mpr hbl) (4 * j + 2) (nI_ad (4 * j) 2) (by omega) (by omega) rfl d_law_854 ?_
    refine aw_aload_n C d_law_855 rfl (j := 1) rfl ?_
    refine aw_iload C d_law_856 (j := 5) rfl ?_
    refine aw_iconst (v := 3) C d_law_858 (by decide) ?_
    refine aw_iadd C d_law_859 ?_
    refine aw_sld (v := (xs (4 * j + 3))) C hX hbl (Nat.not_le.mpr hbl) (4 * j + 3) (nI_ad (4 * j) 3) (by omega) (by omega) rfl d_law_860 ?_
    refine aw_lawM (Cn := R_Mo) [.int (xs (4 * j + 1)), .int (xs (4 * j + 2)), .int (xs (4 * j + 3))] C hK rfl hF hG (b_Mo_book1_t l D am cA M hF.1 (xs (4 * j + 1)) (xs (4 * j + 2)) (xs (4 * j + 3)) (Or.inl b2)) (cw_La_Mo_book C.2.2.2.2 rfl rfl (by decide)) rfl (fun H h => aw_recv hK rfl (h 0 (by decide))) rfl (Nat.le_of_ble_eq_true rfl) d_law_861 ⟨show _ ≤ 601024 by omega, show _ ≤ 7293034 by omega⟩ ?_
    rintro r8 M8 ⟨rfl, rfl⟩
    refine aw_istore (i := 6) (lv' := _) C d_law_864 (by decide) rfl ?_
    refine aw_aload_n C d_law_866 rfl (j := 4) rfl ?_
    refine aw_lawM (Cn := R_Mo) [] C hK rfl hF hG (c_Mo_thrown l D am cA _) (cw_La_Mo_thrown C.2.2.2.2 rfl rfl (by decide)) rfl (fun H h => aw_recv hK rfl (h 0 (by decide))) rfl (Nat.le_of_ble_eq_true rfl) d_law_867 ⟨show _ ≤ 601024 by omega, show _ ≤ 7293034 by omega⟩ ?_
    rintro r7 M7 ⟨rfl, e7⟩
    obtain rfl : r7 = 1 := e7.trans (ms_w_s _ _ _ _)
    refine aw_iload C d_law_870 (j := 1) rfl ?_
    refine aw_icmp_eq (tgt := 877) C d_law_872 (by decide) (fun _ => ?_) (fun h => absurd rfl h)
    refine aw_iload C d_law_877 (j := 1) rfl ?_
    refine aw_if_ne (tgt := 894) C d_law_879 (by decide) (fun _ => ?_) (fun h => absurd h (by decide))
    refine aw_goto (tgt := 1177) C d_law_894 (by decide) ?_
    refine aw_widen (k := cells + 1) (n := slots + 6) (by omega) (by omega) ?_
    refine aw_lv (lv' := [(0, .ref b), (1, .ref (ad 0 0)), (2, .ref (am 0)), (3, .ref oa), (4, .int (nI (4 * j)))]) [2, 3, 4, 5, 6] rfl ?_
    exact kk ad nb _ _ _ hG (Rel_20 hRel 1)
  · refine aw_aload_n C d_law_817 rfl (j := 1) rfl ?_
    refine aw_aload_n C d_law_818 rfl (j := 0) rfl ?_
    refine aw_iload C d_law_819 (j := 4) rfl ?_
    refine aw_iconst (v := 1) C d_law_821 (by decide) ?_
    refine aw_iadd C d_law_822 ?_
    refine aw_sld (v := (xs (4 * j + 1))) C hX hbl (Nat.not_le.mpr hbl) (4 * j + 1) (nI_ad (4 * j) 1) (by omega) (by omega) rfl d_law_823 ?_
    refine aw_aload_n C d_law_824 rfl (j := 0) rfl ?_
    refine aw_iload C d_law_825 (j := 4) rfl ?_
    refine aw_iconst (v := 2) C d_law_827 (by decide) ?_
    refine aw_iadd C d_law_828 ?_
    refine aw_sld (v := (xs (4 * j + 2))) C hX hbl (Nat.not_le.mpr hbl) (4 * j + 2) (nI_ad (4 * j) 2) (by omega) (by omega) rfl d_law_829 ?_
    refine aw_aload_n C d_law_830 rfl (j := 0) rfl ?_
    refine aw_iload C d_law_831 (j := 4) rfl ?_
    refine aw_iconst (v := 3) C d_law_833 (by decide) ?_
    refine aw_iadd C d_law_834 ?_
    refine aw_sld (v := (xs (4 * j + 3))) C hX hbl (Nat.not_le.mpr hbl) (4 * j + 3) (nI_ad (4 * j) 3) (by omega) (by omega) rfl d_law_835 ?_
    refine aw_aload_n C d_law_836 rfl (j := 3) rfl ?_
    refine aw_lawQ [.ref (ad 0 0), .int (xs (4 * j + 1)), .int (xs (4 * j + 2)), .int (xs (4 * j + 3)), .ref oa] C hK hZ hN rfl (q_La_book_Ia l D ad cA nb S oa (xs (4 * j + 1)) (xs (4 * j + 2)) (xs (4 * j + 3)) (t_De_book2 l D ad cA nb S hl (xs (4 * j + 1)) (xs (4 * j + 2)) (xs (4 * j + 3)) b1 b2)) (lh_cw 5 C.2.2.2.2 ml_La_La_book sm_La_book ii_La cd_La_book rfl rfl (by decide +kernel) (by decide)) rfl rfl (Nat.le_of_ble_eq_true rfl) d_law_837 ⟨show _ ≤ 601024 by omega, show _ ≤ 7293034 by omega⟩ ?_
    refine aw_istore (i := 5) (lv' := _) C d_law_840 (by decide) rfl ?_
    refine aw_aload_n C d_law_842 rfl (j := 3) rfl ?_
    refine aw_aload_n C d_law_843 rfl (j := 1) rfl ?_
    refine aw_iload C d_law_844 (j := 5) rfl ?_
    refine aw_iconst (v := 1) C d_law_846 (by decide) ?_
    refine aw_iadd C d_law_847 ?_
    refine aw_sld (v := (xs (4 * j + 1))) C hX hbl (Nat.not_le.mpr hbl) (4 * j + 1) (nI_ad (4 * j) 1) (by omega) (by omega) rfl d_law_848 ?_
    refine aw_aload_n C d_law_849 rfl (j := 1) rfl ?_
    refine aw_iload C d_law_850 (j := 5) rfl ?_
    refine aw_iconst (v := 2) C d_law_852 (by decide) ?_
    refine aw_iadd C d_law_853 ?_
    refine aw_sld (v := (xs (4 * j + 2))) C hX hbl (Nat.not_le.mpr hbl) (4 * j + 2) (nI_ad (4 * j) 2) (by omega) (by omega) rfl d_law_854 ?_
    refine aw_aload_n C d_law_855 rfl (j := 1) rfl ?_
    refine aw_iload C d_law_856 (j := 5) rfl ?_
    refine aw_iconst (v := 3) C d_law_858 (by decide) ?_
    refine aw_iadd C d_law_859 ?_
    refine aw_sld (v := (xs (4 * j + 3))) C hX hbl (Nat.not_le.mpr hbl) (4 * j + 3) (nI_ad (4 * j) 3) (by omega) (by omega) rfl d_law_860 ?_
    refine aw_lawM (Cn := R_Mo) [.int (xs (4 * j + 1)), .int (xs (4 * j + 2)), .int (xs (4 * j + 3))] C hK rfl hF hG (b_Mo_book1_t l D am cA M hF.1 (xs (4 * j + 1)) (xs (4 * j + 2)) (xs (4 * j + 3)) (Or.inr b3)) (cw_La_Mo_book C.2.2.2.2 rfl rfl (by decide)) rfl (fun H h => aw_recv hK rfl (h 0 (by decide))) rfl (Nat.le_of_ble_eq_true rfl) d_law_861 ⟨show _ ≤ 601024 by omega, show _ ≤ 7293034 by omega⟩ ?_
    rintro r8 M8 ⟨rfl, rfl⟩
    refine aw_istore (i := 6) (lv' := _) C d_law_864 (by decide) rfl ?_
    refine aw_aload_n C d_law_866 rfl (j := 4) rfl ?_
    refine aw_lawM (Cn := R_Mo) [] C hK rfl hF hG (c_Mo_thrown l D am cA _) (cw_La_Mo_thrown C.2.2.2.2 rfl rfl (by decide)) rfl (fun H h => aw_recv hK rfl (h 0 (by decide))) rfl (Nat.le_of_ble_eq_true rfl) d_law_867 ⟨show _ ≤ 601024 by omega, show _ ≤ 7293034 by omega⟩ ?_
    rintro r7 M7 ⟨rfl, e7⟩
    obtain rfl : r7 = 1 := e7.trans (ms_w_s _ _ _ _)
    refine aw_iload C d_law_870 (j := 1) rfl ?_
    refine aw_icmp_eq (tgt := 877) C d_law_872 (by decide) (fun _ => ?_) (fun h => absurd rfl h)
    refine aw_iload C d_law_877 (j := 1) rfl ?_
    refine aw_if_ne (tgt := 894) C d_law_879 (by decide) (fun _ => ?_) (fun h => absurd h (by decide))
    refine aw_goto (tgt := 1177) C d_law_894 (by decide) ?_
    refine aw_widen (k := cells + 1) (n := slots + 6) (by omega) (by omega) ?_
    refine aw_lv (lv' := [(0, .ref b), (1, .ref (ad 0 0)), (2, .ref (am 0)), (3, .ref oa), (4, .int (nI (4 * j)))]) [2, 3, 4, 5, 6] rfl ?_
    exact kk ad nb _ _ _ hG (Rel_20 hRel 1)
  · refine aw_aload_n C d_law_817 rfl (j := 1) rfl ?_
    refine aw_aload_n C d_law_818 rfl (j := 0) rfl ?_
    refine aw_iload C d_law_819 (j := 4) rfl ?_
    refine aw_iconst (v := 1) C d_law_821 (by decide) ?_
    refine aw_iadd C d_law_822 ?_
    refine aw_sld (v := (xs (4 * j + 1))) C hX hbl (Nat.not_le.mpr hbl) (4 * j + 1) (nI_ad (4 * j) 1) (by omega) (by omega) rfl d_law_823 ?_
    refine aw_aload_n C d_law_824 rfl (j := 0) rfl ?_
    refine aw_iload C d_law_825 (j := 4) rfl ?_
    refine aw_iconst (v := 2) C d_law_827 (by decide) ?_
    refine aw_iadd C d_law_828 ?_
    refine aw_sld (v := (xs (4 * j + 2))) C hX hbl (Nat.not_le.mpr hbl) (4 * j + 2) (nI_ad (4 * j) 2) (by omega) (by omega) rfl d_law_829 ?_
    refine aw_aload_n C d_law_830 rfl (j := 0) rfl ?_
    refine aw_iload C d_law_831 (j := 4) rfl ?_
    refine aw_iconst (v := 3) C d_law_833 (by decide) ?_
    refine aw_iadd C d_law_834 ?_
    refine aw_sld (v := (xs (4 * j + 3))) C hX hbl (Nat.not_le.mpr hbl) (4 * j + 3) (nI_ad (4 * j) 3) (by omega) (by omega) rfl d_law_835 ?_
    refine aw_aload_n C d_law_836 rfl (j := 3) rfl ?_
    refine aw_lawQ [.ref (ad 0 0), .int (xs (4 * j + 1)), .int (xs (4 * j + 2)), .int (xs (4 * j + 3)), .ref oa] C hK hZ hN rfl (q_La_book_Is l D ad cA nb S oa (xs (4 * j + 1)) (xs (4 * j + 2)) (xs (4 * j + 3)) (t_De_book3 l D ad cA nb S hl (xs (4 * j + 1)) (xs (4 * j + 2)) (xs (4 * j + 3)) b1 b2 b3)) (lh_cw 5 C.2.2.2.2 ml_La_La_book sm_La_book ii_La cd_La_book rfl rfl (by decide +kernel) (by decide)) rfl rfl (Nat.le_of_ble_eq_true rfl) d_law_837 ⟨show _ ≤ 601024 by omega, show _ ≤ 7293034 by omega⟩ ?_
    refine aw_istore (i := 5) (lv' := _) C d_law_840 (by decide) rfl ?_
    refine aw_aload_n C d_law_842 rfl (j := 3) rfl ?_
    refine aw_aload_n C d_law_843 rfl (j := 1) rfl ?_
    refine aw_iload C d_law_844 (j := 5) rfl ?_
    refine aw_iconst (v := 1) C d_law_846 (by decide) ?_
    refine aw_iadd C d_law_847 ?_
    refine aw_sld (v := (xs (4 * j + 1))) C hX hbl (Nat.not_le.mpr hbl) (4 * j + 1) (nI_ad (4 * j) 1) (by omega) (by omega) rfl d_law_848 ?_
    refine aw_aload_n C d_law_849 rfl (j := 1) rfl ?_
    refine aw_iload C d_law_850 (j := 5) rfl ?_
    refine aw_iconst (v := 2) C d_law_852 (by decide) ?_
    refine aw_iadd C d_law_853 ?_
    refine aw_sld (v := (xs (4 * j + 2))) C hX hbl (Nat.not_le.mpr hbl) (4 * j + 2) (nI_ad (4 * j) 2) (by omega) (by omega) rfl d_law_854 ?_
    refine aw_aload_n C d_law_855 rfl (j := 1) rfl ?_
    refine aw_iload C d_law_856 (j := 5) rfl ?_
    refine aw_iconst (v := 3) C d_law_858 (by decide) ?_
    refine aw_iadd C d_law_859 ?_
    refine aw_sld (v := (xs (4 * j + 3))) C hX hbl (Nat.not_le.mpr hbl) (4 * j + 3) (nI_ad (4 * j) 3) (by omega) (by omega) rfl d_law_860 ?_
    refine aw_lawM (Cn := R_Mo) [.int (xs (4 * j + 1)), .int (xs (4 * j + 2)), .int (xs (4 * j + 3))] C hK rfl hF hG (b_Mo_book2_t l D am cA M hF.1 (xs (4 * j + 1)) (xs (4 * j + 2)) (xs (4 * j + 3)) b4 b5 b6 b7 b8) (cw_La_Mo_book C.2.2.2.2 rfl rfl (by decide)) rfl (fun H h => aw_recv hK rfl (h 0 (by decide))) rfl (Nat.le_of_ble_eq_true rfl) d_law_861 ⟨show _ ≤ 601024 by omega, show _ ≤ 7293034 by omega⟩ ?_
    rintro r8 M8 ⟨rfl, rfl⟩
    refine aw_istore (i := 6) (lv' := _) C d_law_864 (by decide) rfl ?_
    refine aw_aload_n C d_law_866 rfl (j := 4) rfl ?_
    refine aw_lawM (Cn := R_Mo) [] C hK rfl hF hG (c_Mo_thrown l D am cA _) (cw_La_Mo_thrown C.2.2.2.2 rfl rfl (by decide)) rfl (fun H h => aw_recv hK rfl (h 0 (by decide))) rfl (Nat.le_of_ble_eq_true rfl) d_law_867 ⟨show _ ≤ 601024 by omega, show _ ≤ 7293034 by omega⟩ ?_
    rintro r7 M7 ⟨rfl, e7⟩
    obtain rfl : r7 = 2 := e7.trans (ms_w_s _ _ _ _)
    refine aw_iload C d_law_870 (j := 1) rfl ?_
    refine aw_icmp_eq (tgt := 877) C d_law_872 (by decide) (fun _ => ?_) (fun h => absurd rfl h)
    refine aw_iload C d_law_877 (j := 1) rfl ?_
    refine aw_if_ne (tgt := 894) C d_law_879 (by decide) (fun _ => ?_) (fun h => absurd h (by decide))
    refine aw_goto (tgt := 1177) C d_law_894 (by decide) ?_
    refine aw_widen (k := cells + 1) (n := slots + 6) (by omega) (by omega) ?_
    refine aw_lv (lv' := [(0, .ref b), (1, .ref (ad 0 0)), (2, .ref (am 0)), (3, .ref oa), (4, .int (nI (4 * j)))]) [2, 3, 4, 5, 6] rfl ?_
    exact kk ad nb _ _ _ hG (Rel_20 hRel 2)
set_option maxHeartbeats 4000000 in
set_option maxRecDepth 100000 in
theorem lc_cancel {p : Program} {l : Launch} {e : Env} {s : State} {m : MethodId} {below : List Frame} {meth : Method} {c : Code} {cells slots : Nat} {Q : State → Prop} {D : va_G} {cA : Nat → ClassId} {am : Nat → Nat} {oa : Nat} {ad : Nat → Nat → Nat} {nb : Nat} {S : ds_S} {M : ms_S} {v : Int64} {b L j : Nat} {xs : Nat → Int32} (hl : l.stackTraces = false) (C : CallFix p m c code 7 s #[Value.ref b] tb_G R_La) (hK : va_K D cl_all (ds_ty cA) s) (hZ : th_Z s) (hN : nc_Z s) (hX : va_X b L xs s s.heap) (hbl : b < s.heap.size) (hL : L ≤ 2048) (hF : lwF s am oa) (hG : lwG s am oa ad nb) (hRel : Rel S M nb) (hj : 4 * j + 4 ≤ L) (hcl : cells + 1 ≤ 601024) (hsl : slots + 6 ≤ 7293034) (kk : lc_K p l e s m below meth c (cells + 1) (slots + 6) Q D cA am oa b j) : AW p l e room_1 s m #[Value.ref b] below meth c 7 cells slots Q (lwP D cA am oa ad nb S M v) (fun q => s.heap.size ≤ q) 897 [(0, .ref b), (1, .ref (ad 0 0)), (2, .ref (am 0)), (3, .ref oa), (4, .int (nI (4 * j)))] [] := by
  have hoa : ∀ k i, ds_dm nb k i → ad k i ≠ oa := fun k i h => (hG.2 k i h).2.1
  rcases op_cancel hRel (xs (4 * j + 1)) with ⟨g, ro, n0, b1, b2, b3, b4, b5, b6, b7, b8, b9, b10, b11⟩ | ⟨b1, b2⟩ | ⟨g, b1, b2, b3, b4, b5⟩
  · refine aw_aload_n C d_law_897 rfl (j := 1) rfl ?_
    refine aw_aload_n C d_law_898 rfl (j := 0) rfl ?_
    refine aw_iload C d_law_899 (j := 4) rfl ?_
    refine aw_iconst (v := 1) C d_law_901 (by decide) ?_
    refine aw_iadd C d_law_902 ?_
    refine aw_sld (v := (nI g)) C hX hbl (Nat.not_le.mpr hbl) (4 * j + 1) (nI_ad (4 * j) 1) (by omega) (by omega) b5 d_law_903 ?_
    refine aw_aload_n C d_law_904 rfl (j := 3) rfl ?_
    refine aw_lawH [.ref (ad 0 0), .int (nI g), .ref oa] C hK hZ hN rfl hF hG (k_La_cancel l D ad cA nb S oa v (nI g) hoa _ (c_De_cancel l D ad cA nb S g ro hG.1 b1 b2 b3 b4 b6.1 b6.2 n0 b7.1 b7.2.1 b7.2.2) (fun r u h => by rw [h.2, b11]; exact b9)) (lh_cw 3 C.2.2.2.2 ml_La_La_cancel sm_La_cancel ii_La cd_La_cancel rfl rfl (by decide +kernel) (by decide)) rfl rfl (Nat.le_of_ble_eq_true rfl) d_law_905 ⟨show _ ≤ 601024 by omega, show _ ≤ 7293034 by omega⟩ ?_
    rintro r9 S9 ⟨rfl, rfl⟩
    refine aw_istore (i := 5) (lv' := _) C d_law_908 (by decide) rfl ?_
    refine aw_aload_n C d_law_910 rfl (j := 3) rfl ?_
    refine aw_aload_n C d_law_911 rfl (j := 1) rfl ?_
    refine aw_iload C d_law_912 (j := 5) rfl ?_
    refine aw_iconst (v := 1) C d_law_914 (by decide) ?_
    refine aw_iadd C d_law_915 ?_
    refine aw_sld (v := (nI g)) C hX hbl (Nat.not_le.mpr hbl) (4 * j + 1) (nI_ad (4 * j) 1) (by omega) (by omega) b5 d_law_916 ?_
    refine aw_lawM (Cn := R_Mo) [.int (nI g)] C hK rfl hF hG (c_Mo_cancel l D am cA M hF.1 g b2 b8 b9) (cw_La_Mo_cancel C.2.2.2.2 rfl rfl (by decide)) rfl (fun H h => aw_recv hK rfl (h 0 (by decide))) rfl (Nat.le_of_ble_eq_true rfl) d_law_917 ⟨show _ ≤ 601024 by omega, show _ ≤ 7293034 by omega⟩ ?_
    rintro r8 M8 ⟨rfl, rfl⟩
    refine aw_istore (i := 6) (lv' := _) C d_law_920 (by decide) rfl ?_
    refine aw_aload_n C d_law_922 rfl (j := 4) rfl ?_
    refine aw_lawM (Cn := R_Mo) [] C hK rfl hF hG (c_Mo_thrown l D am cA _) (cw_La_Mo_thrown C.2.2.2.2 rfl rfl (by decide)) rfl (fun H h => aw_recv hK rfl (h 0 (by decide))) rfl (Nat.le_of_ble_eq_true rfl) d_law_923 ⟨show _ ≤ 601024 by omega, show _ ≤ 7293034 by omega⟩ ?_
    rintro r7 M7 ⟨rfl, e7⟩
    obtain rfl : r7 = 0 := e7.trans (by simp [ms_w])
    refine aw_iload C d_law_926 (j := 1) rfl ?_
    refine aw_icmp_eq (tgt := 933) C d_law_928 (by decide) (fun _ => ?_) (fun h => absurd rfl h)
    refine aw_iload C d_law_933 (j := 1) rfl ?_
    refine aw_if_ne (tgt := 957) C d_law_935 (by decide) (fun h => absurd rfl h) (fun _ => ?_)
    refine aw_aload_n C d_law_938 rfl (j := 5) rfl ?_
    refine aw_iconst (v := 0) C d_law_939 (by decide) ?_
    refine aw_lald C hK 6 rfl (fun H h => h.2.2) (ix_in (k := 0) rfl (by decide) (by decide)).1 d_law_940 ?_
    refine aw_iload C d_law_941 (j := 0) rfl ?_
    refine aw_if_eq (tgt := 950) C d_law_943 (by decide) (fun h8 => ?_) (fun h8 => ?_)
    · refine aw_lconst (v := 0) C d_law_950 (by decide) ?_
      refine aw_lcmp C d_law_951 ?_
      refine aw_topi (fun z7 e7 => ?_)
      obtain rfl : z7 = 0 := e7.trans (lg_eq (if_pos (b11.trans h8)))
      refine aw_if_eq (tgt := 957) C d_law_952 (by decide) (fun _ => ?_) (fun h => absurd rfl h)
      refine aw_goto (tgt := 1177) C d_law_957 (by decide) ?_
      refine aw_widen (k := cells + 1) (n := slots + 6) (by omega) (by omega) ?_
      refine aw_lv (lv' := [(0, .ref b), (1, .ref (ad 0 0)), (2, .ref (am 0)), (3, .ref oa), (4, .int (nI (4 * j)))]) [2, 3, 4, 5, 6] rfl ?_
      exact kk ad nb _ _ _ hG (b10)
    · refine aw_lconst (v := 1) C d_law_946 (by decide) ?_
      refine aw_goto (tgt := 951) C d_law_947 (by decide) ?_
      refine aw_lcmp C d_law_951 ?_
      refine aw_topi (fun z7 e7 => ?_)
      obtain rfl : z7 = 0 := e7.trans (lg_eq (if_neg (fun h => h8 (b11.symm.trans h))))
      refine aw_if_eq (tgt := 957) C d_law_952 (by decide) (fun _ => ?_) (fun h => absurd rfl h)
      refine aw_goto (tgt := 1177) C d_law_957 (by decide) ?_
      refine aw_widen (k := cells + 1) (n := slots + 6) (by omega) (by omega) ?_
      refine aw_lv (lv' := [(0, .ref b), (1, .ref (ad 0 0)), (2, .ref (am 0)), (3, .ref oa), (4, .int (nI (4 * j)))]) [2, 3, 4, 5, 6] rfl ?_
      exact kk ad nb _ _ _ hG (b10)
  · refine aw_aload_n C d_law_897 rfl (j := 1) rfl ?_
    refine aw_aload_n C d_law_898 rfl (j := 0) rfl ?_
    refine aw_iload C d_law_899 (j := 4) rfl ?_
    refine aw_iconst (v := 1) C d_law_901 (by decide) ?_
    refine aw_iadd C d_law_902 ?_
    refine aw_sld (v := (xs (4 * j + 1))) C hX hbl (Nat.not_le.mpr hbl) (4 * j + 1) (nI_ad (4 * j) 1) (by omega) (by omega) rfl d_law_903 ?_
    refine aw_aload_n C d_law_904 rfl (j := 3) rfl ?_
    refine aw_lawQ [.ref (ad 0 0), .int (xs (4 * j + 1)), .ref oa] C hK hZ hN rfl (q_La_cancel_Ia l D ad cA nb S oa (xs (4 * j + 1)) (t_De_cancel1 l D ad cA nb S hl (xs (4 * j + 1)) b1)) (lh_cw 3 C.2.2.2.2 ml_La_La_cancel sm_La_cancel ii_La cd_La_cancel rfl rfl (by decide +kernel) (by decide)) rfl rfl (Nat.le_of_ble_eq_true rfl) d_law_905 ⟨show _ ≤ 601024 by omega, show _ ≤ 7293034 by omega⟩ ?_
    refine aw_istore (i := 5) (lv' := _) C d_law_908 (by decide) rfl ?_
    refine aw_aload_n C d_law_910 rfl (j := 3) rfl ?_
    refine aw_aload_n C d_law_911 rfl (j := 1) rfl ?_
    refine aw_iload C d_law_912 (j := 5) rfl ?_
    refine aw_iconst (v := 1) C d_law_914 (by decide) ?_
    refine aw_iadd C d_law_915 ?_
    refine aw_sld (v := (xs (4 * j + 1))) C hX hbl (Nat.not_le.mpr hbl) (4 * j + 1) (nI_ad (4 * j) 1) (by omega) (by omega) rfl d_law_916 ?_
    refine aw_lawM (Cn := R_Mo) [.int (xs (4 * j + 1))] C hK rfl hF hG (b_Mo_cancel_t l D am cA M hF.1 (xs (4 * j + 1)) b2) (cw_La_Mo_cancel C.2.2.2.2 rfl rfl (by decide)) rfl (fun H h => aw_recv hK rfl (h 0 (by decide))) rfl (Nat.le_of_ble_eq_true rfl) d_law_917 ⟨show _ ≤ 601024 by omega, show _ ≤ 7293034 by omega⟩ ?_
    rintro r8 M8 ⟨rfl, rfl⟩
    refine aw_istore (i := 6) (lv' := _) C d_law_920 (by decide) rfl ?_
    refine aw_aload_n C d_law_922 rfl (j := 4) rfl ?_
    refine aw_lawM (Cn := R_Mo) [] C hK rfl hF hG (c_Mo_thrown l D am cA _) (cw_La_Mo_thrown C.2.2.2.2 rfl rfl (by decide)) rfl (fun H h => aw_recv hK rfl (h 0 (by decide))) rfl (Nat.le_of_ble_eq_true rfl) d_law_923 ⟨show _ ≤ 601024 by omega, show _ ≤ 7293034 by omega⟩ ?_
    rintro r7 M7 ⟨rfl, e7⟩
    obtain rfl : r7 = 1 := e7.trans (ms_w_s _ _ _ _)
    refine aw_iload C d_law_926 (j := 1) rfl ?_
    refine aw_icmp_eq (tgt := 933) C d_law_928 (by decide) (fun _ => ?_) (fun h => absurd rfl h)
    refine aw_iload C d_law_933 (j := 1) rfl ?_
    refine aw_if_ne (tgt := 957) C d_law_935 (by decide) (fun _ => ?_) (fun h => absurd h (by decide))
    refine aw_goto (tgt := 1177) C d_law_957 (by decide) ?_
    refine aw_widen (k := cells + 1) (n := slots + 6) (by omega) (by omega) ?_
    refine aw_lv (lv' := [(0, .ref b), (1, .ref (ad 0 0)), (2, .ref (am 0)), (3, .ref oa), (4, .int (nI (4 * j)))]) [2, 3, 4, 5, 6] rfl ?_
    exact kk ad nb _ _ _ hG (Rel_20 hRel 1)
  · refine aw_aload_n C d_law_897 rfl (j := 1) rfl ?_
    refine aw_aload_n C d_law_898 rfl (j := 0) rfl ?_
    refine aw_iload C d_law_899 (j := 4) rfl ?_
    refine aw_iconst (v := 1) C d_law_901 (by decide) ?_
    refine aw_iadd C d_law_902 ?_
    refine aw_sld (v := (nI g)) C hX hbl (Nat.not_le.mpr hbl) (4 * j + 1) (nI_ad (4 * j) 1) (by omega) (by omega) b3 d_law_903 ?_
    refine aw_aload_n C d_law_904 rfl (j := 3) rfl ?_
    refine aw_lawQ [.ref (ad 0 0), .int (nI g), .ref oa] C hK hZ hN rfl (q_La_cancel_Ia l D ad cA nb S oa (nI g) (t_De_cancel2 l D ad cA nb S hl g b1 b2 b4.1 b4.2)) (lh_cw 3 C.2.2.2.2 ml_La_La_cancel sm_La_cancel ii_La cd_La_cancel rfl rfl (by decide +kernel) (by decide)) rfl rfl (Nat.le_of_ble_eq_true rfl) d_law_905 ⟨show _ ≤ 601024 by omega, show _ ≤ 7293034 by omega⟩ ?_
    refine aw_istore (i := 5) (lv' := _) C d_law_908 (by decide) rfl ?_
    refine aw_aload_n C d_law_910 rfl (j := 3) rfl ?_
    refine aw_aload_n C d_law_911 rfl (j := 1) rfl ?_
    refine aw_iload C d_law_912 (j := 5) rfl ?_
    refine aw_iconst (v := 1) C d_law_914 (by decide) ?_
    refine aw_iadd C d_law_915 ?_
    refine aw_sld (v := (nI g)) C hX hbl (Nat.not_le.mpr hbl) (4 * j + 1) (nI_ad (4 * j) 1) (by omega) (by omega) b3 d_law_916 ?_
    refine aw_lawM (Cn := R_Mo) [.int (nI g)] C hK rfl hF hG (b_Mo_cancel_t l D am cA M hF.1 (nI g) b5) (cw_La_Mo_cancel C.2.2.2.2 rfl rfl (by decide)) rfl (fun H h => aw_recv hK rfl (h 0 (by decide))) rfl (Nat.le_of_ble_eq_true rfl) d_law_917 ⟨show _ ≤ 601024 by omega, show _ ≤ 7293034 by omega⟩ ?_
    rintro r8 M8 ⟨rfl, rfl⟩
    refine aw_istore (i := 6) (lv' := _) C d_law_920 (by decide) rfl ?_
    refine aw_aload_n C d_law_922 rfl (j := 4) rfl ?_
    refine aw_lawM (Cn := R_Mo) [] C hK rfl hF hG (c_Mo_thrown l D am cA _) (cw_La_Mo_thrown C.2.2.2.2 rfl rfl (by decide)) rfl (fun H h => aw_recv hK rfl (h 0 (by decide))) rfl (Nat.le_of_ble_eq_true rfl) d_law_923 ⟨show _ ≤ 601024 by omega, show _ ≤ 7293034 by omega⟩ ?_
    rintro r7 M7 ⟨rfl, e7⟩
    obtain rfl : r7 = 1 := e7.trans (ms_w_s _ _ _ _)
    refine aw_iload C d_law_926 (j := 1) rfl ?_
    refine aw_icmp_eq (tgt := 933) C d_law_928 (by decide) (fun _ => ?_) (fun h => absurd rfl h)
    refine aw_iload C d_law_933 (j := 1) rfl ?_
    refine aw_if_ne (tgt := 957) C d_law_935 (by decide) (fun _ => ?_) (fun h => absurd h (by decide))
    refine aw_goto (tgt := 1177) C d_law_957 (by decide) ?_
    refine aw_widen (k := cells + 1) (n := slots + 6) (by omega) (by omega) ?_
    refine aw_lv (lv' := [(0, .ref b), (1, .ref (ad 0 0)), (2, .ref (am 0)), (3, .ref oa), (4, .int (nI (4 * j)))]) [2, 3, 4, 5, 6] rfl ?_
    exact kk ad nb _ _ _ hG (Rel_20 hRel 1)
set_option maxHeartbeats 4000000 in
set_option maxRecDepth 100000 in
theorem lc_roomOf {p : Program} {l : Launch} {e : Env} {s : State} {m : MethodId} {below : List Frame} {meth : Method} {c : Code} {cells slots : Nat} {Q : State → Prop} {D : va_G} {cA : Nat → ClassId} {am : Nat → Nat} {oa : Nat} {ad : Nat → Nat → Nat} {nb : Nat} {S : ds_S} {M : ms_S} {v : Int64} {b L j : Nat} {xs : Nat → Int32} (hl : l.stackTraces = false) (C : CallFix p m c code 7 s #[Value.ref b] tb_G R_La) (hK : va_K D cl_all (ds_ty cA) s) (hZ : th_Z s) (hN : nc_Z s) (hX : va_X b L xs s s.heap) (hbl : b < s.heap.size) (hL : L ≤ 2048) (hF : lwF s am oa) (hG : lwG s am oa ad nb) (hRel : Rel S M nb) (hj : 4 * j + 4 ≤ L) (hcl : cells + 1 ≤ 601024) (hsl : slots + 6 ≤ 7293034) (kk : lc_K p l e s m below meth c (cells + 1) (slots + 6) Q D cA am oa b j) : AW p l e room_1 s m #[Value.ref b] below meth c 7 cells slots Q (lwP D cA am oa ad nb S M v) (fun q => s.heap.size ≤ q) 960 [(0, .ref b), (1, .ref (ad 0 0)), (2, .ref (am 0)), (3, .ref oa), (4, .int (nI (4 * j)))] [] := by
  have hoa : ∀ k i, ds_dm nb k i → ad k i ≠ oa := fun k i h => (hG.2 k i h).2.1
  rcases op_roomOf hRel (xs (4 * j + 1)) with ⟨g, ro, b1, b2, b3, b4, b5, b6, b7, b8⟩ | ⟨b1, b2⟩ | ⟨g, b1, b2, b3, b4, b5⟩
  · refine aw_aload_n C d_law_960 rfl (j := 1) rfl ?_
    refine aw_aload_n C d_law_961 rfl (j := 0) rfl ?_
    refine aw_iload C d_law_962 (j := 4) rfl ?_
    refine aw_iconst (v := 1) C d_law_964 (by decide) ?_
    refine aw_iadd C d_law_965 ?_
    refine aw_sld (v := (nI g)) C hX hbl (Nat.not_le.mpr hbl) (4 * j + 1) (nI_ad (4 * j) 1) (by omega) (by omega) b5 d_law_966 ?_
    refine aw_aload_n C d_law_967 rfl (j := 3) rfl ?_
    refine aw_lawH [.ref (ad 0 0), .int (nI g), .ref oa] C hK hZ hN rfl hF hG (k_La_roomOf l D ad cA nb S oa v (nI g) hoa _ (c_De_roomOf l D ad cA nb S g ro hG.1 b1 b2 b3 b4 b6.1 b6.2)) (lh_cw 3 C.2.2.2.2 ml_La_La_roomOf sm_La_roomOf ii_La cd_La_roomOf rfl rfl (by decide +kernel) (by decide)) rfl rfl (Nat.le_of_ble_eq_true rfl) d_law_968 ⟨show _ ≤ 601024 by omega, show _ ≤ 7293034 by omega⟩ ?_
    rintro r9 S9 ⟨rfl, rfl⟩
    refine aw_istore (i := 5) (lv' := _) C d_law_971 (by decide) rfl ?_
    refine aw_aload_n C d_law_973 rfl (j := 3) rfl ?_
    refine aw_aload_n C d_law_974 rfl (j := 1) rfl ?_
    refine aw_iload C d_law_975 (j := 5) rfl ?_
    refine aw_iconst (v := 1) C d_law_977 (by decide) ?_
    refine aw_iadd C d_law_978 ?_
    refine aw_sld (v := (nI g)) C hX hbl (Nat.not_le.mpr hbl) (4 * j + 1) (nI_ad (4 * j) 1) (by omega) (by omega) b5 d_law_979 ?_
    refine aw_lawM (Cn := R_Mo) [.int (nI g)] C hK rfl hF hG (c_Mo_roomOf l D am cA M hF.1 g b2 b7) (cw_La_Mo_roomOf C.2.2.2.2 rfl rfl (by decide)) rfl (fun H h => aw_recv hK rfl (h 0 (by decide))) rfl (Nat.le_of_ble_eq_true rfl) d_law_980 ⟨show _ ≤ 601024 by omega, show _ ≤ 7293034 by omega⟩ ?_
    rintro r8 M8 ⟨rfl, rfl⟩
    refine aw_istore (i := 6) (lv' := _) C d_law_983 (by decide) rfl ?_
    refine aw_aload_n C d_law_985 rfl (j := 4) rfl ?_
    refine aw_lawM (Cn := R_Mo) [] C hK rfl hF hG (c_Mo_thrown l D am cA _) (cw_La_Mo_thrown C.2.2.2.2 rfl rfl (by decide)) rfl (fun H h => aw_recv hK rfl (h 0 (by decide))) rfl (Nat.le_of_ble_eq_true rfl) d_law_986 ⟨show _ ≤ 601024 by omega, show _ ≤ 7293034 by omega⟩ ?_
    rintro r7 M7 ⟨rfl, e7⟩
    obtain rfl : r7 = 0 := e7.trans (ms_w_s _ _ _ _)
    refine aw_iload C d_law_989 (j := 1) rfl ?_
    refine aw_icmp_eq (tgt := 996) C d_law_991 (by decide) (fun _ => ?_) (fun h => absurd rfl h)
    refine aw_iload C d_law_996 (j := 1) rfl ?_
    refine aw_if_ne (tgt := 1013) C d_law_998 (by decide) (fun h => absurd rfl h) (fun _ => ?_)
    refine aw_aload_n C d_law_1001 rfl (j := 5) rfl ?_
    refine aw_iconst (v := 0) C d_law_1002 (by decide) ?_
    refine aw_lald C hK 6 rfl (fun H h => h.2.2) (ix_in (k := 0) rfl (by decide) (by decide)).1 d_law_1003 ?_
    refine aw_iload C d_law_1004 (j := 0) rfl ?_
    refine aw_i2l C d_law_1006 rfl ?_
    refine aw_lcmp C d_law_1007 ?_
    refine aw_topi (fun z7 e7 => ?_)
    obtain rfl : z7 = 0 := e7.trans (lg_eq (congrArg Int32.toInt64 b8))
    refine aw_if_eq (tgt := 1013) C d_law_1008 (by decide) (fun _ => ?_) (fun h => absurd rfl h)
    refine aw_goto (tgt := 1177) C d_law_1013 (by decide) ?_
    refine aw_widen (k := cells + 1) (n := slots + 6) (by omega) (by omega) ?_
    refine aw_lv (lv' := [(0, .ref b), (1, .ref (ad 0 0)), (2, .ref (am 0)), (3, .ref oa), (4, .int (nI (4 * j)))]) [2, 3, 4, 5, 6] rfl ?_
    exact kk ad nb _ _ _ hG (Rel_20 hRel 0)
  · refine aw_aload_n C d_law_960 rfl (j := 1) rfl ?_
    refine aw_aload_n C d_law_961 rfl (j := 0) rfl ?_
    refine aw_iload C d_law_962 (j := 4) rfl ?_
    refine aw_iconst (v := 1) C d_law_964 (by decide) ?_
    refine aw_iadd C d_law_965 ?_
    refine aw_sld (v := (xs (4 * j + 1))) C hX hbl (Nat.not_le.mpr hbl) (4 * j + 1) (nI_ad (4 * j) 1) (by omega) (by omega) rfl d_law_966 ?_
    refine aw_aload_n C d_law_967 rfl (j := 3) rfl ?_
    refine aw_lawQ [.ref (ad 0 0), .int (xs (4 * j + 1)), .ref oa] C hK hZ hN rfl (q_La_roomOf_Ia l D ad cA nb S oa (xs (4 * j + 1)) (t_De_roomOf1 l D ad cA nb S hl (xs (4 * j + 1)) b1)) (lh_cw 3 C.2.2.2.2 ml_La_La_roomOf sm_La_roomOf ii_La cd_La_roomOf rfl rfl (by decide +kernel) (by decide)) rfl rfl (Nat.le_of_ble_eq_true rfl) d_law_968 ⟨show _ ≤ 601024 by omega, show _ ≤ 7293034 by omega⟩ ?_
    refine aw_istore (i := 5) (lv' := _) C d_law_971 (by decide) rfl ?_
    refine aw_aload_n C d_law_973 rfl (j := 3) rfl ?_
    refine aw_aload_n C d_law_974 rfl (j := 1) rfl ?_
    refine aw_iload C d_law_975 (j := 5) rfl ?_
    refine aw_iconst (v := 1) C d_law_977 (by decide) ?_
    refine aw_iadd C d_law_978 ?_
    refine aw_sld (v := (xs (4 * j + 1))) C hX hbl (Nat.not_le.mpr hbl) (4 * j + 1) (nI_ad (4 * j) 1) (by omega) (by omega) rfl d_law_979 ?_
    refine aw_lawM (Cn := R_Mo) [.int (xs (4 * j + 1))] C hK rfl hF hG (b_Mo_roomOf_t l D am cA M hF.1 (xs (4 * j + 1)) b2) (cw_La_Mo_roomOf C.2.2.2.2 rfl rfl (by decide)) rfl (fun H h => aw_recv hK rfl (h 0 (by decide))) rfl (Nat.le_of_ble_eq_true rfl) d_law_980 ⟨show _ ≤ 601024 by omega, show _ ≤ 7293034 by omega⟩ ?_
    rintro r8 M8 ⟨rfl, rfl⟩
    refine aw_istore (i := 6) (lv' := _) C d_law_983 (by decide) rfl ?_
    refine aw_aload_n C d_law_985 rfl (j := 4) rfl ?_
    refine aw_lawM (Cn := R_Mo) [] C hK rfl hF hG (c_Mo_thrown l D am cA _) (cw_La_Mo_thrown C.2.2.2.2 rfl rfl (by decide)) rfl (fun H h => aw_recv hK rfl (h 0 (by decide))) rfl (Nat.le_of_ble_eq_true rfl) d_law_986 ⟨show _ ≤ 601024 by omega, show _ ≤ 7293034 by omega⟩ ?_
    rintro r7 M7 ⟨rfl, e7⟩
    obtain rfl : r7 = 1 := e7.trans (ms_w_s _ _ _ _)
    refine aw_iload C d_law_989 (j := 1) rfl ?_
    refine aw_icmp_eq (tgt := 996) C d_law_991 (by decide) (fun _ => ?_) (fun h => absurd rfl h)
    refine aw_iload C d_law_996 (j := 1) rfl ?_
    refine aw_if_ne (tgt := 1013) C d_law_998 (by decide) (fun _ => ?_) (fun h => absurd h (by decide))
    refine aw_goto (tgt := 1177) C d_law_1013 (by decide) ?_
    refine aw_widen (k := cells + 1) (n := slots + 6) (by omega) (by omega) ?_
    refine aw_lv (lv' := [(0, .ref b), (1, .ref (ad 0 0)), (2, .ref (am 0)), (3, .ref oa), (4, .int (nI (4 * j)))]) [2, 3, 4, 5, 6] rfl ?_
    exact kk ad nb _ _ _ hG (Rel_20 hRel 1)
  · refine aw_aload_n C d_law_960 rfl (j := 1) rfl ?_
    refine aw_aload_n C d_law_961 rfl (j := 0) rfl ?_
    refine aw_iload C d_law_962 (j := 4) rfl ?_
    refine aw_iconst (v := 1) C d_law_964 (by decide) ?_
    refine aw_iadd C d_law_965 ?_
    refine aw_sld (v := (nI g)) C hX hbl (Nat.not_le.mpr hbl) (4 * j + 1) (nI_ad (4 * j) 1) (by omega) (by omega) b3 d_law_966 ?_
    refine aw_aload_n C d_law_967 rfl (j := 3) rfl ?_
    refine aw_lawQ [.ref (ad 0 0), .int (nI g), .ref oa] C hK hZ hN rfl (q_La_roomOf_Ia l D ad cA nb S oa (nI g) (t_De_roomOf2 l D ad cA nb S hl g b1 b2 b4.1 b4.2)) (lh_cw 3 C.2.2.2.2 ml_La_La_roomOf sm_La_roomOf ii_La cd_La_roomOf rfl rfl (by decide +kernel) (by decide)) rfl rfl (Nat.le_of_ble_eq_true rfl) d_law_968 ⟨show _ ≤ 601024 by omega, show _ ≤ 7293034 by omega⟩ ?_
    refine aw_istore (i := 5) (lv' := _) C d_law_971 (by decide) rfl ?_
    refine aw_aload_n C d_law_973 rfl (j := 3) rfl ?_
    refine aw_aload_n C d_law_974 rfl (j := 1) rfl ?_
    refine aw_iload C d_law_975 (j := 5) rfl ?_
    refine aw_iconst (v := 1) C d_law_977 (by decide) ?_
    refine aw_iadd C d_law_978 ?_
    refine aw_sld (v := (nI g)) C hX hbl (Nat.not_le.mpr hbl) (4 * j + 1) (nI_ad (4 * j) 1) (by omega) (by omega) b3 d_law_979 ?_
    refine aw_lawM (Cn := R_Mo) [.int (nI g)] C hK rfl hF hG (b_Mo_roomOf_t l D am cA M hF.1 (nI g) b5) (cw_La_Mo_roomOf C.2.2.2.2 rfl rfl (by decide)) rfl (fun H h => aw_recv hK rfl (h 0 (by decide))) rfl (Nat.le_of_ble_eq_true rfl) d_law_980 ⟨show _ ≤ 601024 by omega, show _ ≤ 7293034 by omega⟩ ?_
    rintro r8 M8 ⟨rfl, rfl⟩
    refine aw_istore (i := 6) (lv' := _) C d_law_983 (by decide) rfl ?_
    refine aw_aload_n C d_law_985 rfl (j := 4) rfl ?_
    refine aw_lawM (Cn := R_Mo) [] C hK rfl hF hG (c_Mo_thrown l D am cA _) (cw_La_Mo_thrown C.2.2.2.2 rfl rfl (by decide)) rfl (fun H h => aw_recv hK rfl (h 0 (by decide))) rfl (Nat.le_of_ble_eq_true rfl) d_law_986 ⟨show _ ≤ 601024 by omega, show _ ≤ 7293034 by omega⟩ ?_
    rintro r7 M7 ⟨rfl, e7⟩
    obtain rfl : r7 = 1 := e7.trans (ms_w_s _ _ _ _)
    refine aw_iload C d_law_989 (j := 1) rfl ?_
    refine aw_icmp_eq (tgt := 996) C d_law_991 (by decide) (fun _ => ?_) (fun h => absurd rfl h)
    refine aw_iload C d_law_996 (j := 1) rfl ?_
    refine aw_if_ne (tgt := 1013) C d_law_998 (by decide) (fun _ => ?_) (fun h => absurd h (by decide))
    refine aw_goto (tgt := 1177) C d_law_1013 (by decide) ?_
    refine aw_widen (k := cells + 1) (n := slots + 6) (by omega) (by omega) ?_
    refine aw_lv (lv' := [(0, .ref b), (1, .ref (ad 0 0)), (2, .ref (am 0)), (3, .ref oa), (4, .int (nI (4 * j)))]) [2, 3, 4, 5, 6] rfl ?_
    exact kk ad nb _ _ _ hG (Rel_20 hRel 1)
set_option maxHeartbeats 4000000 in
set_option maxRecDepth 100000 in
theorem lc_inside {p : Program} {l : Launch} {e : Env} {s : State} {m : MethodId} {below : List Frame} {meth : Method} {c : Code} {cells slots : Nat} {Q : State → Prop} {D : va_G} {cA : Nat → ClassId} {am : Nat → Nat} {oa : Nat} {ad : Nat → Nat → Nat} {nb : Nat} {S : ds_S} {M : ms_S} {v : Int64} {b L j : Nat} {xs : Nat → Int32} (hl : l.stackTraces = false) (C : CallFix p m c code 7 s #[Value.ref b] tb_G R_La) (hK : va_K D cl_all (ds_ty cA) s) (hZ : th_Z s) (hN : nc_Z s) (hX : va_X b L xs s s.heap) (hbl : b < s.heap.size) (hL : L ≤ 2048) (hF : lwF s am oa) (hG : lwG s am oa ad nb) (hRel : Rel S M nb) (hj : 4 * j + 4 ≤ L) (hcl : cells + 1 ≤ 601024) (hsl : slots + 6 ≤ 7293034) (kk : lc_K p l e s m below meth c (cells + 1) (slots + 6) Q D cA am oa b j) : AW p l e room_1 s m #[Value.ref b] below meth c 7 cells slots Q (lwP D cA am oa ad nb S M v) (fun q => s.heap.size ≤ q) 1016 [(0, .ref b), (1, .ref (ad 0 0)), (2, .ref (am 0)), (3, .ref oa), (4, .int (nI (4 * j)))] [] := by
  have hoa : ∀ k i, ds_dm nb k i → ad k i ≠ oa := fun k i h => (hG.2 k i h).2.1
  obtain ⟨hb3, e29, hs⟩ := op_inside hRel (xs (4 * j + 1)) (xs (4 * j + 2))
  rcases hs with ⟨q9, n0, b1, b2, b3, b4, b5, b6, b7, b8⟩ | ⟨b1, b2⟩ | ⟨b1, b2, b3⟩
  · refine aw_aload_n C d_law_1016 rfl (j := 1) rfl ?_
    refine aw_aload_n C d_law_1017 rfl (j := 0) rfl ?_
    refine aw_iload C d_law_1018 (j := 4) rfl ?_
    refine aw_iconst (v := 1) C d_law_1020 (by decide) ?_
    refine aw_iadd C d_law_1021 ?_
    refine aw_sld (v := (nI q9)) C hX hbl (Nat.not_le.mpr hbl) (4 * j + 1) (nI_ad (4 * j) 1) (by omega) (by omega) b2 d_law_1022 ?_
    refine aw_aload_n C d_law_1023 rfl (j := 0) rfl ?_
    refine aw_iload C d_law_1024 (j := 4) rfl ?_
    refine aw_iconst (v := 2) C d_law_1026 (by decide) ?_
    refine aw_iadd C d_law_1027 ?_
    refine aw_sld (v := (xs (4 * j + 2))) C hX hbl (Nat.not_le.mpr hbl) (4 * j + 2) (nI_ad (4 * j) 2) (by omega) (by omega) rfl d_law_1028 ?_
    refine aw_aload_n C d_law_1029 rfl (j := 3) rfl ?_
    refine aw_lawH [.ref (ad 0 0), .int (nI q9), .int (xs (4 * j + 2)), .ref oa] C hK hZ hN rfl hF hG (k_La_inside l D ad cA nb S oa v (nI q9) (xs (4 * j + 2)) hoa _ (c_De_inside l D ad cA nb S q9 (xs (4 * j + 2)) hG.1 b1 b3 b4 n0 b5.1 b5.2.1 b5.2.2)) (lh_cw 4 C.2.2.2.2 ml_La_La_inside sm_La_inside ii_La cd_La_inside rfl rfl (by decide +kernel) (by decide)) rfl rfl (Nat.le_of_ble_eq_true rfl) d_law_1030 ⟨show _ ≤ 601024 by omega, show _ ≤ 7293034 by omega⟩ ?_
    rintro r9 S9 ⟨rfl, rfl⟩
    refine aw_istore (i := 5) (lv' := _) C d_law_1033 (by decide) rfl ?_
    refine aw_aload_n C d_law_1035 rfl (j := 3) rfl ?_
    refine aw_aload_n C d_law_1036 rfl (j := 1) rfl ?_
    refine aw_iload C d_law_1037 (j := 5) rfl ?_
    refine aw_iconst (v := 1) C d_law_1039 (by decide) ?_
    refine aw_iadd C d_law_1040 ?_
    refine aw_sld (v := (nI q9)) C hX hbl (Nat.not_le.mpr hbl) (4 * j + 1) (nI_ad (4 * j) 1) (by omega) (by omega) b2 d_law_1041 ?_
    refine aw_aload_n C d_law_1042 rfl (j := 1) rfl ?_
    refine aw_iload C d_law_1043 (j := 5) rfl ?_
    refine aw_iconst (v := 2) C d_law_1045 (by decide) ?_
    refine aw_iadd C d_law_1046 ?_
    refine aw_sld (v := (xs (4 * j + 2))) C hX hbl (Nat.not_le.mpr hbl) (4 * j + 2) (nI_ad (4 * j) 2) (by omega) (by omega) rfl d_law_1047 ?_
    refine aw_lawM (Cn := R_Mo) [.int (nI q9), .int (xs (4 * j + 2))] C hK rfl hF hG (c_Mo_inside l D am cA M hF.1 nb hb3 e29 (nI q9) (xs (4 * j + 2)) b6 b7) (cw_La_Mo_inside C.2.2.2.2 rfl rfl (by decide)) rfl (fun H h => aw_recv hK rfl (h 0 (by decide))) rfl (Nat.le_of_ble_eq_true rfl) d_law_1048 ⟨show _ ≤ 601024 by omega, show _ ≤ 7293034 by omega⟩ ?_
    rintro r8 M8 ⟨rfl, rfl⟩
    refine aw_istore (i := 6) (lv' := _) C d_law_1051 (by decide) rfl ?_
    refine aw_aload_n C d_law_1053 rfl (j := 4) rfl ?_
    refine aw_lawM (Cn := R_Mo) [] C hK rfl hF hG (c_Mo_thrown l D am cA _) (cw_La_Mo_thrown C.2.2.2.2 rfl rfl (by decide)) rfl (fun H h => aw_recv hK rfl (h 0 (by decide))) rfl (Nat.le_of_ble_eq_true rfl) d_law_1054 ⟨show _ ≤ 601024 by omega, show _ ≤ 7293034 by omega⟩ ?_
    rintro r7 M7 ⟨rfl, e7⟩
    obtain rfl : r7 = 0 := e7.trans (ms_w_s _ _ _ _)
    refine aw_iload C d_law_1057 (j := 1) rfl ?_
    refine aw_icmp_eq (tgt := 1064) C d_law_1059 (by decide) (fun _ => ?_) (fun h => absurd rfl h)
    refine aw_iload C d_law_1064 (j := 1) rfl ?_
    refine aw_if_ne (tgt := 1081) C d_law_1066 (by decide) (fun h => absurd rfl h) (fun _ => ?_)
    refine aw_aload_n C d_law_1069 rfl (j := 5) rfl ?_
    refine aw_iconst (v := 0) C d_law_1070 (by decide) ?_
    refine aw_lald C hK 6 rfl (fun H h => h.2.2) (ix_in (k := 0) rfl (by decide) (by decide)).1 d_law_1071 ?_
    refine aw_iload C d_law_1072 (j := 0) rfl ?_
    refine aw_i2l C d_law_1074 rfl ?_
    refine aw_lcmp C d_law_1075 ?_
    refine aw_topi (fun z7 e7 => ?_)
    obtain rfl : z7 = 0 := e7.trans (lg_eq (congrArg Int32.toInt64 b8))
    refine aw_if_eq (tgt := 1081) C d_law_1076 (by decide) (fun _ => ?_) (fun h => absurd rfl h)
    refine aw_goto (tgt := 1177) C d_law_1081 (by decide) ?_
    refine aw_widen (k := cells + 1) (n := slots + 6) (by omega) (by omega) ?_
    refine aw_lv (lv' := [(0, .ref b), (1, .ref (ad 0 0)), (2, .ref (am 0)), (3, .ref oa), (4, .int (nI (4 * j)))]) [2, 3, 4, 5, 6] rfl ?_
    exact kk ad nb _ _ _ hG (Rel_20 hRel 0)
  · refine aw_aload_n C d_law_1016 rfl (j := 1) rfl ?_
    refine aw_aload_n C d_law_1017 rfl (j := 0) rfl ?_
    refine aw_iload C d_law_1018 (j := 4) rfl ?_
    refine aw_iconst (v := 1) C d_law_1020 (by decide) ?_
    refine aw_iadd C d_law_1021 ?_
    refine aw_sld (v := (xs (4 * j + 1))) C hX hbl (Nat.not_le.mpr hbl) (4 * j + 1) (nI_ad (4 * j) 1) (by omega) (by omega) rfl d_law_1022 ?_
    refine aw_aload_n C d_law_1023 rfl (j := 0) rfl ?_
    refine aw_iload C d_law_1024 (j := 4) rfl ?_
    refine aw_iconst (v := 2) C d_law_1026 (by decide) ?_
    refine aw_iadd C d_law_1027 ?_
    refine aw_sld (v := (xs (4 * j + 2))) C hX hbl (Nat.not_le.mpr hbl) (4 * j + 2) (nI_ad (4 * j) 2) (by omega) (by omega) rfl d_law_1028 ?_
    refine aw_aload_n C d_law_1029 rfl (j := 3) rfl ?_
    refine aw_lawQ [.ref (ad 0 0), .int (xs (4 * j + 1)), .int (xs (4 * j + 2)), .ref oa] C hK hZ hN rfl (q_La_inside_Ia l D ad cA nb S oa (xs (4 * j + 1)) (xs (4 * j + 2)) (t_De_inside1 l D ad cA nb S hl (xs (4 * j + 1)) (xs (4 * j + 2)) b1)) (lh_cw 4 C.2.2.2.2 ml_La_La_inside sm_La_inside ii_La cd_La_inside rfl rfl (by decide +kernel) (by decide)) rfl rfl (Nat.le_of_ble_eq_true rfl) d_law_1030 ⟨show _ ≤ 601024 by omega, show _ ≤ 7293034 by omega⟩ ?_
    refine aw_istore (i := 5) (lv' := _) C d_law_1033 (by decide) rfl ?_
    refine aw_aload_n C d_law_1035 rfl (j := 3) rfl ?_
    refine aw_aload_n C d_law_1036 rfl (j := 1) rfl ?_
    refine aw_iload C d_law_1037 (j := 5) rfl ?_
    refine aw_iconst (v := 1) C d_law_1039 (by decide) ?_
    refine aw_iadd C d_law_1040 ?_
    refine aw_sld (v := (xs (4 * j + 1))) C hX hbl (Nat.not_le.mpr hbl) (4 * j + 1) (nI_ad (4 * j) 1) (by omega) (by omega) rfl d_law_1041 ?_
    refine aw_aload_n C d_law_1042 rfl (j := 1) rfl ?_
    refine aw_iload C d_law_1043 (j := 5) rfl ?_
    refine aw_iconst (v := 2) C d_law_1045 (by decide) ?_
    refine aw_iadd C d_law_1046 ?_
    refine aw_sld (v := (xs (4 * j + 2))) C hX hbl (Nat.not_le.mpr hbl) (4 * j + 2) (nI_ad (4 * j) 2) (by omega) (by omega) rfl d_law_1047 ?_
    refine aw_lawM (Cn := R_Mo) [.int (xs (4 * j + 1)), .int (xs (4 * j + 2))] C hK rfl hF hG (b_Mo_inside_t l D am cA M hF.1 (xs (4 * j + 1)) (xs (4 * j + 2)) (Or.inl b2)) (cw_La_Mo_inside C.2.2.2.2 rfl rfl (by decide)) rfl (fun H h => aw_recv hK rfl (h 0 (by decide))) rfl (Nat.le_of_ble_eq_true rfl) d_law_1048 ⟨show _ ≤ 601024 by omega, show _ ≤ 7293034 by omega⟩ ?_
    rintro r8 M8 ⟨rfl, rfl⟩
    refine aw_istore (i := 6) (lv' := _) C d_law_1051 (by decide) rfl ?_
    refine aw_aload_n C d_law_1053 rfl (j := 4) rfl ?_
    refine aw_lawM (Cn := R_Mo) [] C hK rfl hF hG (c_Mo_thrown l D am cA _) (cw_La_Mo_thrown C.2.2.2.2 rfl rfl (by decide)) rfl (fun H h => aw_recv hK rfl (h 0 (by decide))) rfl (Nat.le_of_ble_eq_true rfl) d_law_1054 ⟨show _ ≤ 601024 by omega, show _ ≤ 7293034 by omega⟩ ?_
    rintro r7 M7 ⟨rfl, e7⟩
    obtain rfl : r7 = 1 := e7.trans (ms_w_s _ _ _ _)
    refine aw_iload C d_law_1057 (j := 1) rfl ?_
    refine aw_icmp_eq (tgt := 1064) C d_law_1059 (by decide) (fun _ => ?_) (fun h => absurd rfl h)
    refine aw_iload C d_law_1064 (j := 1) rfl ?_
    refine aw_if_ne (tgt := 1081) C d_law_1066 (by decide) (fun _ => ?_) (fun h => absurd h (by decide))
    refine aw_goto (tgt := 1177) C d_law_1081 (by decide) ?_
    refine aw_widen (k := cells + 1) (n := slots + 6) (by omega) (by omega) ?_
    refine aw_lv (lv' := [(0, .ref b), (1, .ref (ad 0 0)), (2, .ref (am 0)), (3, .ref oa), (4, .int (nI (4 * j)))]) [2, 3, 4, 5, 6] rfl ?_
    exact kk ad nb _ _ _ hG (Rel_20 hRel 1)
  · refine aw_aload_n C d_law_1016 rfl (j := 1) rfl ?_
    refine aw_aload_n C d_law_1017 rfl (j := 0) rfl ?_
    refine aw_iload C d_law_1018 (j := 4) rfl ?_
    refine aw_iconst (v := 1) C d_law_1020 (by decide) ?_
    refine aw_iadd C d_law_1021 ?_
    refine aw_sld (v := (xs (4 * j + 1))) C hX hbl (Nat.not_le.mpr hbl) (4 * j + 1) (nI_ad (4 * j) 1) (by omega) (by omega) rfl d_law_1022 ?_
    refine aw_aload_n C d_law_1023 rfl (j := 0) rfl ?_
    refine aw_iload C d_law_1024 (j := 4) rfl ?_
    refine aw_iconst (v := 2) C d_law_1026 (by decide) ?_
    refine aw_iadd C d_law_1027 ?_
    refine aw_sld (v := (xs (4 * j + 2))) C hX hbl (Nat.not_le.mpr hbl) (4 * j + 2) (nI_ad (4 * j) 2) (by omega) (by omega) rfl d_law_1028 ?_
    refine aw_aload_n C d_law_1029 rfl (j := 3) rfl ?_
    refine aw_lawQ [.ref (ad 0 0), .int (xs (4 * j + 1)), .int (xs (4 * j + 2)), .ref oa] C hK hZ hN rfl (q_La_inside_Ia l D ad cA nb S oa (xs (4 * j + 1)) (xs (4 * j + 2)) (t_De_inside2 l D ad cA nb S hl (xs (4 * j + 1)) (xs (4 * j + 2)) b1 b2)) (lh_cw 4 C.2.2.2.2 ml_La_La_inside sm_La_inside ii_La cd_La_inside rfl rfl (by decide +kernel) (by decide)) rfl rfl (Nat.le_of_ble_eq_true rfl) d_law_1030 ⟨show _ ≤ 601024 by omega, show _ ≤ 7293034 by omega⟩ ?_
    refine aw_istore (i := 5) (lv' := _) C d_law_1033 (by decide) rfl ?_
    refine aw_aload_n C d_law_1035 rfl (j := 3) rfl ?_
    refine aw_aload_n C d_law_1036 rfl (j := 1) rfl ?_
    refine aw_iload C d_law_1037 (j := 5) rfl ?_
    refine aw_iconst (v := 1) C d_law_1039 (by decide) ?_
    refine aw_iadd C d_law_1040 ?_
    refine aw_sld (v := (xs (4 * j + 1))) C hX hbl (Nat.not_le.mpr hbl) (4 * j + 1) (nI_ad (4 * j) 1) (by omega) (by omega) rfl d_law_1041 ?_
    refine aw_aload_n C d_law_1042 rfl (j := 1) rfl ?_
    refine aw_iload C d_law_1043 (j := 5) rfl ?_
    refine aw_iconst (v := 2) C d_law_1045 (by decide) ?_
    refine aw_iadd C d_law_1046 ?_
    refine aw_sld (v := (xs (4 * j + 2))) C hX hbl (Nat.not_le.mpr hbl) (4 * j + 2) (nI_ad (4 * j) 2) (by omega) (by omega) rfl d_law_1047 ?_
    refine aw_lawM (Cn := R_Mo) [.int (xs (4 * j + 1)), .int (xs (4 * j + 2))] C hK rfl hF hG (b_Mo_inside_t l D am cA M hF.1 (xs (4 * j + 1)) (xs (4 * j + 2)) (Or.inr b3)) (cw_La_Mo_inside C.2.2.2.2 rfl rfl (by decide)) rfl (fun H h => aw_recv hK rfl (h 0 (by decide))) rfl (Nat.le_of_ble_eq_true rfl) d_law_1048 ⟨show _ ≤ 601024 by omega, show _ ≤ 7293034 by omega⟩ ?_
    rintro r8 M8 ⟨rfl, rfl⟩
    refine aw_istore (i := 6) (lv' := _) C d_law_1051 (by decide) rfl ?_
    refine aw_aload_n C d_law_1053 rfl (j := 4) rfl ?_
    refine aw_lawM (Cn := R_Mo) [] C hK rfl hF hG (c_Mo_thrown l D am cA _) (cw_La_Mo_thrown C.2.2.2.2 rfl rfl (by decide)) rfl (fun H h => aw_recv hK rfl (h 0 (by decide))) rfl (Nat.le_of_ble_eq_true rfl) d_law_1054 ⟨show _ ≤ 601024 by omega, show _ ≤ 7293034 by omega⟩ ?_
    rintro r7 M7 ⟨rfl, e7⟩
    obtain rfl : r7 = 1 := e7.trans (ms_w_s _ _ _ _)
    refine aw_iload C d_law_1057 (j := 1) rfl ?_
    refine aw_icmp_eq (tgt := 1064) C d_law_1059 (by decide) (fun _ => ?_) (fun h => absurd rfl h)
    refine aw_iload C d_law_1064 (j := 1) rfl ?_
    refine aw_if_ne (tgt := 1081) C d_law_1066 (by decide) (fun _ => ?_) (fun h => absurd h (by decide))
    refine aw_goto (tgt := 1177) C d_law_1081 (by decide) ?_
    refine aw_widen (k := cells + 1) (n := slots + 6) (by omega) (by omega) ?_
    refine aw_lv (lv' := [(0, .ref b), (1, .ref (ad 0 0)), (2, .ref (am 0)), (3, .ref oa), (4, .int (nI (4 * j)))]) [2, 3, 4, 5, 6] rfl ?_
    exact kk ad nb _ _ _ hG (Rel_20 hRel 1)
set_option maxHeartbeats 4000000 in
set_option maxRecDepth 100000 in
theorem lc_gap {p : Program} {l : Launch} {e : Env} {s : State} {m : MethodId} {below : List Frame} {meth : Method} {c : Code} {cells slots : Nat} {Q : State → Prop} {D : va_G} {cA : Nat → ClassId} {am : Nat → Nat} {oa : Nat} {ad : Nat → Nat → Nat} {nb : Nat} {S : ds_S} {M : ms_S} {v : Int64} {b L j : Nat} {xs : Nat → Int32} (hl : l.stackTraces = false) (C : CallFix p m c code 7 s #[Value.ref b] tb_G R_La) (hK : va_K D cl_all (ds_ty cA) s) (hZ : th_Z s) (hN : nc_Z s) (hX : va_X b L xs s s.heap) (hbl : b < s.heap.size) (hL : L ≤ 2048) (hF : lwF s am oa) (hG : lwG s am oa ad nb) (hRel : Rel S M nb) (hj : 4 * j + 4 ≤ L) (hcl : cells + 1 ≤ 601024) (hsl : slots + 6 ≤ 7293034) (kk : lc_K p l e s m below meth c (cells + 1) (slots + 6) Q D cA am oa b j) : AW p l e room_1 s m #[Value.ref b] below meth c 7 cells slots Q (lwP D cA am oa ad nb S M v) (fun q => s.heap.size ≤ q) 1084 [(0, .ref b), (1, .ref (ad 0 0)), (2, .ref (am 0)), (3, .ref oa), (4, .int (nI (4 * j)))] [] := by
  have hoa : ∀ k i, ds_dm nb k i → ad k i ≠ oa := fun k i h => (hG.2 k i h).2.1
  obtain ⟨hb3, e29, hs⟩ := op_gap hRel (xs (4 * j + 1)) (xs (4 * j + 2)) (xs (4 * j + 3))
  rcases hs with ⟨q9, n0, b1, b2, b3, b4, b5, b6, b7, b8, b9, b10, b11⟩ | ⟨b1, b2⟩ | ⟨b1, b2, b3⟩ | ⟨b1, b2, b3, b4⟩
  · refine aw_aload_n C d_law_1084 rfl (j := 1) rfl ?_
    refine aw_aload_n C d_law_1085 rfl (j := 0) rfl ?_
    refine aw_iload C d_law_1086 (j := 4) rfl ?_
    refine aw_iconst (v := 1) C d_law_1088 (by decide) ?_
    refine aw_iadd C d_law_1089 ?_
    refine aw_sld (v := (nI q9)) C hX hbl (Nat.not_le.mpr hbl) (4 * j + 1) (nI_ad (4 * j) 1) (by omega) (by omega) b2 d_law_1090 ?_
    refine aw_aload_n C d_law_1091 rfl (j := 0) rfl ?_
    refine aw_iload C d_law_1092 (j := 4) rfl ?_
    refine aw_iconst (v := 2) C d_law_1094 (by decide) ?_
    refine aw_iadd C d_law_1095 ?_
    refine aw_sld (v := (xs (4 * j + 2))) C hX hbl (Nat.not_le.mpr hbl) (4 * j + 2) (nI_ad (4 * j) 2) (by omega) (by omega) rfl d_law_1096 ?_
    refine aw_aload_n C d_law_1097 rfl (j := 0) rfl ?_
    refine aw_iload C d_law_1098 (j := 4) rfl ?_
    refine aw_iconst (v := 3) C d_law_1100 (by decide) ?_
    refine aw_iadd C d_law_1101 ?_
    refine aw_sld (v := (xs (4 * j + 3))) C hX hbl (Nat.not_le.mpr hbl) (4 * j + 3) (nI_ad (4 * j) 3) (by omega) (by omega) rfl d_law_1102 ?_
    refine aw_aload_n C d_law_1103 rfl (j := 3) rfl ?_
    refine aw_lawH [.ref (ad 0 0), .int (nI q9), .int (xs (4 * j + 2)), .int (xs (4 * j + 3)), .ref oa] C hK hZ hN rfl hF hG (k_La_gap l D ad cA nb S oa v (nI q9) (xs (4 * j + 2)) (xs (4 * j + 3)) hoa _ (c_De_gap l D ad cA nb S q9 (xs (4 * j + 2)) (xs (4 * j + 3)) hG.1 b1 b3 b4 b5 n0 b6.1 b6.2.1 b6.2.2)) (lh_cw 5 C.2.2.2.2 ml_La_La_gap sm_La_gap ii_La cd_La_gap rfl rfl (by decide +kernel) (by decide)) rfl rfl (Nat.le_of_ble_eq_true rfl) d_law_1104 ⟨show _ ≤ 601024 by omega, show _ ≤ 7293034 by omega⟩ ?_
    rintro r9 S9 ⟨rfl, rfl⟩
    refine aw_istore (i := 5) (lv' := _) C d_law_1107 (by decide) rfl ?_
    refine aw_aload_n C d_law_1109 rfl (j := 3) rfl ?_
    refine aw_aload_n C d_law_1110 rfl (j := 1) rfl ?_
    refine aw_iload C d_law_1111 (j := 5) rfl ?_
    refine aw_iconst (v := 1) C d_law_1113 (by decide) ?_
    refine aw_iadd C d_law_1114 ?_
    refine aw_sld (v := (nI q9)) C hX hbl (Nat.not_le.mpr hbl) (4 * j + 1) (nI_ad (4 * j) 1) (by omega) (by omega) b2 d_law_1115 ?_
    refine aw_aload_n C d_law_1116 rfl (j := 1) rfl ?_
    refine aw_iload C d_law_1117 (j := 5) rfl ?_
    refine aw_iconst (v := 2) C d_law_1119 (by decide) ?_
    refine aw_iadd C d_law_1120 ?_
    refine aw_sld (v := (xs (4 * j + 2))) C hX hbl (Nat.not_le.mpr hbl) (4 * j + 2) (nI_ad (4 * j) 2) (by omega) (by omega) rfl d_law_1121 ?_
    refine aw_aload_n C d_law_1122 rfl (j := 1) rfl ?_
    refine aw_iload C d_law_1123 (j := 5) rfl ?_
    refine aw_iconst (v := 3) C d_law_1125 (by decide) ?_
    refine aw_iadd C d_law_1126 ?_
    refine aw_sld (v := (xs (4 * j + 3))) C hX hbl (Nat.not_le.mpr hbl) (4 * j + 3) (nI_ad (4 * j) 3) (by omega) (by omega) rfl d_law_1127 ?_
    refine aw_lawM (Cn := R_Mo) [.int (nI q9), .int (xs (4 * j + 2)), .int (xs (4 * j + 3))] C hK rfl hF hG (c_Mo_gap l D am cA M hF.1 nb hb3 e29 (nI q9) (xs (4 * j + 2)) (xs (4 * j + 3)) 10082 b7 b8 b9 b10) (cw_La_Mo_gap C.2.2.2.2 rfl rfl (by decide)) rfl (fun H h => aw_recv hK rfl (h 0 (by decide))) rfl (Nat.le_of_ble_eq_true rfl) d_law_1128 ⟨show _ ≤ 601024 by omega, show _ ≤ 7293034 by omega⟩ ?_
    rintro r8 M8 ⟨rfl, rfl⟩
    refine aw_istore (i := 6) (lv' := _) C d_law_1131 (by decide) rfl ?_
    refine aw_aload_n C d_law_1133 rfl (j := 4) rfl ?_
    refine aw_lawM (Cn := R_Mo) [] C hK rfl hF hG (c_Mo_thrown l D am cA _) (cw_La_Mo_thrown C.2.2.2.2 rfl rfl (by decide)) rfl (fun H h => aw_recv hK rfl (h 0 (by decide))) rfl (Nat.le_of_ble_eq_true rfl) d_law_1134 ⟨show _ ≤ 601024 by omega, show _ ≤ 7293034 by omega⟩ ?_
    rintro r7 M7 ⟨rfl, e7⟩
    obtain rfl : r7 = 0 := e7.trans (ms_w_s _ _ _ _)
    refine aw_iload C d_law_1137 (j := 1) rfl ?_
    refine aw_icmp_eq (tgt := 1144) C d_law_1139 (by decide) (fun _ => ?_) (fun h => absurd rfl h)
    refine aw_iload C d_law_1144 (j := 1) rfl ?_
    refine aw_if_ne (tgt := 1161) C d_law_1146 (by decide) (fun h => absurd rfl h) (fun _ => ?_)
    refine aw_aload_n C d_law_1149 rfl (j := 5) rfl ?_
    refine aw_iconst (v := 0) C d_law_1150 (by decide) ?_
    refine aw_lald C hK 6 rfl (fun H h => h.2.2) (ix_in (k := 0) rfl (by decide) (by decide)).1 d_law_1151 ?_
    refine aw_iload C d_law_1152 (j := 0) rfl ?_
    refine aw_i2l C d_law_1154 rfl ?_
    refine aw_lcmp C d_law_1155 ?_
    refine aw_topi (fun z7 e7 => ?_)
    obtain rfl : z7 = 0 := e7.trans (lg_eq (congrArg Int32.toInt64 b11))
    refine aw_if_eq (tgt := 1161) C d_law_1156 (by decide) (fun _ => ?_) (fun h => absurd rfl h)
    refine aw_goto (tgt := 1177) C d_law_1161 (by decide) ?_
    refine aw_widen (k := cells + 1) (n := slots + 6) (by omega) (by omega) ?_
    refine aw_lv (lv' := [(0, .ref b), (1, .ref (ad 0 0)), (2, .ref (am 0)), (3, .ref oa), (4, .int (nI (4 * j)))]) [2, 3, 4, 5, 6] rfl ?_
    exact kk ad nb _ _ _ hG (Rel_20 hRel 0)
  · refine aw_aload_n C d_law_1084 rfl (j := 1) rfl ?_
    refine aw_aload_n C d_law_1085 rfl (j := 0) rfl ?_
    refine aw_iload C d_law_1086 (j := 4) rfl ?_
    refine aw_iconst (v := 1) C d_law_1088 (by decide) ?_
    refine aw_iadd C d_law_1089 ?_
    refine aw_sld (v := (xs (4 * j + 1))) C hX hbl (Nat.not_le.mpr hbl) (4 * j + 1) (nI_ad (4 * j) 1) (by omega) (by omega) rfl d_law_1090 ?_
    refine aw_aload_n C d_law_1091 rfl (j := 0) rfl ?_
    refine aw_iload C d_law_1092 (j := 4) rfl ?_
    refine aw_iconst (v := 2) C d_law_1094 (by decide) ?_
    refine aw_iadd C d_law_1095 ?_
    refine aw_sld (v := (xs (4 * j + 2))) C hX hbl (Nat.not_le.mpr hbl) (4 * j + 2) (nI_ad (4 * j) 2) (by omega) (by omega) rfl d_law_1096 ?_
    refine aw_aload_n C d_law_1097 rfl (j := 0) rfl ?_
    refine aw_iload C d_law_1098 (j := 4) rfl ?_
    refine aw_iconst (v := 3) C d_law_1100 (by decide) ?_
    refine aw_iadd C d_law_1101 ?_
    refine aw_sld (v := (xs (4 * j + 3))) C hX hbl (Nat.not_le.mpr hbl) (4 * j + 3) (nI_ad (4 * j) 3) (by omega) (by omega) rfl d_law_1102 ?_
    refine aw_aload_n C d_law_1103 rfl (j := 3) rfl ?_
    refine aw_lawQ [.ref (ad 0 0), .int (xs (4 * j + 1)), .int (xs (4 * j + 2)), .int (xs (4 * j + 3)), .ref oa] C hK hZ hN rfl (q_La_gap_Ia l D ad cA nb S oa (xs (4 * j + 1)) (xs (4 * j + 2)) (xs (4 * j + 3)) (t_De_gap1 l D ad cA nb S hl (xs (4 * j + 1)) (xs (4 * j + 2)) (xs (4 * j + 3)) b1)) (lh_cw 5 C.2.2.2.2 ml_La_La_gap sm_La_gap ii_La cd_La_gap rfl rfl (by decide +kernel) (by decide)) rfl rfl (Nat.le_of_ble_eq_true rfl) d_law_1104 ⟨show _ ≤ 601024 by omega, show _ ≤ 7293034 by omega⟩ ?_
    refine aw_istore (i := 5) (lv' := _) C d_law_1107 (by decide) rfl ?_
    refine aw_aload_n C d_law_1109 rfl (j := 3) rfl ?_
    refine aw_aload_n C d_law_1110 rfl (j := 1) rfl ?_
    refine aw_iload C d_law_1111 (j := 5) rfl ?_
    refine aw_iconst (v := 1) C d_law_1113 (by decide) ?_
    refine aw_iadd C d_law_1114 ?_
    refine aw_sld (v := (xs (4 * j + 1))) C hX hbl (Nat.not_le.mpr hbl) (4 * j + 1) (nI_ad (4 * j) 1) (by omega) (by omega) rfl d_law_1115 ?_
    refine aw_aload_n C d_law_1116 rfl (j := 1) rfl ?_
    refine aw_iload C d_law_1117 (j := 5) rfl ?_
    refine aw_iconst (v := 2) C d_law_1119 (by decide) ?_
    refine aw_iadd C d_law_1120 ?_
    refine aw_sld (v := (xs (4 * j + 2))) C hX hbl (Nat.not_le.mpr hbl) (4 * j + 2) (nI_ad (4 * j) 2) (by omega) (by omega) rfl d_law_1121 ?_
    refine aw_aload_n C d_law_1122 rfl (j := 1) rfl ?_
    refine aw_iload C d_law_1123 (j := 5) rfl ?_
    refine aw_iconst (v := 3) C d_law_1125 (by decide) ?_
    refine aw_iadd C d_law_1126 ?_
    refine aw_sld (v := (xs (4 * j + 3))) C hX hbl (Nat.not_le.mpr hbl) (4 * j + 3) (nI_ad (4 * j) 3) (by omega) (by omega) rfl d_law_1127 ?_
    refine aw_lawM (Cn := R_Mo) [.int (xs (4 * j + 1)), .int (xs (4 * j + 2)), .int (xs (4 * j + 3))] C hK rfl hF hG (b_Mo_gap_t l D am cA M hF.1 (xs (4 * j + 1)) (xs (4 * j + 2)) (xs (4 * j + 3)) (Or.inl b2)) (cw_La_Mo_gap C.2.2.2.2 rfl rfl (by decide)) rfl (fun H h => aw_recv hK rfl (h 0 (by decide))) rfl (Nat.le_of_ble_eq_true rfl) d_law_1128 ⟨show _ ≤ 601024 by omega, show _ ≤ 7293034 by omega⟩ ?_
    rintro r8 M8 ⟨rfl, rfl⟩
    refine aw_istore (i := 6) (lv' := _) C d_law_1131 (by decide) rfl ?_
    refine aw_aload_n C d_law_1133 rfl (j := 4) rfl ?_
    refine aw_lawM (Cn := R_Mo) [] C hK rfl hF hG (c_Mo_thrown l D am cA _) (cw_La_Mo_thrown C.2.2.2.2 rfl rfl (by decide)) rfl (fun H h => aw_recv hK rfl (h 0 (by decide))) rfl (Nat.le_of_ble_eq_true rfl) d_law_1134 ⟨show _ ≤ 601024 by omega, show _ ≤ 7293034 by omega⟩ ?_
    rintro r7 M7 ⟨rfl, e7⟩
    obtain rfl : r7 = 1 := e7.trans (ms_w_s _ _ _ _)
    refine aw_iload C d_law_1137 (j := 1) rfl ?_
    refine aw_icmp_eq (tgt := 1144) C d_law_1139 (by decide) (fun _ => ?_) (fun h => absurd rfl h)
    refine aw_iload C d_law_1144 (j := 1) rfl ?_
    refine aw_if_ne (tgt := 1161) C d_law_1146 (by decide) (fun _ => ?_) (fun h => absurd h (by decide))
    refine aw_goto (tgt := 1177) C d_law_1161 (by decide) ?_
    refine aw_widen (k := cells + 1) (n := slots + 6) (by omega) (by omega) ?_
    refine aw_lv (lv' := [(0, .ref b), (1, .ref (ad 0 0)), (2, .ref (am 0)), (3, .ref oa), (4, .int (nI (4 * j)))]) [2, 3, 4, 5, 6] rfl ?_
    exact kk ad nb _ _ _ hG (Rel_20 hRel 1)
  · refine aw_aload_n C d_law_1084 rfl (j := 1) rfl ?_
    refine aw_aload_n C d_law_1085 rfl (j := 0) rfl ?_
    refine aw_iload C d_law_1086 (j := 4) rfl ?_
    refine aw_iconst (v := 1) C d_law_1088 (by decide) ?_
    refine aw_iadd C d_law_1089 ?_
    refine aw_sld (v := (xs (4 * j + 1))) C hX hbl (Nat.not_le.mpr hbl) (4 * j + 1) (nI_ad (4 * j) 1) (by omega) (by omega) rfl d_law_1090 ?_
    refine aw_aload_n C d_law_1091 rfl (j := 0) rfl ?_
    refine aw_iload C d_law_1092 (j := 4) rfl ?_
    refine aw_iconst (v := 2) C d_law_1094 (by decide) ?_
    refine aw_iadd C d_law_1095 ?_
    refine aw_sld (v := (xs (4 * j + 2))) C hX hbl (Nat.not_le.mpr hbl) (4 * j + 2) (nI_ad (4 * j) 2) (by omega) (by omega) rfl d_law_1096 ?_
    refine aw_aload_n C d_law_1097 rfl (j := 0) rfl ?_
    refine aw_iload C d_law_1098 (j := 4) rfl ?_
    refine aw_iconst (v := 3) C d_law_1100 (by decide) ?_
    refine aw_iadd C d_law_1101 ?_
    refine aw_sld (v := (xs (4 * j + 3))) C hX hbl (Nat.not_le.mpr hbl) (4 * j + 3) (nI_ad (4 * j) 3) (by omega) (by omega) rfl d_law_1102 ?_
    refine aw_aload_n C d_law_1103 rfl (j := 3) rfl ?_
    refine aw_lawQ [.ref (ad 0 0), .int (xs (4 * j + 1)), .int (xs (4 * j + 2)), .int (xs (4 * j + 3)), .ref oa] C hK hZ hN rfl (q_La_gap_Ia l D ad cA nb S oa (xs (4 * j + 1)) (xs (4 * j + 2)) (xs (4 * j + 3)) (t_De_gap2 l D ad cA nb S hl (xs (4 * j + 1)) (xs (4 * j + 2)) (xs (4 * j + 3)) b1 b2)) (lh_cw 5 C.2.2.2.2 ml_La_La_gap sm_La_gap ii_La cd_La_gap rfl rfl (by decide +kernel) (by decide)) rfl rfl (Nat.le_of_ble_eq_true rfl) d_law_1104 ⟨show _ ≤ 601024 by omega, show _ ≤ 7293034 by omega⟩ ?_
    refine aw_istore (i := 5) (lv' := _) C d_law_1107 (by decide) rfl ?_
    refine aw_aload_n C d_law_1109 rfl (j := 3) rfl ?_
    refine aw_aload_n C d_law_1110 rfl (j := 1) rfl ?_
    refine aw_iload C d_law_1111 (j := 5) rfl ?_
    refine aw_iconst (v := 1) C d_law_1113 (by decide) ?_
    refine aw_iadd C d_law_1114 ?_
    refine aw_sld (v := (xs (4 * j + 1))) C hX hbl (Nat.not_le.mpr hbl) (4 * j + 1) (nI_ad (4 * j) 1) (by omega) (by omega) rfl d_law_1115 ?_
    refine aw_aload_n C d_law_1116 rfl (j := 1) rfl ?_
    refine aw_iload C d_law_1117 (j := 5) rfl ?_
    refine aw_iconst (v := 2) C d_law_1119 (by decide) ?_
    refine aw_iadd C d_law_1120 ?_
    refine aw_sld (v := (xs (4 * j + 2))) C hX hbl (Nat.not_le.mpr hbl) (4 * j + 2) (nI_ad (4 * j) 2) (by omega) (by omega) rfl d_law_1121 ?_
    refine aw_aload_n C d_law_1122 rfl (j := 1) rfl ?_
    refine aw_iload C d_law_1123 (j := 5) rfl ?_
    refine aw_iconst (v := 3) C d_law_1125 (by decide) ?_
    refine aw_iadd C d_law_1126 ?_
    refine aw_sld (v := (xs (4 * j + 3))) C hX hbl (Nat.not_le.mpr hbl) (4 * j + 3) (nI_ad (4 * j) 3) (by omega) (by omega) rfl d_law_1127 ?_
    refine aw_lawM (Cn := R_Mo) [.int (xs (4 * j + 1)), .int (xs (4 * j + 2)), .int (xs (4 * j + 3))] C hK rfl hF hG (b_Mo_gap_t l D am cA M hF.1 (xs (4 * j + 1)) (xs (4 * j + 2)) (xs (4 * j + 3)) (Or.inr (Or.inl b3))) (cw_La_Mo_gap C.2.2.2.2 rfl rfl (by decide)) rfl (fun H h => aw_recv hK rfl (h 0 (by decide))) rfl (Nat.le_of_ble_eq_true rfl) d_law_1128 ⟨show _ ≤ 601024 by omega, show _ ≤ 7293034 by omega⟩ ?_
    rintro r8 M8 ⟨rfl, rfl⟩
    refine aw_istore (i := 6) (lv' := _) C d_law_1131 (by decide) rfl ?_
    refine aw_aload_n C d_law_1133 rfl (j := 4) rfl ?_
    refine aw_lawM (Cn := R_Mo) [] C hK rfl hF hG (c_Mo_thrown l D am cA _) (cw_La_Mo_thrown C.2.2.2.2 rfl rfl (by decide)) rfl (fun H h => aw_recv hK rfl (h 0 (by decide))) rfl (Nat.le_of_ble_eq_true rfl) d_law_1134 ⟨show _ ≤ 601024 by omega, show _ ≤ 7293034 by omega⟩ ?_
    rintro r7 M7 ⟨rfl, e7⟩
    obtain rfl : r7 = 1 := e7.trans (ms_w_s _ _ _ _)
    refine aw_iload C d_law_1137 (j := 1) rfl ?_
    refine aw_icmp_eq (tgt := 1144) C d_law_1139 (by decide) (fun _ => ?_) (fun h => absurd rfl h)
    refine aw_iload C d_law_1144 (j := 1) rfl ?_
    refine aw_if_ne (tgt := 1161) C d_law_1146 (by decide) (fun _ => ?_) (fun h => absurd h (by decide))
    refine aw_goto (tgt := 1177) C d_law_1161 (by decide) ?_
    refine aw_widen (k := cells + 1) (n := slots + 6) (by omega) (by omega) ?_
    refine aw_lv (lv' := [(0, .ref b), (1, .ref (ad 0 0)), (2, .ref (am 0)), (3, .ref oa), (4, .int (nI (4 * j)))]) [2, 3, 4, 5, 6] rfl ?_
    exact kk ad nb _ _ _ hG (Rel_20 hRel 1)
  · refine aw_aload_n C d_law_1084 rfl (j := 1) rfl ?_
    refine aw_aload_n C d_law_1085 rfl (j := 0) rfl ?_
    refine aw_iload C d_law_1086 (j := 4) rfl ?_
    refine aw_iconst (v := 1) C d_law_1088 (by decide) ?_
    refine aw_iadd C d_law_1089 ?_
    refine aw_sld (v := (xs (4 * j + 1))) C hX hbl (Nat.not_le.mpr hbl) (4 * j + 1) (nI_ad (4 * j) 1) (by omega) (by omega) rfl d_law_1090 ?_
    refine aw_aload_n C d_law_1091 rfl (j := 0) rfl ?_
    refine aw_iload C d_law_1092 (j := 4) rfl ?_
    refine aw_iconst (v := 2) C d_law_1094 (by decide) ?_
    refine aw_iadd C d_law_1095 ?_
    refine aw_sld (v := (xs (4 * j + 2))) C hX hbl (Nat.not_le.mpr hbl) (4 * j + 2) (nI_ad (4 * j) 2) (by omega) (by omega) rfl d_law_1096 ?_
    refine aw_aload_n C d_law_1097 rfl (j := 0) rfl ?_
    refine aw_iload C d_law_1098 (j := 4) rfl ?_
    refine aw_iconst (v := 3) C d_law_1100 (by decide) ?_
    refine aw_iadd C d_law_1101 ?_
    refine aw_sld (v := (xs (4 * j + 3))) C hX hbl (Nat.not_le.mpr hbl) (4 * j + 3) (nI_ad (4 * j) 3) (by omega) (by omega) rfl d_law_1102 ?_
    refine aw_aload_n C d_law_1103 rfl (j := 3) rfl ?_
    refine aw_lawQ [.ref (ad 0 0), .int (xs (4 * j + 1)), .int (xs (4 * j + 2)), .int (xs (4 * j + 3)), .ref oa] C hK hZ hN rfl (q_La_gap_Ia l D ad cA nb S oa (xs (4 * j + 1)) (xs (4 * j + 2)) (xs (4 * j + 3)) (t_De_gap3 l D ad cA nb S hl (xs (4 * j + 1)) (xs (4 * j + 2)) (xs (4 * j + 3)) b1 b2 b3)) (lh_cw 5 C.2.2.2.2 ml_La_La_gap sm_La_gap ii_La cd_La_gap rfl rfl (by decide +kernel) (by decide)) rfl rfl (Nat.le_of_ble_eq_true rfl) d_law_1104 ⟨show _ ≤ 601024 by omega, show _ ≤ 7293034 by omega⟩ ?_
    refine aw_istore (i := 5) (lv' := _) C d_law_1107 (by decide) rfl ?_
    refine aw_aload_n C d_law_1109 rfl (j := 3) rfl ?_
    refine aw_aload_n C d_law_1110 rfl (j := 1) rfl ?_
    refine aw_iload C d_law_1111 (j := 5) rfl ?_
    refine aw_iconst (v := 1) C d_law_1113 (by decide) ?_
    refine aw_iadd C d_law_1114 ?_
    refine aw_sld (v := (xs (4 * j + 1))) C hX hbl (Nat.not_le.mpr hbl) (4 * j + 1) (nI_ad (4 * j) 1) (by omega) (by omega) rfl d_law_1115 ?_
    refine aw_aload_n C d_law_1116 rfl (j := 1) rfl ?_
    refine aw_iload C d_law_1117 (j := 5) rfl ?_
    refine aw_iconst (v := 2) C d_law_1119 (by decide) ?_
    refine aw_iadd C d_law_1120 ?_
    refine aw_sld (v := (xs (4 * j + 2))) C hX hbl (Nat.not_le.mpr hbl) (4 * j + 2) (nI_ad (4 * j) 2) (by omega) (by omega) rfl d_law_1121 ?_
    refine aw_aload_n C d_law_1122 rfl (j := 1) rfl ?_
    refine aw_iload C d_law_1123 (j := 5) rfl ?_
    refine aw_iconst (v := 3) C d_law_1125 (by decide) ?_
    refine aw_iadd C d_law_1126 ?_
    refine aw_sld (v := (xs (4 * j + 3))) C hX hbl (Nat.not_le.mpr hbl) (4 * j + 3) (nI_ad (4 * j) 3) (by omega) (by omega) rfl d_law_1127 ?_
    refine aw_lawM (Cn := R_Mo) [.int (xs (4 * j + 1)), .int (xs (4 * j + 2)), .int (xs (4 * j + 3))] C hK rfl hF hG (b_Mo_gap_t l D am cA M hF.1 (xs (4 * j + 1)) (xs (4 * j + 2)) (xs (4 * j + 3)) (Or.inr (Or.inr b4))) (cw_La_Mo_gap C.2.2.2.2 rfl rfl (by decide)) rfl (fun H h => aw_recv hK rfl (h 0 (by decide))) rfl (Nat.le_of_ble_eq_true rfl) d_law_1128 ⟨show _ ≤ 601024 by omega, show _ ≤ 7293034 by omega⟩ ?_
    rintro r8 M8 ⟨rfl, rfl⟩
    refine aw_istore (i := 6) (lv' := _) C d_law_1131 (by decide) rfl ?_
    refine aw_aload_n C d_law_1133 rfl (j := 4) rfl ?_
    refine aw_lawM (Cn := R_Mo) [] C hK rfl hF hG (c_Mo_thrown l D am cA _) (cw_La_Mo_thrown C.2.2.2.2 rfl rfl (by decide)) rfl (fun H h => aw_recv hK rfl (h 0 (by decide))) rfl (Nat.le_of_ble_eq_true rfl) d_law_1134 ⟨show _ ≤ 601024 by omega, show _ ≤ 7293034 by omega⟩ ?_
    rintro r7 M7 ⟨rfl, e7⟩
    obtain rfl : r7 = 1 := e7.trans (ms_w_s _ _ _ _)
    refine aw_iload C d_law_1137 (j := 1) rfl ?_
    refine aw_icmp_eq (tgt := 1144) C d_law_1139 (by decide) (fun _ => ?_) (fun h => absurd rfl h)
    refine aw_iload C d_law_1144 (j := 1) rfl ?_
    refine aw_if_ne (tgt := 1161) C d_law_1146 (by decide) (fun _ => ?_) (fun h => absurd h (by decide))
    refine aw_goto (tgt := 1177) C d_law_1161 (by decide) ?_
    refine aw_widen (k := cells + 1) (n := slots + 6) (by omega) (by omega) ?_
    refine aw_lv (lv' := [(0, .ref b), (1, .ref (ad 0 0)), (2, .ref (am 0)), (3, .ref oa), (4, .int (nI (4 * j)))]) [2, 3, 4, 5, 6] rfl ?_
    exact kk ad nb _ _ _ hG (Rel_20 hRel 1)
set_option maxHeartbeats 4000000 in
set_option maxRecDepth 100000 in
theorem lc_waste {p : Program} {l : Launch} {e : Env} {s : State} {m : MethodId} {below : List Frame} {meth : Method} {c : Code} {cells slots : Nat} {Q : State → Prop} {D : va_G} {cA : Nat → ClassId} {am : Nat → Nat} {oa : Nat} {ad : Nat → Nat → Nat} {nb : Nat} {S : ds_S} {M : ms_S} {v : Int64} {b L j : Nat} {xs : Nat → Int32} (hl : l.stackTraces = false) (C : CallFix p m c code 7 s #[Value.ref b] tb_G R_La) (hK : va_K D cl_all (ds_ty cA) s) (hZ : th_Z s) (hN : nc_Z s) (hX : va_X b L xs s s.heap) (hbl : b < s.heap.size) (hL : L ≤ 2048) (hF : lwF s am oa) (hG : lwG s am oa ad nb) (hRel : Rel S M nb) (hj : 4 * j + 4 ≤ L) (hcl : cells + 1 ≤ 601024) (hsl : slots + 6 ≤ 7293034) (kk : lc_K p l e s m below meth c (cells + 1) (slots + 6) Q D cA am oa b j) : AW p l e room_1 s m #[Value.ref b] below meth c 7 cells slots Q (lwP D cA am oa ad nb S M v) (fun q => s.heap.size ≤ q) 1164 [(0, .ref b), (1, .ref (ad 0 0)), (2, .ref (am 0)), (3, .ref oa), (4, .int (nI (4 * j)))] [] := by
  have hoa : ∀ k i, ds_dm nb k i → ad k i ≠ oa := fun k i h => (hG.2 k i h).2.1
  obtain ⟨Rn, n0, b1, b2, b3, b4, b5, b6⟩ := op_waste hRel
  refine aw_aload_n C d_law_1164 rfl (j := 1) rfl ?_
  refine aw_lawD (Cn := R_De) [] C hK rfl hF hG (c_De_waste l D ad cA nb S Rn hG.1 b3 b1 n0 b5.1 b5.2.1 b5.2.2) (cw_La_De_waste C.2.2.2.2 rfl rfl (by decide)) rfl (fun H h => aw_recv hK rfl (h 0 0 rfl)) rfl (Nat.le_of_ble_eq_true rfl) d_law_1165 ⟨show _ ≤ 601024 by omega, show _ ≤ 7293034 by omega⟩ ?_
  rintro r9 S9 ⟨rfl, rfl⟩
  refine aw_aload_n C d_law_1168 rfl (j := 2) rfl ?_
  refine aw_lawM (Cn := R_Mo) [] C hK rfl hF hG (c_Mo_waste l D am cA M hF.1 nb b2 b4) (cw_La_Mo_waste C.2.2.2.2 rfl rfl (by decide)) rfl (fun H h => aw_recv hK rfl (h 0 (by decide))) rfl (Nat.le_of_ble_eq_true rfl) d_law_1169 ⟨show _ ≤ 601024 by omega, show _ ≤ 7293034 by omega⟩ ?_
  rintro r8 M8 ⟨rfl, rfl⟩
  refine aw_icmp_eq (tgt := 1177) C d_law_1172 (by decide) (fun _ => ?_) (fun h => absurd (b6) h)
  refine aw_widen (k := cells + 1) (n := slots + 6) (by omega) (by omega) ?_
  refine aw_lv (lv' := [(0, .ref b), (1, .ref (ad 0 0)), (2, .ref (am 0)), (3, .ref oa), (4, .int (nI (4 * j)))]) [0, 1, 2, 3, 4] rfl ?_
  exact kk ad nb _ _ _ hG (Rel_20 hRel 0)
