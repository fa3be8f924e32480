/-! THE LAW: its cases -/
theorem nI_ad (a k : Nat) : nI a + nI k = nI (a + k) := (Int32.ofNat_add a k).symm
theorem lg_eq {x y : Int64} (h : x = y) : lg_cmp x y = 0 := by rw [h]; exact lg_same y
/-- what comes behind a case -/
def lc_K (p : Program) (l : Launch) (e : Env) (s : State) (m : MethodId) (below : List Frame) (meth : Method) (c : Code) (cells slots : Nat) (Q : State → Prop) (D : va_G) (cA : Nat → ClassId) (am : Nat → Nat) (oa b j : Nat) : Prop :=
  ∀ (ad : Nat → Nat → Nat) (nb : Nat) (S : ds_S) (M : ms_S) (v : Int64), lwG s am oa ad nb → Rel S M nb → AW p l e room_1 s m #[Value.ref b] below meth c 7 cells slots Q (lwP D cA am oa ad nb S M v) (fun q => s.heap.size ≤ q) 1177 [(0, .ref b), (1, .ref (ad 0 0)), (2, .ref (am 0)), (3, .ref oa), (4, .int (nI (4 * j)))] []
set_option maxHeartbeats 4000000 in
set_option maxRecDepth 100000 in
theorem lc_desk {p : Program} {l : Launch} {e : Env} {s : State} {m : MethodId} {below : List Frame} {meth : Method} {c : Code} {cells slots : Nat} {Q : State → Prop} {D : va_G} {cA : Nat → ClassId} {am : Nat → Nat} {oa : Nat} {ad : Nat → Nat → Nat} {nb : Nat} {S : ds_S} {M : ms_S} {v : Int64} {b L j : Nat} {xs : Nat → Int32} (hl : l.stackTraces = false) (C : CallFix p m c code 7 s #[Value.ref b] tb_G R_La) (hK : va_K D cl_all (ds_ty cA) s) (hZ : th_Z s) (hN : nc_Z s) (hX : va_X b L xs s s.heap) (hbl : b < s.heap.size) (hL : L ≤ 2048) (hF : lwF s am oa) (hG : lwG s am oa ad nb) (hRel : Rel S M nb) (hj : 4 * j + 4 ≤ L) (hcl : cells + 1 ≤ 601024) (hsl : slots + 6 ≤ 7293034) (kk : lc_K p l e s m below meth c (cells + 1) (slots + 6) Q D cA am oa b j) : AW p l e room_1 s m #[Value.ref b] below meth c 7 cells slots Q (lwP D cA am oa ad nb S M v) (fun q => s.heap.size ≤ q) 128 [(0, .ref b), (1, .ref (ad 0 0)), (2, .ref (am 0)), (3, .ref oa), (4, .int (nI (4 * j)))] [] := by
  have hoa : ∀ k i, ds_dm nb k i → ad k i ≠ oa := fun k i h => (hG.2 k i h).2.1
  rcases op_desk hRel with ⟨a1, a2, a3, a4⟩ | ⟨a1, a2⟩
  · refine aw_aload_n C d_law_128 rfl (j := 1) rfl ?_
    refine aw_aload_n C d_law_129 rfl (j := 3) rfl ?_
    refine aw_lawH [.ref (ad 0 0), .ref oa] C hK hZ hN rfl hF hG (k_La_desk l D ad cA nb S oa v  hoa _ (c_De_desk l D ad cA nb S hG.1 a1)) (lh_cw 2 C.2.2.2.2 ml_La_La_desk sm_La_desk ii_La cd_La_desk rfl rfl (by decide +kernel) (by decide)) rfl rfl (Nat.le_of_ble_eq_true rfl) d_law_130 ⟨show _ ≤ 601024 by omega, show _ ≤ 7293034 by omega⟩ ?_
    rintro r9 S9 ⟨rfl, rfl⟩
    refine aw_istore (i := 5) (lv' := _) C d_law_133 (by decide) rfl ?_
    refine aw_aload_n C d_law_135 rfl (j := 3) rfl ?_
    refine aw_lawM (Cn := R_Mo) [] C hK rfl hF hG (c_Mo_desk l D am cA M hF.1 a2) (cw_La_Mo_desk C.2.2.2.2 rfl rfl (by decide)) rfl (fun H h => aw_recv hK rfl (h 0 (by decide))) rfl (Nat.le_of_ble_eq_true rfl) d_law_136 ⟨show _ ≤ 601024 by omega, show _ ≤ 7293034 by omega⟩ ?_
    rintro r8 M8 ⟨rfl, rfl⟩
    refine aw_istore (i := 6) (lv' := _) C d_law_139 (by decide) rfl ?_
    refine aw_aload_n C d_law_141 rfl (j := 4) rfl ?_
    refine aw_lawM (Cn := R_Mo) [] C hK rfl hF hG (c_Mo_thrown l D am cA _) (cw_La_Mo_thrown C.2.2.2.2 rfl rfl (by decide)) rfl (fun H h => aw_recv hK rfl (h 0 (by decide))) rfl (Nat.le_of_ble_eq_true rfl) d_law_142 ⟨show _ ≤ 601024 by omega, show _ ≤ 7293034 by omega⟩ ?_
    rintro r7 M7 ⟨rfl, e7⟩
    obtain rfl : r7 = 0 := e7.trans (by simp [ms_w])
    refine aw_iload C d_law_145 (j := 1) rfl ?_
    refine aw_icmp_eq (tgt := 152) C d_law_147 (by decide) (fun _ => ?_) (fun h => absurd rfl h)
    refine aw_iload C d_law_152 (j := 1) rfl ?_
    refine aw_if_ne (tgt := 169) C d_law_154 (by decide) (fun h => absurd rfl h) (fun _ => ?_)
    refine aw_aload_n C d_law_157 rfl (j := 5) rfl ?_
    refine aw_iconst (v := 0) C d_law_158 (by decide) ?_
    refine aw_lald C hK 6 rfl (fun H h => h.2.2) (ix_in (k := 0) rfl (by decide) (by decide)).1 d_law_159 ?_
    refine aw_iload C d_law_160 (j := 0) rfl ?_
    refine aw_i2l C d_law_162 rfl ?_
    refine aw_lcmp C d_law_163 ?_
    refine aw_topi (fun z7 e7 => ?_)
    obtain rfl : z7 = 0 := e7.trans (lg_eq (congrArg Int32.toInt64 a4))
    refine aw_if_eq (tgt := 169) C d_law_164 (by decide) (fun _ => ?_) (fun h => absurd rfl h)
    refine aw_goto (tgt := 1177) C d_law_169 (by decide) ?_
    refine aw_widen (k := cells + 1) (n := slots + 6) (by omega) (by omega) ?_
    refine aw_lv (lv' := [(0, .ref b), (1, .ref (ad 0 0)), (2, .ref (am 0)), (3, .ref oa), (4, .int (nI (4 * j)))]) [2, 3, 4, 5, 6] rfl ?_
    exact kk ad nb _ _ _ hG (a3)
  · refine aw_aload_n C d_law_128 rfl (j := 1) rfl ?_
    refine aw_aload_n C d_law_129 rfl (j := 3) rfl ?_
    refine aw_lawQ [.ref (ad 0 0), .ref oa] C hK hZ hN rfl (q_La_desk_Is l D ad cA nb S oa  (t_De_desk l D ad cA nb S hl a1)) (lh_cw 2 C.2.2.2.2 ml_La_La_desk sm_La_desk ii_La cd_La_desk rfl rfl (by decide +kernel) (by decide)) rfl rfl (Nat.le_of_ble_eq_true rfl) d_law_130 ⟨show _ ≤ 601024 by omega, show _ ≤ 7293034 by omega⟩ ?_
    refine aw_istore (i := 5) (lv' := _) C d_law_133 (by decide) rfl ?_
    refine aw_aload_n C d_law_135 rfl (j := 3) rfl ?_
    refine aw_lawM (Cn := R_Mo) [] C hK rfl hF hG (b_Mo_desk_t l D am cA M hF.1 a2) (cw_La_Mo_desk C.2.2.2.2 rfl rfl (by decide)) rfl (fun H h => aw_recv hK rfl (h 0 (by decide))) rfl (Nat.le_of_ble_eq_true rfl) d_law_136 ⟨show _ ≤ 601024 by omega, show _ ≤ 7293034 by omega⟩ ?_
    rintro r8 M8 ⟨rfl, rfl⟩
    refine aw_istore (i := 6) (lv' := _) C d_law_139 (by decide) rfl ?_
    refine aw_aload_n C d_law_141 rfl (j := 4) rfl ?_
    refine aw_lawM (Cn := R_Mo) [] C hK rfl hF hG (c_Mo_thrown l D am cA _) (cw_La_Mo_thrown C.2.2.2.2 rfl rfl (by decide)) rfl (fun H h => aw_recv hK rfl (h 0 (by decide))) rfl (Nat.le_of_ble_eq_true rfl) d_law_142 ⟨show _ ≤ 601024 by omega, show _ ≤ 7293034 by omega⟩ ?_
    rintro r7 M7 ⟨rfl, e7⟩
    obtain rfl : r7 = 1 := e7.trans (ms_w_s _ _ _ _)
    refine aw_iload C d_law_145 (j := 1) rfl ?_
    refine aw_icmp_eq (tgt := 152) C d_law_147 (by decide) (fun _ => ?_) (fun h => absurd rfl h)
    refine aw_iload C d_law_152 (j := 1) rfl ?_
    refine aw_if_ne (tgt := 169) C d_law_154 (by decide) (fun _ => ?_) (fun h => absurd h (by decide))
    refine aw_goto (tgt := 1177) C d_law_169 (by decide) ?_
    refine aw_widen (k := cells + 1) (n := slots + 6) (by omega) (by omega) ?_
    refine aw_lv (lv' := [(0, .ref b), (1, .ref (ad 0 0)), (2, .ref (am 0)), (3, .ref oa), (4, .int (nI (4 * j)))]) [2, 3, 4, 5, 6] rfl ?_
    exact kk ad nb _ _ _ hG (Rel_20 hRel 1)
set_option maxHeartbeats 4000000 in
set_option maxRecDepth 100000 in
theorem lc_person {p : Program} {l : Launch} {e : Env} {s : State} {m : MethodId} {below : List Frame} {meth : Method} {c : Code} {cells slots : Nat} {Q : State → Prop} {D : va_G} {cA : Nat → ClassId} {am : Nat → Nat} {oa : Nat} {ad : Nat → Nat → Nat} {nb : Nat} {S : ds_S} {M : ms_S} {v : Int64} {b L j : Nat} {xs : Nat → Int32} (hl : l.stackTraces = false) (C : CallFix p m c code 7 s #[Value.ref b] tb_G R_La) (hK : va_K D cl_all (ds_ty cA) s) (hZ : th_Z s) (hN : nc_Z s) (hX : va_X b L xs s s.heap) (hbl : b < s.heap.size) (hL : L ≤ 2048) (hF : lwF s am oa) (hG : lwG s am oa ad nb) (hRel : Rel S M nb) (hj : 4 * j + 4 ≤ L) (hcl : cells + 1 ≤ 601024) (hsl : slots + 6 ≤ 7293034) (kk : lc_K p l e s m below meth c (cells + 1) (slots + 6) Q D cA am oa b j) : AW p l e room_1 s m #[Value.ref b] below meth c 7 cells slots Q (lwP D cA am oa ad nb S M v) (fun q => s.heap.size ≤ q) 172 [(0, .ref b), (1, .ref (ad 0 0)), (2, .ref (am 0)), (3, .ref oa), (4, .int (nI (4 * j)))] [] := by
  have hoa : ∀ k i, ds_dm nb k i → ad k i ≠ oa := fun k i h => (hG.2 k i h).2.1
  rcases op_person hRel with ⟨k9, a1, a2, a3, a4, a5⟩ | ⟨a1, a2⟩
  · refine aw_aload_n C d_law_172 rfl (j := 1) rfl ?_
    refine aw_aload_n C d_law_173 rfl (j := 3) rfl ?_
    refine aw_lawH [.ref (ad 0 0), .ref oa] C hK hZ hN rfl hF hG (k_La_person l D ad cA nb S oa v  hoa _ (c_De_person l D ad cA nb S hG.1 a3)) (lh_cw 2 C.2.2.2.2 ml_La_La_person sm_La_person ii_La cd_La_person rfl rfl (by decide +kernel) (by decide)) rfl rfl (Nat.le_of_ble_eq_true rfl) d_law_174 ⟨show _ ≤ 601024 by omega, show _ ≤ 7293034 by omega⟩ ?_
    rintro r9 S9 ⟨rfl, rfl⟩
    refine aw_istore (i := 5) (lv' := _) C d_law_177 (by decide) rfl ?_
    refine aw_aload_n C d_law_179 rfl (j := 3) rfl ?_
    refine aw_lawM (Cn := R_Mo) [] C hK rfl hF hG (c_Mo_person l D am cA M hF.1 k9 a1 a2) (cw_La_Mo_person C.2.2.2.2 rfl rfl (by decide)) rfl (fun H h => aw_recv hK rfl (h 0 (by decide))) rfl (Nat.le_of_ble_eq_true rfl) d_law_180 ⟨show _ ≤ 601024 by omega, show _ ≤ 7293034 by omega⟩ ?_
    rintro r8 M8 ⟨rfl, rfl⟩
    refine aw_istore (i := 6) (lv' := _) C d_law_183 (by decide) rfl ?_
    refine aw_aload_n C d_law_185 rfl (j := 4) rfl ?_
    refine aw_lawM (Cn := R_Mo) [] C hK rfl hF hG (c_Mo_thrown l D am cA _) (cw_La_Mo_thrown C.2.2.2.2 rfl rfl (by decide)) rfl (fun H h => aw_recv hK rfl (h 0 (by decide))) rfl (Nat.le_of_ble_eq_true rfl) d_law_186 ⟨show _ ≤ 601024 by omega, show _ ≤ 7293034 by omega⟩ ?_
    rintro r7 M7 ⟨rfl, e7⟩
    obtain rfl : r7 = 0 := e7.trans (by simp [ms_w])
    refine aw_iload C d_law_189 (j := 1) rfl ?_
    refine aw_icmp_eq (tgt := 196) C d_law_191 (by decide) (fun _ => ?_) (fun h => absurd rfl h)
    refine aw_iload C d_law_196 (j := 1) rfl ?_
    refine aw_if_ne (tgt := 213) C d_law_198 (by decide) (fun h => absurd rfl h) (fun _ => ?_)
    refine aw_aload_n C d_law_201 rfl (j := 5) rfl ?_
    refine aw_iconst (v := 0) C d_law_202 (by decide) ?_
    refine aw_lald C hK 6 rfl (fun H h => h.2.2) (ix_in (k := 0) rfl (by decide) (by decide)).1 d_law_203 ?_
    refine aw_iload C d_law_204 (j := 0) rfl ?_
    refine aw_i2l C d_law_206 rfl ?_
    refine aw_lcmp C d_law_207 ?_
    refine aw_topi (fun z7 e7 => ?_)
    obtain rfl : z7 = 0 := e7.trans (lg_eq (congrArg Int32.toInt64 a5))
    refine aw_if_eq (tgt := 213) C d_law_208 (by decide) (fun _ => ?_) (fun h => absurd rfl h)
    refine aw_goto (tgt := 1177) C d_law_213 (by decide) ?_
    refine aw_widen (k := cells + 1) (n := slots + 6) (by omega) (by omega) ?_
    refine aw_lv (lv' := [(0, .ref b), (1, .ref (ad 0 0)), (2, .ref (am 0)), (3, .ref oa), (4, .int (nI (4 * j)))]) [2, 3, 4, 5, 6] rfl ?_
    exact kk ad nb _ _ _ hG (a4)
  · refine aw_aload_n C d_law_172 rfl (j := 1) rfl ?_
    refine aw_aload_n C d_law_173 rfl (j := 3) rfl ?_
    refine aw_lawQ [.ref (ad 0 0), .ref oa] C hK hZ hN rfl (q_La_person_Is l D ad cA nb S oa  (t_De_person l D ad cA nb S hl a1)) (lh_cw 2 C.2.2.2.2 ml_La_La_person sm_La_person ii_La cd_La_person rfl rfl (by decide +kernel) (by decide)) rfl rfl (Nat.le_of_ble_eq_true rfl) d_law_174 ⟨show _ ≤ 601024 by omega, show _ ≤ 7293034 by omega⟩ ?_
    refine aw_istore (i := 5) (lv' := _) C d_law_177 (by decide) rfl ?_
    refine aw_aload_n C d_law_179 rfl (j := 3) rfl ?_
    refine aw_lawM (Cn := R_Mo) [] C hK rfl hF hG (b_Mo_person_t l D am cA M hF.1 a2) (cw_La_Mo_person C.2.2.2.2 rfl rfl (by decide)) rfl (fun H h => aw_recv hK rfl (h 0 (by decide))) rfl (Nat.le_of_ble_eq_true rfl) d_law_180 ⟨show _ ≤ 601024 by omega, show _ ≤ 7293034 by omega⟩ ?_
    rintro r8 M8 ⟨rfl, rfl⟩
    refine aw_istore (i := 6) (lv' := _) C d_law_183 (by decide) rfl ?_
    refine aw_aload_n C d_law_185 rfl (j := 4) rfl ?_
    refine aw_lawM (Cn := R_Mo) [] C hK rfl hF hG (c_Mo_thrown l D am cA _) (cw_La_Mo_thrown C.2.2.2.2 rfl rfl (by decide)) rfl (fun H h => aw_recv hK rfl (h 0 (by decide))) rfl (Nat.le_of_ble_eq_true rfl) d_law_186 ⟨show _ ≤ 601024 by omega, show _ ≤ 7293034 by omega⟩ ?_
    rintro r7 M7 ⟨rfl, e7⟩
    obtain rfl : r7 = 1 := e7.trans (ms_w_s _ _ _ _)
    refine aw_iload C d_law_189 (j := 1) rfl ?_
    refine aw_icmp_eq (tgt := 196) C d_law_191 (by decide) (fun _ => ?_) (fun h => absurd rfl h)
    refine aw_iload C d_law_196 (j := 1) rfl ?_
    refine aw_if_ne (tgt := 213) C d_law_198 (by decide) (fun _ => ?_) (fun h => absurd h (by decide))
    refine aw_goto (tgt := 1177) C d_law_213 (by decide) ?_
    refine aw_widen (k := cells + 1) (n := slots + 6) (by omega) (by omega) ?_
    refine aw_lv (lv' := [(0, .ref b), (1, .ref (ad 0 0)), (2, .ref (am 0)), (3, .ref oa), (4, .int (nI (4 * j)))]) [2, 3, 4, 5, 6] rfl ?_
    exact kk ad nb _ _ _ hG (Rel_20 hRel 1)
set_option maxHeartbeats 4000000 in
set_option maxRecDepth 100000 in
theorem lc_wish {p : Program} {l : Launch} {e : Env} {s : State} {m : MethodId} {below : List Frame} {meth : Method} {c : Code} {cells slots : Nat} {Q : State → Prop} {D : va_G} {cA : Nat → ClassId} {am : Nat → Nat} {oa : Nat} {ad : Nat → Nat → Nat} {nb : Nat} {S : ds_S} {M : ms_S} {v : Int64} {b L j : Nat} {xs : Nat → Int32} (hl : l.stackTraces = false) (C : CallFix p m c code 7 s #[Value.ref b] tb_G R_La) (hK : va_K D cl_all (ds_ty cA) s) (hZ : th_Z s) (hN : nc_Z s) (hX : va_X b L xs s s.heap) (hbl : b < s.heap.size) (hL : L ≤ 2048) (hF : lwF s am oa) (hG : lwG s am oa ad nb) (hRel : Rel S M nb) (hj : 4 * j + 4 ≤ L) (hcl : cells + 1 ≤ 601024) (hsl : slots + 6 ≤ 7293034) (kk : lc_K p l e s m below meth c (cells + 1) (slots + 6) Q D cA am oa b j) : AW p l e room_1 s m #[Value.ref b] below meth c 7 cells slots Q (lwP D cA am oa ad nb S M v) (fun q => s.heap.size ≤ q) 216 [(0, .ref b), (1, .ref (ad 0 0)), (2, .ref (am 0)), (3, .ref oa), (4, .int (nI (4 * j)))] [] := by
  have hoa : ∀ k i, ds_dm nb k i → ad k i ≠ oa := fun k i h => (hG.2 k i h).2.1
  rcases op_wish hRel (xs (4 * j + 1)) (xs (4 * j + 2)) (xs (4 * j + 3)) with ⟨p9, d9, b1, b2, b3, b4, b5, b6, b7, b8, b9, b10, b11, b12⟩ | ⟨b1, b2⟩ | ⟨b1, b2, b3⟩ | ⟨b1, b2, b3, b4⟩
  · refine aw_aload_n C d_law_216 rfl (j := 1) rfl ?_
    refine aw_aload_n C d_law_217 rfl (j := 0) rfl ?_
    refine aw_iload C d_law_218 (j := 4) rfl ?_
    refine aw_iconst (v := 1) C d_law_220 (by decide) ?_
    refine aw_iadd C d_law_221 ?_
    refine aw_sld (v := (nI p9)) C hX hbl (Nat.not_le.mpr hbl) (4 * j + 1) (nI_ad (4 * j) 1) (by omega) (by omega) b3 d_law_222 ?_
    refine aw_aload_n C d_law_223 rfl (j := 0) rfl ?_
    refine aw_iload C d_law_224 (j := 4) rfl ?_
    refine aw_iconst (v := 2) C d_law_226 (by decide) ?_
    refine aw_iadd C d_law_227 ?_
    refine aw_sld (v := (nI d9)) C hX hbl (Nat.not_le.mpr hbl) (4 * j + 2) (nI_ad (4 * j) 2) (by omega) (by omega) b4 d_law_228 ?_
    refine aw_aload_n C d_law_229 rfl (j := 0) rfl ?_
    refine aw_iload C d_law_230 (j := 4) rfl ?_
    refine aw_iconst (v := 3) C d_law_232 (by decide) ?_
    refine aw_iadd C d_law_233 ?_
    refine aw_sld (v := (xs (4 * j + 3))) C hX hbl (Nat.not_le.mpr hbl) (4 * j + 3) (nI_ad (4 * j) 3) (by omega) (by omega) rfl d_law_234 ?_
    refine aw_aload_n C d_law_235 rfl (j := 3) rfl ?_
    refine aw_lawH [.ref (ad 0 0), .int (nI p9), .int (nI d9), .int (xs (4 * j + 3)), .ref oa] C hK hZ hN rfl hF hG (k_La_wish l D ad cA nb S oa v (nI p9) (nI d9) (xs (4 * j + 3)) hoa _ (c_De_wish l D ad cA nb S p9 d9 (xs (4 * j + 3)) hG.1 b1 b2 b5 b6 b7)) (lh_cw 5 C.2.2.2.2 ml_La_La_wish sm_La_wish ii_La cd_La_wish rfl rfl (by decide +kernel) (by decide)) rfl rfl (Nat.le_of_ble_eq_true rfl) d_law_236 ⟨show _ ≤ 601024 by omega, show _ ≤ 7293034 by omega⟩ ?_
    rintro r9 S9 ⟨rfl, rfl⟩
    refine aw_istore (i := 5) (lv' := _) C d_law_239 (by decide) rfl ?_
    refine aw_aload_n C d_law_241 rfl (j := 3) rfl ?_
    refine aw_aload_n C d_law_242 rfl (j := 1) rfl ?_
    refine aw_iload C d_law_243 (j := 5) rfl ?_
    refine aw_iconst (v := 1) C d_law_245 (by decide) ?_
    refine aw_iadd C d_law_246 ?_
    refine aw_sld (v := (nI p9)) C hX hbl (Nat.not_le.mpr hbl) (4 * j + 1) (nI_ad (4 * j) 1) (by omega) (by omega) b3 d_law_247 ?_
    refine aw_aload_n C d_law_248 rfl (j := 1) rfl ?_
    refine aw_iload C d_law_249 (j := 5) rfl ?_
    refine aw_iconst (v := 2) C d_law_251 (by decide) ?_
    refine aw_iadd C d_law_252 ?_
    refine aw_sld (v := (nI d9)) C hX hbl (Nat.not_le.mpr hbl) (4 * j + 2) (nI_ad (4 * j) 2) (by omega) (by omega) b4 d_law_253 ?_
    refine aw_aload_n C d_law_254 rfl (j := 1) rfl ?_
    refine aw_iload C d_law_255 (j := 5) rfl ?_
    refine aw_iconst (v := 3) C d_law_257 (by decide) ?_
    refine aw_iadd C d_law_258 ?_
    refine aw_sld (v := (xs (4 * j + 3))) C hX hbl (Nat.not_le.mpr hbl) (4 * j + 3) (nI_ad (4 * j) 3) (by omega) (by omega) rfl d_law_259 ?_
    refine aw_lawM (Cn := R_Mo) [.int (nI p9), .int (nI d9), .int (xs (4 * j + 3))] C hK rfl hF hG (c_Mo_wish l D am cA M hF.1 p9 d9 b1 b2 (xs (4 * j + 3)) b8 b9 b10) (cw_La_Mo_wish C.2.2.2.2 rfl rfl (by decide)) rfl (fun H h => aw_recv hK rfl (h 0 (by decide))) rfl (Nat.le_of_ble_eq_true rfl) d_law_260 ⟨show _ ≤ 601024 by omega, show _ ≤ 7293034 by omega⟩ ?_
    rintro r8 M8 ⟨rfl, rfl⟩
    refine aw_istore (i := 6) (lv' := _) C d_law_263 (by decide) rfl ?_
    refine aw_aload_n C d_law_265 rfl (j := 4) rfl ?_
    refine aw_lawM (Cn := R_Mo) [] C hK rfl hF hG (c_Mo_thrown l D am cA _) (cw_La_Mo_thrown C.2.2.2.2 rfl rfl (by decide)) rfl (fun H h => aw_recv hK rfl (h 0 (by decide))) rfl (Nat.le_of_ble_eq_true rfl) d_law_266 ⟨show _ ≤ 601024 by omega, show _ ≤ 7293034 by omega⟩ ?_
    rintro r7 M7 ⟨rfl, e7⟩
    obtain rfl : r7 = 0 := e7.trans (by simp [ms_w])
    refine aw_iload C d_law_269 (j := 1) rfl ?_
    refine aw_icmp_eq (tgt := 276) C d_law_271 (by decide) (fun _ => ?_) (fun h => absurd rfl h)
    refine aw_iload C d_law_276 (j := 1) rfl ?_
    refine aw_if_ne (tgt := 293) C d_law_278 (by decide) (fun h => absurd rfl h) (fun _ => ?_)
    refine aw_aload_n C d_law_281 rfl (j := 5) rfl ?_
    refine aw_iconst (v := 0) C d_law_282 (by decide) ?_
    refine aw_lald C hK 6 rfl (fun H h => h.2.2) (ix_in (k := 0) rfl (by decide) (by decide)).1 d_law_283 ?_
    refine aw_iload C d_law_284 (j := 0) rfl ?_
    refine aw_i2l C d_law_286 rfl ?_
    refine aw_lcmp C d_law_287 ?_
    refine aw_topi (fun z7 e7 => ?_)
    obtain rfl : z7 = 0 := e7.trans (lg_eq (congrArg Int32.toInt64 b12))
    refine aw_if_eq (tgt := 293) C d_law_288 (by decide) (fun _ => ?_) (fun h => absurd rfl h)
    refine aw_goto (tgt := 1177) C d_law_293 (by decide) ?_
    refine aw_widen (k := cells + 1) (n := slots + 6) (by omega) (by omega) ?_
    refine aw_lv (lv' := [(0, .ref b), (1, .ref (ad 0 0)), (2, .ref (am 0)), (3, .ref oa), (4, .int (nI (4 * j)))]) [2, 3, 4, 5, 6] rfl ?_
    exact kk ad nb _ _ _ hG (b11)
  · refine aw_aload_n C d_law_216 rfl (j := 1) rfl ?_
    refine aw_aload_n C d_law_217 rfl (j := 0) rfl ?_
    refine aw_iload C d_law_218 (j := 4) rfl ?_
    refine aw_iconst (v := 1) C d_law_220 (by decide) ?_
    refine aw_iadd C d_law_221 ?_
    refine aw_sld (v := (xs (4 * j + 1))) C hX hbl (Nat.not_le.mpr hbl) (4 * j + 1) (nI_ad (4 * j) 1) (by omega) (by omega) rfl d_law_222 ?_
    refine aw_aload_n C d_law_223 rfl (j := 0) rfl ?_
    refine aw_iload C d_law_224 (j := 4) rfl ?_
    refine aw_iconst (v := 2) C d_law_226 (by decide) ?_
    refine aw_iadd C d_law_227 ?_
    refine aw_sld (v := (xs (4 * j + 2))) C hX hbl (Nat.not_le.mpr hbl) (4 * j + 2) (nI_ad (4 * j) 2) (by omega) (by omega) rfl d_law_228 ?_
    refine aw_aload_n C d_law_229 rfl (j := 0) rfl ?_
    refine aw_iload C d_law_230 (j := 4) rfl ?_
    refine aw_iconst (v := 3) C d_law_232 (by decide) ?_
    refine aw_iadd C d_law_233 ?_
    refine aw_sld (v := (xs (4 * j + 3))) C hX hbl (Nat.not_le.mpr hbl) (4 * j + 3) (nI_ad (4 * j) 3) (by omega) (by omega) rfl d_law_234 ?_
    refine aw_aload_n C d_law_235 rfl (j := 3) rfl ?_
    refine aw_lawQ [.ref (ad 0 0), .int (xs (4 * j + 1)), .int (xs (4 * j + 2)), .int (xs (4 * j + 3)), .ref oa] C hK hZ hN rfl (q_La_wish_Ia l D ad cA nb S oa (xs (4 * j + 1)) (xs (4 * j + 2)) (xs (4 * j + 3)) (t_De_wish1 l D ad cA nb S hl (xs (4 * j + 1)) (xs (4 * j + 2)) (xs (4 * j + 3)) b1)) (lh_cw 5 C.2.2.2.2 ml_La_La_wish sm_La_wish ii_La cd_La_wish rfl rfl (by decide +kernel) (by decide)) rfl rfl (Nat.le_of_ble_eq_true rfl) d_law_236 ⟨show _ ≤ 601024 by omega, show _ ≤ 7293034 by omega⟩ ?_
    refine aw_istore (i := 5) (lv' := _) C d_law_239 (by decide) rfl ?_
    refine aw_aload_n C d_law_241 rfl (j := 3) rfl ?_
    refine aw_aload_n C d_law_242 rfl (j := 1) rfl ?_
    refine aw_iload C d_law_243 (j := 5) rfl ?_
    refine aw_iconst (v := 1) C d_law_245 (by decide) ?_
    refine aw_iadd C d_law_246 ?_
    refine aw_sld (v := (xs (4 * j + 1))) C hX hbl (Nat.not_le.mpr hbl) (4 * j + 1) (nI_ad (4 * j) 1) (by omega) (by omega) rfl d_law_247 ?_
    refine aw_aload_n C d_law_248 rfl (j := 1) rfl ?_
    refine aw_iload C d_law_249 (j := 5) rfl ?_
    refine aw_iconst (v := 2) C d_law_251 (by decide) ?_
    refine aw_iadd C d_law_252 ?_
    refine aw_sld (v := (xs (4 * j + 2))) C hX hbl (Nat.not_le.mpr hbl) (4 * j + 2) (nI_ad (4 * j) 2) (by omega) (by omega) rfl d_law_253 ?_
    refine aw_aload_n C d_law_254 rfl (j := 1) rfl ?_
    refine aw_iload C d_law_255 (j := 5) rfl ?_
    refine aw_iconst (v := 3) C d_law_257 (by decide) ?_
    refine aw_iadd C d_law_258 ?_
    refine aw_sld (v := (xs (4 * j + 3))) C hX hbl (Nat.not_le.mpr hbl) (4 * j + 3) (nI_ad (4 * j) 3) (by omega) (by omega) rfl d_law_259 ?_
    refine aw_lawM (Cn := R_Mo) [.int (xs (4 * j + 1)), .int (xs (4 * j + 2)), .int (xs (4 * j + 3))] C hK rfl hF hG (b_Mo_wish_t l D am cA M hF.1 (xs (4 * j + 1)) (xs (4 * j + 2)) (xs (4 * j + 3)) (Or.inl b2)) (cw_La_Mo_wish C.2.2.2.2 rfl rfl (by decide)) rfl (fun H h => aw_recv hK rfl (h 0 (by decide))) rfl (Nat.le_of_ble_eq_true rfl) d_law_260 ⟨show _ ≤ 601024 by omega, show _ ≤ 7293034 by omega⟩ ?_
    rintro r8 M8 ⟨rfl, rfl⟩
    refine aw_istore (i := 6) (lv' := _) C d_law_263 (by decide) rfl ?_
    refine aw_aload_n C d_law_265 rfl (j := 4) rfl ?_
    refine aw_lawM (Cn := R_Mo) [] C hK rfl hF hG (c_Mo_thrown l D am cA _) (cw_La_Mo_thrown C.2.2.2.2 rfl rfl (by decide)) rfl (fun H h => aw_recv hK rfl (h 0 (by decide))) rfl (Nat.le_of_ble_eq_true rfl) d_law_266 ⟨show _ ≤ 601024 by omega, show _ ≤ 7293034 by omega⟩ ?_
    rintro r7 M7 ⟨rfl, e7⟩
    obtain rfl : r7 = 1 := e7.trans (ms_w_s _ _ _ _)
    refine aw_iload C d_law_269 (j := 1) rfl ?_
    refine aw_icmp_eq (tgt := 276) C d_law_271 (by decide) (fun _ => ?_) (fun h => absurd rfl h)
    refine aw_iload C d_law_276 (j := 1) rfl ?_
    refine aw_if_ne (tgt := 293) C d_law_278 (by decide) (fun _ => ?_) (fun h => absurd h (by decide))
    refine aw_goto (tgt := 1177) C d_law_293 (by decide) ?_
    refine aw_widen (k := cells + 1) (n := slots + 6) (by omega) (by omega) ?_
    refine aw_lv (lv' := [(0, .ref b), (1, .ref (ad 0 0)), (2, .ref (am 0)), (3, .ref oa), (4, .int (nI (4 * j)))]) [2, 3, 4, 5, 6] rfl ?_
    exact kk ad nb _ _ _ hG (Rel_20 hRel 1)
  · refine aw_aload_n C d_law_216 rfl (j := 1) rfl ?_
    refine aw_aload_n C d_law_217 rfl (j := 0) rfl ?_
    refine aw_iload C d_law_218 (j := 4) rfl ?_
    refine aw_iconst (v := 1) C d_law_220 (by decide) ?_
    refine aw_iadd C d_law_221 ?_
    refine aw_sld (v := (xs (4 * j + 1))) C hX hbl (Nat.not_le.mpr hbl) (4 * j + 1) (nI_ad (4 * j) 1) (by omega) (by omega) rfl d_law_222 ?_
    refine aw_aload_n C d_law_223 rfl (j := 0) rfl ?_
    refine aw_iload C d_law_224 (j := 4) rfl ?_
    refine aw_iconst (v := 2) C d_law_226 (by decide) ?_
    refine aw_iadd C d_law_227 ?_
    refine aw_sld (v := (xs (4 * j + 2))) C hX hbl (Nat.not_le.mpr hbl) (4 * j + 2) (nI_ad (4 * j) 2) (by omega) (by omega) rfl d_law_228 ?_
    refine aw_aload_n C d_law_229 rfl (j := 0) rfl ?_
    refine aw_iload C d_law_230 (j := 4) rfl ?_
    refine aw_iconst (v := 3) C d_law_232 (by decide) ?_
    refine aw_iadd C d_law_233 ?_
    refine aw_sld (v := (xs (4 * j + 3))) C hX hbl (Nat.not_le.mpr hbl) (4 * j + 3) (nI_ad (4 * j) 3) (by omega) (by omega) rfl d_law_234 ?_
    refine aw_aload_n C d_law_235 rfl (j := 3) rfl ?_
    refine aw_lawQ [.ref (ad 0 0), .int (xs (4 * j + 1)), .int (xs (4 * j + 2)), .int (xs (4 * j + 3)), .ref oa] C hK hZ hN rfl (q_La_wish_Ia l D ad cA nb S oa (xs (4 * j + 1)) (xs (4 * j + 2)) (xs (4 * j + 3)) (t_De_wish2 l D ad cA nb S hl (xs (4 * j + 1)) (xs (4 * j + 2)) (xs (4 * j + 3)) b1 b2)) (lh_cw 5 C.2.2.2.2 ml_La_La_wish sm_La_wish ii_La cd_La_wish rfl rfl (by decide +kernel) (by decide)) rfl rfl (Nat.le_of_ble_eq_true rfl) d_law_236 ⟨show _ ≤ 601024 by omega, show _ ≤ 7293034 by omega⟩ ?_
    refine aw_istore (i := 5) (lv' := _) C d_law_239 (by decide) rfl ?_
    refine aw_aload_n C d_law_241 rfl (j := 3) rfl ?_
    refine aw_aload_n C d_law_242 rfl (j := 1) rfl ?_
    refine aw_iload C d_law_243 (j := 5) rfl ?_
    refine aw_iconst (v := 1) C d_law_245 (by decide) ?_
    refine aw_iadd C d_law_246 ?_
    refine aw_sld (v := (xs (4 * j + 1))) C hX hbl (Nat.not_le.mpr hbl) (4 * j + 1) (nI_ad (4 * j) 1) (by omega) (by omega) rfl d_law_247 ?_
    refine aw_aload_n C d_law_248 rfl (j := 1) rfl ?_
    refine aw_iload C d_law_249 (j := 5) rfl ?_
    refine aw_iconst (v := 2) C d_law_251 (by decide) ?_
    refine aw_iadd C d_law_252 ?_
    refine aw_sld (v := (xs (4 * j + 2))) C hX hbl (Nat.not_le.mpr hbl) (4 * j + 2) (nI_ad (4 * j) 2) (by omega) (by omega) rfl d_law_253 ?_
    refine aw_aload_n C d_law_254 rfl (j := 1) rfl ?_
    refine aw_iload C d_law_255 (j := 5) rfl ?_
    refine aw_iconst (v := 3) C d_law_257 (by decide) ?_
    refine aw_iadd C d_law_258 ?_
    refine aw_sld (v := (xs (4 * j + 3))) C hX hbl (Nat.not_le.mpr hbl) (4 * j + 3) (nI_ad (4 * j) 3) (by omega) (by omega) rfl d_law_259 ?_
    refine aw_lawM (Cn := R_Mo) [.int (xs (4 * j + 1)), .int (xs (4 * j + 2)), .int (xs (4 * j + 3))] C hK rfl hF hG (b_Mo_wish_t l D am cA M hF.1 (xs (4 * j + 1)) (xs (4 * j + 2)) (xs (4 * j + 3)) (Or.inr (Or.inl b3))) (cw_La_Mo_wish C.2.2.2.2 rfl rfl (by decide)) rfl (fun H h => aw_recv hK rfl (h 0 (by decide))) rfl (Nat.le_of_ble_eq_true rfl) d_law_260 ⟨show _ ≤ 601024 by omega, show _ ≤ 7293034 by omega⟩ ?_
    rintro r8 M8 ⟨rfl, rfl⟩
    refine aw_istore (i := 6) (lv' := _) C d_law_263 (by decide) rfl ?_
    refine aw_aload_n C d_law_265 rfl (j := 4) rfl ?_
    refine aw_lawM (Cn := R_Mo) [] C hK rfl hF hG (c_Mo_thrown l D am cA _) (cw_La_Mo_thrown C.2.2.2.2 rfl rfl (by decide)) rfl (fun H h => aw_recv hK rfl (h 0 (by decide))) rfl (Nat.le_of_ble_eq_true rfl) d_law_266 ⟨show _ ≤ 601024 by omega, show _ ≤ 7293034 by omega⟩ ?_
    rintro r7 M7 ⟨rfl, e7⟩
    obtain rfl : r7 = 1 := e7.trans (ms_w_s _ _ _ _)
    refine aw_iload C d_law_269 (j := 1) rfl ?_
    refine aw_icmp_eq (tgt := 276) C d_law_271 (by decide) (fun _ => ?_) (fun h => absurd rfl h)
    refine aw_iload C d_law_276 (j := 1) rfl ?_
    refine aw_if_ne (tgt := 293) C d_law_278 (by decide) (fun _ => ?_) (fun h => absurd h (by decide))
    refine aw_goto (tgt := 1177) C d_law_293 (by decide) ?_
    refine aw_widen (k := cells + 1) (n := slots + 6) (by omega) (by omega) ?_
    refine aw_lv (lv' := [(0, .ref b), (1, .ref (ad 0 0)), (2, .ref (am 0)), (3, .ref oa), (4, .int (nI (4 * j)))]) [2, 3, 4, 5, 6] rfl ?_
    exact kk ad nb _ _ _ hG (Rel_20 hRel 1)
  · refine aw_aload_n C d_law_216 rfl (j := 1) rfl ?_
    refine aw_aload_n C d_law_217 rfl (j := 0) rfl ?_
    refine aw_iload C d_law_218 (j := 4) rfl ?_
    refine aw_iconst (v := 1) C d_law_220 (by decide) ?_
    refine aw_iadd C d_law_221 ?_
    refine aw_sld (v := (xs (4 * j + 1))) C hX hbl (Nat.not_le.mpr hbl) (4 * j + 1) (nI_ad (4 * j) 1) (by omega) (by omega) rfl d_law_222 ?_
    refine aw_aload_n C d_law_223 rfl (j := 0) rfl ?_
    refine aw_iload C d_law_224 (j := 4) rfl ?_
    refine aw_iconst (v := 2) C d_law_226 (by decide) ?_
    refine aw_iadd C d_law_227 ?_
    refine aw_sld (v := (xs (4 * j + 2))) C hX hbl (Nat.not_le.mpr hbl) (4 * j + 2) (nI_ad (4 * j) 2) (by omega) (by omega) rfl d_law_228 ?_
    refine aw_aload_n C d_law_229 rfl (j := 0) rfl ?_
    refine aw_iload C d_law_230 (j := 4) rfl ?_
    refine aw_iconst (v := 3) C d_law_232 (by decide) ?_
    refine aw_iadd C d_law_233 ?_
    refine aw_sld (v := (xs (4 * j + 3))) C hX hbl (Nat.not_le.mpr hbl) (4 * j + 3) (nI_ad (4 * j) 3) (by omega) (by omega) rfl d_law_234 ?_
    refine aw_aload_n C d_law_235 rfl (j := 3) rfl ?_
    refine aw_lawQ [.ref (ad 0 0), .int (xs (4 * j + 1)), .int (xs (4 * j + 2)), .int (xs (4 * j + 3)), .ref oa] C hK hZ hN rfl (q_La_wish_Ia l D ad cA nb S oa (xs (4 * j + 1)) (xs (4 * j + 2)) (xs (4 * j + 3)) (t_De_wish3 l D ad cA nb S hl (xs (4 * j + 1)) (xs (4 * j + 2)) (xs (4 * j + 3)) b1 b2 b3)) (lh_cw 5 C.2.2.2.2 ml_La_La_wish sm_La_wish ii_La cd_La_wish rfl rfl (by decide +kernel) (by decide)) rfl rfl (Nat.le_of_ble_eq_true rfl) d_law_236 ⟨show _ ≤ 601024 by omega, show _ ≤ 7293034 by omega⟩ ?_
    refine aw_istore (i := 5) (lv' := _) C d_law_239 (by decide) rfl ?_
    refine aw_aload_n C d_law_241 rfl (j := 3) rfl ?_
    refine aw_aload_n C d_law_242 rfl (j := 1) rfl ?_
    refine aw_iload C d_law_243 (j := 5) rfl ?_
    refine aw_iconst (v := 1) C d_law_245 (by decide) ?_
    refine aw_iadd C d_law_246 ?_
    refine aw_sld (v := (xs (4 * j + 1))) C hX hbl (Nat.not_le.mpr hbl) (4 * j + 1) (nI_ad (4 * j) 1) (by omega) (by omega) rfl d_law_247 ?_
    refine aw_aload_n C d_law_248 rfl (j := 1) rfl ?_
    refine aw_iload C d_law_249 (j := 5) rfl ?_
    refine aw_iconst (v := 2) C d_law_251 (by decide) ?_
    refine aw_iadd C d_law_252 ?_
    refine aw_sld (v := (xs (4 * j + 2))) C hX hbl (Nat.not_le.mpr hbl) (4 * j + 2) (nI_ad (4 * j) 2) (by omega) (by omega) rfl d_law_253 ?_
    refine aw_aload_n C d_law_254 rfl (j := 1) rfl ?_
    refine aw_iload C d_law_255 (j := 5) rfl ?_
    refine aw_iconst (v := 3) C d_law_257 (by decide) ?_
    refine aw_iadd C d_law_258 ?_
    refine aw_sld (v := (xs (4 * j + 3))) C hX hbl (Nat.not_le.mpr hbl) (4 * j + 3) (nI_ad (4 * j) 3) (by omega) (by omega) rfl d_law_259 ?_
    refine aw_lawM (Cn := R_Mo) [.int (xs (4 * j + 1)), .int (xs (4 * j + 2)), .int (xs (4 * j + 3))] C hK rfl hF hG (b_Mo_wish_t l D am cA M hF.1 (xs (4 * j + 1)) (xs (4 * j + 2)) (xs (4 * j + 3)) (Or.inr (Or.inr b4))) (cw_La_Mo_wish C.2.2.2.2 rfl rfl (by decide)) rfl (fun H h => aw_recv hK rfl (h 0 (by decide))) rfl (Nat.le_of_ble_eq_true rfl) d_law_260 ⟨show _ ≤ 601024 by omega, show _ ≤ 7293034 by omega⟩ ?_
    rintro r8 M8 ⟨rfl, rfl⟩
    refine aw_istore (i := 6) (lv' := _) C d_law_263 (by decide) rfl ?_
    refine aw_aload_n C d_law_265 rfl (j := 4) rfl ?_
    refine aw_lawM (Cn := R_Mo) [] C hK rfl hF hG (c_Mo_thrown l D am cA _) (cw_La_Mo_thrown C.2.2.2.2 rfl rfl (by decide)) rfl (fun H h => aw_recv hK rfl (h 0 (by decide))) rfl (Nat.le_of_ble_eq_true rfl) d_law_266 ⟨show _ ≤ 601024 by omega, show _ ≤ 7293034 by omega⟩ ?_
    rintro r7 M7 ⟨rfl, e7⟩
    obtain rfl : r7 = 1 := e7.trans (ms_w_s _ _ _ _)
    refine aw_iload C d_law_269 (j := 1) rfl ?_
    refine aw_icmp_eq (tgt := 276) C d_law_271 (by decide) (fun _ => ?_) (fun h => absurd rfl h)
    refine aw_iload C d_law_276 (j := 1) rfl ?_
    refine aw_if_ne (tgt := 293) C d_law_278 (by decide) (fun _ => ?_) (fun h => absurd h (by decide))
    refine aw_goto (tgt := 1177) C d_law_293 (by decide) ?_
    refine aw_widen (k := cells + 1) (n := slots + 6) (by omega) (by omega) ?_
    refine aw_lv (lv' := [(0, .ref b), (1, .ref (ad 0 0)), (2, .ref (am 0)), (3, .ref oa), (4, .int (nI (4 * j)))]) [2, 3, 4, 5, 6] rfl ?_
    exact kk ad nb _ _ _ hG (Rel_20 hRel 1)
set_option maxHeartbeats 4000000 in
set_option maxRecDepth 100000 in
theorem lc_sits {p : Program} {l : Launch} {e : Env} {s : State} {m : MethodId} {below : List Frame} {meth : Method} {c : Code} {cells slots : Nat} {Q : State → Prop} {D : va_G} {cA : Nat → ClassId} {am : Nat → Nat} {oa : Nat} {ad : Nat → Nat → Nat} {nb : Nat} {S : ds_S} {M : ms_S} {v : Int64} {b L j : Nat} {xs : Nat → Int32} (hl : l.stackTraces = false) (C : CallFix p m c code 7 s #[Value.ref b] tb_G R_La) (hK : va_K D cl_all (ds_ty cA) s) (hZ : th_Z s) (hN : nc_Z s) (hX : va_X b L xs s s.heap) (hbl : b < s.heap.size) (hL : L ≤ 2048) (hF : lwF s am oa) (hG : lwG s am oa ad nb) (hRel : Rel S M nb) (hj : 4 * j + 4 ≤ L) (hcl : cells + 1 ≤ 601024) (hsl : slots + 6 ≤ 7293034) (kk : lc_K p l e s m below meth c (cells + 1) (slots + 6) Q D cA am oa b j) : AW p l e room_1 s m #[Value.ref b] below meth c 7 cells slots Q (lwP D cA am oa ad nb S M v) (fun q => s.heap.size ≤ q) 399 [(0, .ref b), (1, .ref (ad 0 0)), (2, .ref (am 0)), (3, .ref oa), (4, .int (nI (4 * j)))] [] := by
  have hoa : ∀ k i, ds_dm nb k i → ad k i ≠ oa := fun k i h => (hG.2 k i h).2.1
  obtain ⟨Pn, hPn, e1, e22, hs⟩ := op_sits hRel (xs (4 * j + 1)) (xs (4 * j + 2))
  rcases hs with ⟨p9, b1, b2, b3, b4, b5, b6, b7, b8, b9⟩ | ⟨b1, b2⟩ | ⟨b1, b2, b3, b4⟩ | ⟨b1, b2, b3, b4, b5, b6, b7⟩
  · refine aw_aload_n C d_law_399 rfl (j := 1) rfl ?_
    refine aw_aload_n C d_law_400 rfl (j := 0) rfl ?_
    refine aw_iload C d_law_401 (j := 4) rfl ?_
    refine aw_iconst (v := 1) C d_law_403 (by decide) ?_
    refine aw_iadd C d_law_404 ?_
    refine aw_sld (v := (nI p9)) C hX hbl (Nat.not_le.mpr hbl) (4 * j + 1) (nI_ad (4 * j) 1) (by omega) (by omega) b2 d_law_405 ?_
    refine aw_aload_n C d_law_406 rfl (j := 0) rfl ?_
    refine aw_iload C d_law_407 (j := 4) rfl ?_
    refine aw_iconst (v := 2) C d_law_409 (by decide) ?_
    refine aw_iadd C d_law_410 ?_
    refine aw_sld (v := (xs (4 * j + 2))) C hX hbl (Nat.not_le.mpr hbl) (4 * j + 2) (nI_ad (4 * j) 2) (by omega) (by omega) rfl d_law_411 ?_
    refine aw_aload_n C d_law_412 rfl (j := 3) rfl ?_
    refine aw_lawH [.ref (ad 0 0), .int (nI p9), .int (xs (4 * j + 2)), .ref oa] C hK hZ hN rfl hF hG (k_La_sits l D ad cA nb S oa v (nI p9) (xs (4 * j + 2)) hoa _ (c_De_sits l D ad cA nb S p9 (xs (4 * j + 2)) hG.1 b1 b3 Pn e1 hPn b5)) (lh_cw 4 C.2.2.2.2 ml_La_La_sits sm_La_sits ii_La cd_La_sits rfl rfl (by decide +kernel) (by decide)) rfl rfl (Nat.le_of_ble_eq_true rfl) d_law_413 ⟨show _ ≤ 601024 by omega, show _ ≤ 7293034 by omega⟩ ?_
    rintro r9 S9 ⟨rfl, rfl⟩
    refine aw_istore (i := 5) (lv' := _) C d_law_416 (by decide) rfl ?_
    refine aw_aload_n C d_law_418 rfl (j := 3) rfl ?_
    refine aw_aload_n C d_law_419 rfl (j := 1) rfl ?_
    refine aw_iload C d_law_420 (j := 5) rfl ?_
    refine aw_iconst (v := 1) C d_law_422 (by decide) ?_
    refine aw_iadd C d_law_423 ?_
    refine aw_sld (v := (nI p9)) C hX hbl (Nat.not_le.mpr hbl) (4 * j + 1) (nI_ad (4 * j) 1) (by omega) (by omega) b2 d_law_424 ?_
    refine aw_aload_n C d_law_425 rfl (j := 1) rfl ?_
    refine aw_iload C d_law_426 (j := 5) rfl ?_
    refine aw_iconst (v := 2) C d_law_428 (by decide) ?_
    refine aw_iadd C d_law_429 ?_
    refine aw_sld (v := (xs (4 * j + 2))) C hX hbl (Nat.not_le.mpr hbl) (4 * j + 2) (nI_ad (4 * j) 2) (by omega) (by omega) rfl d_law_430 ?_
    refine aw_lawM (Cn := R_Mo) [.int (nI p9), .int (xs (4 * j + 2))] C hK rfl hF hG (c_Mo_sits l D am cA M hF.1 p9 (xs (4 * j + 2)) b1 b4 b6 Pn hPn e22 b7) (cw_La_Mo_sits C.2.2.2.2 rfl rfl (by decide)) rfl (fun H h => aw_recv hK rfl (h 0 (by decide))) rfl (Nat.le_of_ble_eq_true rfl) d_law_431 ⟨show _ ≤ 601024 by omega, show _ ≤ 7293034 by omega⟩ ?_
    rintro r8 M8 ⟨rfl, rfl⟩
    refine aw_istore (i := 6) (lv' := _) C d_law_434 (by decide) rfl ?_
    refine aw_aload_n C d_law_436 rfl (j := 4) rfl ?_
    refine aw_lawM (Cn := R_Mo) [] C hK rfl hF hG (c_Mo_thrown l D am cA _) (cw_La_Mo_thrown C.2.2.2.2 rfl rfl (by decide)) rfl (fun H h => aw_recv hK rfl (h 0 (by decide))) rfl (Nat.le_of_ble_eq_true rfl) d_law_437 ⟨show _ ≤ 601024 by omega, show _ ≤ 7293034 by omega⟩ ?_
    rintro r7 M7 ⟨rfl, e7⟩
    obtain rfl : r7 = 0 := e7.trans (by simp [ms_w])
    refine aw_iload C d_law_440 (j := 1) rfl ?_
    refine aw_icmp_eq (tgt := 447) C d_law_442 (by decide) (fun _ => ?_) (fun h => absurd rfl h)
    refine aw_iload C d_law_447 (j := 1) rfl ?_
    refine aw_if_ne (tgt := 464) C d_law_449 (by decide) (fun h => absurd rfl h) (fun _ => ?_)
    refine aw_aload_n C d_law_452 rfl (j := 5) rfl ?_
    refine aw_iconst (v := 0) C d_law_453 (by decide) ?_
    refine aw_lald C hK 6 rfl (fun H h => h.2.2) (ix_in (k := 0) rfl (by decide) (by decide)).1 d_law_454 ?_
    refine aw_iload C d_law_455 (j := 0) rfl ?_
    refine aw_i2l C d_law_457 rfl ?_
    refine aw_lcmp C d_law_458 ?_
    refine aw_topi (fun z7 e7 => ?_)
    obtain rfl : z7 = 0 := e7.trans (lg_eq (congrArg Int32.toInt64 b9))
    refine aw_if_eq (tgt := 464) C d_law_459 (by decide) (fun _ => ?_) (fun h => absurd rfl h)
    refine aw_goto (tgt := 1177) C d_law_464 (by decide) ?_
    refine aw_widen (k := cells + 1) (n := slots + 6) (by omega) (by omega) ?_
    refine aw_lv (lv' := [(0, .ref b), (1, .ref (ad 0 0)), (2, .ref (am 0)), (3, .ref oa), (4, .int (nI (4 * j)))]) [2, 3, 4, 5, 6] rfl ?_
    exact kk ad nb _ _ _ hG (b8)
  · refine aw_aload_n C d_law_399 rfl (j := 1) rfl ?_
    refine aw_aload_n C d_law_400 rfl (j := 0) rfl ?_
    refine aw_iload C d_law_401 (j := 4) rfl ?_
    refine aw_iconst (v := 1) C d_law_403 (by decide) ?_
    refine aw_iadd C d_law_404 ?_
    refine aw_sld (v := (xs (4 * j + 1))) C hX hbl (Nat.not_le.mpr hbl) (4 * j + 1) (nI_ad (4 * j) 1) (by omega) (by omega) rfl d_law_405 ?_
    refine aw_aload_n C d_law_406 rfl (j := 0) rfl ?_
    refine aw_iload C d_law_407 (j := 4) rfl ?_
    refine aw_iconst (v := 2) C d_law_409 (by decide) ?_
    refine aw_iadd C d_law_410 ?_
    refine aw_sld (v := (xs (4 * j + 2))) C hX hbl (Nat.not_le.mpr hbl) (4 * j + 2) (nI_ad (4 * j) 2) (by omega) (by omega) rfl d_law_411 ?_
    refine aw_aload_n C d_law_412 rfl (j := 3) rfl ?_
    refine aw_lawQ [.ref (ad 0 0), .int (xs (4 * j + 1)), .int (xs (4 * j + 2)), .ref oa] C hK hZ hN rfl (q_La_sits_Ia l D ad cA nb S oa (xs (4 * j + 1)) (xs (4 * j + 2)) (t_De_sits1 l D ad cA nb S hl (xs (4 * j + 1)) (xs (4 * j + 2)) b1)) (lh_cw 4 C.2.2.2.2 ml_La_La_sits sm_La_sits ii_La cd_La_sits rfl rfl (by decide +kernel) (by decide)) rfl rfl (Nat.le_of_ble_eq_true rfl) d_law_413 ⟨show _ ≤ 601024 by omega, show _ ≤ 7293034 by omega⟩ ?_
    refine aw_istore (i := 5) (lv' := _) C d_law_416 (by decide) rfl ?_
    refine aw_aload_n C d_law_418 rfl (j := 3) rfl ?_
    refine aw_aload_n C d_law_419 rfl (j := 1) rfl ?_
    refine aw_iload C d_law_420 (j := 5) rfl ?_
    refine aw_iconst (v := 1) C d_law_422 (by decide) ?_
    refine aw_iadd C d_law_423 ?_
    refine aw_sld (v := (xs (4 * j + 1))) C hX hbl (Nat.not_le.mpr hbl) (4 * j + 1) (nI_ad (4 * j) 1) (by omega) (by omega) rfl d_law_424 ?_
    refine aw_aload_n C d_law_425 rfl (j := 1) rfl ?_
    refine aw_iload C d_law_426 (j := 5) rfl ?_
    refine aw_iconst (v := 2) C d_law_428 (by decide) ?_
    refine aw_iadd C d_law_429 ?_
    refine aw_sld (v := (xs (4 * j + 2))) C hX hbl (Nat.not_le.mpr hbl) (4 * j + 2) (nI_ad (4 * j) 2) (by omega) (by omega) rfl d_law_430 ?_
    refine aw_lawM (Cn := R_Mo) [.int (xs (4 * j + 1)), .int (xs (4 * j + 2))] C hK rfl hF hG (b_Mo_sits1_t l D am cA M hF.1 (xs (4 * j + 1)) (xs (4 * j + 2)) (Or.inl b2)) (cw_La_Mo_sits C.2.2.2.2 rfl rfl (by decide)) rfl (fun H h => aw_recv hK rfl (h 0 (by decide))) rfl (Nat.le_of_ble_eq_true rfl) d_law_431 ⟨show _ ≤ 601024 by omega, show _ ≤ 7293034 by omega⟩ ?_
    rintro r8 M8 ⟨rfl, rfl⟩
    refine aw_istore (i := 6) (lv' := _) C d_law_434 (by decide) rfl ?_
    refine aw_aload_n C d_law_436 rfl (j := 4) rfl ?_
    refine aw_lawM (Cn := R_Mo) [] C hK rfl hF hG (c_Mo_thrown l D am cA _) (cw_La_Mo_thrown C.2.2.2.2 rfl rfl (by decide)) rfl (fun H h => aw_recv hK rfl (h 0 (by decide))) rfl (Nat.le_of_ble_eq_true rfl) d_law_437 ⟨show _ ≤ 601024 by omega, show _ ≤ 7293034 by omega⟩ ?_
    rintro r7 M7 ⟨rfl, e7⟩
    obtain rfl : r7 = 1 := e7.trans (ms_w_s _ _ _ _)
    refine aw_iload C d_law_440 (j := 1) rfl ?_
    refine aw_icmp_eq (tgt := 447) C d_law_442 (by decide) (fun _ => ?_) (fun h => absurd rfl h)
    refine aw_iload C d_law_447 (j := 1) rfl ?_
    refine aw_if_ne (tgt := 464) C d_law_449 (by decide) (fun _ => ?_) (fun h => absurd h (by decide))
    refine aw_goto (tgt := 1177) C d_law_464 (by decide) ?_
    refine aw_widen (k := cells + 1) (n := slots + 6) (by omega) (by omega) ?_
    refine aw_lv (lv' := [(0, .ref b), (1, .ref (ad 0 0)), (2, .ref (am 0)), (3, .ref oa), (4, .int (nI (4 * j)))]) [2, 3, 4, 5, 6] rfl ?_
    exact kk ad nb _ _ _ hG (Rel_20 hRel 1)
  · refine aw_aload_n C d_law_399 rfl (j := 1) rfl ?_
    refine aw_aload_n C d_law_400 rfl (j := 0) rfl ?_
    refine aw_iload C d_law_401 (j := 4) rfl ?_
    refine aw_iconst (v := 1) C d_law_403 (by decide) ?_
    refine aw_iadd C d_law_404 ?_
    refine aw_sld (v := (xs (4 * j + 1))) C hX hbl (Nat.not_le.mpr hbl) (4 * j + 1) (nI_ad (4 * j) 1) (by omega) (by omega) rfl d_law_405 ?_
    refine aw_aload_n C d_law_406 rfl (j := 0) rfl ?_
    refine aw_iload C d_law_407 (j := 4) rfl ?_
    refine aw_iconst (v := 2) C d_law_409 (by decide) ?_
    refine aw_iadd C d_law_410 ?_
    refine aw_sld (v := (xs (4 * j + 2))) C hX hbl (Nat.not_le.mpr hbl) (4 * j + 2) (nI_ad (4 * j) 2) (by omega) (by omega) rfl d_law_411 ?_
    refine aw_aload_n C d_law_412 rfl (j := 3) rfl ?_
    refine aw_lawQ [.ref (ad 0 0), .int (xs (4 * j + 1)), .int (xs (4 * j + 2)), .ref oa] C hK hZ hN rfl (q_La_sits_Ia l D ad cA nb S oa (xs (4 * j + 1)) (xs (4 * j + 2)) (t_De_sits2 l D ad cA nb S hl (xs (4 * j + 1)) (xs (4 * j + 2)) b1 b2 b3)) (lh_cw 4 C.2.2.2.2 ml_La_La_sits sm_La_sits ii_La cd_La_sits rfl rfl (by decide +kernel) (by decide)) rfl rfl (Nat.le_of_ble_eq_true rfl) d_law_413 ⟨show _ ≤ 601024 by omega, show _ ≤ 7293034 by omega⟩ ?_
    refine aw_istore (i := 5) (lv' := _) C d_law_416 (by decide) rfl ?_
    refine aw_aload_n C d_law_418 rfl (j := 3) rfl ?_
    refine aw_aload_n C d_law_419 rfl (j := 1) rfl ?_
    refine aw_iload C d_law_420 (j := 5) rfl ?_
    refine aw_iconst (v := 1) C d_law_422 (by decide) ?_
    refine aw_iadd C d_law_423 ?_
    refine aw_sld (v := (xs (4 * j + 1))) C hX hbl (Nat.not_le.mpr hbl) (4 * j + 1) (nI_ad (4 * j) 1) (by omega) (by omega) rfl d_law_424 ?_
    refine aw_aload_n C d_law_425 rfl (j := 1) rfl ?_
    refine aw_iload C d_law_426 (j := 5) rfl ?_
    refine aw_iconst (v := 2) C d_law_428 (by decide) ?_
    refine aw_iadd C d_law_429 ?_
    refine aw_sld (v := (xs (4 * j + 2))) C hX hbl (Nat.not_le.mpr hbl) (4 * j + 2) (nI_ad (4 * j) 2) (by omega) (by omega) rfl d_law_430 ?_
    refine aw_lawM (Cn := R_Mo) [.int (xs (4 * j + 1)), .int (xs (4 * j + 2))] C hK rfl hF hG (b_Mo_sits1_t l D am cA M hF.1 (xs (4 * j + 1)) (xs (4 * j + 2)) (Or.inr ⟨b2, b4⟩)) (cw_La_Mo_sits C.2.2.2.2 rfl rfl (by decide)) rfl (fun H h => aw_recv hK rfl (h 0 (by decide))) rfl (Nat.le_of_ble_eq_true rfl) d_law_431 ⟨show _ ≤ 601024 by omega, show _ ≤ 7293034 by omega⟩ ?_
    rintro r8 M8 ⟨rfl, rfl⟩
    refine aw_istore (i := 6) (lv' := _) C d_law_434 (by decide) rfl ?_
    refine aw_aload_n C d_law_436 rfl (j := 4) rfl ?_
    refine aw_lawM (Cn := R_Mo) [] C hK rfl hF hG (c_Mo_thrown l D am cA _) (cw_La_Mo_thrown C.2.2.2.2 rfl rfl (by decide)) rfl (fun H h => aw_recv hK rfl (h 0 (by decide))) rfl (Nat.le_of_ble_eq_true rfl) d_law_437 ⟨show _ ≤ 601024 by omega, show _ ≤ 7293034 by omega⟩ ?_
    rintro r7 M7 ⟨rfl, e7⟩
    obtain rfl : r7 = 1 := e7.trans (ms_w_s _ _ _ _)
    refine aw_iload C d_law_440 (j := 1) rfl ?_
    refine aw_icmp_eq (tgt := 447) C d_law_442 (by decide) (fun _ => ?_) (fun h => absurd rfl h)
    refine aw_iload C d_law_447 (j := 1) rfl ?_
    refine aw_if_ne (tgt := 464) C d_law_449 (by decide) (fun _ => ?_) (fun h => absurd h (by decide))
    refine aw_goto (tgt := 1177) C d_law_464 (by decide) ?_
    refine aw_widen (k := cells + 1) (n := slots + 6) (by omega) (by omega) ?_
    refine aw_lv (lv' := [(0, .ref b), (1, .ref (ad 0 0)), (2, .ref (am 0)), (3, .ref oa), (4, .int (nI (4 * j)))]) [2, 3, 4, 5, 6] rfl ?_
    exact kk ad nb _ _ _ hG (Rel_20 hRel 1)
  · refine aw_aload_n C d_law_399 rfl (j := 1) rfl ?_
    refine aw_aload_n C d_law_400 rfl (j := 0) rfl ?_
    refine aw_iload C d_law_401 (j := 4) rfl ?_
    refine aw_iconst (v := 1) C d_law_403 (by decide) ?_
    refine aw_iadd C d_law_404 ?_
    refine aw_sld (v := (xs (4 * j + 1))) C hX hbl (Nat.not_le.mpr hbl) (4 * j + 1) (nI_ad (4 * j) 1) (by omega) (by omega) rfl d_law_405 ?_
    refine aw_aload_n C d_law_406 rfl (j := 0) rfl ?_
    refine aw_iload C d_law_407 (j := 4) rfl ?_
    refine aw_iconst (v := 2) C d_law_409 (by decide) ?_
    refine aw_iadd C d_law_410 ?_
    refine aw_sld (v := (xs (4 * j + 2))) C hX hbl (Nat.not_le.mpr hbl) (4 * j + 2) (nI_ad (4 * j) 2) (by omega) (by omega) rfl d_law_411 ?_
    refine aw_aload_n C d_law_412 rfl (j := 3) rfl ?_
    refine aw_lawQ [.ref (ad 0 0), .int (xs (4 * j + 1)), .int (xs (4 * j + 2)), .ref oa] C hK hZ hN rfl (q_La_sits_Is l D ad cA nb S oa (xs (4 * j + 1)) (xs (4 * j + 2)) (t_De_sits3 l D ad cA nb S hl (xs (4 * j + 1)) (xs (4 * j + 2)) b1 b2 b3 Pn e1 hPn b4)) (lh_cw 4 C.2.2.2.2 ml_La_La_sits sm_La_sits ii_La cd_La_sits rfl rfl (by decide +kernel) (by decide)) rfl rfl (Nat.le_of_ble_eq_true rfl) d_law_413 ⟨show _ ≤ 601024 by omega, show _ ≤ 7293034 by omega⟩ ?_
    refine aw_istore (i := 5) (lv' := _) C d_law_416 (by decide) rfl ?_
    refine aw_aload_n C d_law_418 rfl (j := 3) rfl ?_
    refine aw_aload_n C d_law_419 rfl (j := 1) rfl ?_
    refine aw_iload C d_law_420 (j := 5) rfl ?_
    refine aw_iconst (v := 1) C d_law_422 (by decide) ?_
    refine aw_iadd C d_law_423 ?_
    refine aw_sld (v := (xs (4 * j + 1))) C hX hbl (Nat.not_le.mpr hbl) (4 * j + 1) (nI_ad (4 * j) 1) (by omega) (by omega) rfl d_law_424 ?_
    refine aw_aload_n C d_law_425 rfl (j := 1) rfl ?_
    refine aw_iload C d_law_426 (j := 5) rfl ?_
    refine aw_iconst (v := 2) C d_law_428 (by decide) ?_
    refine aw_iadd C d_law_429 ?_
    refine aw_sld (v := (xs (4 * j + 2))) C hX hbl (Nat.not_le.mpr hbl) (4 * j + 2) (nI_ad (4 * j) 2) (by omega) (by omega) rfl d_law_430 ?_
    refine aw_lawM (Cn := R_Mo) [.int (xs (4 * j + 1)), .int (xs (4 * j + 2))] C hK rfl hF hG (b_Mo_sits2_t l D am cA M hF.1 (xs (4 * j + 1)) (xs (4 * j + 2)) b5 (Or.inr b6) Pn hPn e22 b2 b7) (cw_La_Mo_sits C.2.2.2.2 rfl rfl (by decide)) rfl (fun H h => aw_recv hK rfl (h 0 (by decide))) rfl (Nat.le_of_ble_eq_true rfl) d_law_431 ⟨show _ ≤ 601024 by omega, show _ ≤ 7293034 by omega⟩ ?_
    rintro r8 M8 ⟨rfl, rfl⟩
    refine aw_istore (i := 6) (lv' := _) C d_law_434 (by decide) rfl ?_
    refine aw_aload_n C d_law_436 rfl (j := 4) rfl ?_
    refine aw_lawM (Cn := R_Mo) [] C hK rfl hF hG (c_Mo_thrown l D am cA _) (cw_La_Mo_thrown C.2.2.2.2 rfl rfl (by decide)) rfl (fun H h => aw_recv hK rfl (h 0 (by decide))) rfl (Nat.le_of_ble_eq_true rfl) d_law_437 ⟨show _ ≤ 601024 by omega, show _ ≤ 7293034 by omega⟩ ?_
    rintro r7 M7 ⟨rfl, e7⟩
    obtain rfl : r7 = 2 := e7.trans (ms_w_s _ _ _ _)
    refine aw_iload C d_law_440 (j := 1) rfl ?_
    refine aw_icmp_eq (tgt := 447) C d_law_442 (by decide) (fun _ => ?_) (fun h => absurd rfl h)
    refine aw_iload C d_law_447 (j := 1) rfl ?_
    refine aw_if_ne (tgt := 464) C d_law_449 (by decide) (fun _ => ?_) (fun h => absurd h (by decide))
    refine aw_goto (tgt := 1177) C d_law_464 (by decide) ?_
    refine aw_widen (k := cells + 1) (n := slots + 6) (by omega) (by omega) ?_
    refine aw_lv (lv' := [(0, .ref b), (1, .ref (ad 0 0)), (2, .ref (am 0)), (3, .ref oa), (4, .int (nI (4 * j)))]) [2, 3, 4, 5, 6] rfl ?_
    exact kk ad nb _ _ _ hG (Rel_20 hRel 2)
