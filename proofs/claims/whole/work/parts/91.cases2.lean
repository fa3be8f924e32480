set_option maxHeartbeats 4000000 in
set_option maxRecDepth 100000 in
theorem lc_bar {p : Program} {l : Launch} {e : Env} {s : State} {m : MethodId} {below : List Frame} {meth : Method} {c : Code} {cells slots : Nat} {Q : State → Prop} {D : va_G} {cA : Nat → ClassId} {am : Nat → Nat} {oa : Nat} {ad : Nat → Nat → Nat} {nb : Nat} {S : ds_S} {M : ms_S} {v : Int64} {b L j : Nat} {xs : Nat → Int32} (hl : l.stackTraces = false) (C : CallFix p m c code 7 s #[Value.ref b] tb_G R_La) (hK : va_K D cl_all (ds_ty cA) s) (hZ : th_Z s) (hN : nc_Z s) (hX : va_X b L xs s s.heap) (hbl : b < s.heap.size) (hL : L ≤ 2048) (hF : lwF s am oa) (hG : lwG s am oa ad nb) (hRel : Rel S M nb) (hj : 4 * j + 4 ≤ L) (hcl : cells + 1 ≤ 601024) (hsl : slots + 6 ≤ 7293034) (kk : lc_K p l e s m below meth c (cells + 1) (slots + 6) Q D cA am oa b j) : AW p l e room_1 s m #[Value.ref b] below meth c 7 cells slots Q (lwP D cA am oa ad nb S M v) (fun q => s.heap.size ≤ q) 296 [(0, .ref b), (1, .ref (ad 0 0)), (2, .ref (am 0)), (3, .ref oa), (4, .int (nI (4 * j)))] [] := by
  have hoa : ∀ k i, ds_dm nb k i → ad k i ≠ oa := fun k i h => (hG.2 k i h).2.1
  by_cases hw : (xs (4 * j + 3)) = 0
  · rcases op_bar hRel (xs (4 * j + 1)) (xs (4 * j + 2)) 0 (Or.inl rfl) with ⟨p9, d9, b1, b2, b3, b4, b5, b6, b7, b8, b9, b10, b11, b12⟩ | ⟨b1, b2⟩ | ⟨b1, b2, b3⟩
    · refine aw_aload_n C d_law_296 rfl (j := 1) rfl ?_
      refine aw_aload_n C d_law_297 rfl (j := 0) rfl ?_
      refine aw_iload C d_law_298 (j := 4) rfl ?_
      refine aw_iconst (v := 1) C d_law_300 (by decide) ?_
      refine aw_iadd C d_law_301 ?_
      refine aw_sld (v := (nI p9)) C hX hbl (Nat.not_le.mpr hbl) (4 * j + 1) (nI_ad (4 * j) 1) (by omega) (by omega) b3 d_law_302 ?_
      refine aw_aload_n C d_law_303 rfl (j := 0) rfl ?_
      refine aw_iload C d_law_304 (j := 4) rfl ?_
      refine aw_iconst (v := 2) C d_law_306 (by decide) ?_
      refine aw_iadd C d_law_307 ?_
      refine aw_sld (v := (nI d9)) C hX hbl (Nat.not_le.mpr hbl) (4 * j + 2) (nI_ad (4 * j) 2) (by omega) (by omega) b4 d_law_308 ?_
      refine aw_aload_n C d_law_309 rfl (j := 0) rfl ?_
      refine aw_iload C d_law_310 (j := 4) rfl ?_
      refine aw_iconst (v := 3) C d_law_312 (by decide) ?_
      refine aw_iadd C d_law_313 ?_
      refine aw_sld (v := (xs (4 * j + 3))) C hX hbl (Nat.not_le.mpr hbl) (4 * j + 3) (nI_ad (4 * j) 3) (by omega) (by omega) rfl d_law_314 ?_
      refine aw_if_eq (tgt := 322) C d_law_315 (by decide) (fun _ => ?_) (fun h => absurd hw h)
      refine aw_iconst (v := 0) C d_law_322 (by decide) ?_
      refine aw_aload_n C d_law_323 rfl (j := 3) rfl ?_
      refine aw_lawH [.ref (ad 0 0), .int (nI p9), .int (nI d9), .int 0, .ref oa] C hK hZ hN rfl hF hG (k_La_bar l D ad cA nb S oa v (nI p9) (nI d9) 0 hoa _ (c_De_bar l D ad cA nb S p9 d9 0 hG.1 b1 b2 (Or.inl rfl) b5 b7 b8) (fun r u h => by rw [h.2]; exact b5)) (lh_cw 5 C.2.2.2.2 ml_La_La_bar sm_La_bar ii_La cd_La_bar rfl rfl (by decide +kernel) (by decide)) rfl rfl (Nat.le_of_ble_eq_true rfl) d_law_324 ⟨show _ ≤ 601024 by omega, show _ ≤ 7293034 by omega⟩ ?_
      rintro r9 S9 ⟨rfl, rfl⟩
      refine aw_istore (i := 5) (lv' := _) C d_law_327 (by decide) rfl ?_
      refine aw_aload_n C d_law_329 rfl (j := 3) rfl ?_
      refine aw_aload_n C d_law_330 rfl (j := 1) rfl ?_
      refine aw_iload C d_law_331 (j := 5) rfl ?_
      refine aw_iconst (v := 1) C d_law_333 (by decide) ?_
      refine aw_iadd C d_law_334 ?_
      refine aw_sld (v := (nI p9)) C hX hbl (Nat.not_le.mpr hbl) (4 * j + 1) (nI_ad (4 * j) 1) (by omega) (by omega) b3 d_law_335 ?_
      refine aw_aload_n C d_law_336 rfl (j := 1) rfl ?_
      refine aw_iload C d_law_337 (j := 5) rfl ?_
      refine aw_iconst (v := 2) C d_law_339 (by decide) ?_
      refine aw_iadd C d_law_340 ?_
      refine aw_sld (v := (nI d9)) C hX hbl (Nat.not_le.mpr hbl) (4 * j + 2) (nI_ad (4 * j) 2) (by omega) (by omega) b4 d_law_341 ?_
      refine aw_aload_n C d_law_342 rfl (j := 1) rfl ?_
      refine aw_iload C d_law_343 (j := 5) rfl ?_
      refine aw_iconst (v := 3) C d_law_345 (by decide) ?_
      refine aw_iadd C d_law_346 ?_
      refine aw_sld (v := (xs (4 * j + 3))) C hX hbl (Nat.not_le.mpr hbl) (4 * j + 3) (nI_ad (4 * j) 3) (by omega) (by omega) rfl d_law_347 ?_
      refine aw_if_eq (tgt := 355) C d_law_348 (by decide) (fun _ => ?_) (fun h => absurd hw h)
      refine aw_iconst (v := 0) C d_law_355 (by decide) ?_
      refine aw_lawM (Cn := R_Mo) [.int (nI p9), .int (nI d9), .int 0] C hK rfl hF hG (c_Mo_bar l D am cA M hF.1 p9 d9 b1 b2 0 (Or.inl rfl) b6 b9 b10) (cw_La_Mo_bar C.2.2.2.2 rfl rfl (by decide)) rfl (fun H h => aw_recv hK rfl (h 0 (by decide))) rfl (Nat.le_of_ble_eq_true rfl) d_law_356 ⟨show _ ≤ 601024 by omega, show _ ≤ 7293034 by omega⟩ ?_
      rintro r8 M8 ⟨rfl, rfl⟩
      refine aw_istore (i := 6) (lv' := _) C d_law_359 (by decide) rfl ?_
      refine aw_aload_n C d_law_361 rfl (j := 4) rfl ?_
      refine aw_lawM (Cn := R_Mo) [] C hK rfl hF hG (c_Mo_thrown l D am cA _) (cw_La_Mo_thrown C.2.2.2.2 rfl rfl (by decide)) rfl (fun H h => aw_recv hK rfl (h 0 (by decide))) rfl (Nat.le_of_ble_eq_true rfl) d_law_362 ⟨show _ ≤ 601024 by omega, show _ ≤ 7293034 by omega⟩ ?_
      rintro r7 M7 ⟨rfl, e7⟩
      obtain rfl : r7 = 0 := e7.trans (by simp [ms_w])
      refine aw_iload C d_law_365 (j := 1) rfl ?_
      refine aw_icmp_eq (tgt := 372) C d_law_367 (by decide) (fun _ => ?_) (fun h => absurd rfl h)
      refine aw_iload C d_law_372 (j := 1) rfl ?_
      refine aw_if_ne (tgt := 396) C d_law_374 (by decide) (fun h => absurd rfl h) (fun _ => ?_)
      refine aw_aload_n C d_law_377 rfl (j := 5) rfl ?_
      refine aw_iconst (v := 0) C d_law_378 (by decide) ?_
      refine aw_lald C hK 6 rfl (fun H h => h.2.2) (ix_in (k := 0) rfl (by decide) (by decide)).1 d_law_379 ?_
      refine aw_iload C d_law_380 (j := 0) rfl ?_
      refine aw_if_eq (tgt := 389) C d_law_382 (by decide) (fun h8 => ?_) (fun h8 => ?_)
      · refine aw_lconst (v := 0) C d_law_389 (by decide) ?_
        refine aw_lcmp C d_law_390 ?_
        refine aw_topi (fun z7 e7 => ?_)
        obtain rfl : z7 = 0 := e7.trans (lg_eq (if_pos (b12.trans h8)))
        refine aw_if_eq (tgt := 396) C d_law_391 (by decide) (fun _ => ?_) (fun h => absurd rfl h)
        refine aw_goto (tgt := 1177) C d_law_396 (by decide) ?_
        refine aw_widen (k := cells + 1) (n := slots + 6) (by omega) (by omega) ?_
        refine aw_lv (lv' := [(0, .ref b), (1, .ref (ad 0 0)), (2, .ref (am 0)), (3, .ref oa), (4, .int (nI (4 * j)))]) [2, 3, 4, 5, 6] rfl ?_
        exact kk ad nb _ _ _ hG (b11)
      · refine aw_lconst (v := 1) C d_law_385 (by decide) ?_
        refine aw_goto (tgt := 390) C d_law_386 (by decide) ?_
        refine aw_lcmp C d_law_390 ?_
        refine aw_topi (fun z7 e7 => ?_)
        obtain rfl : z7 = 0 := e7.trans (lg_eq (if_neg (fun h => h8 (b12.symm.trans h))))
        refine aw_if_eq (tgt := 396) C d_law_391 (by decide) (fun _ => ?_) (fun h => absurd rfl h)
        refine aw_goto (tgt := 1177) C d_law_396 (by decide) ?_
        refine aw_widen (k := cells + 1) (n := slots + 6) (by omega) (by omega) ?_
        refine aw_lv (lv' := [(0, .ref b), (1, .ref (ad 0 0)), (2, .ref (am 0)), (3, .ref oa), (4, .int (nI (4 * j)))]) [2, 3, 4, 5, 6] rfl ?_
        exact kk ad nb _ _ _ hG (b11)
    · refine aw_aload_n C d_law_296 rfl (j := 1) rfl ?_
      refine aw_aload_n C d_law_297 rfl (j := 0) rfl ?_
      refine aw_iload C d_law_298 (j := 4) rfl ?_
      refine aw_iconst (v := 1) C d_law_300 (by decide) ?_
      refine aw_iadd C d_law_301 ?_
      refine aw_sld (v := (xs (4 * j + 1))) C hX hbl (Nat.not_le.mpr hbl) (4 * j + 1) (nI_ad (4 * j) 1) (by omega) (by omega) rfl d_law_302 ?_
      refine aw_aload_n C d_law_303 rfl (j := 0) rfl ?_
      refine aw_iload C d_law_304 (j := 4) rfl ?_
      refine aw_iconst (v := 2) C d_law_306 (by decide) ?_
      refine aw_iadd C d_law_307 ?_
      refine aw_sld (v := (xs (4 * j + 2))) C hX hbl (Nat.not_le.mpr hbl) (4 * j + 2) (nI_ad (4 * j) 2) (by omega) (by omega) rfl d_law_308 ?_
      refine aw_aload_n C d_law_309 rfl (j := 0) rfl ?_
      refine aw_iload C d_law_310 (j := 4) rfl ?_
      refine aw_iconst (v := 3) C d_law_312 (by decide) ?_
      refine aw_iadd C d_law_313 ?_
      refine aw_sld (v := (xs (4 * j + 3))) C hX hbl (Nat.not_le.mpr hbl) (4 * j + 3) (nI_ad (4 * j) 3) (by omega) (by omega) rfl d_law_314 ?_
      refine aw_if_eq (tgt := 322) C d_law_315 (by decide) (fun _ => ?_) (fun h => absurd hw h)
      refine aw_iconst (v := 0) C d_law_322 (by decide) ?_
      refine aw_aload_n C d_law_323 rfl (j := 3) rfl ?_
      refine aw_lawQ [.ref (ad 0 0), .int (xs (4 * j + 1)), .int (xs (4 * j + 2)), .int 0, .ref oa] C hK hZ hN rfl (q_La_bar_Ia l D ad cA nb S oa (xs (4 * j + 1)) (xs (4 * j + 2)) 0 (t_De_bar1 l D ad cA nb S hl (xs (4 * j + 1)) (xs (4 * j + 2)) 0 b1)) (lh_cw 5 C.2.2.2.2 ml_La_La_bar sm_La_bar ii_La cd_La_bar rfl rfl (by decide +kernel) (by decide)) rfl rfl (Nat.le_of_ble_eq_true rfl) d_law_324 ⟨show _ ≤ 601024 by omega, show _ ≤ 7293034 by omega⟩ ?_
      refine aw_istore (i := 5) (lv' := _) C d_law_327 (by decide) rfl ?_
      refine aw_aload_n C d_law_329 rfl (j := 3) rfl ?_
      refine aw_aload_n C d_law_330 rfl (j := 1) rfl ?_
      refine aw_iload C d_law_331 (j := 5) rfl ?_
      refine aw_iconst (v := 1) C d_law_333 (by decide) ?_
      refine aw_iadd C d_law_334 ?_
      refine aw_sld (v := (xs (4 * j + 1))) C hX hbl (Nat.not_le.mpr hbl) (4 * j + 1) (nI_ad (4 * j) 1) (by omega) (by omega) rfl d_law_335 ?_
      refine aw_aload_n C d_law_336 rfl (j := 1) rfl ?_
      refine aw_iload C d_law_337 (j := 5) rfl ?_
      refine aw_iconst (v := 2) C d_law_339 (by decide) ?_
      refine aw_iadd C d_law_340 ?_
      refine aw_sld (v := (xs (4 * j + 2))) C hX hbl (Nat.not_le.mpr hbl) (4 * j + 2) (nI_ad (4 * j) 2) (by omega) (by omega) rfl d_law_341 ?_
      refine aw_aload_n C d_law_342 rfl (j := 1) rfl ?_
      refine aw_iload C d_law_343 (j := 5) rfl ?_
      refine aw_iconst (v := 3) C d_law_345 (by decide) ?_
      refine aw_iadd C d_law_346 ?_
      refine aw_sld (v := (xs (4 * j + 3))) C hX hbl (Nat.not_le.mpr hbl) (4 * j + 3) (nI_ad (4 * j) 3) (by omega) (by omega) rfl d_law_347 ?_
      refine aw_if_eq (tgt := 355) C d_law_348 (by decide) (fun _ => ?_) (fun h => absurd hw h)
      refine aw_iconst (v := 0) C d_law_355 (by decide) ?_
      refine aw_lawM (Cn := R_Mo) [.int (xs (4 * j + 1)), .int (xs (4 * j + 2)), .int 0] C hK rfl hF hG (b_Mo_bar_t l D am cA M hF.1 (xs (4 * j + 1)) (xs (4 * j + 2)) 0 (Or.inl b2)) (cw_La_Mo_bar C.2.2.2.2 rfl rfl (by decide)) rfl (fun H h => aw_recv hK rfl (h 0 (by decide))) rfl (Nat.le_of_ble_eq_true rfl) d_law_356 ⟨show _ ≤ 601024 by omega, show _ ≤ 7293034 by omega⟩ ?_
      rintro r8 M8 ⟨rfl, rfl⟩
      refine aw_istore (i := 6) (lv' := _) C d_law_359 (by decide) rfl ?_
      refine aw_aload_n C d_law_361 rfl (j := 4) rfl ?_
      refine aw_lawM (Cn := R_Mo) [] C hK rfl hF hG (c_Mo_thrown l D am cA _) (cw_La_Mo_thrown C.2.2.2.2 rfl rfl (by decide)) rfl (fun H h => aw_recv hK rfl (h 0 (by decide))) rfl (Nat.le_of_ble_eq_true rfl) d_law_362 ⟨show _ ≤ 601024 by omega, show _ ≤ 7293034 by omega⟩ ?_
      rintro r7 M7 ⟨rfl, e7⟩
      obtain rfl : r7 = 1 := e7.trans (ms_w_s _ _ _ _)
      refine aw_iload C d_law_365 (j := 1) rfl ?_
      refine aw_icmp_eq (tgt := 372) C d_law_367 (by decide) (fun _ => ?_) (fun h => absurd rfl h)
      refine aw_iload C d_law_372 (j := 1) rfl ?_
      refine aw_if_ne (tgt := 396) C d_law_374 (by decide) (fun _ => ?_) (fun h => absurd h (by decide))
      refine aw_goto (tgt := 1177) C d_law_396 (by decide) ?_
      refine aw_widen (k := cells + 1) (n := slots + 6) (by omega) (by omega) ?_
      refine aw_lv (lv' := [(0, .ref b), (1, .ref (ad 0 0)), (2, .ref (am 0)), (3, .ref oa), (4, .int (nI (4 * j)))]) [2, 3, 4, 5, 6] rfl ?_
      exact kk ad nb _ _ _ hG (Rel_20 hRel 1)
    · refine aw_aload_n C d_law_296 rfl (j := 1) rfl ?_
      refine aw_aload_n C d_law_297 rfl (j := 0) rfl ?_
      refine aw_iload C d_law_298 (j := 4) rfl ?_
      refine aw_iconst (v := 1) C d_law_300 (by decide) ?_
      refine aw_iadd C d_law_301 ?_
      refine aw_sld (v := (xs (4 * j + 1))) C hX hbl (Nat.not_le.mpr hbl) (4 * j + 1) (nI_ad (4 * j) 1) (by omega) (by omega) rfl d_law_302 ?_
      refine aw_aload_n C d_law_303 rfl (j := 0) rfl ?_
      refine aw_iload C d_law_304 (j := 4) rfl ?_
      refine aw_iconst (v := 2) C d_law_306 (by decide) ?_
      refine aw_iadd C d_law_307 ?_
      refine aw_sld (v := (xs (4 * j + 2))) C hX hbl (Nat.not_le.mpr hbl) (4 * j + 2) (nI_ad (4 * j) 2) (by omega) (by omega) rfl d_law_308 ?_
      refine aw_aload_n C d_law_309 rfl (j := 0) rfl ?_
      refine aw_iload C d_law_310 (j := 4) rfl ?_
      refine aw_iconst (v := 3) C d_law_312 (by decide) ?_
      refine aw_iadd C d_law_313 ?_
      refine aw_sld (v := (xs (4 * j + 3))) C hX hbl (Nat.not_le.mpr hbl) (4 * j + 3) (nI_ad (4 * j) 3) (by omega) (by omega) rfl d_law_314 ?_
      refine aw_if_eq (tgt := 322) C d_law_315 (by decide) (fun _ => ?_) (fun h => absurd hw h)
      refine aw_iconst (v := 0) C d_law_322 (by decide) ?_
      refine aw_aload_n C d_law_323 rfl (j := 3) rfl ?_
      refine aw_lawQ [.ref (ad 0 0), .int (xs (4 * j + 1)), .int (xs (4 * j + 2)), .int 0, .ref oa] C hK hZ hN rfl (q_La_bar_Ia l D ad cA nb S oa (xs (4 * j + 1)) (xs (4 * j + 2)) 0 (t_De_bar2 l D ad cA nb S hl (xs (4 * j + 1)) (xs (4 * j + 2)) 0 b1 b2)) (lh_cw 5 C.2.2.2.2 ml_La_La_bar sm_La_bar ii_La cd_La_bar rfl rfl (by decide +kernel) (by decide)) rfl rfl (Nat.le_of_ble_eq_true rfl) d_law_324 ⟨show _ ≤ 601024 by omega, show _ ≤ 7293034 by omega⟩ ?_
      refine aw_istore (i := 5) (lv' := _) C d_law_327 (by decide) rfl ?_
      refine aw_aload_n C d_law_329 rfl (j := 3) rfl ?_
      refine aw_aload_n C d_law_330 rfl (j := 1) rfl ?_
      refine aw_iload C d_law_331 (j := 5) rfl ?_
      refine aw_iconst (v := 1) C d_law_333 (by decide) ?_
      refine aw_iadd C d_law_334 ?_
      refine aw_sld (v := (xs (4 * j + 1))) C hX hbl (Nat.not_le.mpr hbl) (4 * j + 1) (nI_ad (4 * j) 1) (by omega) (by omega) rfl d_law_335 ?_
      refine aw_aload_n C d_law_336 rfl (j := 1) rfl ?_
      refine aw_iload C d_law_337 (j := 5) rfl ?_
      refine aw_iconst (v := 2) C d_law_339 (by decide) ?_
      refine aw_iadd C d_law_340 ?_
      refine aw_sld (v := (xs (4 * j + 2))) C hX hbl (Nat.not_le.mpr hbl) (4 * j + 2) (nI_ad (4 * j) 2) (by omega) (by omega) rfl d_law_341 ?_
      refine aw_aload_n C d_law_342 rfl (j := 1) rfl ?_
      refine aw_iload C d_law_343 (j := 5) rfl ?_
      refine aw_iconst (v := 3) C d_law_345 (by decide) ?_
      refine aw_iadd C d_law_346 ?_
      refine aw_sld (v := (xs (4 * j + 3))) C hX hbl (Nat.not_le.mpr hbl) (4 * j + 3) (nI_ad (4 * j) 3) (by omega) (by omega) rfl d_law_347 ?_
      refine aw_if_eq (tgt := 355) C d_law_348 (by decide) (fun _ => ?_) (fun h => absurd hw h)
      refine aw_iconst (v := 0) C d_law_355 (by decide) ?_
      refine aw_lawM (Cn := R_Mo) [.int (xs (4 * j + 1)), .int (xs (4 * j + 2)), .int 0] C hK rfl hF hG (b_Mo_bar_t l D am cA M hF.1 (xs (4 * j + 1)) (xs (4 * j + 2)) 0 (Or.inr b3)) (cw_La_Mo_bar C.2.2.2.2 rfl rfl (by decide)) rfl (fun H h => aw_recv hK rfl (h 0 (by decide))) rfl (Nat.le_of_ble_eq_true rfl) d_law_356 ⟨show _ ≤ 601024 by omega, show _ ≤ 7293034 by omega⟩ ?_
      rintro r8 M8 ⟨rfl, rfl⟩
      refine aw_istore (i := 6) (lv' := _) C d_law_359 (by decide) rfl ?_
      refine aw_aload_n C d_law_361 rfl (j := 4) rfl ?_
      refine aw_lawM (Cn := R_Mo) [] C hK rfl hF hG (c_Mo_thrown l D am cA _) (cw_La_Mo_thrown C.2.2.2.2 rfl rfl (by decide)) rfl (fun H h => aw_recv hK rfl (h 0 (by decide))) rfl (Nat.le_of_ble_eq_true rfl) d_law_362 ⟨show _ ≤ 601024 by omega, show _ ≤ 7293034 by omega⟩ ?_
      rintro r7 M7 ⟨rfl, e7⟩
      obtain rfl : r7 = 1 := e7.trans (ms_w_s _ _ _ _)
      refine aw_iload C d_law_365 (j := 1) rfl ?_
      refine aw_icmp_eq (tgt := 372) C d_law_367 (by decide) (fun _ => ?_) (fun h => absurd rfl h)
      refine aw_iload C d_law_372 (j := 1) rfl ?_
      refine aw_if_ne (tgt := 396) C d_law_374 (by decide) (fun _ => ?_) (fun h => absurd h (by decide))
      refine aw_goto (tgt := 1177) C d_law_396 (by decide) ?_
      refine aw_widen (k := cells + 1) (n := slots + 6) (by omega) (by omega) ?_
      refine aw_lv (lv' := [(0, .ref b), (1, .ref (ad 0 0)), (2, .ref (am 0)), (3, .ref oa), (4, .int (nI (4 * j)))]) [2, 3, 4, 5, 6] rfl ?_
      exact kk ad nb _ _ _ hG (Rel_20 hRel 1)
  · rcases op_bar hRel (xs (4 * j + 1)) (xs (4 * j + 2)) 1 (Or.inr rfl) with ⟨p9, d9, b1, b2, b3, b4, b5, b6, b7, b8, b9, b10, b11, b12⟩ | ⟨b1, b2⟩ | ⟨b1, b2, b3⟩
    · refine aw_aload_n C d_law_296 rfl (j := 1) rfl ?_
      refine aw_aload_n C d_law_297 rfl (j := 0) rfl ?_
      refine aw_iload C d_law_298 (j := 4) rfl ?_
      refine aw_iconst (v := 1) C d_law_300 (by decide) ?_
      refine aw_iadd C d_law_301 ?_
      refine aw_sld (v := (nI p9)) C hX hbl (Nat.not_le.mpr hbl) (4 * j + 1) (nI_ad (4 * j) 1) (by omega) (by omega) b3 d_law_302 ?_
      refine aw_aload_n C d_law_303 rfl (j := 0) rfl ?_
      refine aw_iload C d_law_304 (j := 4) rfl ?_
      refine aw_iconst (v := 2) C d_law_306 (by decide) ?_
      refine aw_iadd C d_law_307 ?_
      refine aw_sld (v := (nI d9)) C hX hbl (Nat.not_le.mpr hbl) (4 * j + 2) (nI_ad (4 * j) 2) (by omega) (by omega) b4 d_law_308 ?_
      refine aw_aload_n C d_law_309 rfl (j := 0) rfl ?_
      refine aw_iload C d_law_310 (j := 4) rfl ?_
      refine aw_iconst (v := 3) C d_law_312 (by decide) ?_
      refine aw_iadd C d_law_313 ?_
      refine aw_sld (v := (xs (4 * j + 3))) C hX hbl (Nat.not_le.mpr hbl) (4 * j + 3) (nI_ad (4 * j) 3) (by omega) (by omega) rfl d_law_314 ?_
      refine aw_if_eq (tgt := 322) C d_law_315 (by decide) (fun h => absurd h hw) (fun _ => ?_)
      refine aw_iconst (v := 1) C d_law_318 (by decide) ?_
      refine aw_goto (tgt := 323) C d_law_319 (by decide) ?_
      refine aw_aload_n C d_law_323 rfl (j := 3) rfl ?_
      refine aw_lawH [.ref (ad 0 0), .int (nI p9), .int (nI d9), .int 1, .ref oa] C hK hZ hN rfl hF hG (k_La_bar l D ad cA nb S oa v (nI p9) (nI d9) 1 hoa _ (c_De_bar l D ad cA nb S p9 d9 1 hG.1 b1 b2 (Or.inr rfl) b5 b7 b8) (fun r u h => by rw [h.2]; exact b5)) (lh_cw 5 C.2.2.2.2 ml_La_La_bar sm_La_bar ii_La cd_La_bar rfl rfl (by decide +kernel) (by decide)) rfl rfl (Nat.le_of_ble_eq_true rfl) d_law_324 ⟨show _ ≤ 601024 by omega, show _ ≤ 7293034 by omega⟩ ?_
      rintro r9 S9 ⟨rfl, rfl⟩
      refine aw_istore (i := 5) (lv' := _) C d_law_327 (by decide) rfl ?_
      refine aw_aload_n C d_law_329 rfl (j := 3) rfl ?_
      refine aw_aload_n C d_law_330 rfl (j := 1) rfl ?_
      refine aw_iload C d_law_331 (j := 5) rfl ?_
      refine aw_iconst (v := 1) C d_law_333 (by decide) ?_
      refine aw_iadd C d_law_334 ?_
      refine aw_sld (v := (nI p9)) C hX hbl (Nat.not_le.mpr hbl) (4 * j + 1) (nI_ad (4 * j) 1) (by omega) (by omega) b3 d_law_335 ?_
      refine aw_aload_n C d_law_336 rfl (j := 1) rfl ?_
      refine aw_iload C d_law_337 (j := 5) rfl ?_
      refine aw_iconst (v := 2) C d_law_339 (by decide) ?_
      refine aw_iadd C d_law_340 ?_
      refine aw_sld (v := (nI d9)) C hX hbl (Nat.not_le.mpr hbl) (4 * j + 2) (nI_ad (4 * j) 2) (by omega) (by omega) b4 d_law_341 ?_
      refine aw_aload_n C d_law_342 rfl (j := 1) rfl ?_
      refine aw_iload C d_law_343 (j := 5) rfl ?_
      refine aw_iconst (v := 3) C d_law_345 (by decide) ?_
      refine aw_iadd C d_law_346 ?_
      refine aw_sld (v := (xs (4 * j + 3))) C hX hbl (Nat.not_le.mpr hbl) (4 * j + 3) (nI_ad (4 * j) 3) (by omega) (by omega) rfl d_law_347 ?_
      refine aw_if_eq (tgt := 355) C d_law_348 (by decide) (fun h => absurd h hw) (fun _ => ?_)
      refine aw_iconst (v := 1) C d_law_351 (by decide) ?_
      refine aw_goto (tgt := 356) C d_law_352 (by decide) ?_
      refine aw_lawM (Cn := R_Mo) [.int (nI p9), .int (nI d9), .int 1] C hK rfl hF hG (c_Mo_bar l D am cA M hF.1 p9 d9 b1 b2 1 (Or.inr rfl) b6 b9 b10) (cw_La_Mo_bar C.2.2.2.2 rfl rfl (by decide)) rfl (fun H h => aw_recv hK rfl (h 0 (by decide))) rfl (Nat.le_of_ble_eq_true rfl) d_law_356 ⟨show _ ≤ 601024 by omega, show _ ≤ 7293034 by omega⟩ ?_
      rintro r8 M8 ⟨rfl, rfl⟩
      refine aw_istore (i := 6) (lv' := _) C d_law_359 (by decide) rfl ?_
      refine aw_aload_n C d_law_361 rfl (j := 4) rfl ?_
      refine aw_lawM (Cn := R_Mo) [] C hK rfl hF hG (c_Mo_thrown l D am cA _) (cw_La_Mo_thrown C.2.2.2.2 rfl rfl (by decide)) rfl (fun H h => aw_recv hK rfl (h 0 (by decide))) rfl (Nat.le_of_ble_eq_true rfl) d_law_362 ⟨show _ ≤ 601024 by omega, show _ ≤ 7293034 by omega⟩ ?_
      rintro r7 M7 ⟨rfl, e7⟩
      obtain rfl : r7 = 0 := e7.trans (by simp [ms_w])
      refine aw_iload C d_law_365 (j := 1) rfl ?_
      refine aw_icmp_eq (tgt := 372) C d_law_367 (by decide) (fun _ => ?_) (fun h => absurd rfl h)
      refine aw_iload C d_law_372 (j := 1) rfl ?_
      refine aw_if_ne (tgt := 396) C d_law_374 (by decide) (fun h => absurd rfl h) (fun _ => ?_)
      refine aw_aload_n C d_law_377 rfl (j := 5) rfl ?_
      refine aw_iconst (v := 0) C d_law_378 (by decide) ?_
      refine aw_lald C hK 6 rfl (fun H h => h.2.2) (ix_in (k := 0) rfl (by decide) (by decide)).1 d_law_379 ?_
      refine aw_iload C d_law_380 (j := 0) rfl ?_
      refine aw_if_eq (tgt := 389) C d_law_382 (by decide) (fun h8 => ?_) (fun h8 => ?_)
      · refine aw_lconst (v := 0) C d_law_389 (by decide) ?_
        refine aw_lcmp C d_law_390 ?_
        refine aw_topi (fun z7 e7 => ?_)
        obtain rfl : z7 = 0 := e7.trans (lg_eq (if_pos (b12.trans h8)))
        refine aw_if_eq (tgt := 396) C d_law_391 (by decide) (fun _ => ?_) (fun h => absurd rfl h)
        refine aw_goto (tgt := 1177) C d_law_396 (by decide) ?_
        refine aw_widen (k := cells + 1) (n := slots + 6) (by omega) (by omega) ?_
        refine aw_lv (lv' := [(0, .ref b), (1, .ref (ad 0 0)), (2, .ref (am 0)), (3, .ref oa), (4, .int (nI (4 * j)))]) [2, 3, 4, 5, 6] rfl ?_
        exact kk ad nb _ _ _ hG (b11)
      · refine aw_lconst (v := 1) C d_law_385 (by decide) ?_
        refine aw_goto (tgt := 390) C d_law_386 (by decide) ?_
        refine aw_lcmp C d_law_390 ?_
        refine aw_topi (fun z7 e7 => ?_)
        obtain rfl : z7 = 0 := e7.trans (lg_eq (if_neg (fun h => h8 (b12.symm.trans h))))
        refine aw_if_eq (tgt := 396) C d_law_391 (by decide) (fun _ => ?_) (fun h => absurd rfl h)
        refine aw_goto (tgt := 1177) C d_law_396 (by decide) ?_
        refine aw_widen (k := cells + 1) (n := slots + 6) (by omega) (by omega) ?_
        refine aw_lv (lv' := [(0, .ref b), (1, .ref (ad 0 0)), (2, .ref (am 0)), (3, .ref oa), (4, .int (nI (4 * j)))]) [2, 3, 4, 5, 6] rfl ?_
        exact kk ad nb _ _ _ hG (b11)
    · refine aw_aload_n C d_law_296 rfl (j := 1) rfl ?_
      refine aw_aload_n C d_law_297 rfl (j := 0) rfl ?_
      refine aw_iload C d_law_298 (j := 4) rfl ?_
      refine aw_iconst (v := 1) C d_law_300 (by decide) ?_
      refine aw_iadd C d_law_301 ?_
      refine aw_sld (v := (xs (4 * j + 1))) C hX hbl (Nat.not_le.mpr hbl) (4 * j + 1) (nI_ad (4 * j) 1) (by omega) (by omega) rfl d_law_302 ?_
      refine aw_aload_n C d_law_303 rfl (j := 0) rfl ?_
      refine aw_iload C d_law_304 (j := 4) rfl ?_
      refine aw_iconst (v := 2) C d_law_306 (by decide) ?_
      refine aw_iadd C d_law_307 ?_
      refine aw_sld (v := (xs (4 * j + 2))) C hX hbl (Nat.not_le.mpr hbl) (4 * j + 2) (nI_ad (4 * j) 2) (by omega) (by omega) rfl d_law_308 ?_
      refine aw_aload_n C d_law_309 rfl (j := 0) rfl ?_
      refine aw_iload C d_law_310 (j := 4) rfl ?_
      refine aw_iconst (v := 3) C d_law_312 (by decide) ?_
      refine aw_iadd C d_law_313 ?_
      refine aw_sld (v := (xs (4 * j + 3))) C hX hbl (Nat.not_le.mpr hbl) (4 * j + 3) (nI_ad (4 * j) 3) (by omega) (by omega) rfl d_law_314 ?_
      refine aw_if_eq (tgt := 322) C d_law_315 (by decide) (fun h => absurd h hw) (fun _ => ?_)
      refine aw_iconst (v := 1) C d_law_318 (by decide) ?_
      refine aw_goto (tgt := 323) C d_law_319 (by decide) ?_
      refine aw_aload_n C d_law_323 rfl (j := 3) rfl ?_
      refine aw_lawQ [.ref (ad 0 0), .int (xs (4 * j + 1)), .int (xs (4 * j + 2)), .int 1, .ref oa] C hK hZ hN rfl (q_La_bar_Ia l D ad cA nb S oa (xs (4 * j + 1)) (xs (4 * j + 2)) 1 (t_De_bar1 l D ad cA nb S hl (xs (4 * j + 1)) (xs (4 * j + 2)) 1 b1)) (lh_cw 5 C.2.2.2.2 ml_La_La_bar sm_La_bar ii_La cd_La_bar rfl rfl (by decide +kernel) (by decide)) rfl rfl (Nat.le_of_ble_eq_true rfl) d_law_324 ⟨show _ ≤ 601024 by omega, show _ ≤ 7293034 by omega⟩ ?_
      refine aw_istore (i := 5) (lv' := _) C d_law_327 (by decide) rfl ?_
      refine aw_aload_n C d_law_329 rfl (j := 3) rfl ?_
      refine aw_aload_n C d_law_330 rfl (j := 1) rfl ?_
      refine aw_iload C d_law_331 (j := 5) rfl ?_
      refine aw_iconst (v := 1) C d_law_333 (by decide) ?_
      refine aw_iadd C d_law_334 ?_
      refine aw_sld (v := (xs (4 * j + 1))) C hX hbl (Nat.not_le.mpr hbl) (4 * j + 1) (nI_ad (4 * j) 1) (by omega) (by omega) rfl d_law_335 ?_
      refine aw_aload_n C d_law_336 rfl (j := 1) rfl ?_
      refine aw_iload C d_law_337 (j := 5) rfl ?_
      refine aw_iconst (v := 2) C d_law_339 (by decide) ?_
      refine aw_iadd C d_law_340 ?_
      refine aw_sld (v := (xs (4 * j + 2))) C hX hbl (Nat.not_le.mpr hbl) (4 * j + 2) (nI_ad (4 * j) 2) (by omega) (by omega) rfl d_law_341 ?_
      refine aw_aload_n C d_law_342 rfl (j := 1) rfl ?_
      refine aw_iload C d_law_343 (j := 5) rfl ?_
      refine aw_iconst (v := 3) C d_law_345 (by decide) ?_
      refine aw_iadd C d_law_346 ?_
      refine aw_sld (v := (xs (4 * j + 3))) C hX hbl (Nat.not_le.mpr hbl) (4 * j + 3) (nI_ad (4 * j) 3) (by omega) (by omega) rfl d_law_347 ?_
      refine aw_if_eq (tgt := 355) C d_law_348 (by decide) (fun h => absurd h hw) (fun _ => ?_)
      refine aw_iconst (v := 1) C d_law_351 (by decide) ?_
      refine aw_goto (tgt := 356) C d_law_352 (by decide) ?_
      refine aw_lawM (Cn := R_Mo) [.int (xs (4 * j + 1)), .int (xs (4 * j + 2)), .int 1] C hK rfl hF hG (b_Mo_bar_t l D am cA M hF.1 (xs (4 * j + 1)) (xs (4 * j + 2)) 1 (Or.inl b2)) (cw_La_Mo_bar C.2.2.2.2 rfl rfl (by decide)) rfl (fun H h => aw_recv hK rfl (h 0 (by decide))) rfl (Nat.le_of_ble_eq_true rfl) d_law_356 ⟨show _ ≤ 601024 by omega, show _ ≤ 7293034 by omega⟩ ?_
      rintro r8 M8 ⟨rfl, rfl⟩
      refine aw_istore (i := 6) (lv' := _) C d_law_359 (by decide) rfl ?_
      refine aw_aload_n C d_law_361 rfl (j := 4) rfl ?_
      refine aw_lawM (Cn := R_Mo) [] C hK rfl hF hG (c_Mo_thrown l D am cA _) (cw_La_Mo_thrown C.2.2.2.2 rfl rfl (by decide)) rfl (fun H h => aw_recv hK rfl (h 0 (by decide))) rfl (Nat.le_of_ble_eq_true rfl) d_law_362 ⟨show _ ≤ 601024 by omega, show _ ≤ 7293034 by omega⟩ ?_
      rintro r7 M7 ⟨rfl, e7⟩
      obtain rfl : r7 = 1 := e7.trans (ms_w_s _ _ _ _)
      refine aw_iload C d_law_365 (j := 1) rfl ?_
      refine aw_icmp_eq (tgt := 372) C d_law_367 (by decide) (fun _ => ?_) (fun h => absurd rfl h)
      refine aw_iload C d_law_372 (j := 1) rfl ?_
      refine aw_if_ne (tgt := 396) C d_law_374 (by decide) (fun _ => ?_) (fun h => absurd h (by decide))
      refine aw_goto (tgt := 1177) C d_law_396 (by decide) ?_
      refine aw_widen (k := cells + 1) (n := slots + 6) (by omega) (by omega) ?_
      refine aw_lv (lv' := [(0, .ref b), (1, .ref (ad 0 0)), (2, .ref (am 0)), (3, .ref oa), (4, .int (nI (4 * j)))]) [2, 3, 4, 5, 6] rfl ?_
      exact kk ad nb _ _ _ hG (Rel_20 hRel 1)
    · refine aw_aload_n C d_law_296 rfl (j := 1) rfl ?_
      refine aw_aload_n C d_law_297 rfl (j := 0) rfl ?_
      refine aw_iload C d_law_298 (j := 4) rfl ?_
      refine aw_iconst (v := 1) C d_law_300 (by decide) ?_
      refine aw_iadd C d_law_301 ?_
      refine aw_sld (v := (xs (4 * j + 1))) C hX hbl (Nat.not_le.mpr hbl) (4 * j + 1) (nI_ad (4 * j) 1) (by omega) (by omega) rfl d_law_302 ?_
      refine aw_aload_n C d_law_303 rfl (j := 0) rfl ?_
      refine aw_iload C d_law_304 (j := 4) rfl ?_
      refine aw_iconst (v := 2) C d_law_306 (by decide) ?_
      refine aw_iadd C d_law_307 ?_
      refine aw_sld (v := (xs (4 * j + 2))) C hX hbl (Nat.not_le.mpr hbl) (4 * j + 2) (nI_ad (4 * j) 2) (by omega) (by omega) rfl d_law_308 ?_
      refine aw_aload_n C d_law_309 rfl (j := 0) rfl ?_
      refine aw_iload C d_law_310 (j := 4) rfl ?_
      refine aw_iconst (v := 3) C d_law_312 (by decide) ?_
      refine aw_iadd C d_law_313 ?_
      refine aw_sld (v := (xs (4 * j + 3))) C hX hbl (Nat.not_le.mpr hbl) (4 * j + 3) (nI_ad (4 * j) 3) (by omega) (by omega) rfl d_law_314 ?_
      refine aw_if_eq (tgt := 322) C d_law_315 (by decide) (fun h => absurd h hw) (fun _ => ?_)
      refine aw_iconst (v := 1) C d_law_318 (by decide) ?_
      refine aw_goto (tgt := 323) C d_law_319 (by decide) ?_
      refine aw_aload_n C d_law_323 rfl (j := 3) rfl ?_
      refine aw_lawQ [.ref (ad 0 0), .int (xs (4 * j + 1)), .int (xs (4 * j + 2)), .int 1, .ref oa] C hK hZ hN rfl (q_La_bar_Ia l D ad cA nb S oa (xs (4 * j + 1)) (xs (4 * j + 2)) 1 (t_De_bar2 l D ad cA nb S hl (xs (4 * j + 1)) (xs (4 * j + 2)) 1 b1 b2)) (lh_cw 5 C.2.2.2.2 ml_La_La_bar sm_La_bar ii_La cd_La_bar rfl rfl (by decide +kernel) (by decide)) rfl rfl (Nat.le_of_ble_eq_true rfl) d_law_324 ⟨show _ ≤ 601024 by omega, show _ ≤ 7293034 by omega⟩ ?_
      refine aw_istore (i := 5) (lv' := _) C d_law_327 (by decide) rfl ?_
      refine aw_aload_n C d_law_329 rfl (j := 3) rfl ?_
      refine aw_aload_n C d_law_330 rfl (j := 1) rfl ?_
      refine aw_iload C d_law_331 (j := 5) rfl ?_
      refine aw_iconst (v := 1) C d_law_333 (by decide) ?_
      refine aw_iadd C d_law_334 ?_
      refine aw_sld (v := (xs (4 * j + 1))) C hX hbl (Nat.not_le.mpr hbl) (4 * j + 1) (nI_ad (4 * j) 1) (by omega) (by omega) rfl d_law_335 ?_
      refine aw_aload_n C d_law_336 rfl (j := 1) rfl ?_
      refine aw_iload C d_law_337 (j := 5) rfl ?_
      refine aw_iconst (v := 2) C d_law_339 (by decide) ?_
      refine aw_iadd C d_law_340 ?_
      refine aw_sld (v := (xs (4 * j + 2))) C hX hbl (Nat.not_le.mpr hbl) (4 * j + 2) (nI_ad (4 * j) 2) (by omega) (by omega) rfl d_law_341 ?_
      refine aw_aload_n C d_law_342 rfl (j := 1) rfl ?_
      refine aw_iload C d_law_343 (j := 5) rfl ?_
      refine aw_iconst (v := 3) C d_law_345 (by decide) ?_
      refine aw_iadd C d_law_346 ?_
      refine aw_sld (v := (xs (4 * j + 3))) C hX hbl (Nat.not_le.mpr hbl) (4 * j + 3) (nI_ad (4 * j) 3) (by omega) (by omega) rfl d_law_347 ?_
      refine aw_if_eq (tgt := 355) C d_law_348 (by decide) (fun h => absurd h hw) (fun _ => ?_)
      refine aw_iconst (v := 1) C d_law_351 (by decide) ?_
      refine aw_goto (tgt := 356) C d_law_352 (by decide) ?_
      refine aw_lawM (Cn := R_Mo) [.int (xs (4 * j + 1)), .int (xs (4 * j + 2)), .int 1] C hK rfl hF hG (b_Mo_bar_t l D am cA M hF.1 (xs (4 * j + 1)) (xs (4 * j + 2)) 1 (Or.inr b3)) (cw_La_Mo_bar C.2.2.2.2 rfl rfl (by decide)) rfl (fun H h => aw_recv hK rfl (h 0 (by decide))) rfl (Nat.le_of_ble_eq_true rfl) d_law_356 ⟨show _ ≤ 601024 by omega, show _ ≤ 7293034 by omega⟩ ?_
      rintro r8 M8 ⟨rfl, rfl⟩
      refine aw_istore (i := 6) (lv' := _) C d_law_359 (by decide) rfl ?_
      refine aw_aload_n C d_law_361 rfl (j := 4) rfl ?_
      refine aw_lawM (Cn := R_Mo) [] C hK rfl hF hG (c_Mo_thrown l D am cA _) (cw_La_Mo_thrown C.2.2.2.2 rfl rfl (by decide)) rfl (fun H h => aw_recv hK rfl (h 0 (by decide))) rfl (Nat.le_of_ble_eq_true rfl) d_law_362 ⟨show _ ≤ 601024 by omega, show _ ≤ 7293034 by omega⟩ ?_
      rintro r7 M7 ⟨rfl, e7⟩
      obtain rfl : r7 = 1 := e7.trans (ms_w_s _ _ _ _)
      refine aw_iload C d_law_365 (j := 1) rfl ?_
      refine aw_icmp_eq (tgt := 372) C d_law_367 (by decide) (fun _ => ?_) (fun h => absurd rfl h)
      refine aw_iload C d_law_372 (j := 1) rfl ?_
      refine aw_if_ne (tgt := 396) C d_law_374 (by decide) (fun _ => ?_) (fun h => absurd h (by decide))
      refine aw_goto (tgt := 1177) C d_law_396 (by decide) ?_
      refine aw_widen (k := cells + 1) (n := slots + 6) (by omega) (by omega) ?_
      refine aw_lv (lv' := [(0, .ref b), (1, .ref (ad 0 0)), (2, .ref (am 0)), (3, .ref oa), (4, .int (nI (4 * j)))]) [2, 3, 4, 5, 6] rfl ?_
      exact kk ad nb _ _ _ hG (Rel_20 hRel 1)
set_option maxHeartbeats 4000000 in
set_option maxRecDepth 100000 in
theorem lc_seat {p : Program} {l : Launch} {e : Env} {s : State} {m : MethodId} {below : List Frame} {meth : Method} {c : Code} {cells slots : Nat} {Q : State → Prop} {D : va_G} {cA : Nat → ClassId} {am : Nat → Nat} {oa : Nat} {ad : Nat → Nat → Nat} {nb : Nat} {S : ds_S} {M : ms_S} {v : Int64} {b L j : Nat} {xs : Nat → Int32} (hl : l.stackTraces = false) (C : CallFix p m c code 7 s #[Value.ref b] tb_G R_La) (hK : va_K D cl_all (ds_ty cA) s) (hZ : th_Z s) (hN : nc_Z s) (hX : va_X b L xs s s.heap) (hbl : b < s.heap.size) (hL : L ≤ 2048) (hF : lwF s am oa) (hG : lwG s am oa ad nb) (hRel : Rel S M nb) (hj : 4 * j + 4 ≤ L) (hcl : cells + 1 ≤ 601024) (hsl : slots + 6 ≤ 7293034) (kk : lc_K p l e s m below meth c (cells + 1) (slots + 6) Q D cA am oa b j) : AW p l e room_1 s m #[Value.ref b] below meth c 7 cells slots Q (lwP D cA am oa ad nb S M v) (fun q => s.heap.size ≤ q) 467 [(0, .ref b), (1, .ref (ad 0 0)), (2, .ref (am 0)), (3, .ref oa), (4, .int (nI (4 * j)))] [] := by
  have hoa : ∀ k i, ds_dm nb k i → ad k i ≠ oa := fun k i h => (hG.2 k i h).2.1
  obtain ⟨Pn, Dn, u1, w1, a1, a2, a3, a4, a5, a6, a7, a8, a9, a10, a11, a12, a13, a14, a15, a16, a17⟩ := op_seat hRel
  refine aw_aload_n C d_law_467 rfl (j := 1) rfl ?_
  refine aw_lawD (Cn := R_De) [] C hK rfl hF hG (c_De_seat l D ad cA nb S Pn Dn hG.1 a3 a1 a4 a2 a7 a8 u1 w1 a9 a10 a11 a12 a13 a14 a15) (cw_La_De_seat C.2.2.2.2 rfl rfl (by decide)) rfl (fun H h => aw_recv hK rfl (h 0 0 rfl)) rfl (Nat.le_of_ble_eq_true rfl) d_law_468 ⟨show _ ≤ 601024 by omega, show _ ≤ 7293034 by omega⟩ ?_
  rintro r9 S9 ⟨e9, f9⟩
  rw [e9, f9]
  refine aw_aload_n C d_law_471 rfl (j := 2) rfl ?_
  refine aw_lawM (Cn := R_Mo) [] C hK rfl hF hG (c_Mo_seat l D am cA M Pn Dn 16 hF.1 a1 a2 a5 a6 (by decide) a16) (cw_La_Mo_seat C.2.2.2.2 rfl rfl (by decide)) rfl (fun H h => aw_recv hK rfl (h 0 (by decide))) rfl (Nat.le_of_ble_eq_true rfl) d_law_472 ⟨show _ ≤ 601024 by omega, show _ ≤ 7293034 by omega⟩ ?_
  intro r8 M8 hp8
  obtain ⟨h8, hR8⟩ := a17 r8 M8 hp8
  refine aw_icmp_eq (tgt := 1177) C d_law_475 (by decide) (fun _ => ?_) (fun h => absurd (h8) h)
  refine aw_widen (k := cells + 1) (n := slots + 6) (by omega) (by omega) ?_
  refine aw_lv (lv' := [(0, .ref b), (1, .ref (ad 0 0)), (2, .ref (am 0)), (3, .ref oa), (4, .int (nI (4 * j)))]) [0, 1, 2, 3, 4] rfl ?_
  exact kk ad nb _ _ _ hG (hR8)
set_option maxHeartbeats 4000000 in
set_option maxRecDepth 100000 in
theorem lc_deskOf {p : Program} {l : Launch} {e : Env} {s : State} {m : MethodId} {below : List Frame} {meth : Method} {c : Code} {cells slots : Nat} {Q : State → Prop} {D : va_G} {cA : Nat → ClassId} {am : Nat → Nat} {oa : Nat} {ad : Nat → Nat → Nat} {nb : Nat} {S : ds_S} {M : ms_S} {v : Int64} {b L j : Nat} {xs : Nat → Int32} (hl : l.stackTraces = false) (C : CallFix p m c code 7 s #[Value.ref b] tb_G R_La) (hK : va_K D cl_all (ds_ty cA) s) (hZ : th_Z s) (hN : nc_Z s) (hX : va_X b L xs s s.heap) (hbl : b < s.heap.size) (hL : L ≤ 2048) (hF : lwF s am oa) (hG : lwG s am oa ad nb) (hRel : Rel S M nb) (hj : 4 * j + 4 ≤ L) (hcl : cells + 1 ≤ 601024) (hsl : slots + 6 ≤ 7293034) (kk : lc_K p l e s m below meth c (cells + 1) (slots + 6) Q D cA am oa b j) : AW p l e room_1 s m #[Value.ref b] below meth c 7 cells slots Q (lwP D cA am oa ad nb S M v) (fun q => s.heap.size ≤ q) 480 [(0, .ref b), (1, .ref (ad 0 0)), (2, .ref (am 0)), (3, .ref oa), (4, .int (nI (4 * j)))] [] := by
  have hoa : ∀ k i, ds_dm nb k i → ad k i ≠ oa := fun k i h => (hG.2 k i h).2.1
  rcases op_deskOf hRel (xs (4 * j + 1)) with ⟨p9, b1, b2, b3, b4, b5⟩ | ⟨b1, b2⟩
  · refine aw_aload_n C d_law_480 rfl (j := 1) rfl ?_
    refine aw_aload_n C d_law_481 rfl (j := 0) rfl ?_
    refine aw_iload C d_law_482 (j := 4) rfl ?_
    refine aw_iconst (v := 1) C d_law_484 (by decide) ?_
    refine aw_iadd C d_law_485 ?_
    refine aw_sld (v := (nI p9)) C hX hbl (Nat.not_le.mpr hbl) (4 * j + 1) (nI_ad (4 * j) 1) (by omega) (by omega) b2 d_law_486 ?_
    refine aw_aload_n C d_law_487 rfl (j := 3) rfl ?_
    refine aw_lawH [.ref (ad 0 0), .int (nI p9), .ref oa] C hK hZ hN rfl hF hG (k_La_deskOf l D ad cA nb S oa v (nI p9) hoa _ (c_De_deskOf l D ad cA nb S p9 b1 b3)) (lh_cw 3 C.2.2.2.2 ml_La_La_deskOf sm_La_deskOf ii_La cd_La_deskOf rfl rfl (by decide +kernel) (by decide)) rfl rfl (Nat.le_of_ble_eq_true rfl) d_law_488 ⟨show _ ≤ 601024 by omega, show _ ≤ 7293034 by omega⟩ ?_
    rintro r9 S9 ⟨rfl, rfl⟩
    refine aw_istore (i := 5) (lv' := _) C d_law_491 (by decide) rfl ?_
    refine aw_aload_n C d_law_493 rfl (j := 3) rfl ?_
    refine aw_aload_n C d_law_494 rfl (j := 1) rfl ?_
    refine aw_iload C d_law_495 (j := 5) rfl ?_
    refine aw_iconst (v := 1) C d_law_497 (by decide) ?_
    refine aw_iadd C d_law_498 ?_
    refine aw_sld (v := (nI p9)) C hX hbl (Nat.not_le.mpr hbl) (4 * j + 1) (nI_ad (4 * j) 1) (by omega) (by omega) b2 d_law_499 ?_
    refine aw_lawM (Cn := R_Mo) [.int (nI p9)] C hK rfl hF hG (c_Mo_deskOf l D am cA M hF.1 p9 b1 b4) (cw_La_Mo_deskOf C.2.2.2.2 rfl rfl (by decide)) rfl (fun H h => aw_recv hK rfl (h 0 (by decide))) rfl (Nat.le_of_ble_eq_true rfl) d_law_500 ⟨show _ ≤ 601024 by omega, show _ ≤ 7293034 by omega⟩ ?_
    rintro r8 M8 ⟨rfl, rfl⟩
    refine aw_istore (i := 6) (lv' := _) C d_law_503 (by decide) rfl ?_
    refine aw_aload_n C d_law_505 rfl (j := 4) rfl ?_
    refine aw_lawM (Cn := R_Mo) [] C hK rfl hF hG (c_Mo_thrown l D am cA _) (cw_La_Mo_thrown C.2.2.2.2 rfl rfl (by decide)) rfl (fun H h => aw_recv hK rfl (h 0 (by decide))) rfl (Nat.le_of_ble_eq_true rfl) d_law_506 ⟨show _ ≤ 601024 by omega, show _ ≤ 7293034 by omega⟩ ?_
    rintro r7 M7 ⟨rfl, e7⟩
    obtain rfl : r7 = 0 := e7.trans (ms_w_s _ _ _ _)
    refine aw_iload C d_law_509 (j := 1) rfl ?_
    refine aw_icmp_eq (tgt := 516) C d_law_511 (by decide) (fun _ => ?_) (fun h => absurd rfl h)
    refine aw_iload C d_law_516 (j := 1) rfl ?_
    refine aw_if_ne (tgt := 533) C d_law_518 (by decide) (fun h => absurd rfl h) (fun _ => ?_)
    refine aw_aload_n C d_law_521 rfl (j := 5) rfl ?_
    refine aw_iconst (v := 0) C d_law_522 (by decide) ?_
    refine aw_lald C hK 6 rfl (fun H h => h.2.2) (ix_in (k := 0) rfl (by decide) (by decide)).1 d_law_523 ?_
    refine aw_iload C d_law_524 (j := 0) rfl ?_
    refine aw_i2l C d_law_526 rfl ?_
    refine aw_lcmp C d_law_527 ?_
    refine aw_topi (fun z7 e7 => ?_)
    obtain rfl : z7 = 0 := e7.trans (lg_eq (congrArg Int32.toInt64 b5))
    refine aw_if_eq (tgt := 533) C d_law_528 (by decide) (fun _ => ?_) (fun h => absurd rfl h)
    refine aw_goto (tgt := 1177) C d_law_533 (by decide) ?_
    refine aw_widen (k := cells + 1) (n := slots + 6) (by omega) (by omega) ?_
    refine aw_lv (lv' := [(0, .ref b), (1, .ref (ad 0 0)), (2, .ref (am 0)), (3, .ref oa), (4, .int (nI (4 * j)))]) [2, 3, 4, 5, 6] rfl ?_
    exact kk ad nb _ _ _ hG (Rel_20 hRel 0)
  · refine aw_aload_n C d_law_480 rfl (j := 1) rfl ?_
    refine aw_aload_n C d_law_481 rfl (j := 0) rfl ?_
    refine aw_iload C d_law_482 (j := 4) rfl ?_
    refine aw_iconst (v := 1) C d_law_484 (by decide) ?_
    refine aw_iadd C d_law_485 ?_
    refine aw_sld (v := (xs (4 * j + 1))) C hX hbl (Nat.not_le.mpr hbl) (4 * j + 1) (nI_ad (4 * j) 1) (by omega) (by omega) rfl d_law_486 ?_
    refine aw_aload_n C d_law_487 rfl (j := 3) rfl ?_
    refine aw_lawQ [.ref (ad 0 0), .int (xs (4 * j + 1)), .ref oa] C hK hZ hN rfl (q_La_deskOf_Ia l D ad cA nb S oa (xs (4 * j + 1)) (t_De_deskOf l D ad cA nb S hl (xs (4 * j + 1)) b1)) (lh_cw 3 C.2.2.2.2 ml_La_La_deskOf sm_La_deskOf ii_La cd_La_deskOf rfl rfl (by decide +kernel) (by decide)) rfl rfl (Nat.le_of_ble_eq_true rfl) d_law_488 ⟨show _ ≤ 601024 by omega, show _ ≤ 7293034 by omega⟩ ?_
    refine aw_istore (i := 5) (lv' := _) C d_law_491 (by decide) rfl ?_
    refine aw_aload_n C d_law_493 rfl (j := 3) rfl ?_
    refine aw_aload_n C d_law_494 rfl (j := 1) rfl ?_
    refine aw_iload C d_law_495 (j := 5) rfl ?_
    refine aw_iconst (v := 1) C d_law_497 (by decide) ?_
    refine aw_iadd C d_law_498 ?_
    refine aw_sld (v := (xs (4 * j + 1))) C hX hbl (Nat.not_le.mpr hbl) (4 * j + 1) (nI_ad (4 * j) 1) (by omega) (by omega) rfl d_law_499 ?_
    refine aw_lawM (Cn := R_Mo) [.int (xs (4 * j + 1))] C hK rfl hF hG (b_Mo_deskOf_t l D am cA M hF.1 (xs (4 * j + 1)) b2) (cw_La_Mo_deskOf C.2.2.2.2 rfl rfl (by decide)) rfl (fun H h => aw_recv hK rfl (h 0 (by decide))) rfl (Nat.le_of_ble_eq_true rfl) d_law_500 ⟨show _ ≤ 601024 by omega, show _ ≤ 7293034 by omega⟩ ?_
    rintro r8 M8 ⟨rfl, rfl⟩
    refine aw_istore (i := 6) (lv' := _) C d_law_503 (by decide) rfl ?_
    refine aw_aload_n C d_law_505 rfl (j := 4) rfl ?_
    refine aw_lawM (Cn := R_Mo) [] C hK rfl hF hG (c_Mo_thrown l D am cA _) (cw_La_Mo_thrown C.2.2.2.2 rfl rfl (by decide)) rfl (fun H h => aw_recv hK rfl (h 0 (by decide))) rfl (Nat.le_of_ble_eq_true rfl) d_law_506 ⟨show _ ≤ 601024 by omega, show _ ≤ 7293034 by omega⟩ ?_
    rintro r7 M7 ⟨rfl, e7⟩
    obtain rfl : r7 = 1 := e7.trans (ms_w_s _ _ _ _)
    refine aw_iload C d_law_509 (j := 1) rfl ?_
    refine aw_icmp_eq (tgt := 516) C d_law_511 (by decide) (fun _ => ?_) (fun h => absurd rfl h)
    refine aw_iload C d_law_516 (j := 1) rfl ?_
    refine aw_if_ne (tgt := 533) C d_law_518 (by decide) (fun _ => ?_) (fun h => absurd h (by decide))
    refine aw_goto (tgt := 1177) C d_law_533 (by decide) ?_
    refine aw_widen (k := cells + 1) (n := slots + 6) (by omega) (by omega) ?_
    refine aw_lv (lv' := [(0, .ref b), (1, .ref (ad 0 0)), (2, .ref (am 0)), (3, .ref oa), (4, .int (nI (4 * j)))]) [2, 3, 4, 5, 6] rfl ?_
    exact kk ad nb _ _ _ hG (Rel_20 hRel 1)
set_option maxHeartbeats 4000000 in
set_option maxRecDepth 100000 in
theorem lc_moved {p : Program} {l : Launch} {e : Env} {s : State} {m : MethodId} {below : List Frame} {meth : Method} {c : Code} {cells slots : Nat} {Q : State → Prop} {D : va_G} {cA : Nat → ClassId} {am : Nat → Nat} {oa : Nat} {ad : Nat → Nat → Nat} {nb : Nat} {S : ds_S} {M : ms_S} {v : Int64} {b L j : Nat} {xs : Nat → Int32} (hl : l.stackTraces = false) (C : CallFix p m c code 7 s #[Value.ref b] tb_G R_La) (hK : va_K D cl_all (ds_ty cA) s) (hZ : th_Z s) (hN : nc_Z s) (hX : va_X b L xs s s.heap) (hbl : b < s.heap.size) (hL : L ≤ 2048) (hF : lwF s am oa) (hG : lwG s am oa ad nb) (hRel : Rel S M nb) (hj : 4 * j + 4 ≤ L) (hcl : cells + 1 ≤ 601024) (hsl : slots + 6 ≤ 7293034) (kk : lc_K p l e s m below meth c (cells + 1) (slots + 6) Q D cA am oa b j) : AW p l e room_1 s m #[Value.ref b] below meth c 7 cells slots Q (lwP D cA am oa ad nb S M v) (fun q => s.heap.size ≤ q) 536 [(0, .ref b), (1, .ref (ad 0 0)), (2, .ref (am 0)), (3, .ref oa), (4, .int (nI (4 * j)))] [] := by
  have hoa : ∀ k i, ds_dm nb k i → ad k i ≠ oa := fun k i h => (hG.2 k i h).2.1
  obtain ⟨Pn, b1, b2, b3, b4⟩ := op_moved hRel
  refine aw_aload_n C d_law_536 rfl (j := 1) rfl ?_
  refine aw_lawD (Cn := R_De) [] C hK rfl hF hG (c_De_moved l D ad cA nb S Pn b2 b1) (cw_La_De_moved C.2.2.2.2 rfl rfl (by decide)) rfl (fun H h => aw_recv hK rfl (h 0 0 rfl)) rfl (Nat.le_of_ble_eq_true rfl) d_law_537 ⟨show _ ≤ 601024 by omega, show _ ≤ 7293034 by omega⟩ ?_
  rintro r9 S9 ⟨rfl, rfl⟩
  refine aw_aload_n C d_law_540 rfl (j := 2) rfl ?_
  refine aw_lawM (Cn := R_Mo) [] C hK rfl hF hG (c_Mo_moved l D am cA M hF.1 Pn b1 b3) (cw_La_Mo_moved C.2.2.2.2 rfl rfl (by decide)) rfl (fun H h => aw_recv hK rfl (h 0 (by decide))) rfl (Nat.le_of_ble_eq_true rfl) d_law_541 ⟨show _ ≤ 601024 by omega, show _ ≤ 7293034 by omega⟩ ?_
  rintro r8 M8 ⟨rfl, rfl⟩
  refine aw_icmp_eq (tgt := 1177) C d_law_544 (by decide) (fun _ => ?_) (fun h => absurd (b4) h)
  refine aw_widen (k := cells + 1) (n := slots + 6) (by omega) (by omega) ?_
  refine aw_lv (lv' := [(0, .ref b), (1, .ref (ad 0 0)), (2, .ref (am 0)), (3, .ref oa), (4, .int (nI (4 * j)))]) [0, 1, 2, 3, 4] rfl ?_
  exact kk ad nb _ _ _ hG (Rel_20 hRel 0)
set_option maxHeartbeats 4000000 in
set_option maxRecDepth 100000 in
theorem lc_steps {p : Program} {l : Launch} {e : Env} {s : State} {m : MethodId} {below : List Frame} {meth : Method} {c : Code} {cells slots : Nat} {Q : State → Prop} {D : va_G} {cA : Nat → ClassId} {am : Nat → Nat} {oa : Nat} {ad : Nat → Nat → Nat} {nb : Nat} {S : ds_S} {M : ms_S} {v : Int64} {b L j : Nat} {xs : Nat → Int32} (hl : l.stackTraces = false) (C : CallFix p m c code 7 s #[Value.ref b] tb_G R_La) (hK : va_K D cl_all (ds_ty cA) s) (hZ : th_Z s) (hN : nc_Z s) (hX : va_X b L xs s s.heap) (hbl : b < s.heap.size) (hL : L ≤ 2048) (hF : lwF s am oa) (hG : lwG s am oa ad nb) (hRel : Rel S M nb) (hj : 4 * j + 4 ≤ L) (hcl : cells + 1 ≤ 601024) (hsl : slots + 6 ≤ 7293034) (kk : lc_K p l e s m below meth c (cells + 1) (slots + 6) Q D cA am oa b j) : AW p l e room_1 s m #[Value.ref b] below meth c 7 cells slots Q (lwP D cA am oa ad nb S M v) (fun q => s.heap.size ≤ q) 549 [(0, .ref b), (1, .ref (ad 0 0)), (2, .ref (am 0)), (3, .ref oa), (4, .int (nI (4 * j)))] [] := by
  have hoa : ∀ k i, ds_dm nb k i → ad k i ≠ oa := fun k i h => (hG.2 k i h).2.1
  rcases op_steps hRel with ⟨b1, b2, b3⟩ | ⟨b1, b2⟩
  · refine aw_aload_n C d_law_549 rfl (j := 1) rfl ?_
    refine aw_aload_n C d_law_550 rfl (j := 3) rfl ?_
    refine aw_lawH [.ref (ad 0 0), .ref oa] C hK hZ hN rfl hF hG (k_La_steps l D ad cA nb S oa v  hoa _ (c_De_steps l D ad cA nb S b1)) (lh_cw 2 C.2.2.2.2 ml_La_La_steps sm_La_steps ii_La cd_La_steps rfl rfl (by decide +kernel) (by decide)) rfl rfl (Nat.le_of_ble_eq_true rfl) d_law_551 ⟨show _ ≤ 601024 by omega, show _ ≤ 7293034 by omega⟩ ?_
    rintro r9 S9 ⟨rfl, rfl⟩
    refine aw_istore (i := 5) (lv' := _) C d_law_554 (by decide) rfl ?_
    refine aw_aload_n C d_law_556 rfl (j := 3) rfl ?_
    refine aw_lawM (Cn := R_Mo) [] C hK rfl hF hG (c_Mo_steps l D am cA M hF.1 b2) (cw_La_Mo_steps C.2.2.2.2 rfl rfl (by decide)) rfl (fun H h => aw_recv hK rfl (h 0 (by decide))) rfl (Nat.le_of_ble_eq_true rfl) d_law_557 ⟨show _ ≤ 601024 by omega, show _ ≤ 7293034 by omega⟩ ?_
    rintro r8 M8 ⟨rfl, rfl⟩
    refine aw_istore (i := 6) (lv' := _) C d_law_560 (by decide) rfl ?_
    refine aw_aload_n C d_law_562 rfl (j := 4) rfl ?_
    refine aw_lawM (Cn := R_Mo) [] C hK rfl hF hG (c_Mo_thrown l D am cA _) (cw_La_Mo_thrown C.2.2.2.2 rfl rfl (by decide)) rfl (fun H h => aw_recv hK rfl (h 0 (by decide))) rfl (Nat.le_of_ble_eq_true rfl) d_law_563 ⟨show _ ≤ 601024 by omega, show _ ≤ 7293034 by omega⟩ ?_
    rintro r7 M7 ⟨rfl, e7⟩
    obtain rfl : r7 = 0 := e7.trans (ms_w_s _ _ _ _)
    refine aw_iload C d_law_566 (j := 1) rfl ?_
    refine aw_icmp_eq (tgt := 573) C d_law_568 (by decide) (fun _ => ?_) (fun h => absurd rfl h)
    refine aw_iload C d_law_573 (j := 1) rfl ?_
    refine aw_if_ne (tgt := 590) C d_law_575 (by decide) (fun h => absurd rfl h) (fun _ => ?_)
    refine aw_aload_n C d_law_578 rfl (j := 5) rfl ?_
    refine aw_iconst (v := 0) C d_law_579 (by decide) ?_
    refine aw_lald C hK 6 rfl (fun H h => h.2.2) (ix_in (k := 0) rfl (by decide) (by decide)).1 d_law_580 ?_
    refine aw_iload C d_law_581 (j := 0) rfl ?_
    refine aw_i2l C d_law_583 rfl ?_
    refine aw_lcmp C d_law_584 ?_
    refine aw_topi (fun z7 e7 => ?_)
    obtain rfl : z7 = 0 := e7.trans (lg_eq (congrArg Int32.toInt64 b3))
    refine aw_if_eq (tgt := 590) C d_law_585 (by decide) (fun _ => ?_) (fun h => absurd rfl h)
    refine aw_goto (tgt := 1177) C d_law_590 (by decide) ?_
    refine aw_widen (k := cells + 1) (n := slots + 6) (by omega) (by omega) ?_
    refine aw_lv (lv' := [(0, .ref b), (1, .ref (ad 0 0)), (2, .ref (am 0)), (3, .ref oa), (4, .int (nI (4 * j)))]) [2, 3, 4, 5, 6] rfl ?_
    exact kk ad nb _ _ _ hG (Rel_20 hRel 0)
  · refine aw_aload_n C d_law_549 rfl (j := 1) rfl ?_
    refine aw_aload_n C d_law_550 rfl (j := 3) rfl ?_
    refine aw_lawQ [.ref (ad 0 0), .ref oa] C hK hZ hN rfl (q_La_steps_Is l D ad cA nb S oa  (t_De_steps l D ad cA nb S hl b1)) (lh_cw 2 C.2.2.2.2 ml_La_La_steps sm_La_steps ii_La cd_La_steps rfl rfl (by decide +kernel) (by decide)) rfl rfl (Nat.le_of_ble_eq_true rfl) d_law_551 ⟨show _ ≤ 601024 by omega, show _ ≤ 7293034 by omega⟩ ?_
    refine aw_istore (i := 5) (lv' := _) C d_law_554 (by decide) rfl ?_
    refine aw_aload_n C d_law_556 rfl (j := 3) rfl ?_
    refine aw_lawM (Cn := R_Mo) [] C hK rfl hF hG (b_Mo_steps_t l D am cA M hF.1 b2) (cw_La_Mo_steps C.2.2.2.2 rfl rfl (by decide)) rfl (fun H h => aw_recv hK rfl (h 0 (by decide))) rfl (Nat.le_of_ble_eq_true rfl) d_law_557 ⟨show _ ≤ 601024 by omega, show _ ≤ 7293034 by omega⟩ ?_
    rintro r8 M8 ⟨rfl, rfl⟩
    refine aw_istore (i := 6) (lv' := _) C d_law_560 (by decide) rfl ?_
    refine aw_aload_n C d_law_562 rfl (j := 4) rfl ?_
    refine aw_lawM (Cn := R_Mo) [] C hK rfl hF hG (c_Mo_thrown l D am cA _) (cw_La_Mo_thrown C.2.2.2.2 rfl rfl (by decide)) rfl (fun H h => aw_recv hK rfl (h 0 (by decide))) rfl (Nat.le_of_ble_eq_true rfl) d_law_563 ⟨show _ ≤ 601024 by omega, show _ ≤ 7293034 by omega⟩ ?_
    rintro r7 M7 ⟨rfl, e7⟩
    obtain rfl : r7 = 1 := e7.trans (ms_w_s _ _ _ _)
    refine aw_iload C d_law_566 (j := 1) rfl ?_
    refine aw_icmp_eq (tgt := 573) C d_law_568 (by decide) (fun _ => ?_) (fun h => absurd rfl h)
    refine aw_iload C d_law_573 (j := 1) rfl ?_
    refine aw_if_ne (tgt := 590) C d_law_575 (by decide) (fun _ => ?_) (fun h => absurd h (by decide))
    refine aw_goto (tgt := 1177) C d_law_590 (by decide) ?_
    refine aw_widen (k := cells + 1) (n := slots + 6) (by omega) (by omega) ?_
    refine aw_lv (lv' := [(0, .ref b), (1, .ref (ad 0 0)), (2, .ref (am 0)), (3, .ref oa), (4, .int (nI (4 * j)))]) [2, 3, 4, 5, 6] rfl ?_
    exact kk ad nb _ _ _ hG (Rel_20 hRel 1)
set_option maxHeartbeats 4000000 in
set_option maxRecDepth 100000 in
theorem lc_step {p : Program} {l : Launch} {e : Env} {s : State} {m : MethodId} {below : List Frame} {meth : Method} {c : Code} {cells slots : Nat} {Q : State → Prop} {D : va_G} {cA : Nat → ClassId} {am : Nat → Nat} {oa : Nat} {ad : Nat → Nat → Nat} {nb : Nat} {S : ds_S} {M : ms_S} {v : Int64} {b L j : Nat} {xs : Nat → Int32} (hl : l.stackTraces = false) (C : CallFix p m c code 7 s #[Value.ref b] tb_G R_La) (hK : va_K D cl_all (ds_ty cA) s) (hZ : th_Z s) (hN : nc_Z s) (hX : va_X b L xs s s.heap) (hbl : b < s.heap.size) (hL : L ≤ 2048) (hF : lwF s am oa) (hG : lwG s am oa ad nb) (hRel : Rel S M nb) (hj : 4 * j + 4 ≤ L) (hcl : cells + 1 ≤ 601024) (hsl : slots + 6 ≤ 7293034) (kk : lc_K p l e s m below meth c (cells + 1) (slots + 6) Q D cA am oa b j) : AW p l e room_1 s m #[Value.ref b] below meth c 7 cells slots Q (lwP D cA am oa ad nb S M v) (fun q => s.heap.size ≤ q) 593 [(0, .ref b), (1, .ref (ad 0 0)), (2, .ref (am 0)), (3, .ref oa), (4, .int (nI (4 * j)))] [] := by
  have hoa : ∀ k i, ds_dm nb k i → ad k i ≠ oa := fun k i h => (hG.2 k i h).2.1
  rcases op_step hRel (xs (4 * j + 1)) (xs (4 * j + 2)) with ⟨k9, w9, b1, b2, b3, b4, b5, b6, b7, b8, b9, b10, b11⟩ | ⟨b1, b2⟩ | ⟨b1, b2, b3, b4⟩ | ⟨b1, b2, b3, b4, b5, b6⟩
  · refine aw_aload_n C d_law_593 rfl (j := 1) rfl ?_
    refine aw_aload_n C d_law_594 rfl (j := 0) rfl ?_
    refine aw_iload C d_law_595 (j := 4) rfl ?_
    refine aw_iconst (v := 1) C d_law_597 (by decide) ?_
    refine aw_iadd C d_law_598 ?_
    refine aw_sld (v := (nI k9)) C hX hbl (Nat.not_le.mpr hbl) (4 * j + 1) (nI_ad (4 * j) 1) (by omega) (by omega) b3 d_law_599 ?_
    refine aw_aload_n C d_law_600 rfl (j := 0) rfl ?_
    refine aw_iload C d_law_601 (j := 4) rfl ?_
    refine aw_iconst (v := 2) C d_law_603 (by decide) ?_
    refine aw_iadd C d_law_604 ?_
    refine aw_sld (v := (nI w9)) C hX hbl (Nat.not_le.mpr hbl) (4 * j + 2) (nI_ad (4 * j) 2) (by omega) (by omega) b4 d_law_605 ?_
    refine aw_aload_n C d_law_606 rfl (j := 3) rfl ?_
    refine aw_lawH [.ref (ad 0 0), .int (nI k9), .int (nI w9), .ref oa] C hK hZ hN rfl hF hG (k_La_step l D ad cA nb S oa v (nI k9) (nI w9) hoa _ (c_De_step l D ad cA nb S k9 (nI w9) b1 b5 b7 b9)) (lh_cw 4 C.2.2.2.2 ml_La_La_step sm_La_step ii_La cd_La_step rfl rfl (by decide +kernel) (by decide)) rfl rfl (Nat.le_of_ble_eq_true rfl) d_law_607 ⟨show _ ≤ 601024 by omega, show _ ≤ 7293034 by omega⟩ ?_
    rintro r9 S9 ⟨rfl, rfl⟩
    refine aw_istore (i := 5) (lv' := _) C d_law_610 (by decide) rfl ?_
    refine aw_aload_n C d_law_612 rfl (j := 3) rfl ?_
    refine aw_aload_n C d_law_613 rfl (j := 1) rfl ?_
    refine aw_iload C d_law_614 (j := 5) rfl ?_
    refine aw_iconst (v := 1) C d_law_616 (by decide) ?_
    refine aw_iadd C d_law_617 ?_
    refine aw_sld (v := (nI k9)) C hX hbl (Nat.not_le.mpr hbl) (4 * j + 1) (nI_ad (4 * j) 1) (by omega) (by omega) b3 d_law_618 ?_
    refine aw_aload_n C d_law_619 rfl (j := 1) rfl ?_
    refine aw_iload C d_law_620 (j := 5) rfl ?_
    refine aw_iconst (v := 2) C d_law_622 (by decide) ?_
    refine aw_iadd C d_law_623 ?_
    refine aw_sld (v := (nI w9)) C hX hbl (Nat.not_le.mpr hbl) (4 * j + 2) (nI_ad (4 * j) 2) (by omega) (by omega) b4 d_law_624 ?_
    refine aw_lawM (Cn := R_Mo) [.int (nI k9), .int (nI w9)] C hK rfl hF hG (c_Mo_step l D am cA M hF.1 k9 w9 (by omega) b2 b6 b8 b10) (cw_La_Mo_step C.2.2.2.2 rfl rfl (by decide)) rfl (fun H h => aw_recv hK rfl (h 0 (by decide))) rfl (Nat.le_of_ble_eq_true rfl) d_law_625 ⟨show _ ≤ 601024 by omega, show _ ≤ 7293034 by omega⟩ ?_
    rintro r8 M8 ⟨rfl, rfl⟩
    refine aw_istore (i := 6) (lv' := _) C d_law_628 (by decide) rfl ?_
    refine aw_aload_n C d_law_630 rfl (j := 4) rfl ?_
    refine aw_lawM (Cn := R_Mo) [] C hK rfl hF hG (c_Mo_thrown l D am cA _) (cw_La_Mo_thrown C.2.2.2.2 rfl rfl (by decide)) rfl (fun H h => aw_recv hK rfl (h 0 (by decide))) rfl (Nat.le_of_ble_eq_true rfl) d_law_631 ⟨show _ ≤ 601024 by omega, show _ ≤ 7293034 by omega⟩ ?_
    rintro r7 M7 ⟨rfl, e7⟩
    obtain rfl : r7 = 0 := e7.trans (ms_w_s _ _ _ _)
    refine aw_iload C d_law_634 (j := 1) rfl ?_
    refine aw_icmp_eq (tgt := 641) C d_law_636 (by decide) (fun _ => ?_) (fun h => absurd rfl h)
    refine aw_iload C d_law_641 (j := 1) rfl ?_
    refine aw_if_ne (tgt := 658) C d_law_643 (by decide) (fun h => absurd rfl h) (fun _ => ?_)
    refine aw_aload_n C d_law_646 rfl (j := 5) rfl ?_
    refine aw_iconst (v := 0) C d_law_647 (by decide) ?_
    refine aw_lald C hK 6 rfl (fun H h => h.2.2) (ix_in (k := 0) rfl (by decide) (by decide)).1 d_law_648 ?_
    refine aw_iload C d_law_649 (j := 0) rfl ?_
    refine aw_i2l C d_law_651 rfl ?_
    refine aw_lcmp C d_law_652 ?_
    refine aw_topi (fun z7 e7 => ?_)
    obtain rfl : z7 = 0 := e7.trans (lg_eq (congrArg Int32.toInt64 b11))
    refine aw_if_eq (tgt := 658) C d_law_653 (by decide) (fun _ => ?_) (fun h => absurd rfl h)
    refine aw_goto (tgt := 1177) C d_law_658 (by decide) ?_
    refine aw_widen (k := cells + 1) (n := slots + 6) (by omega) (by omega) ?_
    refine aw_lv (lv' := [(0, .ref b), (1, .ref (ad 0 0)), (2, .ref (am 0)), (3, .ref oa), (4, .int (nI (4 * j)))]) [2, 3, 4, 5, 6] rfl ?_
    exact kk ad nb _ _ _ hG (Rel_20 hRel 0)
  · refine aw_aload_n C d_law_593 rfl (j := 1) rfl ?_
    refine aw_aload_n C d_law_594 rfl (j := 0) rfl ?_
    refine aw_iload C d_law_595 (j := 4) rfl ?_
    refine aw_iconst (v := 1) C d_law_597 (by decide) ?_
    refine aw_iadd C d_law_598 ?_
    refine aw_sld (v := (xs (4 * j + 1))) C hX hbl (Nat.not_le.mpr hbl) (4 * j + 1) (nI_ad (4 * j) 1) (by omega) (by omega) rfl d_law_599 ?_
    refine aw_aload_n C d_law_600 rfl (j := 0) rfl ?_
    refine aw_iload C d_law_601 (j := 4) rfl ?_
    refine aw_iconst (v := 2) C d_law_603 (by decide) ?_
    refine aw_iadd C d_law_604 ?_
    refine aw_sld (v := (xs (4 * j + 2))) C hX hbl (Nat.not_le.mpr hbl) (4 * j + 2) (nI_ad (4 * j) 2) (by omega) (by omega) rfl d_law_605 ?_
    refine aw_aload_n C d_law_606 rfl (j := 3) rfl ?_
    refine aw_lawQ [.ref (ad 0 0), .int (xs (4 * j + 1)), .int (xs (4 * j + 2)), .ref oa] C hK hZ hN rfl (q_La_step_Ia l D ad cA nb S oa (xs (4 * j + 1)) (xs (4 * j + 2)) (t_De_step1 l D ad cA nb S hl (xs (4 * j + 1)) (xs (4 * j + 2)) b1)) (lh_cw 4 C.2.2.2.2 ml_La_La_step sm_La_step ii_La cd_La_step rfl rfl (by decide +kernel) (by decide)) rfl rfl (Nat.le_of_ble_eq_true rfl) d_law_607 ⟨show _ ≤ 601024 by omega, show _ ≤ 7293034 by omega⟩ ?_
    refine aw_istore (i := 5) (lv' := _) C d_law_610 (by decide) rfl ?_
    refine aw_aload_n C d_law_612 rfl (j := 3) rfl ?_
    refine aw_aload_n C d_law_613 rfl (j := 1) rfl ?_
    refine aw_iload C d_law_614 (j := 5) rfl ?_
    refine aw_iconst (v := 1) C d_law_616 (by decide) ?_
    refine aw_iadd C d_law_617 ?_
    refine aw_sld (v := (xs (4 * j + 1))) C hX hbl (Nat.not_le.mpr hbl) (4 * j + 1) (nI_ad (4 * j) 1) (by omega) (by omega) rfl d_law_618 ?_
    refine aw_aload_n C d_law_619 rfl (j := 1) rfl ?_
    refine aw_iload C d_law_620 (j := 5) rfl ?_
    refine aw_iconst (v := 2) C d_law_622 (by decide) ?_
    refine aw_iadd C d_law_623 ?_
    refine aw_sld (v := (xs (4 * j + 2))) C hX hbl (Nat.not_le.mpr hbl) (4 * j + 2) (nI_ad (4 * j) 2) (by omega) (by omega) rfl d_law_624 ?_
    refine aw_lawM (Cn := R_Mo) [.int (xs (4 * j + 1)), .int (xs (4 * j + 2))] C hK rfl hF hG (b_Mo_step1_t l D am cA M hF.1 (xs (4 * j + 1)) (xs (4 * j + 2)) b2) (cw_La_Mo_step C.2.2.2.2 rfl rfl (by decide)) rfl (fun H h => aw_recv hK rfl (h 0 (by decide))) rfl (Nat.le_of_ble_eq_true rfl) d_law_625 ⟨show _ ≤ 601024 by omega, show _ ≤ 7293034 by omega⟩ ?_
    rintro r8 M8 ⟨rfl, rfl⟩
    refine aw_istore (i := 6) (lv' := _) C d_law_628 (by decide) rfl ?_
    refine aw_aload_n C d_law_630 rfl (j := 4) rfl ?_
    refine aw_lawM (Cn := R_Mo) [] C hK rfl hF hG (c_Mo_thrown l D am cA _) (cw_La_Mo_thrown C.2.2.2.2 rfl rfl (by decide)) rfl (fun H h => aw_recv hK rfl (h 0 (by decide))) rfl (Nat.le_of_ble_eq_true rfl) d_law_631 ⟨show _ ≤ 601024 by omega, show _ ≤ 7293034 by omega⟩ ?_
    rintro r7 M7 ⟨rfl, e7⟩
    obtain rfl : r7 = 1 := e7.trans (ms_w_s _ _ _ _)
    refine aw_iload C d_law_634 (j := 1) rfl ?_
    refine aw_icmp_eq (tgt := 641) C d_law_636 (by decide) (fun _ => ?_) (fun h => absurd rfl h)
    refine aw_iload C d_law_641 (j := 1) rfl ?_
    refine aw_if_ne (tgt := 658) C d_law_643 (by decide) (fun _ => ?_) (fun h => absurd h (by decide))
    refine aw_goto (tgt := 1177) C d_law_658 (by decide) ?_
    refine aw_widen (k := cells + 1) (n := slots + 6) (by omega) (by omega) ?_
    refine aw_lv (lv' := [(0, .ref b), (1, .ref (ad 0 0)), (2, .ref (am 0)), (3, .ref oa), (4, .int (nI (4 * j)))]) [2, 3, 4, 5, 6] rfl ?_
    exact kk ad nb _ _ _ hG (Rel_20 hRel 1)
  · refine aw_aload_n C d_law_593 rfl (j := 1) rfl ?_
    refine aw_aload_n C d_law_594 rfl (j := 0) rfl ?_
    refine aw_iload C d_law_595 (j := 4) rfl ?_
    refine aw_iconst (v := 1) C d_law_597 (by decide) ?_
    refine aw_iadd C d_law_598 ?_
    refine aw_sld (v := (xs (4 * j + 1))) C hX hbl (Nat.not_le.mpr hbl) (4 * j + 1) (nI_ad (4 * j) 1) (by omega) (by omega) rfl d_law_599 ?_
    refine aw_aload_n C d_law_600 rfl (j := 0) rfl ?_
    refine aw_iload C d_law_601 (j := 4) rfl ?_
    refine aw_iconst (v := 2) C d_law_603 (by decide) ?_
    refine aw_iadd C d_law_604 ?_
    refine aw_sld (v := (xs (4 * j + 2))) C hX hbl (Nat.not_le.mpr hbl) (4 * j + 2) (nI_ad (4 * j) 2) (by omega) (by omega) rfl d_law_605 ?_
    refine aw_aload_n C d_law_606 rfl (j := 3) rfl ?_
    refine aw_lawQ [.ref (ad 0 0), .int (xs (4 * j + 1)), .int (xs (4 * j + 2)), .ref oa] C hK hZ hN rfl (q_La_step_Is l D ad cA nb S oa (xs (4 * j + 1)) (xs (4 * j + 2)) (t_De_step2 l D ad cA nb S hl (xs (4 * j + 1)) (xs (4 * j + 2)) b1 b2)) (lh_cw 4 C.2.2.2.2 ml_La_La_step sm_La_step ii_La cd_La_step rfl rfl (by decide +kernel) (by decide)) rfl rfl (Nat.le_of_ble_eq_true rfl) d_law_607 ⟨show _ ≤ 601024 by omega, show _ ≤ 7293034 by omega⟩ ?_
    refine aw_istore (i := 5) (lv' := _) C d_law_610 (by decide) rfl ?_
    refine aw_aload_n C d_law_612 rfl (j := 3) rfl ?_
    refine aw_aload_n C d_law_613 rfl (j := 1) rfl ?_
    refine aw_iload C d_law_614 (j := 5) rfl ?_
    refine aw_iconst (v := 1) C d_law_616 (by decide) ?_
    refine aw_iadd C d_law_617 ?_
    refine aw_sld (v := (xs (4 * j + 1))) C hX hbl (Nat.not_le.mpr hbl) (4 * j + 1) (nI_ad (4 * j) 1) (by omega) (by omega) rfl d_law_618 ?_
    refine aw_aload_n C d_law_619 rfl (j := 1) rfl ?_
    refine aw_iload C d_law_620 (j := 5) rfl ?_
    refine aw_iconst (v := 2) C d_law_622 (by decide) ?_
    refine aw_iadd C d_law_623 ?_
    refine aw_sld (v := (xs (4 * j + 2))) C hX hbl (Nat.not_le.mpr hbl) (4 * j + 2) (nI_ad (4 * j) 2) (by omega) (by omega) rfl d_law_624 ?_
    refine aw_lawM (Cn := R_Mo) [.int (xs (4 * j + 1)), .int (xs (4 * j + 2))] C hK rfl hF hG (b_Mo_step2_t l D am cA M hF.1 (xs (4 * j + 1)) (xs (4 * j + 2)) b3 b4) (cw_La_Mo_step C.2.2.2.2 rfl rfl (by decide)) rfl (fun H h => aw_recv hK rfl (h 0 (by decide))) rfl (Nat.le_of_ble_eq_true rfl) d_law_625 ⟨show _ ≤ 601024 by omega, show _ ≤ 7293034 by omega⟩ ?_
    rintro r8 M8 ⟨rfl, rfl⟩
    refine aw_istore (i := 6) (lv' := _) C d_law_628 (by decide) rfl ?_
    refine aw_aload_n C d_law_630 rfl (j := 4) rfl ?_
    refine aw_lawM (Cn := R_Mo) [] C hK rfl hF hG (c_Mo_thrown l D am cA _) (cw_La_Mo_thrown C.2.2.2.2 rfl rfl (by decide)) rfl (fun H h => aw_recv hK rfl (h 0 (by decide))) rfl (Nat.le_of_ble_eq_true rfl) d_law_631 ⟨show _ ≤ 601024 by omega, show _ ≤ 7293034 by omega⟩ ?_
    rintro r7 M7 ⟨rfl, e7⟩
    obtain rfl : r7 = 2 := e7.trans (ms_w_s _ _ _ _)
    refine aw_iload C d_law_634 (j := 1) rfl ?_
    refine aw_icmp_eq (tgt := 641) C d_law_636 (by decide) (fun _ => ?_) (fun h => absurd rfl h)
    refine aw_iload C d_law_641 (j := 1) rfl ?_
    refine aw_if_ne (tgt := 658) C d_law_643 (by decide) (fun _ => ?_) (fun h => absurd h (by decide))
    refine aw_goto (tgt := 1177) C d_law_658 (by decide) ?_
    refine aw_widen (k := cells + 1) (n := slots + 6) (by omega) (by omega) ?_
    refine aw_lv (lv' := [(0, .ref b), (1, .ref (ad 0 0)), (2, .ref (am 0)), (3, .ref oa), (4, .int (nI (4 * j)))]) [2, 3, 4, 5, 6] rfl ?_
    exact kk ad nb _ _ _ hG (Rel_20 hRel 2)
  · refine aw_aload_n C d_law_593 rfl (j := 1) rfl ?_
    refine aw_aload_n C d_law_594 rfl (j := 0) rfl ?_
    refine aw_iload C d_law_595 (j := 4) rfl ?_
    refine aw_iconst (v := 1) C d_law_597 (by decide) ?_
    refine aw_iadd C d_law_598 ?_
    refine aw_sld (v := (xs (4 * j + 1))) C hX hbl (Nat.not_le.mpr hbl) (4 * j + 1) (nI_ad (4 * j) 1) (by omega) (by omega) rfl d_law_599 ?_
    refine aw_aload_n C d_law_600 rfl (j := 0) rfl ?_
    refine aw_iload C d_law_601 (j := 4) rfl ?_
    refine aw_iconst (v := 2) C d_law_603 (by decide) ?_
    refine aw_iadd C d_law_604 ?_
    refine aw_sld (v := (xs (4 * j + 2))) C hX hbl (Nat.not_le.mpr hbl) (4 * j + 2) (nI_ad (4 * j) 2) (by omega) (by omega) rfl d_law_605 ?_
    refine aw_aload_n C d_law_606 rfl (j := 3) rfl ?_
    refine aw_lawQ [.ref (ad 0 0), .int (xs (4 * j + 1)), .int (xs (4 * j + 2)), .ref oa] C hK hZ hN rfl (q_La_step_Ia l D ad cA nb S oa (xs (4 * j + 1)) (xs (4 * j + 2)) (t_De_step3 l D ad cA nb S hl (xs (4 * j + 1)) (xs (4 * j + 2)) b1 b2 b3)) (lh_cw 4 C.2.2.2.2 ml_La_La_step sm_La_step ii_La cd_La_step rfl rfl (by decide +kernel) (by decide)) rfl rfl (Nat.le_of_ble_eq_true rfl) d_law_607 ⟨show _ ≤ 601024 by omega, show _ ≤ 7293034 by omega⟩ ?_
    refine aw_istore (i := 5) (lv' := _) C d_law_610 (by decide) rfl ?_
    refine aw_aload_n C d_law_612 rfl (j := 3) rfl ?_
    refine aw_aload_n C d_law_613 rfl (j := 1) rfl ?_
    refine aw_iload C d_law_614 (j := 5) rfl ?_
    refine aw_iconst (v := 1) C d_law_616 (by decide) ?_
    refine aw_iadd C d_law_617 ?_
    refine aw_sld (v := (xs (4 * j + 1))) C hX hbl (Nat.not_le.mpr hbl) (4 * j + 1) (nI_ad (4 * j) 1) (by omega) (by omega) rfl d_law_618 ?_
    refine aw_aload_n C d_law_619 rfl (j := 1) rfl ?_
    refine aw_iload C d_law_620 (j := 5) rfl ?_
    refine aw_iconst (v := 2) C d_law_622 (by decide) ?_
    refine aw_iadd C d_law_623 ?_
    refine aw_sld (v := (xs (4 * j + 2))) C hX hbl (Nat.not_le.mpr hbl) (4 * j + 2) (nI_ad (4 * j) 2) (by omega) (by omega) rfl d_law_624 ?_
    refine aw_lawM (Cn := R_Mo) [.int (xs (4 * j + 1)), .int (xs (4 * j + 2))] C hK rfl hF hG (b_Mo_step3_t l D am cA M hF.1 (xs (4 * j + 1)) (xs (4 * j + 2)) b4 b5 b6) (cw_La_Mo_step C.2.2.2.2 rfl rfl (by decide)) rfl (fun H h => aw_recv hK rfl (h 0 (by decide))) rfl (Nat.le_of_ble_eq_true rfl) d_law_625 ⟨show _ ≤ 601024 by omega, show _ ≤ 7293034 by omega⟩ ?_
    rintro r8 M8 ⟨rfl, rfl⟩
    refine aw_istore (i := 6) (lv' := _) C d_law_628 (by decide) rfl ?_
    refine aw_aload_n C d_law_630 rfl (j := 4) rfl ?_
    refine aw_lawM (Cn := R_Mo) [] C hK rfl hF hG (c_Mo_thrown l D am cA _) (cw_La_Mo_thrown C.2.2.2.2 rfl rfl (by decide)) rfl (fun H h => aw_recv hK rfl (h 0 (by decide))) rfl (Nat.le_of_ble_eq_true rfl) d_law_631 ⟨show _ ≤ 601024 by omega, show _ ≤ 7293034 by omega⟩ ?_
    rintro r7 M7 ⟨rfl, e7⟩
    obtain rfl : r7 = 1 := e7.trans (ms_w_s _ _ _ _)
    refine aw_iload C d_law_634 (j := 1) rfl ?_
    refine aw_icmp_eq (tgt := 641) C d_law_636 (by decide) (fun _ => ?_) (fun h => absurd rfl h)
    refine aw_iload C d_law_641 (j := 1) rfl ?_
    refine aw_if_ne (tgt := 658) C d_law_643 (by decide) (fun _ => ?_) (fun h => absurd h (by decide))
    refine aw_goto (tgt := 1177) C d_law_658 (by decide) ?_
    refine aw_widen (k := cells + 1) (n := slots + 6) (by omega) (by omega) ?_
    refine aw_lv (lv' := [(0, .ref b), (1, .ref (ad 0 0)), (2, .ref (am 0)), (3, .ref oa), (4, .int (nI (4 * j)))]) [2, 3, 4, 5, 6] rfl ?_
    exact kk ad nb _ _ _ hG (Rel_20 hRel 1)
set_option maxHeartbeats 4000000 in
set_option maxRecDepth 100000 in
theorem lc_settle {p : Program} {l : Launch} {e : Env} {s : State} {m : MethodId} {below : List Frame} {meth : Method} {c : Code} {cells slots : Nat} {Q : State → Prop} {D : va_G} {cA : Nat → ClassId} {am : Nat → Nat} {oa : Nat} {ad : Nat → Nat → Nat} {nb : Nat} {S : ds_S} {M : ms_S} {v : Int64} {b L j : Nat} {xs : Nat → Int32} (hl : l.stackTraces = false) (C : CallFix p m c code 7 s #[Value.ref b] tb_G R_La) (hK : va_K D cl_all (ds_ty cA) s) (hZ : th_Z s) (hN : nc_Z s) (hX : va_X b L xs s s.heap) (hbl : b < s.heap.size) (hL : L ≤ 2048) (hF : lwF s am oa) (hG : lwG s am oa ad nb) (hRel : Rel S M nb) (hj : 4 * j + 4 ≤ L) (hcl : cells + 1 ≤ 601024) (hsl : slots + 6 ≤ 7293034) (kk : lc_K p l e s m below meth c (cells + 1) (slots + 6) Q D cA am oa b j) : AW p l e room_1 s m #[Value.ref b] below meth c 7 cells slots Q (lwP D cA am oa ad nb S M v) (fun q => s.heap.size ≤ q) 661 [(0, .ref b), (1, .ref (ad 0 0)), (2, .ref (am 0)), (3, .ref oa), (4, .int (nI (4 * j)))] [] := by
  have hoa : ∀ k i, ds_dm nb k i → ad k i ≠ oa := fun k i h => (hG.2 k i h).2.1
  rcases op_settle hRel with ⟨Pn, b1, b2, b3, b4, b5, b6, b7⟩ | ⟨b1, b2⟩
  · refine aw_aload_n C d_law_661 rfl (j := 1) rfl ?_
    refine aw_aload_n C d_law_662 rfl (j := 3) rfl ?_
    refine aw_lawH [.ref (ad 0 0), .ref oa] C hK hZ hN rfl hF hG (k_La_settle l D ad cA nb S oa v  hoa _ (c_De_settle l D ad cA nb S hG.1 b4 Pn b2 b1)) (lh_cw 2 C.2.2.2.2 ml_La_La_settle sm_La_settle ii_La cd_La_settle rfl rfl (by decide +kernel) (by decide)) rfl rfl (Nat.le_of_ble_eq_true rfl) d_law_663 ⟨show _ ≤ 601024 by omega, show _ ≤ 7293034 by omega⟩ ?_
    rintro r9 S9 ⟨rfl, rfl⟩
    refine aw_istore (i := 5) (lv' := _) C d_law_666 (by decide) rfl ?_
    refine aw_aload_n C d_law_668 rfl (j := 3) rfl ?_
    refine aw_lawM (Cn := R_Mo) [] C hK rfl hF hG (c_Mo_settle l D am cA M hF.1 b5 Pn b1 b3) (cw_La_Mo_settle C.2.2.2.2 rfl rfl (by decide)) rfl (fun H h => aw_recv hK rfl (h 0 (by decide))) rfl (Nat.le_of_ble_eq_true rfl) d_law_669 ⟨show _ ≤ 601024 by omega, show _ ≤ 7293034 by omega⟩ ?_
    rintro r8 M8 ⟨rfl, rfl⟩
    refine aw_istore (i := 6) (lv' := _) C d_law_672 (by decide) rfl ?_
    refine aw_aload_n C d_law_674 rfl (j := 4) rfl ?_
    refine aw_lawM (Cn := R_Mo) [] C hK rfl hF hG (c_Mo_thrown l D am cA _) (cw_La_Mo_thrown C.2.2.2.2 rfl rfl (by decide)) rfl (fun H h => aw_recv hK rfl (h 0 (by decide))) rfl (Nat.le_of_ble_eq_true rfl) d_law_675 ⟨show _ ≤ 601024 by omega, show _ ≤ 7293034 by omega⟩ ?_
    rintro r7 M7 ⟨rfl, e7⟩
    obtain rfl : r7 = 0 := e7.trans (by rw [ms_w_n (by omega), (mst_p _ _).1 20 0 (by decide), ms_w_s])
    refine aw_iload C d_law_678 (j := 1) rfl ?_
    refine aw_icmp_eq (tgt := 685) C d_law_680 (by decide) (fun _ => ?_) (fun h => absurd rfl h)
    refine aw_iload C d_law_685 (j := 1) rfl ?_
    refine aw_if_ne (tgt := 702) C d_law_687 (by decide) (fun h => absurd rfl h) (fun _ => ?_)
    refine aw_aload_n C d_law_690 rfl (j := 5) rfl ?_
    refine aw_iconst (v := 0) C d_law_691 (by decide) ?_
    refine aw_lald C hK 6 rfl (fun H h => h.2.2) (ix_in (k := 0) rfl (by decide) (by decide)).1 d_law_692 ?_
    refine aw_iload C d_law_693 (j := 0) rfl ?_
    refine aw_i2l C d_law_695 rfl ?_
    refine aw_lcmp C d_law_696 ?_
    refine aw_topi (fun z7 e7 => ?_)
    obtain rfl : z7 = 0 := e7.trans (lg_eq (congrArg Int32.toInt64 b7))
    refine aw_if_eq (tgt := 702) C d_law_697 (by decide) (fun _ => ?_) (fun h => absurd rfl h)
    refine aw_goto (tgt := 1177) C d_law_702 (by decide) ?_
    refine aw_widen (k := cells + 1) (n := slots + 6) (by omega) (by omega) ?_
    refine aw_lv (lv' := [(0, .ref b), (1, .ref (ad 0 0)), (2, .ref (am 0)), (3, .ref oa), (4, .int (nI (4 * j)))]) [2, 3, 4, 5, 6] rfl ?_
    exact kk ad nb _ _ _ hG (b6)
  · refine aw_aload_n C d_law_661 rfl (j := 1) rfl ?_
    refine aw_aload_n C d_law_662 rfl (j := 3) rfl ?_
    refine aw_lawQ [.ref (ad 0 0), .ref oa] C hK hZ hN rfl (q_La_settle_Is l D ad cA nb S oa  (t_De_settle l D ad cA nb S hl b1)) (lh_cw 2 C.2.2.2.2 ml_La_La_settle sm_La_settle ii_La cd_La_settle rfl rfl (by decide +kernel) (by decide)) rfl rfl (Nat.le_of_ble_eq_true rfl) d_law_663 ⟨show _ ≤ 601024 by omega, show _ ≤ 7293034 by omega⟩ ?_
    refine aw_istore (i := 5) (lv' := _) C d_law_666 (by decide) rfl ?_
    refine aw_aload_n C d_law_668 rfl (j := 3) rfl ?_
    refine aw_lawM (Cn := R_Mo) [] C hK rfl hF hG (b_Mo_settle_t l D am cA M hF.1 b2) (cw_La_Mo_settle C.2.2.2.2 rfl rfl (by decide)) rfl (fun H h => aw_recv hK rfl (h 0 (by decide))) rfl (Nat.le_of_ble_eq_true rfl) d_law_669 ⟨show _ ≤ 601024 by omega, show _ ≤ 7293034 by omega⟩ ?_
    rintro r8 M8 ⟨rfl, rfl⟩
    refine aw_istore (i := 6) (lv' := _) C d_law_672 (by decide) rfl ?_
    refine aw_aload_n C d_law_674 rfl (j := 4) rfl ?_
    refine aw_lawM (Cn := R_Mo) [] C hK rfl hF hG (c_Mo_thrown l D am cA _) (cw_La_Mo_thrown C.2.2.2.2 rfl rfl (by decide)) rfl (fun H h => aw_recv hK rfl (h 0 (by decide))) rfl (Nat.le_of_ble_eq_true rfl) d_law_675 ⟨show _ ≤ 601024 by omega, show _ ≤ 7293034 by omega⟩ ?_
    rintro r7 M7 ⟨rfl, e7⟩
    obtain rfl : r7 = 1 := e7.trans (ms_w_s _ _ _ _)
    refine aw_iload C d_law_678 (j := 1) rfl ?_
    refine aw_icmp_eq (tgt := 685) C d_law_680 (by decide) (fun _ => ?_) (fun h => absurd rfl h)
    refine aw_iload C d_law_685 (j := 1) rfl ?_
    refine aw_if_ne (tgt := 702) C d_law_687 (by decide) (fun _ => ?_) (fun h => absurd h (by decide))
    refine aw_goto (tgt := 1177) C d_law_702 (by decide) ?_
    refine aw_widen (k := cells + 1) (n := slots + 6) (by omega) (by omega) ?_
    refine aw_lv (lv' := [(0, .ref b), (1, .ref (ad 0 0)), (2, .ref (am 0)), (3, .ref oa), (4, .int (nI (4 * j)))]) [2, 3, 4, 5, 6] rfl ?_
    exact kk ad nb _ _ _ hG (Rel_20 hRel 1)
set_option maxHeartbeats 4000000 in
set_option maxRecDepth 100000 in
theorem lc_worthOf {p : Program} {l : Launch} {e : Env} {s : State} {m : MethodId} {below : List Frame} {meth : Method} {c : Code} {cells slots : Nat} {Q : State → Prop} {D : va_G} {cA : Nat → ClassId} {am : Nat → Nat} {oa : Nat} {ad : Nat → Nat → Nat} {nb : Nat} {S : ds_S} {M : ms_S} {v : Int64} {b L j : Nat} {xs : Nat → Int32} (hl : l.stackTraces = false) (C : CallFix p m c code 7 s #[Value.ref b] tb_G R_La) (hK : va_K D cl_all (ds_ty cA) s) (hZ : th_Z s) (hN : nc_Z s) (hX : va_X b L xs s s.heap) (hbl : b < s.heap.size) (hL : L ≤ 2048) (hF : lwF s am oa) (hG : lwG s am oa ad nb) (hRel : Rel S M nb) (hj : 4 * j + 4 ≤ L) (hcl : cells + 1 ≤ 601024) (hsl : slots + 6 ≤ 7293034) (kk : lc_K p l e s m below meth c (cells + 1) (slots + 6) Q D cA am oa b j) : AW p l e room_1 s m #[Value.ref b] below meth c 7 cells slots Q (lwP D cA am oa ad nb S M v) (fun q => s.heap.size ≤ q) 705 [(0, .ref b), (1, .ref (ad 0 0)), (2, .ref (am 0)), (3, .ref oa), (4, .int (nI (4 * j)))] [] := by
  have hoa : ∀ k i, ds_dm nb k i → ad k i ≠ oa := fun k i h => (hG.2 k i h).2.1
  rcases op_worthOf hRel (xs (4 * j + 1)) with ⟨p9, Pn, Dn, b1, b2, b3, b4, b5, b6, b7, b8, b9, b10, b11, b12, b13, b14, b15, b16⟩ | ⟨b1, b2⟩ | ⟨b1, b2, b3, b4⟩
  · refine aw_aload_n C d_law_705 rfl (j := 1) rfl ?_
    refine aw_aload_n C d_law_706 rfl (j := 0) rfl ?_
    refine aw_iload C d_law_707 (j := 4) rfl ?_
    refine aw_iconst (v := 1) C d_law_709 (by decide) ?_
    refine aw_iadd C d_law_710 ?_
    refine aw_sld (v := (nI p9)) C hX hbl (Nat.not_le.mpr hbl) (4 * j + 1) (nI_ad (4 * j) 1) (by omega) (by omega) b2 d_law_711 ?_
    refine aw_aload_n C d_law_712 rfl (j := 3) rfl ?_
    refine aw_lawH [.ref (ad 0 0), .int (nI p9), .ref oa] C hK hZ hN rfl hF hG (k_La_worthOf l D ad cA nb S oa v (nI p9) hoa _ (c_De_worthOf l D ad cA nb S p9 Pn Dn hG.1 b1 b3 b4 b9 b7 b10 b8 b13 b14)) (lh_cw 3 C.2.2.2.2 ml_La_La_worthOf sm_La_worthOf ii_La cd_La_worthOf rfl rfl (by decide +kernel) (by decide)) rfl rfl (Nat.le_of_ble_eq_true rfl) d_law_713 ⟨show _ ≤ 601024 by omega, show _ ≤ 7293034 by omega⟩ ?_
    rintro r9 S9 ⟨rfl, rfl⟩
    refine aw_istore (i := 5) (lv' := _) C d_law_716 (by decide) rfl ?_
    refine aw_aload_n C d_law_718 rfl (j := 3) rfl ?_
    refine aw_aload_n C d_law_719 rfl (j := 1) rfl ?_
    refine aw_iload C d_law_720 (j := 5) rfl ?_
    refine aw_iconst (v := 1) C d_law_722 (by decide) ?_
    refine aw_iadd C d_law_723 ?_
    refine aw_sld (v := (nI p9)) C hX hbl (Nat.not_le.mpr hbl) (4 * j + 1) (nI_ad (4 * j) 1) (by omega) (by omega) b2 d_law_724 ?_
    refine aw_lawM (Cn := R_Mo) [.int (nI p9)] C hK rfl hF hG (c_Mo_worthOf l D am cA M hF.1 p9 Pn Dn b1 b5 b6 b7 b8 b11 b12) (cw_La_Mo_worthOf C.2.2.2.2 rfl rfl (by decide)) rfl (fun H h => aw_recv hK rfl (h 0 (by decide))) rfl (Nat.le_of_ble_eq_true rfl) d_law_725 ⟨show _ ≤ 601024 by omega, show _ ≤ 7293034 by omega⟩ ?_
    rintro r8 M8 ⟨rfl, rfl⟩
    refine aw_istore (i := 6) (lv' := _) C d_law_728 (by decide) rfl ?_
    refine aw_aload_n C d_law_730 rfl (j := 4) rfl ?_
    refine aw_lawM (Cn := R_Mo) [] C hK rfl hF hG (c_Mo_thrown l D am cA _) (cw_La_Mo_thrown C.2.2.2.2 rfl rfl (by decide)) rfl (fun H h => aw_recv hK rfl (h 0 (by decide))) rfl (Nat.le_of_ble_eq_true rfl) d_law_731 ⟨show _ ≤ 601024 by omega, show _ ≤ 7293034 by omega⟩ ?_
    rintro r7 M7 ⟨rfl, e7⟩
    obtain rfl : r7 = 0 := e7.trans (by rw [fb_Sn _ _ 20 0 (by decide), fb_On _ _ 20 0 (by decide) (by decide), ms_w_s])
    refine aw_iload C d_law_734 (j := 1) rfl ?_
    refine aw_icmp_eq (tgt := 741) C d_law_736 (by decide) (fun _ => ?_) (fun h => absurd rfl h)
    refine aw_iload C d_law_741 (j := 1) rfl ?_
    refine aw_if_ne (tgt := 758) C d_law_743 (by decide) (fun h => absurd rfl h) (fun _ => ?_)
    refine aw_aload_n C d_law_746 rfl (j := 5) rfl ?_
    refine aw_iconst (v := 0) C d_law_747 (by decide) ?_
    refine aw_lald C hK 6 rfl (fun H h => h.2.2) (ix_in (k := 0) rfl (by decide) (by decide)).1 d_law_748 ?_
    refine aw_iload C d_law_749 (j := 0) rfl ?_
    refine aw_i2l C d_law_751 rfl ?_
    refine aw_lcmp C d_law_752 ?_
    refine aw_topi (fun z7 e7 => ?_)
    obtain rfl : z7 = 0 := e7.trans (lg_eq (congrArg Int32.toInt64 b16))
    refine aw_if_eq (tgt := 758) C d_law_753 (by decide) (fun _ => ?_) (fun h => absurd rfl h)
    refine aw_goto (tgt := 1177) C d_law_758 (by decide) ?_
    refine aw_widen (k := cells + 1) (n := slots + 6) (by omega) (by omega) ?_
    refine aw_lv (lv' := [(0, .ref b), (1, .ref (ad 0 0)), (2, .ref (am 0)), (3, .ref oa), (4, .int (nI (4 * j)))]) [2, 3, 4, 5, 6] rfl ?_
    exact kk ad nb _ _ _ hG (b15)
  · refine aw_aload_n C d_law_705 rfl (j := 1) rfl ?_
    refine aw_aload_n C d_law_706 rfl (j := 0) rfl ?_
    refine aw_iload C d_law_707 (j := 4) rfl ?_
    refine aw_iconst (v := 1) C d_law_709 (by decide) ?_
    refine aw_iadd C d_law_710 ?_
    refine aw_sld (v := (xs (4 * j + 1))) C hX hbl (Nat.not_le.mpr hbl) (4 * j + 1) (nI_ad (4 * j) 1) (by omega) (by omega) rfl d_law_711 ?_
    refine aw_aload_n C d_law_712 rfl (j := 3) rfl ?_
    refine aw_lawQ [.ref (ad 0 0), .int (xs (4 * j + 1)), .ref oa] C hK hZ hN rfl (q_La_worthOf_Ia l D ad cA nb S oa (xs (4 * j + 1)) (t_De_worthOf1 l D ad cA nb S hl (xs (4 * j + 1)) b1)) (lh_cw 3 C.2.2.2.2 ml_La_La_worthOf sm_La_worthOf ii_La cd_La_worthOf rfl rfl (by decide +kernel) (by decide)) rfl rfl (Nat.le_of_ble_eq_true rfl) d_law_713 ⟨show _ ≤ 601024 by omega, show _ ≤ 7293034 by omega⟩ ?_
    refine aw_istore (i := 5) (lv' := _) C d_law_716 (by decide) rfl ?_
    refine aw_aload_n C d_law_718 rfl (j := 3) rfl ?_
    refine aw_aload_n C d_law_719 rfl (j := 1) rfl ?_
    refine aw_iload C d_law_720 (j := 5) rfl ?_
    refine aw_iconst (v := 1) C d_law_722 (by decide) ?_
    refine aw_iadd C d_law_723 ?_
    refine aw_sld (v := (xs (4 * j + 1))) C hX hbl (Nat.not_le.mpr hbl) (4 * j + 1) (nI_ad (4 * j) 1) (by omega) (by omega) rfl d_law_724 ?_
    refine aw_lawM (Cn := R_Mo) [.int (xs (4 * j + 1))] C hK rfl hF hG (b_Mo_worthOf1_t l D am cA M hF.1 (xs (4 * j + 1)) b2) (cw_La_Mo_worthOf C.2.2.2.2 rfl rfl (by decide)) rfl (fun H h => aw_recv hK rfl (h 0 (by decide))) rfl (Nat.le_of_ble_eq_true rfl) d_law_725 ⟨show _ ≤ 601024 by omega, show _ ≤ 7293034 by omega⟩ ?_
    rintro r8 M8 ⟨rfl, rfl⟩
    refine aw_istore (i := 6) (lv' := _) C d_law_728 (by decide) rfl ?_
    refine aw_aload_n C d_law_730 rfl (j := 4) rfl ?_
    refine aw_lawM (Cn := R_Mo) [] C hK rfl hF hG (c_Mo_thrown l D am cA _) (cw_La_Mo_thrown C.2.2.2.2 rfl rfl (by decide)) rfl (fun H h => aw_recv hK rfl (h 0 (by decide))) rfl (Nat.le_of_ble_eq_true rfl) d_law_731 ⟨show _ ≤ 601024 by omega, show _ ≤ 7293034 by omega⟩ ?_
    rintro r7 M7 ⟨rfl, e7⟩
    obtain rfl : r7 = 1 := e7.trans (ms_w_s _ _ _ _)
    refine aw_iload C d_law_734 (j := 1) rfl ?_
    refine aw_icmp_eq (tgt := 741) C d_law_736 (by decide) (fun _ => ?_) (fun h => absurd rfl h)
    refine aw_iload C d_law_741 (j := 1) rfl ?_
    refine aw_if_ne (tgt := 758) C d_law_743 (by decide) (fun _ => ?_) (fun h => absurd h (by decide))
    refine aw_goto (tgt := 1177) C d_law_758 (by decide) ?_
    refine aw_widen (k := cells + 1) (n := slots + 6) (by omega) (by omega) ?_
    refine aw_lv (lv' := [(0, .ref b), (1, .ref (ad 0 0)), (2, .ref (am 0)), (3, .ref oa), (4, .int (nI (4 * j)))]) [2, 3, 4, 5, 6] rfl ?_
    exact kk ad nb _ _ _ hG (Rel_20 hRel 1)
  · refine aw_aload_n C d_law_705 rfl (j := 1) rfl ?_
    refine aw_aload_n C d_law_706 rfl (j := 0) rfl ?_
    refine aw_iload C d_law_707 (j := 4) rfl ?_
    refine aw_iconst (v := 1) C d_law_709 (by decide) ?_
    refine aw_iadd C d_law_710 ?_
    refine aw_sld (v := (xs (4 * j + 1))) C hX hbl (Nat.not_le.mpr hbl) (4 * j + 1) (nI_ad (4 * j) 1) (by omega) (by omega) rfl d_law_711 ?_
    refine aw_aload_n C d_law_712 rfl (j := 3) rfl ?_
    refine aw_lawQ [.ref (ad 0 0), .int (xs (4 * j + 1)), .ref oa] C hK hZ hN rfl (q_La_worthOf_Is l D ad cA nb S oa (xs (4 * j + 1)) (t_De_worthOf2 l D ad cA nb S hl (xs (4 * j + 1)) b1 b2)) (lh_cw 3 C.2.2.2.2 ml_La_La_worthOf sm_La_worthOf ii_La cd_La_worthOf rfl rfl (by decide +kernel) (by decide)) rfl rfl (Nat.le_of_ble_eq_true rfl) d_law_713 ⟨show _ ≤ 601024 by omega, show _ ≤ 7293034 by omega⟩ ?_
    refine aw_istore (i := 5) (lv' := _) C d_law_716 (by decide) rfl ?_
    refine aw_aload_n C d_law_718 rfl (j := 3) rfl ?_
    refine aw_aload_n C d_law_719 rfl (j := 1) rfl ?_
    refine aw_iload C d_law_720 (j := 5) rfl ?_
    refine aw_iconst (v := 1) C d_law_722 (by decide) ?_
    refine aw_iadd C d_law_723 ?_
    refine aw_sld (v := (xs (4 * j + 1))) C hX hbl (Nat.not_le.mpr hbl) (4 * j + 1) (nI_ad (4 * j) 1) (by omega) (by omega) rfl d_law_724 ?_
    refine aw_lawM (Cn := R_Mo) [.int (xs (4 * j + 1))] C hK rfl hF hG (b_Mo_worthOf2_t l D am cA M hF.1 (xs (4 * j + 1)) b3 b4) (cw_La_Mo_worthOf C.2.2.2.2 rfl rfl (by decide)) rfl (fun H h => aw_recv hK rfl (h 0 (by decide))) rfl (Nat.le_of_ble_eq_true rfl) d_law_725 ⟨show _ ≤ 601024 by omega, show _ ≤ 7293034 by omega⟩ ?_
    rintro r8 M8 ⟨rfl, rfl⟩
    refine aw_istore (i := 6) (lv' := _) C d_law_728 (by decide) rfl ?_
    refine aw_aload_n C d_law_730 rfl (j := 4) rfl ?_
    refine aw_lawM (Cn := R_Mo) [] C hK rfl hF hG (c_Mo_thrown l D am cA _) (cw_La_Mo_thrown C.2.2.2.2 rfl rfl (by decide)) rfl (fun H h => aw_recv hK rfl (h 0 (by decide))) rfl (Nat.le_of_ble_eq_true rfl) d_law_731 ⟨show _ ≤ 601024 by omega, show _ ≤ 7293034 by omega⟩ ?_
    rintro r7 M7 ⟨rfl, e7⟩
    obtain rfl : r7 = 2 := e7.trans (ms_w_s _ _ _ _)
    refine aw_iload C d_law_734 (j := 1) rfl ?_
    refine aw_icmp_eq (tgt := 741) C d_law_736 (by decide) (fun _ => ?_) (fun h => absurd rfl h)
    refine aw_iload C d_law_741 (j := 1) rfl ?_
    refine aw_if_ne (tgt := 758) C d_law_743 (by decide) (fun _ => ?_) (fun h => absurd h (by decide))
    refine aw_goto (tgt := 1177) C d_law_758 (by decide) ?_
    refine aw_widen (k := cells + 1) (n := slots + 6) (by omega) (by omega) ?_
    refine aw_lv (lv' := [(0, .ref b), (1, .ref (ad 0 0)), (2, .ref (am 0)), (3, .ref oa), (4, .int (nI (4 * j)))]) [2, 3, 4, 5, 6] rfl ?_
    exact kk ad nb _ _ _ hG (Rel_20 hRel 2)
