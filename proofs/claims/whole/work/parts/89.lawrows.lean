/-! THE LAW: rows of its own -/
section LAW
variable {p : Program} {l : Launch} {e : Env} {R : Room} {s : State} {m : MethodId} {args : Array Value} {below : List Frame} {meth : Method} {c : Code} {cc : ByteArray} {nL cells slots : Nat} {Q : State → Prop} {P : Heap → Prop} {A : Nat → Prop} {own : String} {pc : Nat} {lv lv' : List (Nat × Value)} {st : List Value} {D : va_G}
theorem aw_sld (C : CallFix p m c cc nL s args tb_G own) {b L : Nat} {xs : Nat → Int32} (hX : va_X b L xs s s.heap) (hbl : b < s.heap.size) (hbA : ¬ A b) {i : Int32} {v : Int32} (k9 : Nat) (hi : i = nI k9) (hk : k9 < L) (hL : L < 2 ^ 31) (hv : xs k9 = v) (hd : decode cc pc = .ok (.iaload, 1)) (kk : AW p l e R s m args below meth c nL cells slots Q P A (pc + 1) lv (.int v :: st)) : AW p l e R s m args below meth c nL cells slots Q P A pc lv (.int i :: .ref b :: st) := fun H locs ls hP hS hl => by
  obtain ⟨h1, h2⟩ := ix_in hi hk hL
  refine va_sld C.1 C.2.1 hX hbl hbA hS h1 hd ?_
  rw [h2, hv]
  exact kk H locs ls hP hS hl
theorem aw_slen (C : CallFix p m c cc nL s args tb_G own) {b L : Nat} {xs : Nat → Int32} (hX : va_X b L xs s s.heap) (hbl : b < s.heap.size) (hbA : ¬ A b) (hd : decode cc pc = .ok (.arraylength, 1)) (kk : AW p l e R s m args below meth c nL cells slots Q P A (pc + 1) lv (.int (nI L) :: st)) : AW p l e R s m args below meth c nL cells slots Q P A pc lv (.ref b :: st) := fun H locs ls hP hS hl => va_slen C.1 C.2.1 hX hbl hbA hS hd (kk H locs ls hP hS hl)
theorem aw_tableOut (C : CallFix p m c cc nL s args tb_G own) {dflt lo hi : Int} {offs : Array Int} {len : Nat} {x : Int32} {tgt : Nat} (hd : decode cc pc = .ok (.tableswitch dflt lo hi offs, len)) (h : x.toInt < lo ∨ hi < x.toInt) (ht : (pc : Int) + dflt = (tgt : Int)) (kk : AW p l e R s m args below meth c nL cells slots Q P A tgt lv st) : AW p l e R s m args below meth c nL cells slots Q P A pc lv (.int x :: st) := fun H locs ls hP hS hl => lv_tableOut C.1 C.2.1 hd h ht (kk H locs ls hP hS hl)
theorem aw_tableIn (C : CallFix p m c cc nL s args tb_G own) {dflt lo hi : Int} {offs : Array Int} {len : Nat} {x : Int32} {off : Int} {tgt : Nat} (hd : decode cc pc = .ok (.tableswitch dflt lo hi offs, len)) (h1 : ¬ x.toInt < lo) (h2 : ¬ hi < x.toInt) (ho : offs[(x.toInt - lo).toNat]? = some off) (ht : (pc : Int) + off = (tgt : Int)) (kk : AW p l e R s m args below meth c nL cells slots Q P A tgt lv st) : AW p l e R s m args below meth c nL cells slots Q P A pc lv (.int x :: st) := fun H locs ls hP hS hl => lv_tableIn C.1 C.2.1 hd h1 h2 ho ht (kk H locs ls hP hS hl)
theorem lg_same (x : Int64) : lg_cmp x x = 0 := by
  unfold lg_cmp
  rw [if_neg (fun z : x > x => Int64.lt_irrefl z), if_pos rfl]
/-- the world of the law -/
def lwP (D : va_G) (cA : Nat → ClassId) (am : Nat → Nat) (oa : Nat) (ad : Nat → Nat → Nat) (nb : Nat) (S : ds_S) (M : ms_S) (v : Int64) (H : Heap) : Prop := ds_P D ad cA nb S H ∧ ms_P D am cA M H ∧ lw_out D cA oa v H
/-- its addresses are apart, and new -/
def lwF (s : State) (am : Nat → Nat) (oa : Nat) : Prop := ms_I am ∧ (∀ k, k < 15 → s.heap.size ≤ am k ∧ am k ≠ oa) ∧ s.heap.size ≤ oa
def lwG (s : State) (am : Nat → Nat) (oa : Nat) (ad : Nat → Nat → Nat) (nb : Nat) : Prop := ds_I ad nb ∧ ∀ k i, ds_dm nb k i → s.heap.size ≤ ad k i ∧ ad k i ≠ oa ∧ ∀ k', k' < 15 → ad k i ≠ am k'
variable {cA : Nat → ClassId} {am : Nat → Nat} {oa : Nat} {ad : Nat → Nat → Nat} {nb : Nat} {S : ds_S} {M : ms_S} {v : Int64}
theorem ms_kept {H H1 : Heap} (h : ms_P D am cA M H) (hq : ∀ k, k < 15 → am k < H.size → H1[am k]? = H[am k]?) : ms_P D am cA M H1 := fun k hk => (h k hk).kept (hq k hk (va_at.lt (h k hk)))
theorem ds_kept {H H1 : Heap} (h : ds_P D ad cA nb S H) (hq : ∀ k i, ds_dm nb k i → ad k i < H.size → H1[ad k i]? = H[ad k i]?) : ds_P D ad cA nb S H1 := fun k i hk => (h k i hk).kept (hq k i hk (va_at.lt (h k i hk)))
/-- a helper that answers -/
theorem aw_lawH {y : MethodName} {b2 : ByteArray} {mL2 n index : Nat} {ret2 : Option FieldType} {hh : List (Nat × Nat × Nat × Nat)} {rm2 : Room} {stk : List Value} {post : Int32 → ds_S → Prop} {res : Int32 → Int64} (As : List Value) (C : CallFix p m c cc nL s args tb_G own) (hK : va_K D cl_all (ds_ty cA) s) (hZ : th_Z s) (hN : nc_Z s) (hA : A = fun q => s.heap.size ≤ q) (hF : lwF s am oa) (hG : lwG s am oa ad nb)
    (hc : Lh l y b2 mL2 ret2 hh rm2 0 0 D (ds_ty cA) (fun q => ds_A ad nb q ∨ q = oa) As (fun H => ds_P D ad cA nb S H ∧ lw_out D cA oa v H) (fun (sz9 : Nat) (r : Int32) (u : ds_S × Int64) => r = 0 ∧ ∃ r9 z9, sz9 ≤ z9 ∧ post r9 u.1 ∧ u.2 = res r9) (fun (u : ds_S × Int64) H => ds_P D ad cA nb u.1 H ∧ lw_out D cA oa u.2 H))
    (cw : lh_CW R s args own index y b2 mL2 ret2 hh rm2 0 0 n) (hn : As.length = n) (hst : stk = As.reverse ++ st) (hroom : (st.map fun v => v.category).sum ≤ 8) (hd : decode cc pc = .ok (.invokestatic index, 3)) (hcs : cells ≤ R.cells ∧ slots ≤ R.slots)
    (kk : ∀ (r9 : Int32) (S' : ds_S), post r9 S' → AW p l e R s m args below meth c nL cells slots Q (lwP D cA am oa ad nb S' M (res r9)) A (pc + 3) lv (.int 0 :: st)) : AW p l e R s m args below meth c nL cells slots Q (lwP D cA am oa ad nb S M v) A pc lv stk := by
  subst hA
  refine aw_callH (P9 := fun r u H => (r = 0 ∧ ∃ r9, post r9 u.1 ∧ u.2 = res r9) ∧ lwP D cA am oa ad nb u.1 M u.2 H) As C hK hZ hN hc cw hn (fun H h => ⟨h.1, h.2.2⟩) (fun q h => Nat.not_le.mpr h) (fun q h => ?_) (fun q h => h) hst hroom hd hcs (fun H H1 r u h hp hB hz hk => ?_) ?_
  · rcases h with ⟨k, i, hk, rfl⟩ | rfl
    · exact (hG.2 k i hk).1
    · exact hF.2.2
  · obtain ⟨q1, r9, z9, q2, q3, q4⟩ := hp
    refine ⟨⟨q1, r9, q3, q4⟩, hB.1, ms_kept h.2.1 (fun k hk0 hlt => hk _ hlt ?_), hB.2⟩
    rintro (⟨k', i', hk', e⟩ | e)
    · exact (hG.2 k' i' hk').2.2 k hk0 e.symm
    · exact (hF.2.1 k hk0).2 e
  · intro r u
    refine aw_have (F := r = 0 ∧ ∃ r9, post r9 u.1 ∧ u.2 = res r9) (fun H h => h.1) (fun hf => ?_)
    obtain ⟨rfl, r9, h1, h2⟩ := hf
    refine aw_P (P' := lwP D cA am oa ad nb u.1 M (res r9)) (fun H h => by rw [← h2]; exact h.2) ?_
    exact kk r9 u.1 h1
/-- a helper that catches -/
theorem aw_lawQ {y : MethodName} {b2 : ByteArray} {mL2 n index : Nat} {ret2 : Option FieldType} {hh : List (Nat × Nat × Nat × Nat)} {rm2 : Room} {stk : List Value} {k0 : Int32} (As : List Value) (C : CallFix p m c cc nL s args tb_G own) (hK : va_K D cl_all (ds_ty cA) s) (hZ : th_Z s) (hN : nc_Z s) (hA : A = fun q => s.heap.size ≤ q)
    (hc : Lh l y b2 mL2 ret2 hh rm2 1 6 D (ds_ty cA) (fun _ => False) As (ds_P D ad cA nb S) (fun (_ : Nat) (r : Int32) (_ : Unit) => r = k0) (fun (_ : Unit) (_ : Heap) => True))
    (cw : lh_CW R s args own index y b2 mL2 ret2 hh rm2 1 6 n) (hn : As.length = n) (hst : stk = As.reverse ++ st) (hroom : (st.map fun v => v.category).sum ≤ 8) (hd : decode cc pc = .ok (.invokestatic index, 3)) (hcs : cells + 1 ≤ R.cells ∧ slots + 6 ≤ R.slots)
    (kk : AW p l e R s m args below meth c nL (cells + 1) (slots + 6) Q (lwP D cA am oa ad nb S M v) A (pc + 3) lv (.int k0 :: st)) : AW p l e R s m args below meth c nL cells slots Q (lwP D cA am oa ad nb S M v) A pc lv stk := by
  subst hA
  refine aw_callH (P9 := fun r u H => r = k0 ∧ lwP D cA am oa ad nb S M v H) As C hK hZ hN hc cw hn (fun H h => h.1) (fun q h => Nat.not_le.mpr h) (fun q h => h.elim) (fun q h => h) hst hroom hd hcs (fun H H1 r u h hp hB hz hk => ?_) ?_
  · exact ⟨hp, ds_kept h.1 (fun k i _ hlt => hk _ hlt id), ms_kept h.2.1 (fun k _ hlt => hk _ hlt id), h.2.2.kept (hk _ h.2.2.lt id)⟩
  · intro r u
    refine aw_have (F := r = k0) (fun H h => h.1) (fun hf => ?_)
    subst hf
    exact aw_P (fun H h => h.2) kk
/-- a booking more -/
theorem aw_lawB {y : MethodName} {b2 : ByteArray} {mL2 n index : Nat} {ret2 : Option FieldType} {hh : List (Nat × Nat × Nat × Nat)} {rm2 : Room} {stk : List Value} {Z : ds_S} (As : List Value) (C : CallFix p m c cc nL s args tb_G own) (hK : va_K D cl_all (ds_ty cA) s) (hZ : th_Z s) (hN : nc_Z s) (hA : A = fun q => s.heap.size ≤ q) (hF : lwF s am oa) (hG : lwG s am oa ad nb)
    (hc : Lh l y b2 mL2 ret2 hh rm2 1 6 D (ds_ty cA) (fun q => ds_A ad nb q ∨ q = oa) As (fun H => ds_P D ad cA nb S H ∧ lw_out D cA oa v H) (fun (sz9 : Nat) (r : Int32) (u : ((Nat → Nat → Nat) × ds_S) × Int64) => r = 0 ∧ ∃ r9 z9, sz9 ≤ z9 ∧ (fun (sz : Nat) (r : Int32) (u : ((Nat → Nat → Nat) × ds_S)) => r = nI nb ∧ u.2 = Z ∧ ds_I u.1 (nb + 1) ∧ (∀ k i, ds_dm nb k i → u.1 k i = ad k i) ∧ sz ≤ u.1 15 nb) z9 r9 u.1 ∧ u.2 = r9.toInt64) (fun (u : ((Nat → Nat → Nat) × ds_S) × Int64) H => ds_P D u.1.1 cA (nb + 1) u.1.2 H ∧ lw_out D cA oa u.2 H))
    (cw : lh_CW R s args own index y b2 mL2 ret2 hh rm2 1 6 n) (hn : As.length = n) (hst : stk = As.reverse ++ st) (hroom : (st.map fun v => v.category).sum ≤ 8) (hd : decode cc pc = .ok (.invokestatic index, 3)) (hcs : cells + 1 ≤ R.cells ∧ slots + 6 ≤ R.slots)
    (kk : ∀ (ad' : Nat → Nat → Nat), lwG s am oa ad' (nb + 1) → ad' 0 0 = ad 0 0 → AW p l e R s m args below meth c nL (cells + 1) (slots + 6) Q (lwP D cA am oa ad' (nb + 1) Z M (nI nb).toInt64) A (pc + 3) lv (.int 0 :: st)) : AW p l e R s m args below meth c nL cells slots Q (lwP D cA am oa ad nb S M v) A pc lv stk := by
  subst hA
  refine aw_callH (P9 := fun r u H => (r = 0 ∧ u.2 = (nI nb).toInt64 ∧ u.1.2 = Z ∧ lwG s am oa u.1.1 (nb + 1) ∧ u.1.1 0 0 = ad 0 0) ∧ lwP D cA am oa u.1.1 (nb + 1) u.1.2 M u.2 H) As C hK hZ hN hc cw hn (fun H h => ⟨h.1, h.2.2⟩) (fun q h => Nat.not_le.mpr h) (fun q h => ?_) (fun q h => h) hst hroom hd hcs (fun H H1 r u h hp hB hz hk => ?_) ?_
  · rcases h with ⟨k, i, hk, rfl⟩ | rfl
    · exact (hG.2 k i hk).1
    · exact hF.2.2
  · obtain ⟨q1, r9, z9, q2, ⟨q3, q4, q5, q6, q7⟩, q8⟩ := hp
    have hol := h.2.2.lt
    have hml : ∀ k, k < 15 → am k < H.size := fun k hk => va_at.lt (h.2.1 k hk)
    have hoS := hF.2.2
    refine ⟨⟨q1, by rw [q8, q3], q4, ⟨q5, fun k i hk => ?_⟩, q6 0 0 rfl⟩, hB.1, ms_kept h.2.1 (fun k hk0 hlt => hk _ hlt ?_), hB.2⟩
    · rcases bk_dm hk with ⟨rfl, rfl⟩ | ⟨hk', -⟩
      · refine ⟨by omega, by omega, fun k' hk' => ?_⟩
        have := hml k' hk'
        omega
      · rw [q6 k i hk']
        exact hG.2 k i hk'
    · rintro (⟨k', i', hk', e⟩ | e)
      · exact (hG.2 k' i' hk').2.2 k hk0 e.symm
      · exact (hF.2.1 k hk0).2 e
  · intro r u
    refine aw_have (F := r = 0 ∧ u.2 = (nI nb).toInt64 ∧ u.1.2 = Z ∧ lwG s am oa u.1.1 (nb + 1) ∧ u.1.1 0 0 = ad 0 0) (fun H h => h.1) (fun hf => ?_)
    obtain ⟨rfl, h1, h2, h3, h4⟩ := hf
    refine aw_P (P' := lwP D cA am oa u.1.1 (nb + 1) Z M (nI nb).toInt64) (fun H h => by rw [← h1, ← h2]; exact h.2) ?_
    exact kk u.1.1 h3 h4
/-- a call of the model -/
theorem aw_lawM {y : MethodName} {b2 : ByteArray} {mL2 n index : Nat} {ret2 : Option FieldType} {rm2 : Room} {Cn : String} {stk : List Value} {post : Int32 → ms_S → Prop} (As : List Value) (C : CallFix p m c cc nL s args tb_G own) (hK : va_K D cl_all (ds_ty cA) s) (hA : A = fun q => s.heap.size ≤ q) (hF : lwF s am oa) (hG : lwG s am oa ad nb)
    (hc : Ct_i l y b2 mL2 ret2 rm2 0 0 D (ds_ty cA) (ms_A am) (.ref (am 0) :: As) (ms_P D am cA M) post (ms_P D am cA)) (cw : CallW R s args own Cn index y b2 mL2 ret2 (ct_ws y b2 mL2 ret2) rm2 0 0 n) (hn : As.length = n) (hrecv : ∀ H, ms_P D am cA M H → ∃ cell : Cell, H[am 0]? = some cell ∧ cell.vm.isStatics = false ∧ s.vm.findClass Cn = some cell.cls) (hst : stk = As.reverse ++ .ref (am 0) :: st) (hroom : (st.map fun v => v.category).sum ≤ 8) (hd : decode cc pc = .ok (.invokevirtual index, 3)) (hcs : cells ≤ R.cells ∧ slots ≤ R.slots)
    (kk : ∀ (r9 : Int32) (M' : ms_S), post r9 M' → AW p l e R s m args below meth c nL cells slots Q (lwP D cA am oa ad nb S M' v) A (pc + 3) lv (.int r9 :: st)) : AW p l e R s m args below meth c nL cells slots Q (lwP D cA am oa ad nb S M v) A pc lv stk := by
  subst hA
  refine aw_callVi (P9 := fun r u H => lwP D cA am oa ad nb S u v H) As C hK hc cw hn (fun H h => hrecv H h.2.1) (fun H h => h.2.1) (fun q h => ?_) (fun q h => h) hst hroom hd hcs (fun H H1 r u h hp hB hz hk => ?_) kk
  · obtain ⟨k, hk, rfl⟩ := h
    exact (hF.2.1 k hk).1
  · refine ⟨ds_kept h.1 (fun k i hk0 hlt => hk _ hlt ?_), hB, h.2.2.kept (hk _ h.2.2.lt ?_)⟩
    · rintro ⟨k', hk', e⟩
      exact (hG.2 k i hk0).2.2 k' hk' e
    · rintro ⟨k', hk', e⟩
      exact (hF.2.1 k' hk').2 e.symm
/-- a call of the class -/
theorem aw_lawD {y : MethodName} {b2 : ByteArray} {mL2 n index : Nat} {ret2 : Option FieldType} {rm2 : Room} {Cn : String} {stk : List Value} {post : Int32 → ds_S → Prop} (As : List Value) (C : CallFix p m c cc nL s args tb_G own) (hK : va_K D cl_all (ds_ty cA) s) (hA : A = fun q => s.heap.size ≤ q) (hF : lwF s am oa) (hG : lwG s am oa ad nb)
    (hc : Ct_i l y b2 mL2 ret2 rm2 0 0 D (ds_ty cA) (ds_A ad nb) (.ref (ad 0 0) :: As) (ds_P D ad cA nb S) post (ds_P D ad cA nb)) (cw : CallW R s args own Cn index y b2 mL2 ret2 (ct_ws y b2 mL2 ret2) rm2 0 0 n) (hn : As.length = n) (hrecv : ∀ H, ds_P D ad cA nb S H → ∃ cell : Cell, H[ad 0 0]? = some cell ∧ cell.vm.isStatics = false ∧ s.vm.findClass Cn = some cell.cls) (hst : stk = As.reverse ++ .ref (ad 0 0) :: st) (hroom : (st.map fun v => v.category).sum ≤ 8) (hd : decode cc pc = .ok (.invokevirtual index, 3)) (hcs : cells ≤ R.cells ∧ slots ≤ R.slots)
    (kk : ∀ (r9 : Int32) (S' : ds_S), post r9 S' → AW p l e R s m args below meth c nL cells slots Q (lwP D cA am oa ad nb S' M v) A (pc + 3) lv (.int r9 :: st)) : AW p l e R s m args below meth c nL cells slots Q (lwP D cA am oa ad nb S M v) A pc lv stk := by
  subst hA
  refine aw_callVi (P9 := fun r u H => lwP D cA am oa ad nb u M v H) As C hK hc cw hn (fun H h => hrecv H h.1) (fun H h => h.1) (fun q h => ?_) (fun q h => h) hst hroom hd hcs (fun H H1 r u h hp hB hz hk => ?_) kk
  · obtain ⟨k, i, hk, rfl⟩ := h
    exact (hG.2 k i hk).1
  · refine ⟨hB, ms_kept h.2.1 (fun k hk0 hlt => hk _ hlt ?_), h.2.2.kept (hk _ h.2.2.lt ?_)⟩
    · rintro ⟨k', i', hk', e⟩
      exact (hG.2 k' i' hk').2.2 k hk0 e.symm
    · rintro ⟨k', i', hk', e⟩
      exact (hG.2 k' i' hk').2.1 e.symm
end LAW
