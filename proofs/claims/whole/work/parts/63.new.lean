/-! MAKING: objects, arrays; constructors' contracts -/
/-- one cell more -/
def aw_Nw (D : va_G) (P : Heap → Prop) (q : Nat) (x : va_E) (H1 : Heap) : Prop := ∃ H : Heap, P H ∧ H.size = q ∧ va_at D cl_all (q, x) H1 ∧ H1.size = q + 1 ∧ ∀ z, z < q → H1[z]? = H[z]?
/-- the array classes over own classes can be found -/
def an_Z (U : State) : Prop := va_AO "DeskMoves$Person" U ∧ va_AO "DeskMoves$Spot" U ∧ va_AO "DeskMoves$Room" U ∧ va_AO "DeskMoves$Booking" U
theorem an_Z.moved {u U : State} (hvm : u.vm.Alike U.vm) (h : an_Z u) : an_Z U := ⟨h.1.moved hvm, h.2.1.moved hvm, h.2.2.1.moved hvm, h.2.2.2.moved hvm⟩
def an_Pc (D : va_G) (tys : List (ClassId × FieldType)) (As : List Value) (P : Heap → Prop) (sz : Nat) : Array Value → State → Prop := va_Pc As (fun U => U.heap.size = sz ∧ va_K D cl_all tys U ∧ an_Z U ∧ P U.heap)
def Ct_n (l : Launch) (y : MethodName) (b : ByteArray) (maxL : Nat) (ret : Option FieldType) (rm : Room) (mc ms : Nat) (D : va_G) (tys : List (ClassId × FieldType)) (A : Nat → Prop) (As : List Value) (P : Heap → Prop) {S : Type} (post : S → Prop) (B : S → Heap → Prop) : Prop := ∀ sz : Nat, Met l y (ct_ws y b maxL ret) rm (an_Pc D tys As P sz) (va_Qv post (fun u t => B u t.heap) (ct_A A sz)) mc ms (ct_A A sz)
theorem an_blind {D : va_G} {tys : List (ClassId × FieldType)} {As : List Value} {P : Heap → Prop} {sz : Nat} : FrameBlind (an_Pc D tys As P sz) := fun a U g mk q => by
  obtain ⟨q0, q1, qK, qZ, qP⟩ := q
  exact ⟨q0, q1, va_K.moved (u := U) (U := U.calling g mk a) (Vm.Alike.refl U.vm) qK, an_Z.moved (u := U) (U := U.calling g mk a) (Vm.Alike.refl U.vm) qZ, qP⟩
section AN
variable {p : Program} {l : Launch} {e : Env} {R : Room} {s : State} {m : MethodId} {args : Array Value} {below : List Frame} {meth : Method} {c : Code} {cc : ByteArray} {nL cells slots : Nat} {Q : State → Prop} {P P' : Heap → Prop} {A : Nat → Prop} {own : String} {pc : Nat} {lv lv' : List (Nat × Value)} {st : List Value} {D : va_G} {tys : List (ClassId × FieldType)} {a : Nat}
theorem an_of {y : MethodName} {b : ByteArray} {maxL : Nat} {ret : Option FieldType} {rm : Room} {mc ms : Nat} {As : List Value} {Qc : Array Value → State → Outcome → State → Prop} {sz : Nat} (hy : plainName y.cls = true) (hAs : (lg_sl As).length ≤ maxL)
    (body : ∀ (p : Program) (e : Env) (s : State) (m : MethodId) (args : Array Value) (below : List Frame) (meth : Method) (c : Code), s.heap.size = sz → CallFix p m c b maxL s args tb_G y.cls → meth.sig.returnType = ret → meth.locks = false → meth.name = y.name → va_K D cl_all tys s → an_Z s →
      AW p l e rm s m args below meth c maxL 0 0 (MQ below Qc args s mc ms (ct_A A sz)) P (ct_A A sz) 0 (lv_args 0 As) []) :
    Met l y (ct_ws y b maxL ret) rm (an_Pc D tys As P sz) Qc mc ms (ct_A A sz) := by
  refine Met.ofW (cc := b) (maxL := maxL) (ret := ret) hy rfl ?_
  intro p e s m args below meth c s₁ B hml hv
  obtain ⟨rfl, hsz, hK, hZ, hP⟩ := hv
  have hts := atoms_spec (ws := ct_ws y b maxL ret) B.pre
  have hown : s.vm.findClass y.cls = some m.cls := findClass_of_methodNamed B.named
  have hnm : meth.name = y.name := (name_of_methodNamed B.named B.method).1
  rw [lg_entry_eq]
  exact body p e s m _ below meth c hsz ⟨B.exec, B.bytes, hml, hown, fun w hw => hts w (List.mem_cons_of_mem _ hw)⟩ B.returns B.notSynchronized hnm hK hZ s.heap [] _ hP va_S.rf (lv_entry As hAs)
theorem aw_callIn {S : Type} {post : S → Prop} {B : S → Heap → Prop} {P2 : Heap → Prop} {P9 : S → Heap → Prop} {A2 : Nat → Prop} {y : MethodName} {b2 : ByteArray} {mL2 mc ms n index : Nat} {rm2 : Room} {stk : List Value} (As : List Value) (C : CallFix p m c cc nL s args tb_G own) (hK : va_K D cl_all tys s) (hZ : an_Z s) (hc : Ct_n l y b2 mL2 none rm2 mc ms D tys A2 (.ref a :: As) P2 post B) (cw : CallB R s args own index y b2 mL2 none (ct_ws y b2 mL2 none) rm2 mc ms n ∧ y.name = "<init>" ∧ (Cond.instanceMethod y).before args s = true) (hn : As.length = n) (hpre : ∀ H, P H → P2 H) (hA : ∀ q, A2 q → A q) (hAs : ∀ q, s.heap.size ≤ q → A q) (hst : stk = As.reverse ++ .ref a :: st) (hroom : (st.map fun v => v.category).sum ≤ 8) (hd : decode cc pc = .ok (.invokespecial index, 3)) (hcs : cells + mc ≤ R.cells ∧ slots + ms ≤ R.slots)
    (hP9 : ∀ (H H1 : Heap) (u : S), P H → post u → B u H1 → H.size ≤ H1.size → (∀ q : Nat, q < H.size → ¬ A2 q → H1[q]? = H[q]?) → P9 u H1) (kk : ∀ (u : S), post u → AW p l e R s m args below meth c nL (cells + mc) (slots + ms) Q (P9 u) A (pc + 3) lv (st)) : AW p l e R s m args below meth c nL cells slots Q P A pc lv stk := fun H locs ls hPH hS hl => by
  have hz := hS.1
  refine va_callv (A1 := ct_A A2 H.size) (va_runI (g := F0 m pc ls stk) (As := As) (rest := st) C (hc H.size) cw ⟨an_blind, fun U hU hW => ⟨rfl, by rw [hU], va_K.moved hW.alike hK, hZ.moved hW.alike, by rw [hU]; exact hpre H hPH⟩⟩ rfl hn hl.1 hst (lv_room hroom) hd hcs) hS (fun q _ h => h.elim (hA q) (fun h => hAs q (Nat.le_trans hz h))) (fun q h => h.elim (hA q) (fun h => hAs q (Nat.le_trans hz h))) (fun u t H1 locs1 ht hvm hw hB hz1 hk1 hS1 => ?_)
  rw [ht] at hB
  exact kk u hw H1 locs1 ls (hP9 H H1 u hPH hw hB hz1 (fun q h1 h2 => hk1 q h1 (fun h => h.elim h2 (fun h => absurd h1 (Nat.not_lt.mpr h))))) hS1 hl
theorem aw_size {z : Nat} (h : ∀ H, P H → H.size = z) (k : s.heap.size ≤ z → AW p l e R s m args below meth c nL cells slots Q P A pc lv st) : AW p l e R s m args below meth c nL cells slots Q P A pc lv st := fun H locs ls hP hS hl => k (by rw [← h H hP]; exact hS.1) H locs ls hP hS hl
theorem aw_obj (C : CallFix p m c cc nL s args tb_G own) {idx : Nat} (hlink : (.methodLink own idx objectInit : Cond) ∈ tb_G) (hd : decode cc pc = .ok (.invokespecial idx, 3)) (hfr : 1 ≤ R.frames) (hlo : (st.map fun v => v.category).sum + 12 ≤ R.locals) (kk : AW p l e R s m args below meth c nL cells slots Q P A (pc + 3) lv st) : AW p l e R s m args below meth c nL cells slots Q P A pc lv (.ref a :: st) := fun H locs ls hP hS hl => by
  refine W.objInit C.1 C.2.1 C.2.2.2.1 (C.2.2.2.2 _ hlink) (C.2.2.2.2 _ im_Ob_init) (C.2.2.2.2 _ cd_Ob_init) (g := F0 m pc ls (.ref a :: st)) rfl (by rw [C.2.2.1]; exact hl.1) rfl hd hfr ?_ (kk H locs ls hP hS hl)
  show 2 * 0 + _ + 12 ≤ _
  omega
theorem aw_new (C : CallFix p m c cc nL s args tb_G own) (hK : va_K D cl_all tys s) {Cn : String} {T : u_T} {N ci index : Nat} {fs : List Value} (hin : ∀ w ∈ u_ws Cn T N, w ∈ tb_G) (ty : Nat → FieldType) (hty : ∀ k, k < N → parseFieldDescriptor (T k).2.2.1 = some (ty k)) (hcl : (.classLink own index Cn : Cond) ∈ tb_G) (hinst : (.instantiable Cn N : Cond) ∈ tb_G) (hini : (.initialized Cn : Cond) ∈ tb_G) (hc : cl_all[ci]? = some (Cn, T, N)) (hfs : ∀ j, j < N → defaultValue (ty j) = vp_V fs j) (hcells : cells + 1 ≤ R.cells) (hslots : slots + N ≤ R.slots) (hd : decode cc pc = .ok (.new index, 3))
    (kk : ∀ q, AW p l e R s m args below meth c nL (cells + 1) (slots + N) Q (aw_Nw D P q (.inr (ci, fs))) A (pc + 3) lv (.ref q :: st)) : AW p l e R s m args below meth c nL cells slots Q P A pc lv st := fun H locs ls hP hS hl => by
  have hKn := hK.1 ci _ hc
  refine W.newcK C.1 C.2.1 C.2.2.2.1 (C.2.2.2.2 _ hcl) (C.2.2.2.2 _ hinst) (C.2.2.2.2 _ hini) (g := F0 m pc ls st) rfl hd hcells hslots hKn.2.1 rfl fun H1 kC hkC e1 z1 o1 => ?_
  exact kk H.size H1 locs ls ⟨H, hP, rfl, ⟨_, hc, (u_born ty C.2.2.2.2 hin hKn hkC e1 hty).to hfs⟩, z1, o1⟩ ⟨Nat.le_trans hS.1 (by omega), fun x h1 h2 => (o1 x (Nat.lt_of_lt_of_le h1 hS.1)).trans (hS.2.1 x h1 h2), hS.2.2⟩ hl
theorem aw_newa (C : CallFix p m c cc nL s args tb_G own) (hK : va_K D cl_all tys s) {atype : ArrayType} (t0 : Nat) {cA : ClassId} {ty : FieldType} (hty : newarray.typeOf atype = ty) (harr : (.arrayClass (newarray.typeOf atype) : Cond) ∈ tb_G) (ht : tys[t0]? = some (cA, ty)) (hnm : va_RA s cA ty → s.vm.findClass ("[" ++ ty.toString) = some cA) {n : Int32} {N' : Nat} {a0 : vp_A} (ha : ∀ cA : ClassId, vp_cell cA a0 = arrV cA N' (fun _ => defaultValue ty)) (hn : ¬ n < 0) (hN : n.toNatClampNeg = N') (hbytes : N' * componentBytes ty ≤ 536870912) (hcells : cells + 1 ≤ R.cells) (hslots : slots + N' ≤ R.slots) (hd : decode cc pc = .ok (.newarray atype, 2))
    (kk : ∀ q, AW p l e R s m args below meth c nL (cells + 1) (slots + N') Q (aw_Nw D P q (.inl (cA, a0))) A (pc + 2) lv (.ref q :: st)) : AW p l e R s m args below meth c nL cells slots Q P A pc lv (.int n :: st) := fun H locs ls hP hS hl => by
  subst hty
  refine va_newaK C.1 C.2.1 (C.2.2.2.2 _ harr) (g := F0 m pc ls (.int n :: st)) rfl hd rfl hn hN hbytes hcells hslots rfl fun H1 cB e1 z1 o1 hAr hNm => ?_
  have e : cB = cA := Option.some.inj (hNm.symm.trans (hnm (hK.2 t0 _ ht).2))
  subst e
  exact kk H.size H1 locs ls ⟨H, hP, rfl, by show H1[H.size]? = some (vp_cell _ _); rw [ha]; exact e1, z1, o1⟩ ⟨Nat.le_trans hS.1 (by omega), fun x h1 h2 => (o1 x (Nat.lt_of_lt_of_le h1 hS.1)).trans (hS.2.1 x h1 h2), hS.2.2⟩ hl
theorem aw_anew (C : CallFix p m c cc nL s args tb_G own) (hK : va_K D cl_all tys s) {Cn : String} {index : Nat} (t0 : Nat) {cA : ClassId} (hcl : (.classLink own index Cn : Cond) ∈ tb_G) (hover : va_AO Cn s) (ht : tys[t0]? = some (cA, .object Cn)) {n : Int32} {N' : Nat} (hn : ¬ n < 0) (hN : n.toNatClampNeg = N') (hbytes : N' * 4 ≤ 536870912) (hcells : cells + 1 ≤ R.cells) (hslots : slots + N' ≤ R.slots) (hd : decode cc pc = .ok (.anewarray index, 3))
    (kk : ∀ q, AW p l e R s m args below meth c nL (cells + 1) (slots + N') Q (aw_Nw D P q (.inl (cA, N', .inr (.inr (.inr (.inr (fun _ => none))))))) A (pc + 3) lv (.ref q :: st)) : AW p l e R s m args below meth c nL cells slots Q P A pc lv (.int n :: st) := fun H locs ls hP hS hl => by
  subst hN
  refine W.anew C.1 C.2.1 C.2.2.2.1 (C.2.2.2.2 _ hcl) (va_AO.use hover) (g := F0 m pc ls (.int n :: st)) rfl hd rfl hn hbytes hcells hslots fun cB kA comp f1 f2 f3 f4 => ?_
  obtain ⟨_, _, _, _, _, h4⟩ := (hK.2 t0 _ ht).2
  have e : cB = cA := Option.some.inj (f1.symm.trans h4)
  subst e
  generalize hH1 : H.push ({ cls := cB, slots := Array.replicate n.toNatClampNeg .null, vm := .none } : Cell) = H1
  have z1 : H1.size = H.size + 1 := by rw [← hH1, Array.size_push]
  have e1 : H1[H.size]? = some (arrV cB n.toNatClampNeg (fun _ => .null)) := by rw [← hH1, Array.getElem?_push_size, ← arrV_new]
  have o1 : ∀ q : Nat, q < H.size → H1[q]? = H[q]? := fun q hq => by rw [← hH1, Array.getElem?_push, if_neg (Nat.ne_of_lt hq)]
  exact kk H.size H1 locs ls ⟨H, hP, rfl, e1, z1, o1⟩ ⟨Nat.le_trans hS.1 (by omega), fun x h1 h2 => (o1 x (Nat.lt_of_lt_of_le h1 hS.1)).trans (hS.2.1 x h1 h2), hS.2.2⟩ hl
end AN
theorem cx_up (g : Nat → Nat) (k : Nat) : va_up (fun i => if i < k then some (g i) else none) k (some (g k)) = fun i => if i < k + 1 then some (g i) else none := by
  funext i
  unfold va_up
  by_cases h : i = k
  · subst h; simp
  · by_cases h2 : i < k
    · simp [h, h2, show i < k + 1 by omega]
    · simp [h, h2, show ¬ i < k + 1 by omega]
