/-! METHODS THAT CATCH: static helpers with an exception table -/
/-- an IllegalStateException is no IllegalArgumentException -/
def nc_Z (U : State) : Prop := ∀ c1 c2, U.vm.findClass R_Is = some c1 → U.vm.findClass R_Ia = some c2 → U.vm.assignable c1 c2 = false
theorem nc_Z.moved {u U : State} (hvm : u.vm.Alike U.vm) (h : nc_Z u) : nc_Z U := fun c1 c2 h1 h2 => by
  rw [hvm.findClass] at h1 h2
  rw [hvm.assignable]
  exact h c1 c2 h1 h2
def lh_ws (y : MethodName) (b : ByteArray) (maxL : Nat) (ret : Option FieldType) (hh : List (Nat × Nat × Nat × Nat)) : List Cond := .codeWith y b maxL ret hh :: tb_G
def lh_Pc (D : va_G) (tys : List (ClassId × FieldType)) (As : List Value) (P : Heap → Prop) (sz : Nat) : Array Value → State → Prop := va_Pc As (fun U => U.heap.size = sz ∧ va_K D cl_all tys U ∧ th_Z U ∧ nc_Z U ∧ P U.heap)
def Lh (l : Launch) (y : MethodName) (b : ByteArray) (maxL : Nat) (ret : Option FieldType) (hh : List (Nat × Nat × Nat × Nat)) (rm : Room) (mc ms : Nat) (D : va_G) (tys : List (ClassId × FieldType)) (A : Nat → Prop) (As : List Value) (P : Heap → Prop) {S : Type} (post : Nat → Int32 → S → Prop) (B : S → Heap → Prop) : Prop := ∀ sz : Nat, Met l y (lh_ws y b maxL ret hh) rm (lh_Pc D tys As P sz) (va_Qi (post sz) (fun u t => B u t.heap) (ct_A A sz)) mc ms (ct_A A sz)
theorem lh_blind {D : va_G} {tys : List (ClassId × FieldType)} {As : List Value} {P : Heap → Prop} {sz : Nat} : FrameBlind (lh_Pc D tys As P sz) := fun a U g mk q => by
  obtain ⟨q0, q1, qK, qZ, qN, qP⟩ := q
  exact ⟨q0, q1, va_K.moved (u := U) (U := U.calling g mk a) (Vm.Alike.refl U.vm) qK, qZ.up (U := U.calling g mk a) (State.WarmedH.refl U) (fun _ _ => rfl), nc_Z.moved (u := U) (U := U.calling g mk a) (Vm.Alike.refl U.vm) qN, qP⟩
section LH
variable {p : Program} {l : Launch} {e : Env} {R : Room} {s : State} {m : MethodId} {args : Array Value} {below : List Frame} {meth : Method} {c : Code} {cc : ByteArray} {nL cells slots : Nat} {Q : State → Prop} {P P' : Heap → Prop} {A : Nat → Prop} {own : String} {pc : Nat} {lv lv' : List (Nat × Value)} {st : List Value} {D : va_G} {tys : List (ClassId × FieldType)} {a : Nat}
theorem lh_of {y : MethodName} {b : ByteArray} {maxL : Nat} {ret : Option FieldType} {hh : List (Nat × Nat × Nat × Nat)} {rm : Room} {mc ms : Nat} {As : List Value} {Qc : Array Value → State → Outcome → State → Prop} {sz : Nat} (hy : plainName y.cls = true) (hAs : (lg_sl As).length ≤ maxL)
    (body : ∀ (p : Program) (e : Env) (s : State) (m : MethodId) (args : Array Value) (below : List Frame) (meth : Method) (c : Code), s.heap.size = sz → CallFix p m c b maxL s args tb_G y.cls → meth.sig.returnType = ret → meth.locks = false → c.exceptionTable.toList.map (fun h => (h.startPc, h.endPc, h.handlerPc, h.catchType)) = hh → va_K D cl_all tys s → th_Z s → nc_Z s →
      AW p l e rm s m args below meth c maxL 0 0 (MQ below Qc args s mc ms (ct_A A sz)) P (ct_A A sz) 0 (lv_args 0 As) []) :
    Met l y (lh_ws y b maxL ret hh) rm (lh_Pc D tys As P sz) Qc mc ms (ct_A A sz) := by
  refine va_MetW (cc := b) (maxL := maxL) (ret := ret) (hh := hh) hy rfl ?_
  intro p e s m args below meth c s₁ B hml hv
  obtain ⟨rfl, hsz, hK, hZ, hN, hP⟩ := hv
  have hts := atoms_spec (ws := lh_ws y b maxL ret hh) B.pre
  have hown : s.vm.findClass y.cls = some m.cls := findClass_of_methodNamed B.named
  obtain ⟨m9, meth9, c9, hn9, hm9, hc9, -, -, ht9, -⟩ := Cond.codeWith_spec (hts _ List.mem_cons_self)
  cases B.named.symm.trans hn9
  cases B.method.symm.trans hm9
  cases (Stand.of_body B).code.symm.trans hc9
  rw [lg_entry_eq]
  exact body p e s m _ below meth c hsz ⟨B.exec, B.bytes, hml, hown, fun w hw => hts w (List.mem_cons_of_mem _ hw)⟩ B.returns B.notSynchronized ht9 hK hZ hN s.heap [] _ hP va_S.rf (lv_entry As hAs)
/-- the words of a call of such a helper -/
def lh_CW (R : Room) (s : State) (args : Array Value) (own : String) (index : Nat) (y : MethodName) (b : ByteArray) (maxL : Nat) (ret : Option FieldType) (hh : List (Nat × Nat × Nat × Nat)) (rm : Room) (mc ms n : Nat) : Prop :=
  rm.cells = mc ∧ rm.slots = ms ∧ rm.frames + 1 ≤ R.frames ∧ 8 + (maxL + 11) + rm.locals ≤ R.locals ∧ (∀ w ∈ lh_ws y b maxL ret hh, ∀ (a' : Array Value) (U : State), s.WarmedH U.vm → w.before a' U = true) ∧ (Cond.codeWith y b maxL ret hh).before args s = true ∧ (Cond.initialized y.cls).before args s = true ∧ (y.cls ≠ "java/lang/invoke/MethodHandle" ∧ y.cls ≠ "java/lang/invoke/VarHandle") ∧ (∀ sig, parseMethodDescriptor y.desc = some sig → n = sig.parameters.length) ∧ (Cond.methodLink own index y).before args s = true ∧ (Cond.static y).before args s = true
theorem lh_cw {own : String} {index maxL mc ms : Nat} {y : MethodName} {b : ByteArray} {ret : Option FieldType} {hh : List (Nat × Nat × Nat × Nat)} {rm : Room} (n : Nat) (ht : ∀ w ∈ tb_G, w.before args s = true) (h1 : (.methodLink own index y : Cond) ∈ tb_G) (h2 : (.static y : Cond) ∈ tb_G) (h3 : (.initialized own : Cond) ∈ tb_G) (h4 : (.codeWith y b maxL ret hh : Cond) ∈ tb_G) (hrc : rm.cells = mc) (hrs : rm.slots = ms)
    (hd : y.cls = own ∧ y.cls ≠ "java/lang/invoke/MethodHandle" ∧ y.cls ≠ "java/lang/invoke/VarHandle" ∧ (parseMethodDescriptor y.desc).map (fun d => d.parameters.length) = some n) (hR : rm.frames + 1 ≤ R.frames ∧ 8 + (maxL + 11) + rm.locals ≤ R.locals) : lh_CW R s args own index y b maxL ret hh rm mc ms n := by
  refine ⟨hrc, hrs, hR.1, hR.2, pay_in ht (tb_GoodIn h4), ht _ h4, by rw [hd.1]; exact ht _ h3, hd.2.1 |> fun h => ⟨h, hd.2.2.1⟩, fun sig h => ?_, ht _ h1, ht _ h2⟩
  have h2 := hd.2.2.2
  rw [h] at h2
  exact (Option.some.inj h2).symm
theorem lh_run {y : MethodName} {b2 : ByteArray} {mL2 mc ms n index : Nat} {ret2 : Option FieldType} {hh : List (Nat × Nat × Nat × Nat)} {rm2 : Room} {Pc : Array Value → State → Prop} {Qc : Array Value → State → Outcome → State → Prop} {free : Addr → Prop} {As rest : List Value} {g : JFrame} {H : Heap} {locs : List Loc}
    (S : CallFix p m c cc nL s args tb_G own) (hM : Met l y (lh_ws y b2 mL2 ret2 hh) rm2 Pc Qc mc ms free) (cw : lh_CW R s args own index y b2 mL2 ret2 hh rm2 mc ms n) (hp : PreS s H Pc As)
    (hg : g.method = m) (hn : As.length = n) (hsize : g.locals.size = nL) (hstack : g.stack = As.reverse ++ rest) (hW : 2 * g.monitorRoom + (rest.map fun v => v.category).sum ≤ 8) (hdg : decode cc g.pc = .ok (.invokestatic index, 3)) (hf : cells + mc ≤ R.cells ∧ slots + ms ≤ R.slots) :
    va_Run p l e R s m args below meth c H locs cells slots mc ms g rest (Qc As.toArray) free := by
  obtain ⟨hrc, hrs, hfr, hlo, hws, hcode, hini, hy, hlen, hl, hstt⟩ := cw
  have hB : Back l R p e below s args y 3 8 (PreOf R mc ms Pc) (PostOf Qc mc ms free) := va_backW (hh := hh) (bytes := b2) (maxL := mL2) (ret := ret2) hM hp.1 hrc hrs hfr hlo hws List.mem_cons_self (fun a' U hW => word_at hW (Or.inl (by first | rfl | simp [Cond.onTables, Cond.keeps, Cond.steady])) hini)
  obtain ⟨hx, hb, hml, ho, -⟩ := S
  intro T hT X
  obtain ⟨mk, methM, cM, hnamed, hmethM, -, -, -, -, -, -, hsigM⟩ := Cond.codeWith_spec hcode
  have hstatic : methM.isStatic = true := Cond.static_spec hnamed hmethM hstt
  obtain ⟨kP, hkP, -⟩ := className_of_methodNamed hnamed
  have hinitP : kP.init = .initialized := Cond.initialized_spec (findClass_of_methodNamed hnamed) hkP hini
  obtain ⟨vm₁, X₁, hstep₁⟩ := X.invokestatic hx ho hl hnamed hmethM hstatic hkP hinitP hy (g := g) hg (argsL := As) (rest := rest) (hn.trans (hlen _ hsigM)) hstack (by rw [hb]; exact hdg)
  obtain ⟨v, ⟨U', l2, c2, s2⟩, X', ⟨g', mk', t, L, e1, e2, hq, h1, hL, h2, h3⟩, hsteps⟩ := hB m meth c ⟨T.setVm vm₁, locs, cells, slots⟩ { g with stack := rest } (.invokestatic index) mk As.toArray X₁ hg (hsize.trans hml.symm) (by rw [hb]; exact hdg) hW (X₁.named hnamed) ⟨hf.1, hf.2, hp.2 (T.setVm vm₁) hT X₁.warmed⟩
  dsimp only [Pt.U, Pt.locs, Pt.cells, Pt.slots] at X' e1 e2 h1 h2 h3 hsteps
  subst h1; subst h2; subst h3
  exact ⟨v, (T.setVm vm₁).calling g' mk' As.toArray, t, U', L, hT, X', hL, e1, e2, hq, fun target h => hstep₁ _ fun acts => by rw [doInvoke_state]; exact hsteps.trans h⟩
/-- a call of a helper by the law -/
theorem aw_callH {S : Type} {post : Nat → Int32 → S → Prop} {B : S → Heap → Prop} {P2 : Heap → Prop} {P9 : Int32 → S → Heap → Prop} {A2 : Nat → Prop} {y : MethodName} {b2 : ByteArray} {mL2 mc ms n index : Nat} {ret2 : Option FieldType} {hh : List (Nat × Nat × Nat × Nat)} {rm2 : Room} {stk : List Value} (As : List Value) (C : CallFix p m c cc nL s args tb_G own) (hK : va_K D cl_all tys s) (hZ : th_Z s) (hN : nc_Z s) (hc : Lh l y b2 mL2 ret2 hh rm2 mc ms D tys A2 As P2 post B) (cw : lh_CW R s args own index y b2 mL2 ret2 hh rm2 mc ms n) (hn : As.length = n) (hpre : ∀ H, P H → P2 H) (hAo : ∀ q, q < s.heap.size → ¬ A q) (hA : ∀ q, A2 q → A q) (hAs : ∀ q, s.heap.size ≤ q → A q) (hst : stk = As.reverse ++ st) (hroom : (st.map fun v => v.category).sum ≤ 8) (hd : decode cc pc = .ok (.invokestatic index, 3)) (hcs : cells + mc ≤ R.cells ∧ slots + ms ≤ R.slots)
    (hP9 : ∀ (H H1 : Heap) (r : Int32) (u : S), P H → post H.size r u → B u H1 → H.size ≤ H1.size → (∀ q : Nat, q < H.size → ¬ A2 q → H1[q]? = H[q]?) → P9 r u H1) (kk : ∀ (r : Int32) (u : S), AW p l e R s m args below meth c nL (cells + mc) (slots + ms) Q (P9 r u) A (pc + 3) lv (.int r :: st)) : AW p l e R s m args below meth c nL cells slots Q P A pc lv stk := fun H locs ls hPH hS hl => by
  have hz := hS.1
  refine va_calli (A1 := ct_A A2 H.size) (lh_run (g := F0 m pc ls stk) (As := As) (rest := st) C (hc H.size) cw ⟨lh_blind, fun U hU hW => ⟨rfl, by rw [hU], va_K.moved hW.alike hK, hZ.up hW (fun q h => by rw [hU]; exact hS.2.1 q h (hAo q h)), hN.moved hW.alike, by rw [hU]; exact hpre H hPH⟩⟩ rfl hn hl.1 hst (lv_room hroom) hd hcs) hS (fun q _ h => h.elim (hA q) (fun h => hAs q (Nat.le_trans hz h))) (fun q h => h.elim (hA q) (fun h => hAs q (Nat.le_trans hz h))) (fun r u t H1 locs1 ht hvm hw hB hz1 hk1 hS1 => ?_)
  rw [ht] at hB
  exact kk r u H1 locs1 ls (hP9 H H1 r u hPH hw hB hz1 (fun q h1 h2 => hk1 q h1 (fun h => h.elim h2 (fun h => absurd h1 (Nat.not_lt.mpr h))))) hS1 hl
/-- a call that throws, caught here -/
theorem aw_callVC {P2 P9 : Heap → Prop} {y : MethodName} {b2 : ByteArray} {mL2 mc ms n index h9 : Nat} {ret2 : Option FieldType} {rm2 : Room} {Cn E : String} {stk : List Value} (As : List Value) (C : CallFix p m c cc nL s args tb_G own) (hK : va_K D cl_all tys s) (hZ : th_Z s)
    (hc : Ct_t l y b2 mL2 ret2 rm2 mc ms D tys (.ref a :: As) P2 E) (cw : CallW R s args own Cn index y b2 mL2 ret2 (ct_ws y b2 mL2 ret2) rm2 mc ms n) (hn : As.length = n) (hrecv : ∀ H, P H → ∃ cell : Cell, H[a]? = some cell ∧ cell.vm.isStatics = false ∧ s.vm.findClass Cn = some cell.cls) (hpre : ∀ H, P H → P2 H)
    (hAo : ∀ q, q < s.heap.size → ¬ A q) (hAs : ∀ q, s.heap.size ≤ q → A q) (hst : stk = As.reverse ++ .ref a :: st) (hroom : (st.map fun v => v.category).sum ≤ 8) (hd : decode cc pc = .ok (.invokevirtual index, 3)) (hcs : cells + mc ≤ R.cells ∧ slots + ms ≤ R.slots)
    (hP9 : ∀ H H1 : Heap, P H → H.size ≤ H1.size → (∀ q : Nat, q < H.size → H1[q]? = H[q]?) → P9 H1) (hR : ∀ pl : Platform, pl.magicAccessors = ({} : Platform).magicAccessors → ∀ cl, s.vm.findClass E = some cl → tc_R s pl m.cls pc cl h9 c.exceptionTable.toList) (kk : ∀ q, AW p l e R s m args below meth c nL (cells + mc) (slots + ms) Q P9 A h9 lv [.ref q]) :
    AW p l e R s m args below meth c nL cells slots Q P A pc lv stk := fun H locs ls hPH hS hl T hT X => by
  obtain ⟨⟨hrc, hrs, hfr, hlo, hws, -, hcode, hini, hy, hlen, hlink⟩, hin, hse⟩ := cw
  obtain ⟨hx, hb, hml, ho, hts⟩ := C
  obtain ⟨cellB, hcB, hoB, hclB⟩ := hrecv H hPH
  obtain ⟨mk, methM, hnamed, hmethM, hstM, habM⟩ := Cond.instanceMethod_spec hin
  obtain ⟨methM', cM, hmethM', -, -, -, -, -, -, hsigM⟩ := Cond.code_spec hnamed hcode
  cases hmethM.symm.trans hmethM'
  obtain ⟨c2, r2, m2, q1, q2, q3, q4, kP, hkP, hkPi⟩ := Cond.selects_spec hse
  cases hclB.symm.trans q1
  cases (State.methodFound?_of_named hnamed hy).symm.trans q2
  cases hnamed.symm.trans q3
  have hselP : selectMethod e.platform s.vm cellB.cls mk = .method mk := by rw [Launch.admits_selectMethod X.admits]; exact q4
  obtain ⟨vm₁, X₁, hstep₁⟩ := X.invokevirtual hx ho hlink hnamed hmethM hstM hkP hkPi hy (a := a) (cell := cellB) (by rw [hT]; exact hcB) (fun z h => by rw [h] at hoB; cases hoB) hselP hmethM habM hkP hkPi (g := F0 m pc ls stk) rfl (argsL := As) (rest := st) (hn.trans (hlen _ hsigM)) hst (by rw [hb]; exact hd)
  have hH : (T.setVm vm₁).heap = H := hT
  have hPc : th_Pc D tys (.ref a :: As) P2 H.size (Value.ref a :: As).toArray (T.setVm vm₁) := ⟨rfl, by rw [hH], va_K.moved X₁.warmed.alike hK, hZ.up X₁.warmed (fun q h => by rw [hH]; exact hS.2.1 q h (hAo q h)), by rw [hH]; exact hpre H hPH⟩
  obtain ⟨q, ce, L, T', X', k1, k2, k3, k4, k5, k6, k7⟩ := th_back (hc H.size) X₁ hws hini (g := { F0 m pc ls stk with stack := st }) (mk := mk) (av := (Value.ref a :: As).toArray) rfl (hl.1.trans hml.symm) (by rw [hb]; exact hd) (lv_room (m := m) (pc := pc) (ls := ls) (rest := st) hroom) (X₁.named hnamed) hfr hlo (by rw [hrc]; exact hcs.1) (by rw [hrs]; exact hcs.2) (th_blind _ _ _ _ hPc)
  have hE : s.vm.findClass E = some ce.cls := by rw [← X₁.warmed.alike.findClass]; exact k3
  obtain ⟨kE, hkE, -⟩ := Vm.findClass_spec hE
  have hpl : e.platform.magicAccessors = ({} : Platform).magicAccessors := by rw [X.admits.platform]
  obtain ⟨vm', X'', hgo⟩ := tc_caught X' (g := { F0 m pc ls stk with stack := st }) rfl k1 k2 ⟨kE, hkE⟩ (hR e.platform hpl ce.cls hE)
  obtain ⟨f1, f2⟩ := th_frame (s := T.setVm vm₁) (U := T') k5
  rw [hH] at f1
  have f3 : ∀ q : Nat, q < H.size → T'.heap[q]? = H[q]? := fun q hq => by
    have h7 := f2 q (by rw [hH]; exact hq) (fun z hz h => by have := k6 z hz; rw [hH, h] at this; omega)
    rw [h7, hH]
  obtain ⟨t, a1, b1⟩ := kk q T'.heap (locs ++ L) ls (hP9 H T'.heap hPH f1 f3) ⟨Nat.le_trans hS.1 f1, fun x h1 h2 => (f3 x (Nat.lt_of_lt_of_le h1 hS.1)).trans (hS.2.1 x h1 h2), fun z hz => by
    rcases List.mem_append.mp hz with h | h
    · exact hS.2.2 z h
    · exact hAs _ (Nat.le_trans hS.1 (by have := k6 z h; rw [hH] at this; exact this))⟩ hl (T'.setVm vm') rfl X''
  exact ⟨t, hstep₁ _ fun acts => by rw [doInvoke_state]; exact k7.trans (hgo t a1), b1⟩
end LH
theorem tc_row {t : List ExceptionTableEntry} {s0 e0 h0 ct : Nat} {r : List (Nat × Nat × Nat × Nat)} (h : t.map (fun h => (h.startPc, h.endPc, h.handlerPc, h.catchType)) = (s0, e0, h0, ct) :: r) : ∃ x t', t = x :: t' ∧ x.startPc = s0 ∧ x.endPc = e0 ∧ x.handlerPc = h0 ∧ x.catchType = ct ∧ t'.map (fun h => (h.startPc, h.endPc, h.handlerPc, h.catchType)) = r := by
  cases t with
  | nil => cases h
  | cons x t' =>
    rw [List.map_cons] at h
    injection h with h1 h2
    injection h1 with a1 b1
    injection b1 with a2 b2
    injection b2 with a3 a4
    exact ⟨x, t', rfl, a1, a2, a3, a4, h2⟩
theorem tc_self {s : State} {args : Array Value} {E : String} {n : Nat} {cl : ClassId} (hi : (Cond.instantiable E n).before args s = true) (h : s.vm.findClass E = some cl) : s.vm.assignable cl cl = true := by
  obtain ⟨cC, kC, hfc, hk, hkind, -⟩ := Cond.instantiable_spec hi
  cases h.symm.trans hfc
  simp [Vm.assignable, Vm.assignableAux, hk, hkind, Vm.isSubclass, Vm.isSubclassAux]
/-- the first row catches -/
theorem tc_first {s : State} {args : Array Value} {m : MethodId} {t : List ExceptionTableEntry} {s0 e0 h0 ct pc n : Nat} {r : List (Nat × Nat × Nat × Nat)} {own E : String} (ho : s.vm.findClass own = some m.cls) (hl : (Cond.classLink own ct E).before args s = true) (hi : (Cond.instantiable E n).before args s = true) (ht : t.map (fun h => (h.startPc, h.endPc, h.handlerPc, h.catchType)) = (s0, e0, h0, ct) :: r) (h1 : s0 ≤ pc) (h2 : pc < e0) (h3 : ct ≠ 0) :
    ∀ pl : Platform, pl.magicAccessors = ({} : Platform).magicAccessors → ∀ cl, s.vm.findClass E = some cl → tc_R s pl m.cls pc cl h0 t := by
  intro pl hpl cl hcl
  obtain ⟨x, t', rfl, a1, a2, a3, a4, -⟩ := tc_row ht
  obtain ⟨c, hc, hcl2⟩ := Cond.classLink_spec ho hl pl hpl
  cases hcl.symm.trans hc
  exact Or.inr ⟨by simp [covers, a1, a2, h1, h2], by rw [a4]; exact h3, _, by rw [a4]; exact hcl2, Or.inl ⟨tc_self hi hcl, a3⟩⟩
/-- the first row lets it pass, the second catches -/
theorem tc_second {s : State} {args : Array Value} {m : MethodId} {t : List ExceptionTableEntry} {s0 e0 h0 ct h1 ct1 pc n : Nat} {own E F : String} (ho : s.vm.findClass own = some m.cls) (hl0 : (Cond.classLink own ct F).before args s = true) (hl : (Cond.classLink own ct1 E).before args s = true) (hi : (Cond.instantiable E n).before args s = true) (hno : ∀ c1 c2, s.vm.findClass E = some c1 → s.vm.findClass F = some c2 → s.vm.assignable c1 c2 = false) (ht : t.map (fun h => (h.startPc, h.endPc, h.handlerPc, h.catchType)) = [(s0, e0, h0, ct), (s0, e0, h1, ct1)]) (g1 : s0 ≤ pc) (g2 : pc < e0) (g3 : ct ≠ 0) (g4 : ct1 ≠ 0) :
    ∀ pl : Platform, pl.magicAccessors = ({} : Platform).magicAccessors → ∀ cl, s.vm.findClass E = some cl → tc_R s pl m.cls pc cl h1 t := by
  intro pl hpl cl hcl
  obtain ⟨x, t', rfl, a1, a2, a3, a4, ht'⟩ := tc_row ht
  obtain ⟨c, hc, hcl2⟩ := Cond.classLink_spec ho hl0 pl hpl
  exact Or.inr ⟨by simp [covers, a1, a2, g1, g2], by rw [a4]; exact g3, _, by rw [a4]; exact hcl2, Or.inr ⟨hno _ _ hcl hc, tc_first ho hl hi ht' g1 g2 g4 pl hpl cl hcl⟩⟩
