/-! CALLS OF METHODS THAT THROW -/
section TC
variable {p : Program} {l : Launch} {e : Env} {R : Room} {s : State} {m : MethodId} {args : Array Value} {below : List Frame} {meth : Method} {c : Code} {cc : ByteArray} {nL cells slots : Nat} {Q : State → Prop} {P P' : Heap → Prop} {A : Nat → Prop} {own : String} {pc : Nat} {lv lv' : List (Nat × Value)} {st : List Value} {D : va_G} {tys : List (ClassId × FieldType)} {a : Nat} {T : State} {locs : List Loc}
/-- the callee's run: it comes back with the note that q is thrown -/
theorem th_back {y : MethodName} {b2 : ByteArray} {mL2 mc ms len : Nat} {ret2 : Option FieldType} {rm2 : Room} {Pc : Array Value → State → Prop} {E : String} {mk : MethodId} {av : Array Value} {ig : Instr} {g : JFrame}
    (hM : MetFree l y (headSpec (ct_ws y b2 mL2 ret2) rm2) Pc (fun _ _ _ _ _ => True) (th_Q E mc ms)) (X : Stand p l e R s m args below meth c T locs cells slots) (hws : ∀ w ∈ ct_ws y b2 mL2 ret2, ∀ (a' : Array Value) (U : State), s.WarmedH U.vm → w.before a' U = true) (hini : (Cond.initialized y.cls).before args s = true)
    (hg : g.method = m) (hsize : g.locals.size = c.maxLocals) (hdg : decode c.code g.pc = .ok (ig, len)) (hW8 : 2 * g.monitorRoom + (g.stack.map fun v => v.category).sum ≤ 8) (hn : T.methodNamed? y = some mk)
    (hfr : rm2.frames + 1 ≤ R.frames) (hlo : 8 + (mL2 + 11) + rm2.locals ≤ R.locals) (hce : cells + rm2.cells ≤ R.cells) (hsl : slots + rm2.slots ≤ R.slots) (hP : Pc av (T.calling g mk av)) :
    ∃ (q : Addr) (ce : Cell) (L : List Loc) (T' : State), Stand p l e R s m args below meth c T' (locs ++ L) (cells + mc) (slots + ms) ∧ T'.heap[q]? = some ce ∧ ce.vm = .none ∧ T.vm.findClass E = some ce.cls ∧ T.WarmedH T'.vm ∧ T.sameButNew (T'.setVm T.vm) L mc ms ∧ (∀ z ∈ L, T.heap.size ≤ z.base) ∧
      Steps p.tables e below (doInvoke e (T.setTop g) [] mk av).1 ((T'.setTop g).pushFrame (.throwing q)) := by
  have hw := X.warmed
  have h1 : (headSpec (ct_ws y b2 mL2 ret2) rm2).pre.before av T = true := atoms_intro fun w hw' => hws w hw' _ _ hw
  have h2 : (Cond.code y b2 mL2 ret2).before av T = true := hws _ List.mem_cons_self _ _ hw
  have h3 : (Cond.initialized y.cls).before av T = true := word_at hw (Or.inl (by first | rfl | simp [Cond.onTables, Cond.keeps, Cond.steady])) hini
  obtain ⟨methY, cY, hmY, hcY, -, hlY, -, -, -, -⟩ := Cond.code_spec hn h2
  obtain ⟨kY, hkY, -⟩ := className_of_methodNamed hn
  have hinitY : kY.init = .initialized := Cond.initialized_spec (findClass_of_methodNamed hn) hkY h3
  have h : At T g.method c below := by rw [hg]; exact X.here
  have happ : (headSpec (ct_ws y b2 mL2 ret2) rm2).appliesLoose y e.platform (T.calling g mk av) = true :=
    Spec.appliesLoose_calling (g := g) h hdg hn hkY hinitY
      (X.room_calling (g := g) (R' := (headSpec (ct_ws y b2 mL2 ret2) rm2).room) hsize hmY hcY hfr (by rw [hlY]; show _ + (mL2 + 11) + rm2.locals ≤ _; omega) hce hsl) h1
  obtain ⟨mid, hmid⟩ := h.above
  have hfrm : (T.setTop g).frames = (.java g :: mid) ++ below := by rw [State.frames_setTop' g h.top, hmid]; rfl
  obtain ⟨o, s₂, hsteps, -, hend, hq⟩ := Steps.callFree hM p X.admits X.cas X.clock (acts := []) hfrm happ hP trivial
  have htail : T.frames.tail = below := X.tail
  rw [State.frames_setTop' g h.top, htail] at hend
  obtain ⟨q, ce, L, rfl, k1, k2, k3, k4, k5, k6⟩ := hq
  obtain ⟨T', X', w1, w2, e1⟩ := X.outOfThrown hg hend k4 k5
  refine ⟨q, ce, L, T', X', ?_, k2, k3, w1, w2, k6, by rw [← e1]; exact hsteps⟩
  have : s₂.heap = T'.heap := by rw [e1]; exact Stand.throwing_heap T' g q
  rw [← this]; exact k1
/-- a call on an own object that throws: it goes on to the caller's caller -/
theorem aw_callVT {P2 : Heap → Prop} {y : MethodName} {b2 : ByteArray} {mL2 mc ms n index MC MS : Nat} {ret2 : Option FieldType} {rm2 : Room} {Cn E : String} {stk : List Value} (As : List Value) (C : CallFix p m c cc nL s args tb_G own) (hK : va_K D cl_all tys s) (hZ : th_Z s) (hno : c.exceptionTable.isEmpty = true) (hlk : meth.locks = false)
    (hc : Ct_t l y b2 mL2 ret2 rm2 mc ms D tys (.ref a :: As) P2 E) (cw : CallW R s args own Cn index y b2 mL2 ret2 (ct_ws y b2 mL2 ret2) rm2 mc ms n) (hn : As.length = n) (hrecv : ∀ H, P H → ∃ cell : Cell, H[a]? = some cell ∧ cell.vm.isStatics = false ∧ s.vm.findClass Cn = some cell.cls) (hpre : ∀ H, P H → P2 H)
    (hst : stk = As.reverse ++ .ref a :: st) (hroom : (st.map fun v => v.category).sum ≤ 8) (hd : decode cc pc = .ok (.invokevirtual index, 3)) (hcs : cells + mc ≤ R.cells ∧ slots + ms ≤ R.slots) (hmc : cells + mc ≤ MC) (hms : slots + ms ≤ MS) :
    AW p l e R s m args below meth c nL cells slots (th_MQ below E MC MS args s) P (fun q => s.heap.size ≤ q) pc lv stk := fun H locs ls hPH hS hl T hT X => by
  obtain ⟨⟨hrc, hrs, hfr, hlo, hws, -, hcode, hini, hy, hlen, hlink⟩, hin, hse⟩ := cw
  obtain ⟨hx, hb, hml, ho, hts⟩ := C
  obtain ⟨cellB, hcB, hoB, hclB⟩ := hrecv H hPH
  obtain ⟨mk, methM, hnamed, hmethM, hstM, habM⟩ := Cond.instanceMethod_spec hin
  obtain ⟨methM', cM, hmethM', -, -, -, -, -, -, hsigM⟩ := Cond.code_spec hnamed hcode
  cases hmethM.symm.trans hmethM'
  obtain ⟨c2, r2, m2, q1, q2, q3, q4, kP, hkP, hkPi⟩ := Cond.selects_spec hse
  cases hclB.symm.trans q1
  cases (State.methodFound?_of_named hnamed hy).symm.trans q2
  cases hnamed.symm.trans q3
  have hselP : selectMethod e.platform s.vm cellB.cls mk = .method mk := by rw [Launch.admits_selectMethod X.admits]; exact q4
  obtain ⟨vm₁, X₁, hstep₁⟩ := X.invokevirtual hx ho hlink hnamed hmethM hstM hkP hkPi hy (a := a) (cell := cellB) (by rw [hT]; exact hcB) (fun z h => by rw [h] at hoB; cases hoB) hselP hmethM habM hkP hkPi (g := F0 m pc ls stk) rfl (argsL := As) (rest := st) (hn.trans (hlen _ hsigM)) hst (by rw [hb]; exact hd)
  have hH : (T.setVm vm₁).heap = H := hT
  have hPc : th_Pc D tys (.ref a :: As) P2 H.size (Value.ref a :: As).toArray (T.setVm vm₁) := ⟨rfl, by rw [hH], va_K.moved X₁.warmed.alike hK, hZ.up X₁.warmed (fun q h => by rw [hH]; exact hS.2.1 q h (Nat.not_le.mpr h)), by rw [hH]; exact hpre H hPH⟩
  obtain ⟨q, ce, L, T', X', k1, k2, k3, k4, k5, k6, k7⟩ := th_back (hc H.size) X₁ hws hini (g := { F0 m pc ls stk with stack := st }) (mk := mk) (av := (Value.ref a :: As).toArray) rfl (hl.1.trans hml.symm) (by rw [hb]; exact hd) (lv_room (m := m) (pc := pc) (ls := ls) (rest := st) hroom) (X₁.named hnamed) hfr hlo (by rw [hrc]; exact hcs.1) (by rw [hrs]; exact hcs.2) (th_blind _ _ _ _ hPc)
  obtain ⟨w1, w2, w3, w4, w5⟩ := X'.leaveThrown q (g := { F0 m pc ls stk with stack := st }) rfl rfl rfl (fun x hx' => by rw [Array.isEmpty_iff.mp hno] at hx'; simp at hx') hlk
  refine ⟨_, hstep₁ _ fun acts => ?_, .threw q, w2, w3, q, ce, locs ++ L, rfl, k1, k2, ?_, w4, w5.mono hmc hms, fun z hz => ?_⟩
  · rw [doInvoke_state]; exact k7.trans w1
  · rw [← X₁.warmed.alike.findClass]; exact k3
  · rcases List.mem_append.mp hz with h | h
    · exact hS.2.2 z h
    · exact Nat.le_trans hS.1 (by have := k6 z h; rw [hH] at this; exact this)
end TC
