/-! CALLS OF METHODS THAT THROW -/
section TC
variable {p : Program} {l : Launch} {e : Env} {R : Room} {s : State} {m : MethodId} {args : Array Value} {below : List Frame} {meth : Method} {c : Code} {cc : ByteArray} {nL cells slots : Nat} {Q : State → Prop} {P P' : Heap → Prop} {A : Nat → Prop} {own : String} {pc : Nat} {lv lv' : List (Nat × Value)} {st : List Value} {D : va_G} {tys : List (ClassId × FieldType)} {a : Nat} {T : State} {locs : List Loc}
/-- the callee's run: it comes back with the note that q is thrown -/
theorem th_back {y : MethodName} {b2 : ByteArray} {mL2 mc ms len : Nat} {ret2 : Option FieldType} {rm2 : Room} {Pc : Array Value → State → Prop} {E : String} {mk : MethodId} {av : Array Value} {ig : Instr} {g : JFrame}
    (hM : MetFree l y (headSpec (ct_ws y b2 mL2 ret2) rm2) Pc (fun _ _ _ _ _ => True) (th_Q E mc ms)) (X : Stand p l e R s m args below meth c T locs cells slots) (hws : ∀ w ∈ ct_ws y b2 mL2 ret2, ∀ (a' : Array Value) (U : State), s.WarmedH U.vm → w.before a' U = true) (hini : (Cond.initialized y.cls).before args s = true)
    (hg : g.method = m) (hsize : g.locals.size = c.maxLocals) (hdg : decode c.code g.pc = .ok (ig, len)) (hW8 : 2 * g.monitorRoom + (g.stack.map fun v => v.category).sum ≤ 8) (hn : T.methodNamed? y = some mk)
    (hfr : rm2.frames + 1 ≤ R.frames) (hlo : 8 + (mL2 + 11) + rm2.locals ≤ R.locals) (hce : cells + rm2.cells ≤ R.cells) (hsl : slots + rm2.slots ≤ R.slots) (hP : Pc av (T.calling g mk av)) :
    ∃ (q : Addr) (ce : Cell) (L : List Loc) (T' : State), Stand p l e R s m args below meth c T' (locs ++ L) (cells + mc) (slots + ms) ∧ T'.heap[q]? = some ce ∧ ce.vm = .none ∧ T.vm.findClass E = some ce.cls ∧ T.WarmedH T'.vm ∧ T.sameButNew (T'.setVm T.vm) L mc ms ∧ (∀ z ∈ L, T.heap.size ≤ z.base) ∧
      Steps p.tables e below (doInvoke e (T.setTop g) [] mk av).1 ((T'.setTop g).pushFrame (.throwing q)) := by
  have hw := X.warmed
  have h1 : (headSpec (ct_ws y b2 mL2 ret2) rm2).pre.before av T = true := atoms_intro fun w hw' => hws w hw' _ _ hw
  have h2 : (Cond.code y b2 mL2 ret2).before av T = true := hws _ List.mem_cons_self _ _ hw
  have h3 : (Cond.initialized y.cls).before av T = true := word_at hw (Or.inl (by first | rfl | simp [Cond.onTables, Cond.keeps, Cond.steady])) hini
  obtain ⟨methY, cY, hmY, hcY, -, hlY, -, -, -, -⟩ := Cond.code_spec hn h2
  obtain ⟨kY, hkY, -⟩ := className_of_methodNamed hn
  have hinitY : kY.init = .initialized := Cond.initialized_spec (findClass_of_methodNamed hn) hkY h3
  have h : At T g.method c below := by rw [hg]; exact X.here
  have happ : (headSpec (ct_ws y b2 mL2 ret2) rm2).appliesLoose y e.platform (T.calling g mk av) = true :=
    Spec.appliesLoose_calling (g := g) h hdg hn hkY hinitY
      (X.room_calling (g := g) (R' := (headSpec (ct_ws y b2 mL2 ret2) rm2).room) hsize hmY hcY hfr (by rw [hlY]; show _ + (mL2 + 11) + rm2.locals ≤ _; omega) hce hsl) h1
  obtain ⟨mid, hmid⟩ := h.above
  have hfrm : (T.setTop g).frames = (.java g :: mid) ++ below := by rw [State.frames_setTop' g h.top, hmid]; rfl
  obtain ⟨o, s₂, hsteps, -, hend, hq⟩ := Steps.callFree hM p X.admits X.cas X.clock (acts := []) hfrm happ hP trivial
  have htail : T.frames.tail = below := X.tail
  rw [State.frames_setTop' g h.top, htail] at hend
  obtain ⟨q, ce, L, rfl, k1, k2, k3, k4, k5, k6⟩ := hq
  obtain ⟨T', X', w1, w2, e1⟩ := X.outOfThrown hg hend k4 k5
  refine ⟨q, ce, L, T', X', ?_, k2, k3, w1, w2, k6, by rw [← e1]; exact hsteps⟩
  have : s₂.heap = T'.heap := by rw [e1]; exact Stand.throwing_heap T' g q
  rw [← this]; exact k1
end TC
