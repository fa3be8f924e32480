/-! CATCHING: the rows of an exception table may name classes that are linked, resolved or not -/
/-- the table's rows lead the object of class cl to the handler h -/
def tc_R (s : State) (pl : Platform) (dc : ClassId) (pc : Nat) (cl : ClassId) (h : Nat) : List ExceptionTableEntry → Prop
  | [] => False
  | x :: t => (covers x pc = false ∧ tc_R s pl dc pc cl h t) ∨ (covers x pc = true ∧ x.catchType ≠ 0 ∧ ∃ c, s.vm.ClassLinks pl dc x.catchType c ∧ ((s.vm.assignable cl c = true ∧ x.handlerPc = h) ∨ (s.vm.assignable cl c = false ∧ tc_R s pl dc pc cl h t)))
theorem tc_one {Q : Handler → Pre} {E : CtlPost} {e : Env} {d : Bool} {acts : List Action} {S : State} {f : JFrame} {a : Addr} {x : ExceptionTableEntry} {t : List ExceptionTableEntry} {c : ClassId} {cell : Cell} (hx : covers x f.pc = true) (h0 : x.catchType ≠ 0)
    (hl : S.vm.ClassLinks e.platform f.method.cls x.catchType c) (hcell : S.heap[a]? = some cell) (hobj : ∀ k, cell.vm ≠ .statics k) (hk : ∃ k, S.vm.classes[cell.cls]? = some k) (hc : ∃ k, S.vm.classes[c]? = some k) :
    wp (findHandler.go f a (x :: t)) Q E e d acts S ↔ if S.vm.assignable cell.cls c = true then Q (.found x.handlerPc) d acts (S.setVm (S.vm.noted f.method.cls x.catchType (.cls c))) else wp (findHandler.go f a t) Q E e d acts (S.setVm (S.vm.noted f.method.cls x.catchType (.cls c))) := by
  obtain ⟨r1, r2⟩ := (resolveClass_links e.toSetting hl).op (op := VmOp.resolveClass f.method.cls x.catchType) rfl
  have hal : S.vm.Alike (S.vm.noted f.method.cls x.catchType (.cls c)) := (Vm.Alike.refl S.vm).noted _ _ _
  obtain ⟨k1, hk1⟩ := hk
  obtain ⟨k2, hk2⟩ := hc
  obtain ⟨k1', hk1', -⟩ := hal.2.2 _ _ hk1
  obtain ⟨k2', hk2', -⟩ := hal.2.2 _ _ hk2
  have hx' := hx
  simp only [covers] at hx'
  have hasg := hal.assignable cell.cls c
  by_cases hf : S.vm.assignable cell.cls c = true
  · rw [if_pos hf]
    rw [hf] at hasg
    simp [findHandler.go, hx', h0, r1, r2, hcell, hobj, hk1', hk2', hasg, VmOp.dirties, VmOp.acts]
  · rw [if_neg hf]
    have hf' : S.vm.assignable cell.cls c = false := by simpa using hf
    rw [hf'] at hasg
    simp [findHandler.go, hx', h0, r1, r2, hcell, hobj, hk1', hk2', hasg, VmOp.dirties, VmOp.acts]
theorem tc_go {e : Env} {s : State} {f : JFrame} {a : Addr} {cell : Cell} {h : Nat} (hobj : ∀ k, cell.vm ≠ .statics k) (hk : ∃ k, s.vm.classes[cell.cls]? = some k) :
    ∀ (ys : List ExceptionTableEntry) (S : State), tc_R s e.platform f.method.cls f.pc cell.cls h ys → s.WarmedH S.vm → S.heap[a]? = some cell →
      ∃ vm', s.WarmedH vm' ∧ ∀ (Q : Handler → Pre) (E : CtlPost) (d : Bool) (acts : List Action), wp (findHandler.go f a ys) Q E e d acts S ↔ Q (.found h) d acts (S.setVm vm') := by
  intro ys
  induction ys with
  | nil => intro S hR _ _; exact hR.elim
  | cons x t ih =>
    intro S hR hW hcell
    rcases hR with ⟨hno, hR⟩ | ⟨hx, h0, c, hl, hend⟩
    · obtain ⟨vm', w1, w2⟩ := ih S hR hW hcell
      exact ⟨vm', w1, fun Q E d acts => by rw [W.findHandler_go_skip hno]; exact w2 Q E d acts⟩
    · obtain ⟨k0, hk0⟩ := hk
      obtain ⟨k0', hk0', -⟩ := hW.alike.2.2 _ _ hk0
      obtain ⟨dk, _, _, kt, hd, _, _, _, _, hkt, _, hopen⟩ := hl.here
      obtain ⟨kt', hkt', -⟩ := hW.alike.2.2 _ _ hkt
      have hW2 := hW.noted hd hopen (State.rightAt_cls hl)
      have key := fun (Q : Handler → Pre) (E : CtlPost) (d : Bool) (acts : List Action) => tc_one (Q := Q) (E := E) (d := d) (acts := acts) (t := t) hx h0 (hW.classLinks hl) hcell hobj ⟨k0', hk0'⟩ ⟨kt', hkt'⟩
      have hasg := hW.alike.assignable cell.cls c
      rcases hend with ⟨ha, rfl⟩ | ⟨ha, hR⟩
      · exact ⟨_, hW2, fun Q E d acts => by rw [key Q E d acts, if_pos (by rw [hasg]; exact ha)]⟩
      · obtain ⟨vm', w1, w2⟩ := ih (S.setVm (S.vm.noted f.method.cls x.catchType (.cls c))) hR hW2 hcell
        exact ⟨vm', w1, fun Q E d acts => by rw [key Q E d acts, if_neg (by rw [hasg, ha]; decide)]; exact w2 Q E d acts⟩
section TD
variable {p : Program} {l : Launch} {e : Env} {R : Room} {s : State} {m : MethodId} {args : Array Value} {below : List Frame} {meth : Method} {c : Code} {cc : ByteArray} {nL cells slots : Nat} {Q : State → Prop} {P P' : Heap → Prop} {A : Nat → Prop} {own : String} {pc : Nat} {lv lv' : List (Nat × Value)} {st : List Value} {D : va_G} {tys : List (ClassId × FieldType)} {a : Nat} {T : State} {locs : List Loc}
/-- from the note of a thrown object on to the handler -/
theorem tc_caught (X : Stand p l e R s m args below meth c T locs cells slots) {g : JFrame} (hg : g.method = m) {q : Addr} {cell : Cell} {h : Nat} (hcell : T.heap[q]? = some cell) (hv : cell.vm = .none) (hk : ∃ k, s.vm.classes[cell.cls]? = some k) (hR : tc_R s e.platform m.cls g.pc cell.cls h c.exceptionTable.toList) :
    ∃ vm', Stand p l e R s m args below meth c (T.setVm vm') locs cells slots ∧ ∀ target, Steps p.tables e below ((T.setVm vm').setTop { g with pc := h, stack := [.ref q] }) target → Steps p.tables e below ((T.setTop g).pushFrame (.throwing q)) target := by
  subst hg
  have hS1 : ((T.setTop g).pushFrame (.throwing q)).vm = T.vm := Stand.throwing_vm T g q
  have hS2 : ((T.setTop g).pushFrame (.throwing q)).heap = T.heap := Stand.throwing_heap T g q
  obtain ⟨vm', hW', hw⟩ := tc_go (e := e) (f := g) (a := q) (fun k hq => by rw [hv] at hq; cases hq) hk c.exceptionTable.toList ((T.setTop g).pushFrame (.throwing q)) hR (by rw [hS1]; exact X.warmed) (by rw [hS2]; exact hcell)
  refine ⟨vm', X.noted hW', fun target hrest => ?_⟩
  have hm : ((T.setTop g).pushFrame (.throwing q)).vm.method? g.method = some meth := by rw [hS1]; exact X.method'
  have hfind : ∀ (Q : Handler → Pre) (E : CtlPost) (d : Bool) (acts : List Action), wp (findHandler g q) Q E e d acts ((T.setTop g).pushFrame (.throwing q)) ↔ Q (.found h) d acts (((T.setTop g).pushFrame (.throwing q)).setVm vm') := fun Q E d acts => by rw [W.findHandler_eq hm X.code]; exact hw Q E d acts
  obtain ⟨hgo, hws⟩ := X.here.throwing (g := g) q
  refine Steps.head hgo hws ?_
  have hstep : (stepThrowing e ((T.setTop g).pushFrame (.throwing q)) q (.java g :: T.frames.tail)).Is ((((T.setTop g).pushFrame (.throwing q)).setVm vm').setFrames (.java { g with pc := h, stack := [.ref q] } :: T.frames.tail)) [] := by
    simp only [stepThrowing, searchFrame, vmDo]
    generalize hr : Sem.go _ e false [] ((T.setTop g).pushFrame (.throwing q)) = res
    obtain ⟨as, rfl, ha⟩ := Sem.eq_ok_of hr (a := Handler.found h) (s' := ((T.setTop g).pushFrame (.throwing q)).setVm vm') (acts' := []) (by simp [hfind _ _ _ _])
    exact ⟨rfl, ha⟩
  rw [stepThread_throwing (frames_entered X.here.top _), hstep.1]
  obtain ⟨g₀, hg0⟩ := Option.isSome_iff_exists.mp X.here.top
  obtain ⟨r, hr⟩ := State.topJava?_eq_some.mp hg0
  have hr' : (T.setVm vm').frames = .java g₀ :: r := hr
  rw [State.setTop_of_frames _ hr'] at hrest
  have e1 : ∀ (u : State) (F G : List Frame), ((u.setFrames F).setVm vm').setFrames G = (u.setVm vm').setFrames G := fun u F G => by
    show ((u.setVm vm').setFrames F).setFrames G = _
    rw [State.setFrames_setFrames]
  rw [hr, List.tail_cons, State.pushFrame, e1, State.setTop_of_frames _ hr, e1]
  exact hrest
end TD
