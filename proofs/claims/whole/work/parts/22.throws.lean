/-! THROWING (launches without stack traces): contracts of methods that throw; a call that throws changes nothing that was there -/
def th_up : List String := ["java/lang/RuntimeException", "java/lang/Exception"]
def th_w : Cond → Bool
  | .declares _ => true
  | .castable .. => true
  | _ => false
def th_ws : List Cond := lw_tbl.filter th_w
/-- a static of Throwable's that is laid, and holds a reference or null -/
def th_S (n d : String) (U : State) : Prop := (Cond.laysStatic Bundle.tN n d).before #[] U = true ∧ (Cond.isRef (.static Bundle.tN n d)).before #[] U = true
/-- what a state must have so that exceptions can be made -/
def th_Z (U : State) : Prop := (∀ w ∈ th_ws, va_Nw w U) ∧ (∀ (own : String) (k : Nat) (tx : String), (Cond.stringRef own k tx) ∈ lw_tbl → ∃ a, vk_R own k tx a U) ∧ th_S "UNASSIGNED_STACK" Bundle.steD U ∧ th_S "SUPPRESSED_SENTINEL" Bundle.listD U ∧ (Cond.initialized Bundle.tN).before #[] U = true
theorem th_isRef {C n d : String} {v : Value} {A : Nat → Prop} {s : State} (h : va_Z C n d v A s s.heap) (hv : v = .null ∨ ∃ t, v = .ref t) : (Cond.isRef (.static C n d)).before #[] s = true := by
  obtain ⟨cf, kf, fi, f, a, cell, h1, h2, -, h4, h5, h6, h7, -⟩ := h
  have he : (Term.static C n d).eval #[] s none [] s = some v := by simp [Term.eval, State.fieldNamed?, h1, h2, h4, h5, h6, h7]
  simp only [Cond.before, Cond.holds, Cond.value, he]
  rcases hv with rfl | ⟨t, rfl⟩ <;> simp
theorem th_S.up {n d : String} {s U : State} (hW : s.WarmedH U.vm) (hini : (Cond.initialized Bundle.tN).before #[] s = true) (hq : ∀ q : Nat, q < s.heap.size → U.heap[q]? = s.heap[q]?) (h : th_S n d s) : th_S n d U := by
  obtain ⟨h1, h2⟩ := h
  refine ⟨?_, ?_⟩
  · obtain ⟨c, k, i, f, a, cell, g1, g2, g3, g4, g5, g6, g7, g8, g9⟩ := Cond.laysStatic_spec h1
    obtain ⟨k', hi', he⟩ := State.fieldFound?_setVm hW.alike g2
    exact Cond.laysStatic_of (by rw [hW.alike.findClass]; exact g1) hi' g3 (by rw [he]; exact g4) (by rw [hq a (Array.getElem?_eq_some_iff.mp g5).1]; exact g5) g6 g7 g8 (by rw [he]; exact g9)
  · have hz := va_Zqof (A := fun _ => False) h1 hini h2 (fun _ _ h => h)
    have hz2 := (hz.kept (H1 := U.heap) (fun q h _ => hq q h)).moved hW.alike
    rcases hz2 with hz2 | ⟨t, hz2⟩
    · exact th_isRef hz2 (Or.inl rfl)
    · exact th_isRef hz2 (Or.inr ⟨t, rfl⟩)
theorem th_Z.up {s U : State} (hW : s.WarmedH U.vm) (hq : ∀ q : Nat, q < s.heap.size → U.heap[q]? = s.heap[q]?) (h : th_Z s) : th_Z U := by
  obtain ⟨h1, h2, h3, h4, hini⟩ := h
  refine ⟨fun w hw => ?_, fun own k tx hm => ?_, h3.up hW hini hq, h4.up hW hini hq, word_at hW (Or.inl rfl) hini⟩
  · have hz := h1 w hw
    have ht : th_w w = true := (List.mem_filter.mp hw).2
    cases w <;> first | exact va_Nw.warmD hW hz | exact va_Nw.warmC hW hz | (simp [th_w] at ht; done)
  · obtain ⟨a, ha⟩ := h2 own k tx hm
    exact ⟨a, ha.warm hW⟩
/-- the words that the making of an exception asks, out of the tables' and of th_Z -/
def th_ok (w : Cond) : Bool := decide (w ∈ tb_G) || decide (w ∈ th_ws) || decide (w = .laysStatic Bundle.tN "UNASSIGNED_STACK" Bundle.steD) || decide (w = .isRef (.static Bundle.tN "UNASSIGNED_STACK" Bundle.steD)) || decide (w = .laysStatic Bundle.tN "SUPPRESSED_SENTINEL" Bundle.listD) || decide (w = .isRef (.static Bundle.tN "SUPPRESSED_SENTINEL" Bundle.listD))
theorem th_use {s : State} {args : Array Value} {ws : List Cond} (hts : ∀ w ∈ tb_G, w.before args s = true) (hZ : th_Z s) (h : ws.all th_ok = true) : ∀ w ∈ ws, w.before args s = true := by
  intro w hw
  have h1 := List.all_eq_true.mp h w hw
  unfold th_ok at h1
  simp only [Bool.or_eq_true, decide_eq_true_eq] at h1
  rcases h1 with ((((h1 | h1) | h1) | h1) | h1) | h1
  · exact hts w h1
  · have hz := hZ.1 w h1
    have ht : th_w w = true := (List.mem_filter.mp h1).2
    refine va_Nw.use ?_ hz
    cases w <;> first | rfl | (simp [th_w] at ht; done)
  · subst h1; exact hZ.2.2.1.1
  · subst h1; exact hZ.2.2.1.2
  · subst h1; exact hZ.2.2.2.1.1
  · subst h1; exact hZ.2.2.2.1.2
theorem th_frame {s U : State} {locs : List Loc} {k n : Nat} (h : s.sameButNew ({ U with vm := s.vm } : State) locs k n) : s.heap.size ≤ U.heap.size ∧ ∀ q : Nat, q < s.heap.size → (∀ z ∈ locs, z.base ≠ q) → U.heap[q]? = s.heap[q]? := by
  obtain ⟨-, h2, -, -, -, h6⟩ := h
  refine ⟨h2, fun q hq hne => ?_⟩
  obtain ⟨c', g1, g2, g3, g4⟩ := h6 q s.heap[q] (Array.getElem?_eq_getElem hq)
  have e : c' = s.heap[q] := by
    rw [g2]
    have es : c'.slots = s.heap[q].slots := by
      apply Array.ext_getElem?
      intro i
      exact g4 i (fun hi => hne _ hi rfl)
    rw [es]
  have g1 : U.heap[q]? = some c' := g1
  rw [g1, e, Array.getElem?_eq_getElem hq]
/-- a method has thrown an E; nothing that was there has changed -/
def th_Q (E : String) (mc ms : Nat) : Array Value → State → Outcome → State → Prop := fun _ st o t =>
  ∃ (q : Addr) (ce : Cell) (L : List Loc), o = .threw q ∧ t.heap[q]? = some ce ∧ ce.vm = .none ∧ st.vm.findClass E = some ce.cls ∧ st.WarmedH t.vm ∧ st.sameButNew ({ t with vm := st.vm } : State) L mc ms ∧ ∀ z ∈ L, st.heap.size ≤ z.base
def th_MQ (below : List Frame) (E : String) (mc ms : Nat) (a : Array Value) (s : State) : State → Prop := fun t => ∃ o, t.status = .running ∧ Ended t below o ∧ th_Q E mc ms a s o t
def th_Pc (D : va_G) (tys : List (ClassId × FieldType)) (As : List Value) (P : Heap → Prop) (sz : Nat) : Array Value → State → Prop := va_Pc As (fun U => U.heap.size = sz ∧ va_K D cl_all tys U ∧ th_Z U ∧ P U.heap)
/-- the contract of a method that throws an E -/
def Ct_t (l : Launch) (y : MethodName) (b : ByteArray) (maxL : Nat) (ret : Option FieldType) (rm : Room) (mc ms : Nat) (D : va_G) (tys : List (ClassId × FieldType)) (As : List Value) (P : Heap → Prop) (E : String) : Prop :=
  ∀ sz : Nat, MetFree l y (headSpec (ct_ws y b maxL ret) rm) (th_Pc D tys As P sz) (fun _ _ _ _ _ => True) (th_Q E mc ms)
section TH
variable {p : Program} {l : Launch} {e : Env} {R : Room} {s : State} {m : MethodId} {args : Array Value} {below : List Frame} {meth : Method} {c : Code} {cc : ByteArray} {nL cells slots : Nat} {Q : State → Prop} {P P' : Heap → Prop} {own : String} {pc : Nat} {lv lv' : List (Nat × Value)} {st : List Value} {D : va_G} {tys : List (ClassId × FieldType)} {a : Nat}
theorem th_blind {As : List Value} {sz : Nat} : FrameBlind (th_Pc D tys As P sz) := fun a U g mk q => by
  obtain ⟨q0, q1, qK, qZ, qP⟩ := q
  refine ⟨q0, q1, va_K.moved (u := U) (U := U.calling g mk a) (Vm.Alike.refl U.vm) qK, ?_, qP⟩
  exact qZ.up (U := U.calling g mk a) (State.WarmedH.refl U) (fun _ _ => rfl)
theorem th_of {y : MethodName} {b : ByteArray} {maxL : Nat} {ret : Option FieldType} {rm : Room} {mc ms : Nat} {As : List Value} {E : String} {sz : Nat} (hy : plainName y.cls = true) (hAs : (lg_sl As).length ≤ maxL)
    (body : ∀ (p : Program) (e : Env) (s : State) (m : MethodId) (args : Array Value) (below : List Frame) (meth : Method) (c : Code), s.heap.size = sz → CallFix p m c b maxL s args tb_G y.cls → meth.locks = false → c.exceptionTable.isEmpty = true → va_K D cl_all tys s → th_Z s →
      AW p l e rm s m args below meth c maxL 0 0 (th_MQ below E mc ms args s) P (fun q => s.heap.size ≤ q) 0 (lv_args 0 As) []) :
    MetFree l y (headSpec (ct_ws y b maxL ret) rm) (th_Pc D tys As P sz) (fun _ _ _ _ _ => True) (th_Q E mc ms) := by
  refine MetFree.of_bodyS (code := b) (maxLocals := maxL) (ret := ret) hy ?_ ?_
  · intro args s m h hn
    obtain ⟨meth, c, h1, h2, h3, h4, h5, h6, -, -⟩ := Cond.code_spec hn (atoms_spec (ws := ct_ws y b maxL ret) h _ List.mem_cons_self)
    exact ⟨meth, c, h1, h2, h3, h4, h5, h6⟩
  · intro p e s m args below meth c s₁ B hml hv _
    obtain ⟨rfl, hsz, hK, hZ, hP⟩ := hv
    have hts := atoms_spec (ws := ct_ws y b maxL ret) B.pre
    have hown : s.vm.findClass y.cls = some m.cls := findClass_of_methodNamed B.named
    have hno := B.noHandlers (hts _ List.mem_cons_self)
    have hh0 : s₁.heap = s.heap := by rw [B.state]; rfl
    have w := body p e s m As.toArray below meth c hsz ⟨B.exec, B.bytes, hml, hown, fun w hw => hts w (List.mem_cons_of_mem _ hw)⟩ B.notSynchronized hno hK hZ s.heap [] _ hP va_S.rf (lv_entry As hAs)
    obtain ⟨t, a1, o, b1, b2, b3⟩ := w s₁ hh0 (Stand.of_body B)
    refine ⟨t, o, ?_, b1, b2, b3⟩
    rw [lg_entry_eq]
    exact a1
/-- throw new E("text") -/
theorem aw_throw {cls text : String} {ik is ic mc ms : Nat} (C : CallFix p m c cc nL s args tb_G own) (hl : l.stackTraces = false) (hZ : th_Z s) (hno : c.exceptionTable.isEmpty = true) (hlk : meth.locks = false) (hcls : Bundle.fit cls = true) (hk : (.classLink own ik cls : Cond) ∈ tb_G) (hini : (.initialized cls : Cond) ∈ tb_G) (hin : (.instantiable cls 6 : Cond) ∈ tb_G)
    (hat : (Bundle.ownAtoms own ic cls th_up).all th_ok = true) (hs : (Cond.stringRef own is text) ∈ lw_tbl)
    (d0 : decode cc pc = .ok (.new ik, 3)) (d3 : decode cc (pc + 3) = .ok (.dup, 1)) (d4 : decode cc (pc + 4) = .ok (.ldc is, 2)) (d6 : decode cc (pc + 6) = .ok (.invokespecial ic, 3)) (d9 : decode cc (pc + 9) = .ok (.athrow, 1))
    (hfr : 5 < R.frames) (hlo : (st.map fun v => v.category).sum + 82 ≤ R.locals) (hce : cells + 1 ≤ R.cells) (hsl : slots + 6 ≤ R.slots) (hmc : cells + 1 ≤ mc) (hms : slots + 6 ≤ ms) :
    AW p l e R s m args below meth c nL cells slots (th_MQ below cls mc ms args s) P (fun q => s.heap.size ≤ q) pc lv st := by
  intro H locs ls _ hS hlv T hT X
  obtain ⟨hx, hb, hml, hown, hts⟩ := C
  have htr : e.platform.stackTraces = false := by rw [X.admits.platform]; exact hl
  obtain ⟨sa, hsa⟩ := hZ.2.1 own is text hs
  have hall := th_use hts hZ hat
  obtain ⟨vm₁, cX, kX, hfX, hkX, -, -, X₁, st1⟩ := X.newCold hx hown (hts _ hk) (hts _ hin) (hts _ hini) (g := F0 m pc ls st) rfl (by rw [hb]; exact d0) hce hsl
  generalize hT1 : (T.setVm vm₁).pushCell { cls := cX, slots := kX.instanceTypes.map defaultValue, vm := .none } = T1 at X₁ st1
  have hcell : T1.heap[T.heap.size]? = some (freshCell cX kX) := by rw [← hT1]; exact State.heap_pushCell_size _ _
  have hnew : s.heap.size ≤ T.heap.size := by rw [hT]; exact hS.1
  have hsz : ls.size = c.maxLocals := hlv.1.trans hml.symm
  obtain ⟨U, k1, k2, k3, k4, k5, ce, k6, k7⟩ := X₁.ctorThrowS hx htr (own := own) (cls := cls) (names := th_up) (ic := ic) hown hcls (by decide) hall (fun x hx' cell h9 => absurd (Array.getElem?_eq_some_iff.mp h9).1 (Nat.not_lt.mpr (hS.2.2 x hx'))) hfX hkX hcell hnew (msg := .ref sa) rfl
    (g := F0 m (pc + 6) ls (.ref sa :: .ref T.heap.size :: .ref T.heap.size :: st)) rfl hsz rfl rfl (rest := st) rfl (by rw [hb]; exact d6) (by rw [hb]; exact d9) (fun x hx' => by rw [Array.isEmpty_iff.mp hno] at hx'; simp at hx') hfr (by show 2 * 0 + (1 + (st.map fun v => v.category).sum) + _ ≤ _; simp only [th_up, List.length_cons, List.length_nil]; omega) hlk
  refine ⟨U, ?_, .threw T.heap.size, k2, k3, T.heap.size, ce, locs, rfl, k6, k7.vm, k7.cls, k4, k5.mono hmc hms, hS.2.2⟩
  refine st1 _ ?_
  show Steps p.tables e below (T1.setTop (F0 m (pc + 3) ls (.ref T.heap.size :: st))) U
  have d3' : decode c.code (pc + 3) = .ok (.dup, 1) := by rw [hb]; exact d3
  jvm_step X₁.here [X₁.here.top, hx, d3', Value.category]
  exact X₁.ldcString hx hown (by exact hsa.1) (by exact hsa.2) (g := F0 m (pc + 4) ls (.ref T.heap.size :: .ref T.heap.size :: st)) rfl (by rw [hb]; exact d4) _ k1
end TH
