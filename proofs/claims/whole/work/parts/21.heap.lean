theorem aw_one {D : va_G} {a : Nat} {x : va_E} {H : Heap} (h : va_at D cl_all (a, x) H) : va_P D cl_all [(a, x)] H := by
  intro k q hk
  match k, hk with
  | 0, hk => cases hk; exact h
  | k + 1, hk => simp at hk
theorem nr_rf (n : String) (o : Option Nat) : narrow (.object n) (va_rf o) = va_rf o ∧ fits (.object n) (va_rf o) = true := by cases o <;> exact ⟨rfl, rfl⟩
/-- what a write of one cell gives of the rest -/
def aw_Wr (D : va_G) (P P' : Heap → Prop) (a : Nat) (x : va_E) : Prop := ∀ H H1 : Heap, P H → va_at D cl_all (a, x) H1 → H1.size = H.size → (∀ q : Nat, q ≠ a → H1[q]? = H[q]?) → P' H1
section AWH
variable {p : Program} {l : Launch} {e : Env} {R : Room} {s : State} {m : MethodId} {args : Array Value} {below : List Frame} {meth : Method} {c : Code} {cc : ByteArray} {nL cells slots : Nat} {Q : State → Prop} {P P' : Heap → Prop} {A : Nat → Prop} {own : String} {pc : Nat} {lv lv' : List (Nat × Value)} {st : List Value} {D : va_G} {tys : List (ClassId × FieldType)} {a : Nat}
theorem aw_get (C : CallFix p m c cc nL s args tb_G own) (hK : va_K D cl_all tys s) {Cn : String} {T : u_T} {N ci k index : Nat} {fs : List Value} {v : Value} (hin : ∀ w ∈ u_ws Cn T N, w ∈ tb_G) (hc : cl_all[ci]? = some (Cn, T, N)) (hk : k < N) (hlink : (.fieldLink own index (T k).1 (T k).2.1 (T k).2.2.1 : Cond) ∈ tb_G) (hP : ∀ H, P H → va_at D cl_all (a, .inr (ci, fs)) H) (hv : fs[k]? = some v) (hd : decode cc pc = .ok (.getfield index, 3)) (kk : AW p l e R s m args below meth c nL cells slots Q P A (pc + 3) lv (v :: st)) : AW p l e R s m args below meth c nL cells slots Q P A pc lv (.ref a :: st) := fun H locs ls hPH hS hl =>
  va_get C.1 C.2.1 C.2.2.2.2 hin C.2.2.2.1 hK (aw_one (hP H hPH)) 0 rfl hc k hk (C.2.2.2.2 _ hlink) (fun _ h => h) hv hd (kk H locs ls hPH hS hl)
theorem aw_put (C : CallFix p m c cc nL s args tb_G own) (hK : va_K D cl_all tys s) {Cn : String} {T : u_T} {N ci k index : Nat} {fs : List Value} {v : Value} {ty : FieldType} (hin : ∀ w ∈ u_ws Cn T N, w ∈ tb_G) (ty0 : Nat → FieldType) (hty : ∀ k, k < N → parseFieldDescriptor (T k).2.2.1 = some (ty0 k)) (hnm : ∀ a, a < N → ∀ b, b < N → a ≠ b → (T a).2.1 ≠ (T b).2.1) (hc : cl_all[ci]? = some (Cn, T, N)) (hk : k < N) (hlink : (.fieldLink own index (T k).1 (T k).2.1 (T k).2.2.1 : Cond) ∈ tb_G) (hfin : (T k).2.2.2 = false) (hd0 : parseFieldDescriptor (T k).2.2.1 = some ty) (hn : narrow ty v = v) (hfit : fits ty v = true) (hA : A a) (hP : ∀ H, P H → va_at D cl_all (a, .inr (ci, fs)) H) (hl0 : k < fs.length) (hd : decode cc pc = .ok (.putfield index, 3)) (hP' : aw_Wr D P P' a (.inr (ci, fs.set k v))) (kk : AW p l e R s m args below meth c nL cells slots Q P' A (pc + 3) lv st) : AW p l e R s m args below meth c nL cells slots Q P A pc lv (v :: .ref a :: st) := fun H locs ls hPH hS hl => by
  have hts := C.2.2.2.2
  have hap := va_apart (own := own) hts hin ty0 hty hnm hK hc
  obtain ⟨r, h1, cell, q1, q2, q3, q4⟩ := hP H hPH
  cases h1.symm.trans hc
  obtain ⟨hSl, hfc, kC, hkC, hkind⟩ := hK.1 ci _ hc
  obtain ⟨cf, kf, fi, f, hi, hsl⟩ := hSl k hk
  have hlay := hts _ (hin _ (u_in_lay hk))
  unfold u_lay at hlay
  rw [if_neg (by rw [hfin]; decide)] at hlay
  have hst := (u_facts hfc hkC (u_lays hts hin hk) hi).1
  have h6 := u_store hfc hkC hkind hlay hi hd0 hn hfit
  refine W.putK C.1 C.2.1 (f := f) ⟨C.2.2.2.1, hts _ hlink, ⟨_, _, _, hi⟩, hst⟩ (by rw [q2]; exact h6) q1 q3 (by rw [hsl]; exact k2_hasslot (q4 k hk)) rfl rfl hd fun H' e1 e2 e3 => ?_
  rw [hsl] at e1 ⊢
  exact kk H' _ ls (hP' H H' hPH ⟨_, hc, t_OB.to (V := updV (vp_V fs) k v) ⟨_, e1, q2, q3, t_set q4 hap hk v⟩ (fun j _ => vp_updV_set hl0 v j)⟩ e2 e3) (hS.put e2 e3 hA) hl
theorem aw_putF (C : CallFix p m c cc nL s args tb_G own) (hK : va_K D cl_all tys s) {Cn : String} {T : u_T} {N ci k index : Nat} {fs : List Value} {v : Value} {ty : FieldType} (hin : ∀ w ∈ u_ws Cn T N, w ∈ tb_G) (ty0 : Nat → FieldType) (hty : ∀ k, k < N → parseFieldDescriptor (T k).2.2.1 = some (ty0 k)) (hnm : ∀ a, a < N → ∀ b, b < N → a ≠ b → (T a).2.1 ≠ (T b).2.1) (hc : cl_all[ci]? = some (Cn, T, N)) (hk : k < N) (hlink : (.fieldLink own index (T k).1 (T k).2.1 (T k).2.2.1 : Cond) ∈ tb_G) (hfin : (T k).2.2.2 = true) (hdecl : (T k).1 = own) (hini : meth.name = "<init>") (hd0 : parseFieldDescriptor (T k).2.2.1 = some ty) (hn : narrow ty v = v) (hfit : fits ty v = true) (hA : A a) (hP : ∀ H, P H → va_at D cl_all (a, .inr (ci, fs)) H) (hl0 : k < fs.length) (hd : decode cc pc = .ok (.putfield index, 3)) (hP' : aw_Wr D P P' a (.inr (ci, fs.set k v))) (kk : AW p l e R s m args below meth c nL cells slots Q P' A (pc + 3) lv st) : AW p l e R s m args below meth c nL cells slots Q P A pc lv (v :: .ref a :: st) := fun H locs ls hPH hS hl => by
  have hts := C.2.2.2.2
  have hown := C.2.2.2.1
  have hap := va_apart (own := own) hts hin ty0 hty hnm hK hc
  obtain ⟨r, h1, cell, q1, q2, q3, q4⟩ := hP H hPH
  cases h1.symm.trans hc
  obtain ⟨hSl, hfc, kC, hkC, hkind⟩ := hK.1 ci _ hc
  obtain ⟨cf, kf, fi, f, hi, hsl⟩ := hSl k hk
  have hlay := hts _ (hin _ (u_in_lay hk))
  unfold u_lay at hlay
  rw [if_pos hfin] at hlay
  have hst := (u_facts hfc hkC (u_lays hts hin hk) hi).1
  have hcf : m.cls = cf := by
    obtain ⟨_, _, c', _, _, _, -, -, hf', -, -, -, hown2, -⟩ := Cond.laysFinal_spec hlay
    have e1 : c' = cf := by have := hi.symm.trans hf'; simp at this; exact this.1.symm
    rw [hdecl] at hown2
    rw [← e1]; exact Option.some.inj (hown.symm.trans hown2)
  have h6 := u_fits hfc hkC hkind (Or.inr hlay) hi hd0 hn hfit
  refine W.putFinK C.1 C.2.1 hown (hts _ hlink) hi hst hcf hini (by rw [q2]; exact h6) q1 q3 (by rw [hsl]; exact k2_hasslot (q4 k hk)) rfl rfl hd fun H' e1 e2 e3 => ?_
  rw [hsl] at e1 ⊢
  exact kk H' _ ls (hP' H H' hPH ⟨_, hc, t_OB.to (V := updV (vp_V fs) k v) ⟨_, e1, q2, q3, t_set q4 hap hk v⟩ (fun j _ => vp_updV_set hl0 v j)⟩ e2 e3) (hS.put e2 e3 hA) hl
theorem aw_iald (C : CallFix p m c cc nL s args tb_G own) (hK : va_K D cl_all tys s) (t0 : Nat) {cA : ClassId} {n : Nat} {f : Nat → Int32} {i : Int32} (ht : tys[t0]? = some (cA, .int)) (hP : ∀ H, P H → va_at D cl_all (a, .inl (cA, n, .inl f)) H) (hi : vp_in i n) (hd : decode cc pc = .ok (.iaload, 1)) (kk : AW p l e R s m args below meth c nL cells slots Q P A (pc + 1) lv (.int (f i.toNatClampNeg) :: st)) : AW p l e R s m args below meth c nL cells slots Q P A pc lv (.int i :: .ref a :: st) := fun H locs ls hPH hS hl => va_iald C.1 C.2.1 hK (aw_one (hP H hPH)) 0 t0 rfl ht hi hd (kk H locs ls hPH hS hl)
theorem aw_zald (C : CallFix p m c cc nL s args tb_G own) (hK : va_K D cl_all tys s) (t0 : Nat) {cA : ClassId} {n : Nat} {f : Nat → Int32} {i : Int32} (ht : tys[t0]? = some (cA, .boolean)) (hP : ∀ H, P H → va_at D cl_all (a, .inl (cA, n, .inl f)) H) (hi : vp_in i n) (hd : decode cc pc = .ok (.baload, 1)) (kk : AW p l e R s m args below meth c nL cells slots Q P A (pc + 1) lv (.int (f i.toNatClampNeg) :: st)) : AW p l e R s m args below meth c nL cells slots Q P A pc lv (.int i :: .ref a :: st) := fun H locs ls hPH hS hl => va_zald C.1 C.2.1 hK (aw_one (hP H hPH)) 0 t0 rfl ht hi hd (kk H locs ls hPH hS hl)
theorem aw_lald (C : CallFix p m c cc nL s args tb_G own) (hK : va_K D cl_all tys s) (t0 : Nat) {cA : ClassId} {n : Nat} {f : Nat → Int64} {i : Int32} (ht : tys[t0]? = some (cA, .long)) (hP : ∀ H, P H → va_at D cl_all (a, .inl (cA, n, .inr (.inl f))) H) (hi : vp_in i n) (hd : decode cc pc = .ok (.laload, 1)) (kk : AW p l e R s m args below meth c nL cells slots Q P A (pc + 1) lv (.long (f i.toNatClampNeg) :: st)) : AW p l e R s m args below meth c nL cells slots Q P A pc lv (.int i :: .ref a :: st) := fun H locs ls hPH hS hl => va_lald C.1 C.2.1 hK (aw_one (hP H hPH)) 0 t0 rfl ht hi hd (kk H locs ls hPH hS hl)
theorem aw_aald (C : CallFix p m c cc nL s args tb_G own) (hK : va_K D cl_all tys s) (t0 : Nat) {cA : ClassId} {Cn : String} {n : Nat} {f : Nat → Option Nat} {i : Int32} (ht : tys[t0]? = some (cA, .object Cn)) (hP : ∀ H, P H → va_at D cl_all (a, .inl (cA, n, .inr (.inr (.inr (.inr f))))) H) (hi : vp_in i n) (hd : decode cc pc = .ok (.aaload, 1)) (kk : AW p l e R s m args below meth c nL cells slots Q P A (pc + 1) lv (va_rf (f i.toNatClampNeg) :: st)) : AW p l e R s m args below meth c nL cells slots Q P A pc lv (.int i :: .ref a :: st) := fun H locs ls hPH hS hl => va_aldq C.1 C.2.1 hK (aw_one (hP H hPH)) 0 t0 rfl ht hi hd (kk H locs ls hPH hS hl)
theorem aw_alen (C : CallFix p m c cc nL s args tb_G own) (hK : va_K D cl_all tys s) (t0 : Nat) {cA : ClassId} {x : vp_A} {ty : FieldType} {v : Int32} (ht : tys[t0]? = some (cA, ty)) (hP : ∀ H, P H → va_at D cl_all (a, .inl (cA, x)) H) (hv : Int32.ofNat x.1 = v) (hd : decode cc pc = .ok (.arraylength, 1)) (kk : AW p l e R s m args below meth c nL cells slots Q P A (pc + 1) lv (.int v :: st)) : AW p l e R s m args below meth c nL cells slots Q P A pc lv (.ref a :: st) := fun H locs ls hPH hS hl => va_alen C.1 C.2.1 hK (aw_one (hP H hPH)) 0 t0 rfl ht hv hd (kk H locs ls hPH hS hl)
theorem aw_iast (C : CallFix p m c cc nL s args tb_G own) (hK : va_K D cl_all tys s) (t0 : Nat) {cA : ClassId} {n : Nat} {f : Nat → Int32} {i : Int32} {x : Int32} (ht : tys[t0]? = some (cA, .int)) (hA : A a) (hP : ∀ H, P H → va_at D cl_all (a, .inl (cA, n, .inl f)) H) (hi : vp_in i n) (hd : decode cc pc = .ok (.iastore, 1)) (hP' : aw_Wr D P P' a (.inl (cA, n, .inl (upd f i.toNatClampNeg x)))) (kk : AW p l e R s m args below meth c nL cells slots Q P' A (pc + 1) lv st) : AW p l e R s m args below meth c nL cells slots Q P A pc lv (.int x :: .int i :: .ref a :: st) := fun H locs ls hPH hS hl => by
  refine W.iast C.1 C.2.1 (hP H hPH) ((hK.2 t0 _ ht).1 n (fun j => .int (f j))) (fun q => by cases q) (by show ¬ (i < 0 ∨ (arrV _ _ _).slots.size ≤ _); rw [arrV_size]; exact hi) rfl rfl hd fun H1 e1 z oq => ?_
  refine kk H1 _ ls (hP' H H1 hPH ?_ z oq) (hS.put z oq hA) hl
  show H1[a]? = some (vp_cell _ _)
  rw [e1, vp_cell_i, vp_cell_i, arrV_store]
  congr 2
  funext q
  by_cases hq : q = i.toNatClampNeg
  · subst hq
    simp [updV, upd]
    try rfl
  · simp [updV, upd, hq]
theorem aw_zast (C : CallFix p m c cc nL s args tb_G own) (hK : va_K D cl_all tys s) (t0 : Nat) {cA : ClassId} {n : Nat} {f : Nat → Int32} {i : Int32} {x : Int32} (ht : tys[t0]? = some (cA, .boolean)) (hA : A a) (hP : ∀ H, P H → va_at D cl_all (a, .inl (cA, n, .inl f)) H) (hi : vp_in i n) (hd : decode cc pc = .ok (.bastore, 1)) (hP' : aw_Wr D P P' a (.inl (cA, n, .inl (upd f i.toNatClampNeg (vp_nar .boolean x))))) (kk : AW p l e R s m args below meth c nL cells slots Q P' A (pc + 1) lv st) : AW p l e R s m args below meth c nL cells slots Q P A pc lv (.int x :: .int i :: .ref a :: st) := fun H locs ls hPH hS hl => by
  refine W.zast C.1 C.2.1 (hP H hPH) ((hK.2 t0 _ ht).1 n (fun j => .int (f j))) (fun q => by cases q) (by show ¬ (i < 0 ∨ (arrV _ _ _).slots.size ≤ _); rw [arrV_size]; exact hi) rfl rfl hd fun H1 e1 z oq => ?_
  refine kk H1 _ ls (hP' H H1 hPH ?_ z oq) (hS.put z oq hA) hl
  show H1[a]? = some (vp_cell _ _)
  rw [e1, vp_cell_i, vp_cell_i, arrV_store]
  congr 2
  funext q
  by_cases hq : q = i.toNatClampNeg
  · subst hq
    simp [updV, upd, vp_nar]
    try rfl
  · simp [updV, upd, vp_nar, hq]
theorem aw_last (C : CallFix p m c cc nL s args tb_G own) (hK : va_K D cl_all tys s) (t0 : Nat) {cA : ClassId} {n : Nat} {f : Nat → Int64} {i : Int32} {x : Int64} (ht : tys[t0]? = some (cA, .long)) (hA : A a) (hP : ∀ H, P H → va_at D cl_all (a, .inl (cA, n, .inr (.inl f))) H) (hi : vp_in i n) (hd : decode cc pc = .ok (.lastore, 1)) (hP' : aw_Wr D P P' a (.inl (cA, n, .inr (.inl (vp_updL f i.toNatClampNeg x))))) (kk : AW p l e R s m args below meth c nL cells slots Q P' A (pc + 1) lv st) : AW p l e R s m args below meth c nL cells slots Q P A pc lv (.long x :: .int i :: .ref a :: st) := fun H locs ls hPH hS hl => by
  refine W.last C.1 C.2.1 (hP H hPH) ((hK.2 t0 _ ht).1 n (fun j => .long (f j))) (fun q => by cases q) (by show ¬ (i < 0 ∨ (arrV _ _ _).slots.size ≤ _); rw [arrV_size]; exact hi) rfl rfl hd fun H1 e1 z oq => ?_
  refine kk H1 _ ls (hP' H H1 hPH ?_ z oq) (hS.put z oq hA) hl
  show H1[a]? = some (vp_cell _ _)
  rw [e1, vp_cell_l, vp_cell_l, arrV_store]
  congr 2
  funext q
  by_cases hq : q = i.toNatClampNeg
  · subst hq
    simp [updV, vp_updL]
    try rfl
  · simp [updV, vp_updL, hq]
theorem aw_aast (C : CallFix p m c cc nL s args tb_G own) (hK : va_K D cl_all tys s) (t0 ci : Nat) {cA : ClassId} {r : vw_C} {n v : Nat} {vs : List Value} {f : Nat → Option Nat} {i : Int32} (ht : tys[t0]? = some (cA, .object r.1)) (hc : cl_all[ci]? = some r) (hA : A a) (hP : ∀ H, P H → va_at D cl_all (a, .inl (cA, n, .inr (.inr (.inr (.inr f))))) H) (hV : ∀ H, P H → va_at D cl_all (v, .inr (ci, vs)) H) (hi : vp_in i n) (hd : decode cc pc = .ok (.aastore, 1)) (hP' : aw_Wr D P P' a (.inl (cA, n, .inr (.inr (.inr (.inr (va_up f i.toNatClampNeg (some v)))))))) (kk : AW p l e R s m args below meth c nL cells slots Q P' A (pc + 1) lv st) : AW p l e R s m args below meth c nL cells slots Q P A pc lv (.ref v :: .int i :: .ref a :: st) := fun H locs ls hPH hS hl => by
  have hlt : i.toNatClampNeg < n := Nat.not_le.mp fun q => hi (Or.inr q)
  have h0 : ¬ i < 0 := fun q => hi (Or.inl q)
  obtain ⟨r', hr', cellV, g1, g2, g3, -⟩ := hV H hPH
  have hcls := (hK.1 ci r hc).2
  obtain ⟨kA, comp, k1, k2, k3, -⟩ := (hK.2 t0 _ ht).2
  have hcomp : comp = D.1 ci := Option.some.inj (k3.symm.trans hcls.1)
  subst hcomp
  obtain ⟨kC, hkC, -⟩ := hcls.2
  refine W.aast C.1 C.2.1 (hP H hPH) (fun q h => by cases h) (fun h => by cases h) k1 k2 rfl hkC ⟨h0, by show _ < (arrV _ _ _).slots.size; rw [arrV_size]; exact hlt⟩ g1 (fun q h => by rw [g3] at h; cases h) (by rw [g2]; exact hkC) (by rw [g2]; exact va_assign hcls) rfl rfl hd fun H1 e1 z oq => ?_
  refine kk H1 _ ls (hP' H H1 hPH ?_ z oq) (hS.put z oq hA) hl
  show H1[a]? = some (vp_cell _ _)
  rw [e1, vp_cell_q, vp_cell_q, arrV_store]
  congr 2
  funext q
  by_cases hq : q = i.toNatClampNeg
  · subst hq
    simp [updV, va_up, va_rf]
  · simp [updV, va_up, hq]
end AWH
/-! CONTRACTS: from any heap that holds P the method returns, its answer and the new state u have 'post', the heap holds B u, nothing old outside A has changed -/
def ct_A (A : Nat → Prop) (sz : Nat) : Nat → Prop := fun q => A q ∨ sz ≤ q
def ct_Pc (D : va_G) (tys : List (ClassId × FieldType)) (As : List Value) (P : Heap → Prop) (sz : Nat) : Array Value → State → Prop := va_Pc As (fun U => U.heap.size = sz ∧ va_K D cl_all tys U ∧ P U.heap)
def ct_ws (y : MethodName) (b : ByteArray) (maxL : Nat) (ret : Option FieldType) : List Cond := .code y b maxL ret :: tb_G
def Ct_i (l : Launch) (y : MethodName) (b : ByteArray) (maxL : Nat) (ret : Option FieldType) (rm : Room) (mc ms : Nat) (D : va_G) (tys : List (ClassId × FieldType)) (A : Nat → Prop) (As : List Value) (P : Heap → Prop) {S : Type} (post : Int32 → S → Prop) (B : S → Heap → Prop) : Prop := ∀ sz : Nat, Met l y (ct_ws y b maxL ret) rm (ct_Pc D tys As P sz) (va_Qi post (fun u t => B u t.heap) (ct_A A sz)) mc ms (ct_A A sz)
def Ct_l (l : Launch) (y : MethodName) (b : ByteArray) (maxL : Nat) (ret : Option FieldType) (rm : Room) (mc ms : Nat) (D : va_G) (tys : List (ClassId × FieldType)) (A : Nat → Prop) (As : List Value) (P : Heap → Prop) {S : Type} (post : Int64 → S → Prop) (B : S → Heap → Prop) : Prop := ∀ sz : Nat, Met l y (ct_ws y b maxL ret) rm (ct_Pc D tys As P sz) (va_Ql post (fun u t => B u t.heap) (ct_A A sz)) mc ms (ct_A A sz)
def Ct_v (l : Launch) (y : MethodName) (b : ByteArray) (maxL : Nat) (ret : Option FieldType) (rm : Room) (mc ms : Nat) (D : va_G) (tys : List (ClassId × FieldType)) (A : Nat → Prop) (As : List Value) (P : Heap → Prop) {S : Type} (post : S → Prop) (B : S → Heap → Prop) : Prop := ∀ sz : Nat, Met l y (ct_ws y b maxL ret) rm (ct_Pc D tys As P sz) (va_Qv post (fun u t => B u t.heap) (ct_A A sz)) mc ms (ct_A A sz)
def Ct_q (l : Launch) (y : MethodName) (b : ByteArray) (maxL : Nat) (ret : Option FieldType) (rm : Room) (mc ms : Nat) (D : va_G) (tys : List (ClassId × FieldType)) (A : Nat → Prop) (As : List Value) (P : Heap → Prop) {S : Type} (post : Option Nat → S → Prop) (B : S → Heap → Prop) : Prop := ∀ sz : Nat, Met l y (ct_ws y b maxL ret) rm (ct_Pc D tys As P sz) (va_Qq post (fun u t => B u t.heap) (ct_A A sz)) mc ms (ct_A A sz)
section CT
variable {p : Program} {l : Launch} {e : Env} {R : Room} {s : State} {m : MethodId} {args : Array Value} {below : List Frame} {meth : Method} {c : Code} {cc : ByteArray} {nL cells slots : Nat} {Q : State → Prop} {P P' : Heap → Prop} {A : Nat → Prop} {own : String} {pc : Nat} {lv lv' : List (Nat × Value)} {st : List Value} {D : va_G} {tys : List (ClassId × FieldType)} {a : Nat}
theorem ct_blind {D : va_G} {tys : List (ClassId × FieldType)} {As : List Value} {P : Heap → Prop} {sz : Nat} : FrameBlind (ct_Pc D tys As P sz) := fun a U g mk q => by
  obtain ⟨q0, q1, qK, qP⟩ := q
  exact ⟨q0, q1, va_K.moved (u := U) (U := U.calling g mk a) (Vm.Alike.refl U.vm) qK, qP⟩
/-- a contract by a walk -/
theorem ct_of {y : MethodName} {b : ByteArray} {maxL : Nat} {ret : Option FieldType} {rm : Room} {mc ms : Nat} {As : List Value} {Qc : Array Value → State → Outcome → State → Prop} {sz : Nat} (hy : plainName y.cls = true) (hAs : (lg_sl As).length ≤ maxL)
    (body : ∀ (p : Program) (e : Env) (s : State) (m : MethodId) (args : Array Value) (below : List Frame) (meth : Method) (c : Code), s.heap.size = sz → CallFix p m c b maxL s args tb_G y.cls → meth.sig.returnType = ret → meth.locks = false → meth.name = y.name → va_K D cl_all tys s →
      AW p l e rm s m args below meth c maxL 0 0 (MQ below Qc args s mc ms (ct_A A sz)) P (ct_A A sz) 0 (lv_args 0 As) []) :
    Met l y (ct_ws y b maxL ret) rm (ct_Pc D tys As P sz) Qc mc ms (ct_A A sz) := by
  refine Met.ofW (cc := b) (maxL := maxL) (ret := ret) hy rfl ?_
  intro p e s m args below meth c s₁ B hml hv
  obtain ⟨rfl, hsz, hK, hP⟩ := hv
  have hts := atoms_spec (ws := ct_ws y b maxL ret) B.pre
  have hown : s.vm.findClass y.cls = some m.cls := findClass_of_methodNamed B.named
  have hnm : meth.name = y.name := (name_of_methodNamed B.named B.method).1
  rw [lg_entry_eq]
  exact body p e s m _ below meth c hsz ⟨B.exec, B.bytes, hml, hown, fun w hw => hts w (List.mem_cons_of_mem _ hw)⟩ B.returns B.notSynchronized hnm hK s.heap [] _ hP va_S.rf (lv_entry As hAs)
theorem aw_iret {S : Type} {post : Int32 → S → Prop} {B : S → Heap → Prop} {v : Int32} (C : CallFix p m c cc nL s args tb_G own) (hr : meth.sig.returnType = some .int) (hlk : meth.locks = false) (u : S) (hp : post v u) (hB : ∀ H, P H → B u H) (hd : decode cc pc = .ok (.ireturn, 1)) : AW p l e R s m args below meth c nL cells slots (MQ below (va_Qi post (fun u t => B u t.heap) A) args s cells slots A) P A pc lv [.int v] := fun H locs ls hP hS hl => W.iret C.1 C.2.1 hr (fun t ht hW => ⟨⟨v, u, rfl, hp, by show B u t.heap; rw [ht]; exact hB H hP⟩, hS.F ht⟩) hS.2.2 hd hlk
theorem aw_zret {S : Type} {post : Int32 → S → Prop} {B : S → Heap → Prop} {v : Int32} (C : CallFix p m c cc nL s args tb_G own) (hr : meth.sig.returnType = some .boolean) (hlk : meth.locks = false) (hn : narrow .boolean (.int v) = .int v) (u : S) (hp : post v u) (hB : ∀ H, P H → B u H) (hd : decode cc pc = .ok (.ireturn, 1)) : AW p l e R s m args below meth c nL cells slots (MQ below (va_Qi post (fun u t => B u t.heap) A) args s cells slots A) P A pc lv [.int v] := fun H locs ls hP hS hl => W.zret C.1 C.2.1 hr hn (fun t ht hW => ⟨⟨v, u, rfl, hp, by show B u t.heap; rw [ht]; exact hB H hP⟩, hS.F ht⟩) hS.2.2 hd hlk
theorem aw_lret {S : Type} {post : Int64 → S → Prop} {B : S → Heap → Prop} {v : Int64} (C : CallFix p m c cc nL s args tb_G own) (hr : meth.sig.returnType = some .long) (hlk : meth.locks = false) (u : S) (hp : post v u) (hB : ∀ H, P H → B u H) (hd : decode cc pc = .ok (.lreturn, 1)) : AW p l e R s m args below meth c nL cells slots (MQ below (va_Ql post (fun u t => B u t.heap) A) args s cells slots A) P A pc lv [.long v] := fun H locs ls hP hS hl => W.lret C.1 C.2.1 hr (fun t ht hW => ⟨⟨v, u, rfl, hp, by show B u t.heap; rw [ht]; exact hB H hP⟩, hS.F ht⟩) hS.2.2 hd hlk
theorem aw_vret {S : Type} {post : S → Prop} {B : S → Heap → Prop} (C : CallFix p m c cc nL s args tb_G own) (hr : meth.sig.returnType = none) (hlk : meth.locks = false) (u : S) (hp : post u) (hB : ∀ H, P H → B u H) (hd : decode cc pc = .ok (.return_, 1)) : AW p l e R s m args below meth c nL cells slots (MQ below (va_Qv post (fun u t => B u t.heap) A) args s cells slots A) P A pc lv [] := fun H locs ls hP hS hl => W.vret C.1 C.2.1 hr (fun t ht hW => ⟨⟨u, rfl, hp, by show B u t.heap; rw [ht]; exact hB H hP⟩, hS.F ht⟩) hS.2.2 hd hlk
theorem aw_qret {S : Type} {post : Option Nat → S → Prop} {B : S → Heap → Prop} {v : Option Nat} {n : String} (C : CallFix p m c cc nL s args tb_G own) (hr : meth.sig.returnType = some (.object n)) (hlk : meth.locks = false) (u : S) (hp : post v u) (hB : ∀ H, P H → B u H) (hd : decode cc pc = .ok (.areturn, 1)) : AW p l e R s m args below meth c nL cells slots (MQ below (va_Qq post (fun u t => B u t.heap) A) args s cells slots A) P A pc lv [va_rf v] := fun H locs ls hP hS hl => W.aret C.1 C.2.1 hr (Or.inl ⟨n, rfl⟩) (by cases v with | none => exact Or.inl rfl | some x => exact Or.inr ⟨x, rfl⟩) (fun t ht hW => ⟨⟨v, u, rfl, hp, by show B u t.heap; rw [ht]; exact hB H hP⟩, hS.F ht⟩) hS.2.2 hd hlk
theorem aw_recv {H : Heap} {Cn : String} {T : u_T} {N ci : Nat} {fs : List Value} (hK : va_K D cl_all tys s) (hc : cl_all[ci]? = some (Cn, T, N)) (h : va_at D cl_all (a, .inr (ci, fs)) H) : ∃ cell : Cell, H[a]? = some cell ∧ cell.vm.isStatics = false ∧ s.vm.findClass Cn = some cell.cls := va_recv hK (aw_one h) hc (q0 := 0) rfl
theorem aw_callVi {S : Type} {post : Int32 → S → Prop} {B : S → Heap → Prop} {P2 : Heap → Prop} {P9 : Int32 → S → Heap → Prop} {A2 : Nat → Prop} {y : MethodName} {b2 : ByteArray} {mL2 mc ms n index : Nat} {ret2 : Option FieldType} {rm2 : Room} {Cn : String} {stk : List Value} (As : List Value) (C : CallFix p m c cc nL s args tb_G own) (hK : va_K D cl_all tys s) (hc : Ct_i l y b2 mL2 ret2 rm2 mc ms D tys A2 (.ref a :: As) P2 post B) (cw : CallW R s args own Cn index y b2 mL2 ret2 (ct_ws y b2 mL2 ret2) rm2 mc ms n) (hn : As.length = n) (hrecv : ∀ H, P H → ∃ cell : Cell, H[a]? = some cell ∧ cell.vm.isStatics = false ∧ s.vm.findClass Cn = some cell.cls) (hpre : ∀ H, P H → P2 H) (hA : ∀ q, A2 q → A q) (hAs : ∀ q, s.heap.size ≤ q → A q) (hst : stk = As.reverse ++ .ref a :: st) (hroom : (st.map fun v => v.category).sum ≤ 8) (hd : decode cc pc = .ok (.invokevirtual index, 3)) (hcs : cells + mc ≤ R.cells ∧ slots + ms ≤ R.slots)
    (hP9 : ∀ (H H1 : Heap) (r : Int32) (u : S), P H → post r u → B u H1 → H.size ≤ H1.size → (∀ q : Nat, q < H.size → ¬ A2 q → H1[q]? = H[q]?) → P9 r u H1) (kk : ∀ (r : Int32) (u : S), post r u → AW p l e R s m args below meth c nL (cells + mc) (slots + ms) Q (P9 r u) A (pc + 3) lv (.int r :: st)) : AW p l e R s m args below meth c nL cells slots Q P A pc lv stk := fun H locs ls hPH hS hl => by
  have hz := hS.1
  refine va_calli (A1 := ct_A A2 H.size) (va_runV (g := F0 m pc ls stk) (As := As) (rest := st) C (hc H.size) cw ⟨ct_blind, hrecv H hPH, fun U hU hW => ⟨rfl, by rw [hU], va_K.moved hW.alike hK, by rw [hU]; exact hpre H hPH⟩⟩ rfl hn hl.1 hst (lv_room hroom) hd hcs) hS (fun q _ h => h.elim (hA q) (fun h => hAs q (Nat.le_trans hz h))) (fun q h => h.elim (hA q) (fun h => hAs q (Nat.le_trans hz h))) (fun r u t H1 locs1 ht hvm hw hB hz1 hk1 hS1 => ?_)
  rw [ht] at hB
  exact kk r u hw H1 locs1 ls (hP9 H H1 r u hPH hw hB hz1 (fun q h1 h2 => hk1 q h1 (fun h => h.elim h2 (fun h => absurd h1 (Nat.not_lt.mpr h))))) hS1 hl
theorem aw_callSi {S : Type} {post : Int32 → S → Prop} {B : S → Heap → Prop} {P2 : Heap → Prop} {P9 : Int32 → S → Heap → Prop} {A2 : Nat → Prop} {y : MethodName} {b2 : ByteArray} {mL2 mc ms n index : Nat} {ret2 : Option FieldType} {rm2 : Room} {Cn : String} {stk : List Value} (As : List Value) (C : CallFix p m c cc nL s args tb_G own) (hK : va_K D cl_all tys s) (hc : Ct_i l y b2 mL2 ret2 rm2 mc ms D tys A2 As P2 post B) (cw : CallB R s args own index y b2 mL2 ret2 (ct_ws y b2 mL2 ret2) rm2 mc ms n ∧ (Cond.static y).before args s = true) (hn : As.length = n)  (hpre : ∀ H, P H → P2 H) (hA : ∀ q, A2 q → A q) (hAs : ∀ q, s.heap.size ≤ q → A q) (hst : stk = As.reverse ++ st) (hroom : (st.map fun v => v.category).sum ≤ 8) (hd : decode cc pc = .ok (.invokestatic index, 3)) (hcs : cells + mc ≤ R.cells ∧ slots + ms ≤ R.slots)
    (hP9 : ∀ (H H1 : Heap) (r : Int32) (u : S), P H → post r u → B u H1 → H.size ≤ H1.size → (∀ q : Nat, q < H.size → ¬ A2 q → H1[q]? = H[q]?) → P9 r u H1) (kk : ∀ (r : Int32) (u : S), post r u → AW p l e R s m args below meth c nL (cells + mc) (slots + ms) Q (P9 r u) A (pc + 3) lv (.int r :: st)) : AW p l e R s m args below meth c nL cells slots Q P A pc lv stk := fun H locs ls hPH hS hl => by
  have hz := hS.1
  refine va_calli (A1 := ct_A A2 H.size) (va_runS (g := F0 m pc ls stk) (As := As) (rest := st) C (hc H.size) cw ⟨ct_blind, fun U hU hW => ⟨rfl, by rw [hU], va_K.moved hW.alike hK, by rw [hU]; exact hpre H hPH⟩⟩ rfl hn hl.1 hst (lv_room hroom) hd hcs) hS (fun q _ h => h.elim (hA q) (fun h => hAs q (Nat.le_trans hz h))) (fun q h => h.elim (hA q) (fun h => hAs q (Nat.le_trans hz h))) (fun r u t H1 locs1 ht hvm hw hB hz1 hk1 hS1 => ?_)
  rw [ht] at hB
  exact kk r u hw H1 locs1 ls (hP9 H H1 r u hPH hw hB hz1 (fun q h1 h2 => hk1 q h1 (fun h => h.elim h2 (fun h => absurd h1 (Nat.not_lt.mpr h))))) hS1 hl
theorem aw_callVl {S : Type} {post : Int64 → S → Prop} {B : S → Heap → Prop} {P2 : Heap → Prop} {P9 : Int64 → S → Heap → Prop} {A2 : Nat → Prop} {y : MethodName} {b2 : ByteArray} {mL2 mc ms n index : Nat} {ret2 : Option FieldType} {rm2 : Room} {Cn : String} {stk : List Value} (As : List Value) (C : CallFix p m c cc nL s args tb_G own) (hK : va_K D cl_all tys s) (hc : Ct_l l y b2 mL2 ret2 rm2 mc ms D tys A2 (.ref a :: As) P2 post B) (cw : CallW R s args own Cn index y b2 mL2 ret2 (ct_ws y b2 mL2 ret2) rm2 mc ms n) (hn : As.length = n) (hrecv : ∀ H, P H → ∃ cell : Cell, H[a]? = some cell ∧ cell.vm.isStatics = false ∧ s.vm.findClass Cn = some cell.cls) (hpre : ∀ H, P H → P2 H) (hA : ∀ q, A2 q → A q) (hAs : ∀ q, s.heap.size ≤ q → A q) (hst : stk = As.reverse ++ .ref a :: st) (hroom : (st.map fun v => v.category).sum ≤ 8) (hd : decode cc pc = .ok (.invokevirtual index, 3)) (hcs : cells + mc ≤ R.cells ∧ slots + ms ≤ R.slots)
    (hP9 : ∀ (H H1 : Heap) (r : Int64) (u : S), P H → post r u → B u H1 → H.size ≤ H1.size → (∀ q : Nat, q < H.size → ¬ A2 q → H1[q]? = H[q]?) → P9 r u H1) (kk : ∀ (r : Int64) (u : S), post r u → AW p l e R s m args below meth c nL (cells + mc) (slots + ms) Q (P9 r u) A (pc + 3) lv (.long r :: st)) : AW p l e R s m args below meth c nL cells slots Q P A pc lv stk := fun H locs ls hPH hS hl => by
  have hz := hS.1
  refine va_calll (A1 := ct_A A2 H.size) (va_runV (g := F0 m pc ls stk) (As := As) (rest := st) C (hc H.size) cw ⟨ct_blind, hrecv H hPH, fun U hU hW => ⟨rfl, by rw [hU], va_K.moved hW.alike hK, by rw [hU]; exact hpre H hPH⟩⟩ rfl hn hl.1 hst (lv_room hroom) hd hcs) hS (fun q _ h => h.elim (hA q) (fun h => hAs q (Nat.le_trans hz h))) (fun q h => h.elim (hA q) (fun h => hAs q (Nat.le_trans hz h))) (fun r u t H1 locs1 ht hvm hw hB hz1 hk1 hS1 => ?_)
  rw [ht] at hB
  exact kk r u hw H1 locs1 ls (hP9 H H1 r u hPH hw hB hz1 (fun q h1 h2 => hk1 q h1 (fun h => h.elim h2 (fun h => absurd h1 (Nat.not_lt.mpr h))))) hS1 hl
theorem aw_callSl {S : Type} {post : Int64 → S → Prop} {B : S → Heap → Prop} {P2 : Heap → Prop} {P9 : Int64 → S → Heap → Prop} {A2 : Nat → Prop} {y : MethodName} {b2 : ByteArray} {mL2 mc ms n index : Nat} {ret2 : Option FieldType} {rm2 : Room} {Cn : String} {stk : List Value} (As : List Value) (C : CallFix p m c cc nL s args tb_G own) (hK : va_K D cl_all tys s) (hc : Ct_l l y b2 mL2 ret2 rm2 mc ms D tys A2 As P2 post B) (cw : CallB R s args own index y b2 mL2 ret2 (ct_ws y b2 mL2 ret2) rm2 mc ms n ∧ (Cond.static y).before args s = true) (hn : As.length = n)  (hpre : ∀ H, P H → P2 H) (hA : ∀ q, A2 q → A q) (hAs : ∀ q, s.heap.size ≤ q → A q) (hst : stk = As.reverse ++ st) (hroom : (st.map fun v => v.category).sum ≤ 8) (hd : decode cc pc = .ok (.invokestatic index, 3)) (hcs : cells + mc ≤ R.cells ∧ slots + ms ≤ R.slots)
    (hP9 : ∀ (H H1 : Heap) (r : Int64) (u : S), P H → post r u → B u H1 → H.size ≤ H1.size → (∀ q : Nat, q < H.size → ¬ A2 q → H1[q]? = H[q]?) → P9 r u H1) (kk : ∀ (r : Int64) (u : S), post r u → AW p l e R s m args below meth c nL (cells + mc) (slots + ms) Q (P9 r u) A (pc + 3) lv (.long r :: st)) : AW p l e R s m args below meth c nL cells slots Q P A pc lv stk := fun H locs ls hPH hS hl => by
  have hz := hS.1
  refine va_calll (A1 := ct_A A2 H.size) (va_runS (g := F0 m pc ls stk) (As := As) (rest := st) C (hc H.size) cw ⟨ct_blind, fun U hU hW => ⟨rfl, by rw [hU], va_K.moved hW.alike hK, by rw [hU]; exact hpre H hPH⟩⟩ rfl hn hl.1 hst (lv_room hroom) hd hcs) hS (fun q _ h => h.elim (hA q) (fun h => hAs q (Nat.le_trans hz h))) (fun q h => h.elim (hA q) (fun h => hAs q (Nat.le_trans hz h))) (fun r u t H1 locs1 ht hvm hw hB hz1 hk1 hS1 => ?_)
  rw [ht] at hB
  exact kk r u hw H1 locs1 ls (hP9 H H1 r u hPH hw hB hz1 (fun q h1 h2 => hk1 q h1 (fun h => h.elim h2 (fun h => absurd h1 (Nat.not_lt.mpr h))))) hS1 hl
theorem aw_callVv {S : Type} {post : S → Prop} {B : S → Heap → Prop} {P2 : Heap → Prop} {P9 : S → Heap → Prop} {A2 : Nat → Prop} {y : MethodName} {b2 : ByteArray} {mL2 mc ms n index : Nat} {ret2 : Option FieldType} {rm2 : Room} {Cn : String} {stk : List Value} (As : List Value) (C : CallFix p m c cc nL s args tb_G own) (hK : va_K D cl_all tys s) (hc : Ct_v l y b2 mL2 ret2 rm2 mc ms D tys A2 (.ref a :: As) P2 post B) (cw : CallW R s args own Cn index y b2 mL2 ret2 (ct_ws y b2 mL2 ret2) rm2 mc ms n) (hn : As.length = n) (hrecv : ∀ H, P H → ∃ cell : Cell, H[a]? = some cell ∧ cell.vm.isStatics = false ∧ s.vm.findClass Cn = some cell.cls) (hpre : ∀ H, P H → P2 H) (hA : ∀ q, A2 q → A q) (hAs : ∀ q, s.heap.size ≤ q → A q) (hst : stk = As.reverse ++ .ref a :: st) (hroom : (st.map fun v => v.category).sum ≤ 8) (hd : decode cc pc = .ok (.invokevirtual index, 3)) (hcs : cells + mc ≤ R.cells ∧ slots + ms ≤ R.slots)
    (hP9 : ∀ (H H1 : Heap) (u : S), P H → post u → B u H1 → H.size ≤ H1.size → (∀ q : Nat, q < H.size → ¬ A2 q → H1[q]? = H[q]?) → P9 u H1) (kk : ∀ (u : S), post u → AW p l e R s m args below meth c nL (cells + mc) (slots + ms) Q (P9 u) A (pc + 3) lv (st)) : AW p l e R s m args below meth c nL cells slots Q P A pc lv stk := fun H locs ls hPH hS hl => by
  have hz := hS.1
  refine va_callv (A1 := ct_A A2 H.size) (va_runV (g := F0 m pc ls stk) (As := As) (rest := st) C (hc H.size) cw ⟨ct_blind, hrecv H hPH, fun U hU hW => ⟨rfl, by rw [hU], va_K.moved hW.alike hK, by rw [hU]; exact hpre H hPH⟩⟩ rfl hn hl.1 hst (lv_room hroom) hd hcs) hS (fun q _ h => h.elim (hA q) (fun h => hAs q (Nat.le_trans hz h))) (fun q h => h.elim (hA q) (fun h => hAs q (Nat.le_trans hz h))) (fun u t H1 locs1 ht hvm hw hB hz1 hk1 hS1 => ?_)
  rw [ht] at hB
  exact kk u hw H1 locs1 ls (hP9 H H1 u hPH hw hB hz1 (fun q h1 h2 => hk1 q h1 (fun h => h.elim h2 (fun h => absurd h1 (Nat.not_lt.mpr h))))) hS1 hl
theorem aw_callSv {S : Type} {post : S → Prop} {B : S → Heap → Prop} {P2 : Heap → Prop} {P9 : S → Heap → Prop} {A2 : Nat → Prop} {y : MethodName} {b2 : ByteArray} {mL2 mc ms n index : Nat} {ret2 : Option FieldType} {rm2 : Room} {Cn : String} {stk : List Value} (As : List Value) (C : CallFix p m c cc nL s args tb_G own) (hK : va_K D cl_all tys s) (hc : Ct_v l y b2 mL2 ret2 rm2 mc ms D tys A2 As P2 post B) (cw : CallB R s args own index y b2 mL2 ret2 (ct_ws y b2 mL2 ret2) rm2 mc ms n ∧ (Cond.static y).before args s = true) (hn : As.length = n)  (hpre : ∀ H, P H → P2 H) (hA : ∀ q, A2 q → A q) (hAs : ∀ q, s.heap.size ≤ q → A q) (hst : stk = As.reverse ++ st) (hroom : (st.map fun v => v.category).sum ≤ 8) (hd : decode cc pc = .ok (.invokestatic index, 3)) (hcs : cells + mc ≤ R.cells ∧ slots + ms ≤ R.slots)
    (hP9 : ∀ (H H1 : Heap) (u : S), P H → post u → B u H1 → H.size ≤ H1.size → (∀ q : Nat, q < H.size → ¬ A2 q → H1[q]? = H[q]?) → P9 u H1) (kk : ∀ (u : S), post u → AW p l e R s m args below meth c nL (cells + mc) (slots + ms) Q (P9 u) A (pc + 3) lv (st)) : AW p l e R s m args below meth c nL cells slots Q P A pc lv stk := fun H locs ls hPH hS hl => by
  have hz := hS.1
  refine va_callv (A1 := ct_A A2 H.size) (va_runS (g := F0 m pc ls stk) (As := As) (rest := st) C (hc H.size) cw ⟨ct_blind, fun U hU hW => ⟨rfl, by rw [hU], va_K.moved hW.alike hK, by rw [hU]; exact hpre H hPH⟩⟩ rfl hn hl.1 hst (lv_room hroom) hd hcs) hS (fun q _ h => h.elim (hA q) (fun h => hAs q (Nat.le_trans hz h))) (fun q h => h.elim (hA q) (fun h => hAs q (Nat.le_trans hz h))) (fun u t H1 locs1 ht hvm hw hB hz1 hk1 hS1 => ?_)
  rw [ht] at hB
  exact kk u hw H1 locs1 ls (hP9 H H1 u hPH hw hB hz1 (fun q h1 h2 => hk1 q h1 (fun h => h.elim h2 (fun h => absurd h1 (Nat.not_lt.mpr h))))) hS1 hl
theorem aw_callIv {S : Type} {post : S → Prop} {B : S → Heap → Prop} {P2 : Heap → Prop} {P9 : S → Heap → Prop} {A2 : Nat → Prop} {y : MethodName} {b2 : ByteArray} {mL2 mc ms n index : Nat} {ret2 : Option FieldType} {rm2 : Room} {Cn : String} {stk : List Value} (As : List Value) (C : CallFix p m c cc nL s args tb_G own) (hK : va_K D cl_all tys s) (hc : Ct_v l y b2 mL2 none rm2 mc ms D tys A2 (.ref a :: As) P2 post B) (cw : CallB R s args own index y b2 mL2 none (ct_ws y b2 mL2 none) rm2 mc ms n ∧ y.name = "<init>" ∧ (Cond.instanceMethod y).before args s = true) (hn : As.length = n)  (hpre : ∀ H, P H → P2 H) (hA : ∀ q, A2 q → A q) (hAs : ∀ q, s.heap.size ≤ q → A q) (hst : stk = As.reverse ++ .ref a :: st) (hroom : (st.map fun v => v.category).sum ≤ 8) (hd : decode cc pc = .ok (.invokespecial index, 3)) (hcs : cells + mc ≤ R.cells ∧ slots + ms ≤ R.slots)
    (hP9 : ∀ (H H1 : Heap) (u : S), P H → post u → B u H1 → H.size ≤ H1.size → (∀ q : Nat, q < H.size → ¬ A2 q → H1[q]? = H[q]?) → P9 u H1) (kk : ∀ (u : S), post u → AW p l e R s m args below meth c nL (cells + mc) (slots + ms) Q (P9 u) A (pc + 3) lv (st)) : AW p l e R s m args below meth c nL cells slots Q P A pc lv stk := fun H locs ls hPH hS hl => by
  have hz := hS.1
  refine va_callv (A1 := ct_A A2 H.size) (va_runI (g := F0 m pc ls stk) (As := As) (rest := st) C (hc H.size) cw ⟨ct_blind, fun U hU hW => ⟨rfl, by rw [hU], va_K.moved hW.alike hK, by rw [hU]; exact hpre H hPH⟩⟩ rfl hn hl.1 hst (lv_room hroom) hd hcs) hS (fun q _ h => h.elim (hA q) (fun h => hAs q (Nat.le_trans hz h))) (fun q h => h.elim (hA q) (fun h => hAs q (Nat.le_trans hz h))) (fun u t H1 locs1 ht hvm hw hB hz1 hk1 hS1 => ?_)
  rw [ht] at hB
  exact kk u hw H1 locs1 ls (hP9 H H1 u hPH hw hB hz1 (fun q h1 h2 => hk1 q h1 (fun h => h.elim h2 (fun h => absurd h1 (Nat.not_lt.mpr h))))) hS1 hl
theorem aw_callVq {S : Type} {post : Option Nat → S → Prop} {B : S → Heap → Prop} {P2 : Heap → Prop} {P9 : Option Nat → S → Heap → Prop} {A2 : Nat → Prop} {y : MethodName} {b2 : ByteArray} {mL2 mc ms n index : Nat} {ret2 : Option FieldType} {rm2 : Room} {Cn : String} {stk : List Value} (As : List Value) (C : CallFix p m c cc nL s args tb_G own) (hK : va_K D cl_all tys s) (hc : Ct_q l y b2 mL2 ret2 rm2 mc ms D tys A2 (.ref a :: As) P2 post B) (cw : CallW R s args own Cn index y b2 mL2 ret2 (ct_ws y b2 mL2 ret2) rm2 mc ms n) (hn : As.length = n) (hrecv : ∀ H, P H → ∃ cell : Cell, H[a]? = some cell ∧ cell.vm.isStatics = false ∧ s.vm.findClass Cn = some cell.cls) (hpre : ∀ H, P H → P2 H) (hA : ∀ q, A2 q → A q) (hAs : ∀ q, s.heap.size ≤ q → A q) (hst : stk = As.reverse ++ .ref a :: st) (hroom : (st.map fun v => v.category).sum ≤ 8) (hd : decode cc pc = .ok (.invokevirtual index, 3)) (hcs : cells + mc ≤ R.cells ∧ slots + ms ≤ R.slots)
    (hP9 : ∀ (H H1 : Heap) (r : Option Nat) (u : S), P H → post r u → B u H1 → H.size ≤ H1.size → (∀ q : Nat, q < H.size → ¬ A2 q → H1[q]? = H[q]?) → P9 r u H1) (kk : ∀ (r : Option Nat) (u : S), post r u → AW p l e R s m args below meth c nL (cells + mc) (slots + ms) Q (P9 r u) A (pc + 3) lv (va_rf r :: st)) : AW p l e R s m args below meth c nL cells slots Q P A pc lv stk := fun H locs ls hPH hS hl => by
  have hz := hS.1
  refine va_callq (A1 := ct_A A2 H.size) (va_runV (g := F0 m pc ls stk) (As := As) (rest := st) C (hc H.size) cw ⟨ct_blind, hrecv H hPH, fun U hU hW => ⟨rfl, by rw [hU], va_K.moved hW.alike hK, by rw [hU]; exact hpre H hPH⟩⟩ rfl hn hl.1 hst (lv_room hroom) hd hcs) hS (fun q _ h => h.elim (hA q) (fun h => hAs q (Nat.le_trans hz h))) (fun q h => h.elim (hA q) (fun h => hAs q (Nat.le_trans hz h))) (fun r u t H1 locs1 ht hvm hw hB hz1 hk1 hS1 => ?_)
  rw [ht] at hB
  exact kk r u hw H1 locs1 ls (hP9 H H1 r u hPH hw hB hz1 (fun q h1 h2 => hk1 q h1 (fun h => h.elim h2 (fun h => absurd h1 (Nat.not_lt.mpr h))))) hS1 hl
theorem aw_callSq {S : Type} {post : Option Nat → S → Prop} {B : S → Heap → Prop} {P2 : Heap → Prop} {P9 : Option Nat → S → Heap → Prop} {A2 : Nat → Prop} {y : MethodName} {b2 : ByteArray} {mL2 mc ms n index : Nat} {ret2 : Option FieldType} {rm2 : Room} {Cn : String} {stk : List Value} (As : List Value) (C : CallFix p m c cc nL s args tb_G own) (hK : va_K D cl_all tys s) (hc : Ct_q l y b2 mL2 ret2 rm2 mc ms D tys A2 As P2 post B) (cw : CallB R s args own index y b2 mL2 ret2 (ct_ws y b2 mL2 ret2) rm2 mc ms n ∧ (Cond.static y).before args s = true) (hn : As.length = n)  (hpre : ∀ H, P H → P2 H) (hA : ∀ q, A2 q → A q) (hAs : ∀ q, s.heap.size ≤ q → A q) (hst : stk = As.reverse ++ st) (hroom : (st.map fun v => v.category).sum ≤ 8) (hd : decode cc pc = .ok (.invokestatic index, 3)) (hcs : cells + mc ≤ R.cells ∧ slots + ms ≤ R.slots)
    (hP9 : ∀ (H H1 : Heap) (r : Option Nat) (u : S), P H → post r u → B u H1 → H.size ≤ H1.size → (∀ q : Nat, q < H.size → ¬ A2 q → H1[q]? = H[q]?) → P9 r u H1) (kk : ∀ (r : Option Nat) (u : S), post r u → AW p l e R s m args below meth c nL (cells + mc) (slots + ms) Q (P9 r u) A (pc + 3) lv (va_rf r :: st)) : AW p l e R s m args below meth c nL cells slots Q P A pc lv stk := fun H locs ls hPH hS hl => by
  have hz := hS.1
  refine va_callq (A1 := ct_A A2 H.size) (va_runS (g := F0 m pc ls stk) (As := As) (rest := st) C (hc H.size) cw ⟨ct_blind, fun U hU hW => ⟨rfl, by rw [hU], va_K.moved hW.alike hK, by rw [hU]; exact hpre H hPH⟩⟩ rfl hn hl.1 hst (lv_room hroom) hd hcs) hS (fun q _ h => h.elim (hA q) (fun h => hAs q (Nat.le_trans hz h))) (fun q h => h.elim (hA q) (fun h => hAs q (Nat.le_trans hz h))) (fun r u t H1 locs1 ht hvm hw hB hz1 hk1 hS1 => ?_)
  rw [ht] at hB
  exact kk r u hw H1 locs1 ls (hP9 H H1 r u hPH hw hB hz1 (fun q h1 h2 => hk1 q h1 (fun h => h.elim h2 (fun h => absurd h1 (Nat.not_lt.mpr h))))) hS1 hl
end CT
