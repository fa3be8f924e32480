/-! THE CLAIM OUT OF ONE WALK OF THE LAW'S BODY. Your part is whole_start (and what it stands on); all else here is the same for every law, but numbers. -/
def R_law : String := "DeskMovesLaw"
def lw_P (b : Addr) (xs : List Int32) (args : Array Value) (s : State) : Prop := args = #[.ref b] ∧ s.IntsAt b xs ∧ xs.length ≤ 2048 ∧ (Jvm.Cond.and given_1 narrow_1).before args s = true
def lw_Q (_ : Array Value) (s : State) (o : Outcome) (t : State) : Prop := o = .returned (some (.int 1)) ∧ Framed s o t [] 601024 7293034
def lw_Z (below : List Frame) (a : Array Value) (s : State) : State → Prop := fun t => ∃ o, t.status = .running ∧ Ended t below o ∧ lw_Q a s o t
/-- the law's own end, with 1 on the stack, nothing written that was there before, its room as the claim has it -/
theorem lw_ret {p : Program} {l : Launch} {e : Env} {s : State} {m : MethodId} {below : List Frame} {meth : Method} {c : Code} {b : Nat} (hx : p.tables.exec = Jvm.exec) (hb : c.code = code) (hr : meth.sig.returnType = ret) (hlocks : meth.locks = false) {pc : Nat} {H : Heap} {ls : Array Slot} (hdg : decode code pc = .ok (.ireturn, 1)) : W p l e room_1 s m #[Value.ref b] below meth c H [] 601024 7293034 (lw_Z below #[Value.ref b] s) (F0 m pc ls [.int 1]) := by
  intro T hT X
  obtain ⟨fs, hret, hrun, hended, hW, hframe⟩ := X.leave (v := some (.int 1)) (hlocks := hlocks) (fun h => by rw [hr] at h; cases h)
  have hmeth' : T.vm.method? m = some meth := X.method'
  refine ⟨T.setFrames fs, ?_, .returned (some (.int 1)), hrun, hended, rfl, ⟨_, rfl⟩, hW, hframe⟩
  jvm_step X.here [X.here.top, hx, hb, hdg, hmeth', hr, ret, narrow_b1]
  (try refine ⟨rfl, ?_⟩); (try refine ⟨rfl, ?_⟩)
  first | (intro acts; rw [hret _ acts rfl rfl rfl]) | rw [hret _ _ rfl rfl rfl]
  exact Steps.refl _
/-- what holds at the law's entry: the machine, the code, the tables' words (any of lw_tbl by 'hts w (by decide +kernel)'), the script of L ints xs at the cell b, what the Statement gives of the start (any of its parts by flat_of_before) -/
def lw_At (p : Program) (s : State) (m : MethodId) (meth : Method) (c : Code) (b L : Nat) (xs : Nat → Int32) : Prop :=
  p.tables.exec = Jvm.exec ∧ c.code = code ∧ meth.sig.returnType = ret ∧ c.maxLocals = 7 ∧ s.vm.findClass R_law = some m.cls ∧ (∀ w ∈ lw_tbl, w.before #[Value.ref b] s = true) ∧ va_X b L xs s s.heap ∧ b < s.heap.size ∧ meth.locks = false ∧ (Jvm.Cond.and given_1 narrow_1).before #[Value.ref b] s = true
/-- the law's end -/
theorem lw_end {p : Program} {l : Launch} {e : Env} {s : State} {m : MethodId} {below : List Frame} {meth : Method} {c : Code} {b : Nat} (C : CallFix p m c code 7 s #[Value.ref b] tb_G R_La) (hr : meth.sig.returnType = ret) (hlocks : meth.locks = false) (P : Heap → Prop) (cells slots : Nat) (lv : List (Nat × Value)) (hc : cells ≤ 601024) (hs : slots ≤ 7293034) : AW p l e room_1 s m #[Value.ref b] below meth c 7 cells slots (lw_Z below #[Value.ref b] s) P (fun q => s.heap.size ≤ q) 1183 lv [] := by
  refine aw_iconst (v := 1) C d_law_1183 (by decide) ?_
  exact fun H locs ls hP hS hl => va_forget (fun q hq => hS.2.2 q hq) (W.widen hc hs (lw_ret C.1 C.2.1 hr hlocks d_law_1184))
theorem cx_lo {z k i : Nat} (h : ds_dm 0 k i) : z ≤ cx_ad z (z + 1) k i := by
  match k, h with
  | 0, _ => show z ≤ z; omega
  | 1, _ => show z ≤ z + 1; omega
  | 2, _ => show z ≤ z + 1 + 1; omega
  | 3, _ => show z ≤ z + 1 + 2; omega
  | 4, _ => show z ≤ z + 1 + 17; omega
  | 5, _ => show z ≤ z + 1 + 18; omega
  | 6, _ => show z ≤ z + 1 + 19; omega
  | 7, _ => show z ≤ z + 1 + 20; omega
  | 8, _ => show z ≤ z + 1 + 21; omega
  | 9, _ => show z ≤ z + 1 + 22; omega
  | 10, _ => show z ≤ z + 1 + 23 + 3 * i; omega
  | 11, _ => show z ≤ z + 1 + 24 + 3 * i; omega
  | 12, _ => show z ≤ z + 1 + 25 + 3 * i; omega
  | 13, _ => show z ≤ z + 1 + 3 + i; omega
  | 14, _ => show z ≤ z + 1 + 53 + i; omega
  | 15, h => exact absurd h (Nat.not_lt_zero i)
  | k + 16, h => exact h.elim
set_option maxHeartbeats 4000000 in
set_option maxRecDepth 100000 in
theorem whole_start {p : Program} {e : Env} {s : State} {m : MethodId} {below : List Frame} {meth : Method} {c : Code} (l : Launch) (hlt : l.stackTraces = false) {b L : Nat} {xs : Nat → Int32} (hL : L ≤ 2048) (C0 : lw_At p s m meth c b L xs) : W p l e room_1 s m #[Value.ref b] below meth c s.heap [] 0 0 (lw_Z below #[Value.ref b] s) (entryFrame m ([Value.ref b] : List Value).toArray 7) := by
  obtain ⟨hx, hb, hr, hml, hown, hts, hX, hbl, hlocks, hgv⟩ := id C0
  have hs := flat_of_before _ hgv
  have C : CallFix p m c code 7 s #[Value.ref b] tb_G R_La := ⟨hx, hb, hml, hown, fun w hw => hts w (tb_sub hw)⟩
  obtain ⟨D, cA, hK⟩ := ak_K hts
  have hZ := ak_Z hts (hs _ (by decide +kernel)) (hs _ (by decide +kernel))
  have hN := ak_N (hs (.not (.castable "java/lang/IllegalStateException" "java/lang/IllegalArgumentException")) (by decide +kernel))
  have hAn := ak_an hts
  have hl := lv_entry ([.ref b]) (n := 7) (Nat.le_of_ble_eq_true rfl)
  rw [lg_entry_eq]
  generalize (lg_sl ([.ref b]) ++ List.replicate (7 - (lg_sl ([.ref b])).length) Slot.unset).toArray = ls at hl ⊢
  have hl : lv_has ls 7 [(0, .ref b)] := hl
  obtain ⟨z, hz⟩ : ∃ z, s.heap.size = z := ⟨_, rfl⟩
  have main : AW p l e room_1 s m #[Value.ref b] below meth c 7 0 0 (lw_Z below #[Value.ref b] s) (fun H => H.size = z) (fun q => s.heap.size ≤ q) 0 [(0, .ref b)] [] := by
    have hAs : ∀ q, s.heap.size ≤ q → (fun q => s.heap.size ≤ q) q := fun _ h => h
    refine aw_new (fs := [.null, .null, .null, .null, .null, .int 0, .int 0, .int 0, .int 0, .int 0, .int 0]) C hK i_De t_De t_De_ok cl_La_De nn_De ii_De (ci := 6) rfl df_De (show 0 + 1 ≤ 601024 by omega) (show 0 + 11 ≤ 7293034 by omega) d_law_0 (fun q0 => ?_)
    refine aw_have (F := z = q0) (fun H h => by obtain ⟨H9, h9, e9, _⟩ := h; rw [← e9]; exact h9.symm) (fun hq => ?_)
    subst hq
    refine aw_P (P' := fun H : Heap => H.size = z + 1 ∧ va_at D cl_all (z, .inr (6, [.null, .null, .null, .null, .null, .int 0, .int 0, .int 0, .int 0, .int 0, .int 0])) H) (fun H h => by obtain ⟨H9, h9, e9, ha9, hz9, ho⟩ := h; exact ⟨hz9, ha9⟩) ?_
    refine aw_dup C d_law_3 rfl ?_
    refine aw_callIn (P9 := fun (_ : Unit) H => H.size = z + 62 ∧ ds_P D (cx_ad z (z + 1)) cA 0 cx_S0 H) [] C hK hAn (c_De_init l D cA z (z + 1)) (cw_La_De_init C.2.2.2.2 rfl rfl (by decide)) rfl (fun H h => h) (fun q h => by rw [hz]; exact Nat.le_of_eq h.symm) hAs rfl (Nat.le_of_ble_eq_true rfl) d_law_4 ⟨show 0 + 1 + 61 ≤ 601024 by omega, show 0 + 11 + 829 ≤ 7293034 by omega⟩ (fun H H1 u h _ hB _ _ => ⟨hB.1, cx_ds hB⟩) ?_
    intro u0 _
    refine aw_have (F := ∀ k i, ds_dm 0 k i → cx_ad z (z + 1) k i < z + 62) (fun H h k i hk => by rw [← h.1]; exact va_at.lt (h.2 k i hk)) (fun hlt1 => ?_)
    refine aw_astore_n (i := 1) (lv' := [(1, .ref z), (0, .ref b)]) C d_law_7 rfl (by decide) rfl ?_
    refine aw_new (fs := [.int 0, .int 0, .int 0, .null, .null, .null, .int 0, .int 0, .null, .null, .null, .int 0, .int 0, .int 0, .null, .null, .int 0, .null, .int 0, .null, .null, .null, .null, .null]) C hK i_Mo t_Mo t_Mo_ok cl_La_Mo nn_Mo ii_Mo (ci := 7) rfl df_Mo (show 0 + 1 + 61 + 1 ≤ 601024 by omega) (show 0 + 11 + 829 + 24 ≤ 7293034 by omega) d_law_8 (fun q0 => ?_)
    refine aw_have (F := z + 62 = q0) (fun H h => by obtain ⟨H9, h9, e9, _⟩ := h; rw [← e9]; exact h9.1.symm) (fun hq => ?_)
    subst hq
    refine aw_P (P' := fun H : Heap => H.size = z + 63 ∧ ds_P D (cx_ad z (z + 1)) cA 0 cx_S0 H ∧ va_at D cl_all (z + 62, .inr (7, [.int 0, .int 0, .int 0, .null, .null, .null, .int 0, .int 0, .null, .null, .null, .int 0, .int 0, .int 0, .null, .null, .int 0, .null, .int 0, .null, .null, .null, .null, .null])) H) (fun H h => by obtain ⟨H9, h9, e9, ha9, hz9, ho⟩ := h; exact ⟨hz9, ds_kept h9.2 (fun k i hk _ => ho _ (hlt1 k i hk)), ha9⟩) ?_
    refine aw_dup C d_law_11 rfl ?_
    refine aw_callIv (Cn := "") (ret2 := none) (P9 := fun (_ : Unit) H => H.size = z + 77 ∧ ds_P D (cx_ad z (z + 1)) cA 0 cx_S0 H ∧ ms_P D (cx_md (z + 62) (z + 63)) cA (fun _ _ => 0) H) [] C hK (c_Mo_init l D cA (z + 62) (z + 63)) (cw_La_Mo_init C.2.2.2.2 rfl rfl (by decide)) rfl (fun H h => ⟨h.1, h.2.2⟩) (fun q h => by rw [hz, h]; omega) hAs rfl (Nat.le_of_ble_eq_true rfl) d_law_12 ⟨show 0 + 1 + 61 + 1 + 14 ≤ 601024 by omega, show 0 + 11 + 829 + 24 + 18812 ≤ 7293034 by omega⟩ (fun H H1 u h _ hB _ hk => ⟨hB.1, ds_kept h.2.1 (fun k i hk9 hlt9 => hk _ hlt9 (fun e9 => by have := hlt1 k i hk9; omega)), cx_ms hB⟩) ?_
    intro u1 _
    refine aw_have (F := ∀ k, k < 15 → cx_md (z + 62) (z + 63) k < z + 77) (fun H h k hk => by rw [← h.1]; exact va_at.lt (h.2.2 k hk)) (fun hlt2 => ?_)
    refine aw_astore_n (i := 2) (lv' := [(2, .ref (z + 62)), (1, .ref z), (0, .ref b)]) C d_law_15 rfl (by decide) rfl ?_
    refine aw_iconst (v := 1) C d_law_16 (by decide) ?_
    refine aw_newa (atype := .long) (ty := .long) (a0 := (1, .inr (.inl (fun _ => 0)))) C hK 6 rfl ac_long rfl (fun h => h) (fun _ => rfl) (by decide) (by decide) (by decide) (show 0 + 1 + 61 + 1 + 14 + 1 ≤ 601024 by omega) (show 0 + 11 + 829 + 24 + 18812 + 1 ≤ 7293034 by omega) d_law_17 (fun q0 => ?_)
    refine aw_have (F := z + 77 = q0) (fun H h => by obtain ⟨H9, h9, e9, _⟩ := h; rw [← e9]; exact h9.1.symm) (fun hq => ?_)
    subst hq
    refine aw_P (P' := lwP D cA (cx_md (z + 62) (z + 63)) (z + 77) (cx_ad z (z + 1)) 0 cx_S0 (fun _ _ => 0) 0) (fun H h => by obtain ⟨H9, h9, e9, ha9, hz9, ho⟩ := h; exact ⟨ds_kept h9.2.1 (fun k i hk _ => ho _ (by have := hlt1 k i hk; omega)), ms_kept h9.2.2 (fun k hk _ => ho _ (hlt2 k hk)), ha9⟩) ?_
    refine aw_astore_n (i := 3) (lv' := [(3, .ref (z + 77)), (2, .ref (z + 62)), (1, .ref z), (0, .ref b)]) C d_law_19 rfl (by decide) rfl ?_
    refine aw_iconst (v := 0) C d_law_20 (by decide) ?_
    refine aw_istore (i := 4) (lv' := [(4, .int 0), (3, .ref (z + 77)), (2, .ref (z + 62)), (1, .ref z), (0, .ref b)]) C d_law_21 (by decide) rfl ?_
    refine aw_lv (lv' := [(0, .ref b), (1, .ref z), (2, .ref (z + 62)), (3, .ref (z + 77)), (4, .int 0)]) [4, 3, 2, 1, 0] rfl ?_
    have hmlo : ∀ k, k < 15 → z + 62 ≤ cx_md (z + 62) (z + 63) k := fun k hk => by unfold cx_md; split <;> omega
    have hF : lwF s (cx_md (z + 62) (z + 63)) (z + 77) := ⟨cx_mI (by omega), fun k hk => ⟨by rw [hz]; have := hmlo k hk; omega, by have := hlt2 k hk; omega⟩, by rw [hz]; omega⟩
    have hG : lwG s (cx_md (z + 62) (z + 63)) (z + 77) (cx_ad z (z + 1)) 0 := ⟨cx_dI (by omega), fun k i hk => ⟨by rw [hz]; exact cx_lo hk, by have := hlt1 k i hk; omega, fun k' hk' => by have := hlt1 k i hk; have := hmlo k' hk'; omega⟩⟩
    exact law_loop hlt C hK hZ hN hX hbl hL hF (fun P cells slots lv hc hs => lw_end C hr hlocks P cells slots lv hc hs) 513 0 (cx_ad z (z + 1)) 0 cx_S0 (fun _ _ => 0) 0 _ _ (by omega) (by omega) (by omega) (by omega) hG rel_0
  exact main s.heap [] ls hz va_S.rf hl
set_option maxHeartbeats 4000000 in
theorem lw_walk (l : Launch) (hl : l.stackTraces = false) (b : Addr) (xs : List Int32) : MetFree l x (headSpec (Jvm.Cond.code x code maxLocals ret :: tables_1) room_1) (lw_P b xs) (fun _ _ _ _ _ => True) lw_Q := by
  refine MetFree.of_bodyS (code := code) (maxLocals := maxLocals) (ret := ret) (by decide) ?_ ?_
  · intro args s m h hn
    obtain ⟨meth, c, h1, h2, h3, h4, h5, h6, -, -⟩ := Cond.code_spec hn (atoms_spec (ws := Jvm.Cond.code x code maxLocals ret :: tables_1) h _ List.mem_cons_self)
    exact ⟨meth, c, h1, h2, h3, h4, h5, h6⟩
  · intro p e s m args below meth c s₁ B hml0 hP _
    obtain ⟨rfl, hx, hbd, hgv⟩ := hP
    obtain ⟨scr, harrAt, hlist, hof, hsmall⟩ := hx
    obtain ⟨hcb, hkn, -, -⟩ := State.arrayAt?_spec harrAt
    have hown : s.vm.findClass R_law = some m.cls := findClass_of_methodNamed B.named
    have hts0 : ∀ c ∈ (Jvm.Cond.code x code maxLocals ret :: tables_1), c.before #[Value.ref b] s = true := atoms_spec (ws := Jvm.Cond.code x code maxLocals ret :: tables_1) B.pre
    have hts : ∀ w ∈ lw_tbl, w.before #[Value.ref b] s = true := k2_hts_sels lw_privs (fun w hw => hts0 w (List.mem_cons_of_mem _ hw)) lw_privs_ok
    have hml : c.maxLocals = 7 := B.maxLocals_eq (hts0 _ List.mem_cons_self)
    have X₀ : Stand p l e room_1 s m #[Value.ref b] below meth c s₁ [] 0 0 := Stand.of_body B
    have hh0 : s₁.heap = s.heap := by rw [B.state]; rfl
    have hsz : scr.slots.size = xs.length := by rw [← Array.length_toList, hlist, List.length_map]
    have hval : ∀ j : Nat, j < xs.length → scr.slots[j]? = some (.int (xs.getD j 0)) := fun j hj => by
      rw [← Array.getElem?_toList, hlist]
      simp [hj]
    have hbl : b < s.heap.size := (Array.getElem?_eq_some_iff.mp hcb).1
    have hX : va_X b xs.length (fun j => xs.getD j 0) s s.heap := ⟨scr, hcb, hof, hkn, hsz, hval⟩
    have K : W p l e room_1 s m #[Value.ref b] below meth c s₁.heap [] 0 0 (lw_Z below #[Value.ref b] s) (entryFrame m ([Value.ref b] : List Value).toArray 7) := by
      rw [hh0]
      exact whole_start l hl hbd ⟨B.exec, B.bytes, B.returns, hml, hown, hts, hX, hbl, B.notSynchronized, hgv⟩
    obtain ⟨t, a1, o, b1, b2, b3⟩ := K s₁ rfl X₀
    exact ⟨t, o, a1, b1, b2, b3⟩
theorem lw_pre_spec {args : Array Value} {s : State} (h : (Jvm.Cond.and given_1 narrow_1).before args s = true) (hr : rest_1_c.before args s = true) : ∃ (b : Addr) (xs : List Int32), lw_P b xs args s := by
  have hs := flat_of_before _ h
  have hq := flat_of_before _ hr
  have hc : (Cond.count 1).before args s = true := hs _ (by decide +kernel)
  have harr : (Cond.arrayOf (.arg 0) .int).before args s = true := hs _ (by decide +kernel)
  have hle : (Cond.le (.length (.arg 0)) (.int 2048)).before args s = true := hs _ (by decide +kernel)
  have hlen : (Cond.isInt (.length (.arg 0))).before args s = true := hq _ (by decide +kernel)
  have hall : (Cond.all (.arg 0) (.isInt (.elem (.arg 0) (.index 0)))).before args s = true := hq _ (by decide +kernel)
  obtain ⟨b, xs, hb, hx⟩ := State.ints_of_pre rfl harr hlen hall
  have hsm : xs.length < 2 ^ 31 := hx.choose_spec.2.2.2
  have hev : (Term.length (.arg 0)).eval args s none [] s = some (.int xs.length.toInt32) := hx.length_eval hb
  have hv := Cond.le_ints hev (show (Term.int 2048).eval args s none [] s = some (.int 2048) from rfl)
  have hd : xs.length.toInt32 ≤ 2048 := by
    simpa [Cond.before, Cond.holds, hv] using hle
  have hN : xs.length ≤ 2048 := (Int32.ofNat_le_ofNat hsm (by decide)).mp (show Int32.ofNat xs.length ≤ Int32.ofNat 2048 from hd)
  exact ⟨b, xs, Cond.one_arg hc (show args[0]? = some (.ref b) from hb), hx, hN, h⟩
theorem lw_comes (l : Launch) (hl : l.stackTraces = false) : Comes l x (Jvm.Cond.code x code maxLocals ret :: tables_1) room_1 (fun tb e args s => Calls_1 tb e args s ∧ rest_1 tb e args s ∧ Pre_1 tb e args s)
    (fun _ _ args s o t => lw_Q args s o t) := by
  intro p e ha hc hk s m args below hf hfit hheap happ hpre
  obtain ⟨b, xs, hP⟩ := lw_pre_spec hpre.2.2 hpre.2.1
  obtain ⟨k, o, h1, h2, h3, hQ⟩ := lw_walk l hl b xs p e ha hc hk s m args below hf ((Spec.applies_iff_loose hf).mp happ).1 hP trivial
  exact ⟨k, o, h1, h2, h3, hQ⟩
theorem lw_frame {s t : State} {o : Outcome} {args : Array Value} (h : Framed s o t [] 601024 7293034) :
    Framed s o t (fieldLocs frame_1_writes args s ++ arrayLocs frame_1_arrays args s ++ staticLocs frame_1_statics s) 601024 7293034 := h
theorem lw_limb (L : Cond) (hL : ∀ (args : Array Value) (s t : State), L.after args s (.returned (some (.int 1))) t = true) :
    ArmFor flags0 classFile x code maxLocals ret World_1 tables_1 room_1 Calls_1 rest_1 Pre_1
      (fun tb e a s o t => postC L tb e a s o t ∧ Framed s o t (fieldLocs frame_1_writes a s ++ arrayLocs frame_1_arrays a s ++ staticLocs frame_1_statics s) 601024 7293034) := by
  intro l hfl _ _ p e ha hc hk s m args below hf hfit hheap happ hpre
  have hl : l.stackTraces = false := by
    unfold Launch.stackTraces
    rw [hfl]
    decide +kernel
  obtain ⟨k, o, h1, h2, h3, rfl, hF⟩ := lw_comes l hl p e ha hc hk s m args below hf hfit hheap happ hpre
  exact ⟨k, _, h1, h2, h3, hL args s _, lw_frame hF⟩
theorem i_vc : Claimed_1_1 ∧ Claimed_1_2 := ⟨lw_limb limb_1_1 (fun args s t => by simp [limb_1_1, Cond.after, Cond.holds, Cond.value]), lw_limb limb_1_2 (fun args s t => Cond.after_iff.mpr (by
  first | (rw [show limb_1_2 = Cond.eq .result (.int 1) from rfl, Cond.eq_ints (x := 1) (y := 1) rfl rfl]; simp; done) | (simp [limb_1_2, Cond.value, Term.eval]; done)))⟩
