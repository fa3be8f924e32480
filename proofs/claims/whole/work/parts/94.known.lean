/-! THE LAW: what is known at its entry -/
section KN
variable {s : State} {args : Array Value}
theorem ak_arr {cA : ClassId} {k : Class} {comp : ClassId} {ty : FieldType} (h1 : s.vm.classes[cA]? = some k) (h2 : k.kind = .array comp ty) : ArrOfT s cA ty := fun n z => ⟨fun q h => (by cases h), k, h1, comp, h2⟩
theorem ak_prim {ty : FieldType} (h : (Cond.arrayClass ty).before args s = true) : ∃ cA, ArrOfT s cA ty ∧ s.vm.findClass ("[" ++ ty.toString) = some cA := by
  obtain ⟨c, k, comp, h1, h2, h3⟩ := Cond.arrayClass_spec h
  exact ⟨c, ak_arr h2 h3, h1⟩
theorem ak_obj {Cn : String} (h : (Cond.arrayOver (.object Cn)).before args s = true) : ∃ cA, ArrOfT s cA (.object Cn) ∧ va_RA s cA (.object Cn) := by
  obtain ⟨comp, c, k, h1, -, h2, h3, h4⟩ := Cond.arrayOver_spec h
  exact ⟨c, ak_arr h2 h3, k, comp, h2, h3, h1, h4⟩
theorem ak_K (hts : ∀ w ∈ lw_tbl, w.before args s = true) : ∃ (D : va_G) (cA : Nat → ClassId), va_K D cl_all (ds_ty cA) s := by
  have hG : ∀ w ∈ tb_G, w.before args s = true := fun w hw => hts w (tb_sub hw)
  obtain ⟨c0, i0, k0⟩ := u_known (C := R_Bk) (T := F_Bk) (N := 6) (n := 6) hG i_Bk (hG _ nn_Bk)
  obtain ⟨c1, i1, k1⟩ := u_known (C := R_Ma) (T := F_Ma) (N := 2) (n := 2) hG i_Ma (hG _ nn_Ma)
  obtain ⟨c2, i2, k2⟩ := u_known (C := R_Pe) (T := F_Pe) (N := 7) (n := 7) hG i_Pe (hG _ nn_Pe)
  obtain ⟨c3, i3, k3⟩ := u_known (C := R_Ro) (T := F_Ro) (N := 3) (n := 3) hG i_Ro (hG _ nn_Ro)
  obtain ⟨c4, i4, k4⟩ := u_known (C := R_Sp) (T := F_Sp) (N := 5) (n := 5) hG i_Sp (hG _ nn_Sp)
  obtain ⟨c5, i5, k5⟩ := u_known (C := R_Wa) (T := F_Wa) (N := 6) (n := 6) hG i_Wa (hG _ nn_Wa)
  obtain ⟨c6, i6, k6⟩ := u_known (C := R_De) (T := F_De) (N := 11) (n := 11) hG i_De (hG _ nn_De)
  obtain ⟨c7, i7, k7⟩ := u_known (C := R_Mo) (T := F_Mo) (N := 24) (n := 24) hG i_Mo (hG _ nn_Mo)
  obtain ⟨a0, b0, d0⟩ := ak_prim (hG _ ac_int)
  obtain ⟨a1, b1, d1⟩ := ak_prim (hG _ ac_boolean)
  obtain ⟨a2, b2, d2⟩ := ak_obj (hts _ ao_Pe)
  obtain ⟨a3, b3, d3⟩ := ak_obj (hts _ ao_Sp)
  obtain ⟨a4, b4, d4⟩ := ak_obj (hts _ ao_Ro)
  obtain ⟨a5, b5, d5⟩ := ak_obj (hts _ ao_Bk)
  obtain ⟨a6, b6, d6⟩ := ak_prim (hG _ ac_long)
  refine ⟨(fun k => match k with | 0 => c0 | 1 => c1 | 2 => c2 | 3 => c3 | 4 => c4 | 5 => c5 | 6 => c6 | _ => c7, fun k => match k with | 0 => i0 | 1 => i1 | 2 => i2 | 3 => i3 | 4 => i4 | 5 => i5 | 6 => i6 | _ => i7), fun k => match k with | 0 => a0 | 1 => a1 | 2 => a2 | 3 => a3 | 4 => a4 | 5 => a5 | _ => a6, fun k q hq => ?_, fun k q hq => ?_⟩
  · match k, hq with
    | 0, hq => cases hq; exact k0
    | 1, hq => cases hq; exact k1
    | 2, hq => cases hq; exact k2
    | 3, hq => cases hq; exact k3
    | 4, hq => cases hq; exact k4
    | 5, hq => cases hq; exact k5
    | 6, hq => cases hq; exact k6
    | 7, hq => cases hq; exact k7
    | k + 8, hq => simp [cl_all] at hq
  · match k, hq with
    | 0, hq => cases hq; exact ⟨b0, d0⟩
    | 1, hq => cases hq; exact ⟨b1, d1⟩
    | 2, hq => cases hq; exact ⟨b2, d2⟩
    | 3, hq => cases hq; exact ⟨b3, d3⟩
    | 4, hq => cases hq; exact ⟨b4, d4⟩
    | 5, hq => cases hq; exact ⟨b5, d5⟩
    | 6, hq => cases hq; exact ⟨b6, d6⟩
    | k + 7, hq => simp [ds_ty] at hq
theorem ak_Z (hts : ∀ w ∈ lw_tbl, w.before args s = true) (h1 : (Cond.isRef (.static Bundle.tN "UNASSIGNED_STACK" Bundle.steD)).before args s = true) (h2 : (Cond.isRef (.static Bundle.tN "SUPPRESSED_SENTINEL" Bundle.listD)).before args s = true) : th_Z s := by
  refine ⟨fun w hw => ?_, fun own k tx hm => ?_, ⟨hts (.laysStatic Bundle.tN "UNASSIGNED_STACK" Bundle.steD) (by decide +kernel), h1⟩, ⟨hts (.laysStatic Bundle.tN "SUPPRESSED_SENTINEL" Bundle.listD) (by decide +kernel), h2⟩, hts (.initialized Bundle.tN) (by decide +kernel)⟩
  · have ht : th_w w = true := (List.mem_filter.mp hw).2
    refine va_Nw.of ?_ (hts w (List.mem_filter.mp hw).1)
    cases w <;> first | rfl | (simp [th_w] at ht; done)
  · have h := hts _ hm
    cases hc : s.vm.findClass own with
    | none => simp [Cond.before, Cond.holds, Cond.value, hc] at h
    | some cur =>
      obtain ⟨_, _, _, a, -, -, -, -, -, he⟩ := Cond.stringRef_spec hc h
      exact ⟨a, vk_R.of h he⟩
theorem ak_N (h : (Cond.not (.castable "java/lang/IllegalStateException" "java/lang/IllegalArgumentException")).before args s = true) : nc_Z s := fun c1 c2 h1 h2 => by
  have h1 : s.vm.findClass "java/lang/IllegalStateException" = some c1 := h1
  have h2 : s.vm.findClass "java/lang/IllegalArgumentException" = some c2 := h2
  simpa [Cond.before, Cond.holds, Cond.value, h1, h2] using h
theorem ak_an (hts : ∀ w ∈ lw_tbl, w.before args s = true) : an_Z s := ⟨va_AO.of (hts _ ao_Pe), va_AO.of (hts _ ao_Sp), va_AO.of (hts _ ao_Ro), va_AO.of (hts _ ao_Bk)⟩
end KN
theorem rel_0 : Rel cx_S0 (fun _ _ => 0) 0 := by
  refine ⟨0, 0, 0, ⟨by decide, by decide, by decide, by decide, rfl, rfl, rfl, rfl, rfl, rfl, rfl, rfl, rfl, Or.inl rfl, ⟨fun d p h => (by cases h), fun d d' h => (by cases h)⟩⟩, ⟨fun p d _ _ => ⟨show (0 : Int) ≤ 0 by decide, show (0 : Int) ≤ 1000 by decide⟩, fun p d _ _ => ⟨rfl, rfl, Or.inl rfl⟩, fun p h => absurd h (Nat.not_lt_zero p), fun p _ _ => rfl, fun p h => absurd h (Nat.not_lt_zero p), fun p q h => absurd h (Nat.not_lt_zero p)⟩, fun z => absurd rfl z, fun _ => [], fun r => rfl, fun r k => ⟨fun h => absurd h List.not_mem_nil, fun h => absurd h.1 (Nat.not_lt_zero k)⟩, fun r => List.Pairwise.nil, fun k h => absurd h (Nat.not_lt_zero k), fun r h => absurd h (Nat.not_lt_zero r), fun k k' h => (by cases h), fun j => rfl⟩
