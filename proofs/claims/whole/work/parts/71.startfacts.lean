/-! what the tables and the statics give at the law's start -/
theorem st_arr {args : Array Value} {s : State} {ty : FieldType} (h : (Cond.arrayClass ty).before args s = true) : ∃ cA : ClassId, ArrOfT s cA ty ∧ s.vm.findClass ("[" ++ ty.toString) = some cA := by
  obtain ⟨cA, kA, comp, h1, h2, h3⟩ := Cond.arrayClass_spec h
  exact ⟨cA, fun n z => ⟨fun k h => (by cases h), kA, h2, comp, h3⟩, h1⟩
theorem st_arrO {args : Array Value} {s : State} {C : String} (h : (Cond.arrayOver (.object C)).before args s = true) : ∃ cA : ClassId, ArrOfT s cA (.object C) ∧ va_RA s cA (.object C) := by
  obtain ⟨comp, cA, kA, h1, h2, h3, h4, h5⟩ := Cond.arrayOver_spec h
  exact ⟨cA, fun n z => ⟨fun k h => (by cases h), kA, h3, comp, h4⟩, kA, comp, h3, h4, h1, h5⟩

theorem swJx4a65c : Cond.instantiable RJx4a65c 3 ∈ lw_tbl := List.mem_of_getElem? (i := 65) (by decide +kernel)
theorem swX0 : Cond.instantiable RX0 4 ∈ lw_tbl := List.mem_of_getElem? (i := 411) (by decide +kernel)
theorem swX1 : Cond.instantiable RX1 7 ∈ lw_tbl := List.mem_of_getElem? (i := 310) (by decide +kernel)
theorem swX2 : Cond.instantiable RX2 5 ∈ lw_tbl := List.mem_of_getElem? (i := 91) (by decide +kernel)
theorem swX3 : Cond.instantiable RX3 3 ∈ lw_tbl := List.mem_of_getElem? (i := 247) (by decide +kernel)
theorem swX4 : Cond.instantiable RX4 2 ∈ lw_tbl := List.mem_of_getElem? (i := 345) (by decide +kernel)
theorem swX5 : Cond.instantiable RX5 11 ∈ lw_tbl := List.mem_of_getElem? (i := 57) (by decide +kernel)
theorem swX6 : Cond.instantiable RX6 32 ∈ lw_tbl := List.mem_of_getElem? (i := 530) (by decide +kernel)
theorem sw_int : Cond.arrayClass .int ∈ lw_tbl := List.mem_of_getElem? (i := 117) (by decide +kernel)
theorem sw_long : Cond.arrayClass .long ∈ lw_tbl := List.mem_of_getElem? (i := 633) (by decide +kernel)
theorem sw_boolean : Cond.arrayClass .boolean ∈ lw_tbl := List.mem_of_getElem? (i := 632) (by decide +kernel)
theorem sw_over : Cond.arrayOver (.object "java/lang/Object") ∈ lw_tbl := List.mem_of_getElem? (i := 225) (by decide +kernel)
theorem sw_nest : Cond.methodLinkNest RX1 97 yX5_isIn RX5 ∈ lw_tbl := List.mem_of_getElem? (i := 328) (by decide +kernel)
theorem sw_decl : Cond.declares ⟨"java/lang/Object", "getClass", "()Ljava/lang/Class;"⟩ ∈ lw_tbl := List.mem_of_getElem? (i := 794) (by decide +kernel)
theorem scX0 : Cond.castable RX0 "java/lang/Object" ∈ lw_tbl := List.mem_of_getElem? (i := 791) (by decide +kernel)
theorem scX1 : Cond.castable RX1 "java/lang/Object" ∈ lw_tbl := List.mem_of_getElem? (i := 789) (by decide +kernel)
theorem scX2 : Cond.castable RX2 "java/lang/Object" ∈ lw_tbl := List.mem_of_getElem? (i := 786) (by decide +kernel)
theorem scX3 : Cond.castable RX3 "java/lang/Object" ∈ lw_tbl := List.mem_of_getElem? (i := 788) (by decide +kernel)
theorem scX4 : Cond.castable RX4 "java/lang/Object" ∈ lw_tbl := List.mem_of_getElem? (i := 790) (by decide +kernel)
theorem sw_lays : Cond.laysStatic "java/util/ArrayList" "DEFAULTCAPACITY_EMPTY_ELEMENTDATA" "[Ljava/lang/Object;" ∈ lw_tbl := List.mem_of_getElem? (i := 77) (by decide +kernel)
theorem sw_ini : Cond.initialized "java/util/ArrayList" ∈ lw_tbl := List.mem_of_getElem? (i := 43) (by decide +kernel)
theorem st_KK {args : Array Value} {s : State} (hts : ∀ w ∈ lw_tbl, w.before args s = true) : ∃ g : GG, KK g s := by
  obtain ⟨c0, i0, k0⟩ := u_known (C := RJx4a65c) (T := TJx4a65c) (N := 3) hts inbJx4a65c (hts _ swJx4a65c)
  obtain ⟨c1, i1, k1⟩ := u_known (C := RX0) (T := TX0) (N := 4) hts inbX0 (hts _ swX0)
  obtain ⟨c2, i2, k2⟩ := u_known (C := RX1) (T := TX1) (N := 7) hts inbX1 (hts _ swX1)
  obtain ⟨c3, i3, k3⟩ := u_known (C := RX2) (T := TX2) (N := 5) hts inbX2 (hts _ swX2)
  obtain ⟨c4, i4, k4⟩ := u_known (C := RX3) (T := TX3) (N := 3) hts inbX3 (hts _ swX3)
  obtain ⟨c5, i5, k5⟩ := u_known (C := RX4) (T := TX4) (N := 2) hts inbX4 (hts _ swX4)
  obtain ⟨c6, i6, k6⟩ := u_known (C := RX5) (T := TX5) (N := 11) hts inbX5 (hts _ swX5)
  obtain ⟨c7, i7, k7⟩ := u_known (C := RX6) (T := TX6) (N := 32) hts inbX6 (hts _ swX6)
  obtain ⟨aI, hI1, hI2⟩ := st_arr (hts _ sw_int)
  obtain ⟨aJ, hJ1, hJ2⟩ := st_arr (hts _ sw_long)
  obtain ⟨aZ, hZ1, hZ2⟩ := st_arr (hts _ sw_boolean)
  obtain ⟨aO, hO1, hO2⟩ := st_arrO (hts _ sw_over)
  refine ⟨((fun k => if k = 0 then c0 else if k = 1 then c1 else if k = 2 then c2 else if k = 3 then c3 else if k = 4 then c4 else if k = 5 then c5 else if k = 6 then c6 else c7, fun k => if k = 0 then i0 else if k = 1 then i1 else if k = 2 then i2 else if k = 3 then i3 else if k = 4 then i4 else if k = 5 then i5 else if k = 6 then i6 else i7), aI, aJ, aZ, aO), ⟨fun k q hq => ?_, fun k q hq => ?_⟩, va_Nw.of rfl (hts _ sw_nest)⟩
  · match k, hq with
    | 0, hq => cases hq; exact k0
    | 1, hq => cases hq; exact k1
    | 2, hq => cases hq; exact k2
    | 3, hq => cases hq; exact k3
    | 4, hq => cases hq; exact k4
    | 5, hq => cases hq; exact k5
    | 6, hq => cases hq; exact k6
    | 7, hq => cases hq; exact k7
    | k + 8, hq => simp at hq
  · match k, hq with
    | 0, hq => cases hq; exact ⟨hI1, hI2⟩
    | 1, hq => cases hq; exact ⟨hJ1, hJ2⟩
    | 2, hq => cases hq; exact ⟨hZ1, hZ2⟩
    | 3, hq => cases hq; exact ⟨hO1, hO2⟩
    | k + 4, hq => simp [gT] at hq
theorem st_KX {args : Array Value} {s : State} (hts : ∀ w ∈ lw_tbl, w.before args s = true) (hgv : (Jvm.Cond.and given_1 narrow_1).before args s = true) : ∃ x : XX, x.2.2 = s.heap.size ∧ KX x s := by
  have hs := flat_of_before _ hgv
  have hA : ∀ a : Nat, a < s.heap.size → ¬ (fun q => s.heap.size ≤ q) a := fun a h => Nat.not_le.mpr h
  have q1 : (Cond.arrayOf (.static "java/util/ArrayList" "DEFAULTCAPACITY_EMPTY_ELEMENTDATA" "[Ljava/lang/Object;") (.object "java/lang/Object")).before args s = true := hs _ (by decide +kernel)
  have q2 : (Cond.eq (.length (.static "java/util/ArrayList" "DEFAULTCAPACITY_EMPTY_ELEMENTDATA" "[Ljava/lang/Object;")) (.int 0)).before args s = true := hs _ (by decide +kernel)
  have q3 : (Cond.isRef (.mirror "[Ljava/lang/Object;")).before args s = true := hs _ (by decide +kernel)
  obtain ⟨mi, hmi⟩ := va_Mi.of q3
  obtain ⟨t, ht, hT⟩ := va_Tof (N := 0) (f := fun _ => .null) (A := fun q => s.heap.size ≤ q) (by decide) q1 (va_eqt q2) (fun j hj => absurd hj (Nat.not_lt_zero j)) hA
  have hZ := va_Zref (A := fun q => s.heap.size ≤ q) (hts _ sw_lays) (hts _ sw_ini) ht hA
  refine ⟨(mi, t, s.heap.size), rfl, ⟨hmi, va_Dc.of (hts _ sw_decl), va_AO.of (hts _ sw_over)⟩, fun ci r hc hm => ?_, hZ, hT⟩
  match ci, hc, hm with
  | 1, hc, _ => cases hc; exact va_Nw.of rfl (hts _ scX0)
  | 2, hc, _ => cases hc; exact va_Nw.of rfl (hts _ scX1)
  | 3, hc, _ => cases hc; exact va_Nw.of rfl (hts _ scX2)
  | 4, hc, _ => cases hc; exact va_Nw.of rfl (hts _ scX3)
  | 5, hc, _ => cases hc; exact va_Nw.of rfl (hts _ scX4)
  | 0, _, hm => exact absurd hm (by decide)
  | k + 6, _, hm => exact absurd ((by decide : ∀ n, n ∈ [1, 2, 3, 4, 5] → n ≤ 5) _ hm) (by omega)
theorem sw_cl5 : Cond.classLink RL 7 RX5 ∈ lw_tbl := List.mem_of_getElem? (i := 56) (by decide +kernel)
theorem sw_cl6 : Cond.classLink RL 10 RX6 ∈ lw_tbl := List.mem_of_getElem? (i := 529) (by decide +kernel)
theorem sw_in5 : Cond.initialized RX5 ∈ lw_tbl := List.mem_of_getElem? (i := 40) (by decide +kernel)
theorem sw_in6 : Cond.initialized RX6 ∈ lw_tbl := List.mem_of_getElem? (i := 45) (by decide +kernel)
theorem sw_ml5 : Cond.methodLink RL 9 yX5_init ∈ lw_tbl := List.mem_of_getElem? (i := 58) (by decide +kernel)
theorem sw_im5 : Cond.instanceMethod yX5_init ∈ lw_tbl := List.mem_of_getElem? (i := 59) (by decide +kernel)
theorem sw_ml6 : Cond.methodLink RL 12 yX6_init ∈ lw_tbl := List.mem_of_getElem? (i := 531) (by decide +kernel)
theorem sw_im6 : Cond.instanceMethod yX6_init ∈ lw_tbl := List.mem_of_getElem? (i := 532) (by decide +kernel)
