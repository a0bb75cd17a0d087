set_option maxHeartbeats 4000000 in
set_option maxRecDepth 100000 in
theorem cc_event (l : Launch) (g : GG) (x : XX) (a : Nat) (a1 a2 a3 : Int) (hb0 : x.2.2 ≤ a) : MetXV l yX0_init wsX0_init ({ frames := 1, cells := 0, slots := 0, locals := 12 }) g x [.ref a, .int (iI a1), .int (iI a2), .int (iI a3)] (fun H => va_at g.1 vwCl (a, .inr (1, [.int (iI 0), .int (iI 0), .int (iI 0), .int (iI 0)])) H) (fun H => va_at g.1 vwCl (a, .inr (1, [.int (iI a1), .int (iI a2), .int (iI a3), .int (iI 1000000)])) H) (fun q => q = a) 0 0 := by
  refine Met.ofW (cc := cX0_init) (maxL := 4) (ret := none) (by decide) rfl ?_
  intro p e s m args below meth c s₁ B hml hv
  obtain ⟨rfl, hP, hK, hX⟩ := hv
  have hx := B.exec
  have hb := B.bytes
  have hr := B.returns
  have hts := atoms_spec (ws := wsX0_init) B.pre
  have hown : s.vm.findClass RX0 = some m.cls := findClass_of_methodNamed B.named
  have hlocks := B.notSynchronized
  have inX0 : ∀ w ∈ wsX00, w ∈ wsX0_init := by decide +kernel
  have hl := lv_entry ([.ref a, .int (iI a1), .int (iI a2), .int (iI a3)]) (n := 4) (Nat.le_of_ble_eq_true rfl)
  rw [lg_entry_eq]
  generalize (lg_sl ([.ref a, .int (iI a1), .int (iI a2), .int (iI a3)]) ++ List.replicate (4 - (lg_sl ([.ref a, .int (iI a1), .int (iI a2), .int (iI a3)])).length) Slot.unset).toArray = ls at hl ⊢
  have hl : lv_has ls 4 [(0, .ref a), (1, .int (iI a1)), (2, .int (iI a2)), (3, .int (iI a3))] := hl
  have hin : meth.name = "<init>" := (name_of_methodNamed B.named B.method).1
  have hS : va_S (fun q => q = a) s.heap s.heap [] := va_S.rf
  have hAb : ∀ q, (fun q => q = a) q → x.2.2 ≤ q := fun q h => by rw [h]; exact hb0
  refine lv_aload_n hx hb dX0_init_0 rfl (lv_at hl 0 rfl) ?_
  refine W.objInit hx hb hown (hts (.methodLink RX0 3 objectInit) (by decide +kernel)) (hts (.instanceMethod objectInit) (by decide +kernel)) (hts (.code objectInit ⟨#[0xb1]⟩ 1 none) (by decide +kernel)) rfl (by rw [hml]; exact hl.1) rfl dX0_init_1 (Nat.le_of_ble_eq_true rfl) (Nat.le_of_ble_eq_true rfl) ?_
  refine W.eq (g2 := F0 m 4 ls []) rfl ?_
  refine lv_aload_n hx hb dX0_init_4 rfl (lv_at hl 0 rfl) ?_
  refine lv_iload_n hx hb dX0_init_5 rfl (lv_at hl 1 rfl) ?_
  refine q_putF (ty := .int) (v := .int (iI a1)) hx hb hts inX0 tyX0 tyX0_ok nmX0 hown hK hP rfl 0 (by decide) (hts (.fieldLink RX0 9 "TavernBench$Event" "day" "I") (by decide +kernel)) (fun _ h9 => h9) rfl hin rfl (by decide +kernel) rfl rfl (Nat.le_of_ble_eq_true rfl) dX0_init_6 (fun H i1 hP hz1 ho1 => ?_)
  have hP : va_at g.1 vwCl (a, .inr (1, [.int (iI a1), .int (iI 0), .int (iI 0), .int (iI 0)])) H := hP
  have hS := hS.put (k := i1) hz1 ho1 rfl
  refine lv_aload_n hx hb dX0_init_9 rfl (lv_at hl 0 rfl) ?_
  refine lv_iload_n hx hb dX0_init_10 rfl (lv_at hl 2 rfl) ?_
  refine q_putF (ty := .int) (v := .int (iI a2)) hx hb hts inX0 tyX0 tyX0_ok nmX0 hown hK hP rfl 1 (by decide) (hts (.fieldLink RX0 15 "TavernBench$Event" "kind" "I") (by decide +kernel)) (fun _ h9 => h9) rfl hin rfl (by decide +kernel) rfl rfl (Nat.le_of_ble_eq_true rfl) dX0_init_11 (fun H i1 hP hz1 ho1 => ?_)
  have hP : va_at g.1 vwCl (a, .inr (1, [.int (iI a1), .int (iI a2), .int (iI 0), .int (iI 0)])) H := hP
  have hS := hS.put (k := i1) hz1 ho1 rfl
  refine lv_aload_n hx hb dX0_init_14 rfl (lv_at hl 0 rfl) ?_
  refine lv_iload_n hx hb dX0_init_15 rfl (lv_at hl 3 rfl) ?_
  refine q_putF (ty := .int) (v := .int (iI a3)) hx hb hts inX0 tyX0 tyX0_ok nmX0 hown hK hP rfl 2 (by decide) (hts (.fieldLink RX0 18 "TavernBench$Event" "v" "I") (by decide +kernel)) (fun _ h9 => h9) rfl hin rfl (by decide +kernel) rfl rfl (Nat.le_of_ble_eq_true rfl) dX0_init_16 (fun H i1 hP hz1 ho1 => ?_)
  have hP : va_at g.1 vwCl (a, .inr (1, [.int (iI a1), .int (iI a2), .int (iI a3), .int (iI 0)])) H := hP
  have hS := hS.put (k := i1) hz1 ho1 rfl
  refine lv_aload_n hx hb dX0_init_19 rfl (lv_at hl 0 rfl) ?_
  refine q_ldc hx hb 1000000 hown (hts (.constant RX0 21 (1000000)) (by decide +kernel)) (by decide +kernel) dX0_init_20 ?_
  refine q_put (ty := .int) (v := .int (iI 1000000)) hx hb hts inX0 tyX0 tyX0_ok nmX0 hown hK hP rfl 3 (by decide) (hts (.fieldLink RX0 22 "TavernBench$Event" "quashedFrom" "I") (by decide +kernel)) (fun _ h9 => h9) rfl (by decide +kernel) rfl rfl (Nat.le_of_ble_eq_true rfl) dX0_init_22 (fun H i1 hP hz1 ho1 => ?_)
  have hP : va_at g.1 vwCl (a, .inr (1, [.int (iI a1), .int (iI a2), .int (iI a3), .int (iI 1000000)])) H := hP
  have hS := hS.put (k := i1) hz1 ho1 rfl
  refine W.widen (k := 0) (n := 0) (by omega) (by omega) ?_
  refine q_mretv hx hb hr hlocks hS dX0_init_25 ?_
  · exact hP

set_option maxHeartbeats 4000000 in
set_option maxRecDepth 100000 in
theorem cc_law (l : Launch) (g : GG) (x : XX) (a : Nat) (a1 a2 a3 a4 a5 : Int) (hb0 : x.2.2 ≤ a) : MetXV l yX2_init wsX2_init ({ frames := 1, cells := 0, slots := 0, locals := 12 }) g x [.ref a, .int (iI a1), .int (iI a2), .int (iI a3), .int (iI a4), .int (iI a5)] (fun H => va_at g.1 vwCl (a, .inr (3, [.int (iI 0), .int (iI 0), .int (iI 0), .int (iI 0), .int (iI 0)])) H) (fun H => va_at g.1 vwCl (a, .inr (3, [.int (iI a1), .int (iI a2), .int (iI a3), .int (iI a4), .int (iI a5)])) H) (fun q => q = a) 0 0 := by
  refine Met.ofW (cc := cX2_init) (maxL := 6) (ret := none) (by decide) rfl ?_
  intro p e s m args below meth c s₁ B hml hv
  obtain ⟨rfl, hP, hK, hX⟩ := hv
  have hx := B.exec
  have hb := B.bytes
  have hr := B.returns
  have hts := atoms_spec (ws := wsX2_init) B.pre
  have hown : s.vm.findClass RX2 = some m.cls := findClass_of_methodNamed B.named
  have hlocks := B.notSynchronized
  have inX2 : ∀ w ∈ wsX20, w ∈ wsX2_init := by decide +kernel
  have hl := lv_entry ([.ref a, .int (iI a1), .int (iI a2), .int (iI a3), .int (iI a4), .int (iI a5)]) (n := 6) (Nat.le_of_ble_eq_true rfl)
  rw [lg_entry_eq]
  generalize (lg_sl ([.ref a, .int (iI a1), .int (iI a2), .int (iI a3), .int (iI a4), .int (iI a5)]) ++ List.replicate (6 - (lg_sl ([.ref a, .int (iI a1), .int (iI a2), .int (iI a3), .int (iI a4), .int (iI a5)])).length) Slot.unset).toArray = ls at hl ⊢
  have hl : lv_has ls 6 [(0, .ref a), (1, .int (iI a1)), (2, .int (iI a2)), (3, .int (iI a3)), (4, .int (iI a4)), (5, .int (iI a5))] := hl
  have hin : meth.name = "<init>" := (name_of_methodNamed B.named B.method).1
  have hS : va_S (fun q => q = a) s.heap s.heap [] := va_S.rf
  have hAb : ∀ q, (fun q => q = a) q → x.2.2 ≤ q := fun q h => by rw [h]; exact hb0
  refine lv_aload_n hx hb dX2_init_0 rfl (lv_at hl 0 rfl) ?_
  refine W.objInit hx hb hown (hts (.methodLink RX2 1 objectInit) (by decide +kernel)) (hts (.instanceMethod objectInit) (by decide +kernel)) (hts (.code objectInit ⟨#[0xb1]⟩ 1 none) (by decide +kernel)) rfl (by rw [hml]; exact hl.1) rfl dX2_init_1 (Nat.le_of_ble_eq_true rfl) (Nat.le_of_ble_eq_true rfl) ?_
  refine W.eq (g2 := F0 m 4 ls []) rfl ?_
  refine lv_aload_n hx hb dX2_init_4 rfl (lv_at hl 0 rfl) ?_
  refine lv_iload_n hx hb dX2_init_5 rfl (lv_at hl 1 rfl) ?_
  refine q_putF (ty := .int) (v := .int (iI a1)) hx hb hts inX2 tyX2 tyX2_ok nmX2 hown hK hP rfl 0 (by decide) (hts (.fieldLink RX2 7 "TavernBench$Law" "day" "I") (by decide +kernel)) (fun _ h9 => h9) rfl hin rfl (by decide +kernel) rfl rfl (Nat.le_of_ble_eq_true rfl) dX2_init_6 (fun H i1 hP hz1 ho1 => ?_)
  have hP : va_at g.1 vwCl (a, .inr (3, [.int (iI a1), .int (iI 0), .int (iI 0), .int (iI 0), .int (iI 0)])) H := hP
  have hS := hS.put (k := i1) hz1 ho1 rfl
  refine lv_aload_n hx hb dX2_init_9 rfl (lv_at hl 0 rfl) ?_
  refine lv_iload_n hx hb dX2_init_10 rfl (lv_at hl 2 rfl) ?_
  refine q_putF (ty := .int) (v := .int (iI a2)) hx hb hts inX2 tyX2 tyX2_ok nmX2 hown hK hP rfl 1 (by decide) (hts (.fieldLink RX2 13 "TavernBench$Law" "kind" "I") (by decide +kernel)) (fun _ h9 => h9) rfl hin rfl (by decide +kernel) rfl rfl (Nat.le_of_ble_eq_true rfl) dX2_init_11 (fun H i1 hP hz1 ho1 => ?_)
  have hP : va_at g.1 vwCl (a, .inr (3, [.int (iI a1), .int (iI a2), .int (iI 0), .int (iI 0), .int (iI 0)])) H := hP
  have hS := hS.put (k := i1) hz1 ho1 rfl
  refine lv_aload_n hx hb dX2_init_14 rfl (lv_at hl 0 rfl) ?_
  refine lv_iload_n hx hb dX2_init_15 rfl (lv_at hl 3 rfl) ?_
  refine q_putF (ty := .int) (v := .int (iI a3)) hx hb hts inX2 tyX2 tyX2_ok nmX2 hown hK hP rfl 2 (by decide) (hts (.fieldLink RX2 16 "TavernBench$Law" "weekday" "I") (by decide +kernel)) (fun _ h9 => h9) rfl hin rfl (by decide +kernel) rfl rfl (Nat.le_of_ble_eq_true rfl) dX2_init_16 (fun H i1 hP hz1 ho1 => ?_)
  have hP : va_at g.1 vwCl (a, .inr (3, [.int (iI a1), .int (iI a2), .int (iI a3), .int (iI 0), .int (iI 0)])) H := hP
  have hS := hS.put (k := i1) hz1 ho1 rfl
  refine lv_aload_n hx hb dX2_init_19 rfl (lv_at hl 0 rfl) ?_
  refine lv_iload hx hb dX2_init_20 (lv_at hl 4 rfl) ?_
  refine q_putF (ty := .int) (v := .int (iI a4)) hx hb hts inX2 tyX2 tyX2_ok nmX2 hown hK hP rfl 3 (by decide) (hts (.fieldLink RX2 19 "TavernBench$Law" "from" "I") (by decide +kernel)) (fun _ h9 => h9) rfl hin rfl (by decide +kernel) rfl rfl (Nat.le_of_ble_eq_true rfl) dX2_init_22 (fun H i1 hP hz1 ho1 => ?_)
  have hP : va_at g.1 vwCl (a, .inr (3, [.int (iI a1), .int (iI a2), .int (iI a3), .int (iI a4), .int (iI 0)])) H := hP
  have hS := hS.put (k := i1) hz1 ho1 rfl
  refine lv_aload_n hx hb dX2_init_25 rfl (lv_at hl 0 rfl) ?_
  refine lv_iload hx hb dX2_init_26 (lv_at hl 5 rfl) ?_
  refine q_putF (ty := .int) (v := .int (iI a5)) hx hb hts inX2 tyX2 tyX2_ok nmX2 hown hK hP rfl 4 (by decide) (hts (.fieldLink RX2 22 "TavernBench$Law" "to" "I") (by decide +kernel)) (fun _ h9 => h9) rfl hin rfl (by decide +kernel) rfl rfl (Nat.le_of_ble_eq_true rfl) dX2_init_28 (fun H i1 hP hz1 ho1 => ?_)
  have hP : va_at g.1 vwCl (a, .inr (3, [.int (iI a1), .int (iI a2), .int (iI a3), .int (iI a4), .int (iI a5)])) H := hP
  have hS := hS.put (k := i1) hz1 ho1 rfl
  refine W.widen (k := 0) (n := 0) (by omega) (by omega) ?_
  refine q_mretv hx hb hr hlocks hS dX2_init_31 ?_
  · exact hP

set_option maxHeartbeats 4000000 in
set_option maxRecDepth 100000 in
theorem cc_objector (l : Launch) (g : GG) (x : XX) (a : Nat) (a1 a2 a3 : Int) (hb0 : x.2.2 ≤ a) : MetXV l yX3_init wsX3_init ({ frames := 1, cells := 0, slots := 0, locals := 12 }) g x [.ref a, .int (iI a1), .int (iI a2), .int (iI a3)] (fun H => va_at g.1 vwCl (a, .inr (4, [.int (iI 0), .int (iI 0), .int (iI 0)])) H) (fun H => va_at g.1 vwCl (a, .inr (4, [.int (iI a1), .int (iI a2), .int (iI a3)])) H) (fun q => q = a) 0 0 := by
  refine Met.ofW (cc := cX3_init) (maxL := 4) (ret := none) (by decide) rfl ?_
  intro p e s m args below meth c s₁ B hml hv
  obtain ⟨rfl, hP, hK, hX⟩ := hv
  have hx := B.exec
  have hb := B.bytes
  have hr := B.returns
  have hts := atoms_spec (ws := wsX3_init) B.pre
  have hown : s.vm.findClass RX3 = some m.cls := findClass_of_methodNamed B.named
  have hlocks := B.notSynchronized
  have inX3 : ∀ w ∈ wsX30, w ∈ wsX3_init := by decide +kernel
  have hl := lv_entry ([.ref a, .int (iI a1), .int (iI a2), .int (iI a3)]) (n := 4) (Nat.le_of_ble_eq_true rfl)
  rw [lg_entry_eq]
  generalize (lg_sl ([.ref a, .int (iI a1), .int (iI a2), .int (iI a3)]) ++ List.replicate (4 - (lg_sl ([.ref a, .int (iI a1), .int (iI a2), .int (iI a3)])).length) Slot.unset).toArray = ls at hl ⊢
  have hl : lv_has ls 4 [(0, .ref a), (1, .int (iI a1)), (2, .int (iI a2)), (3, .int (iI a3))] := hl
  have hin : meth.name = "<init>" := (name_of_methodNamed B.named B.method).1
  have hS : va_S (fun q => q = a) s.heap s.heap [] := va_S.rf
  have hAb : ∀ q, (fun q => q = a) q → x.2.2 ≤ q := fun q h => by rw [h]; exact hb0
  refine lv_aload_n hx hb dX3_init_0 rfl (lv_at hl 0 rfl) ?_
  refine W.objInit hx hb hown (hts (.methodLink RX3 1 objectInit) (by decide +kernel)) (hts (.instanceMethod objectInit) (by decide +kernel)) (hts (.code objectInit ⟨#[0xb1]⟩ 1 none) (by decide +kernel)) rfl (by rw [hml]; exact hl.1) rfl dX3_init_1 (Nat.le_of_ble_eq_true rfl) (Nat.le_of_ble_eq_true rfl) ?_
  refine W.eq (g2 := F0 m 4 ls []) rfl ?_
  refine lv_aload_n hx hb dX3_init_4 rfl (lv_at hl 0 rfl) ?_
  refine lv_iload_n hx hb dX3_init_5 rfl (lv_at hl 1 rfl) ?_
  refine q_putF (ty := .int) (v := .int (iI a1)) hx hb hts inX3 tyX3 tyX3_ok nmX3 hown hK hP rfl 0 (by decide) (hts (.fieldLink RX3 7 "TavernBench$Objector" "x" "I") (by decide +kernel)) (fun _ h9 => h9) rfl hin rfl (by decide +kernel) rfl rfl (Nat.le_of_ble_eq_true rfl) dX3_init_6 (fun H i1 hP hz1 ho1 => ?_)
  have hP : va_at g.1 vwCl (a, .inr (4, [.int (iI a1), .int (iI 0), .int (iI 0)])) H := hP
  have hS := hS.put (k := i1) hz1 ho1 rfl
  refine lv_aload_n hx hb dX3_init_9 rfl (lv_at hl 0 rfl) ?_
  refine lv_iload_n hx hb dX3_init_10 rfl (lv_at hl 2 rfl) ?_
  refine q_putF (ty := .int) (v := .int (iI a2)) hx hb hts inX3 tyX3 tyX3_ok nmX3 hown hK hP rfl 1 (by decide) (hts (.fieldLink RX3 13 "TavernBench$Objector" "y" "I") (by decide +kernel)) (fun _ h9 => h9) rfl hin rfl (by decide +kernel) rfl rfl (Nat.le_of_ble_eq_true rfl) dX3_init_11 (fun H i1 hP hz1 ho1 => ?_)
  have hP : va_at g.1 vwCl (a, .inr (4, [.int (iI a1), .int (iI a2), .int (iI 0)])) H := hP
  have hS := hS.put (k := i1) hz1 ho1 rfl
  refine lv_aload_n hx hb dX3_init_14 rfl (lv_at hl 0 rfl) ?_
  refine lv_iload_n hx hb dX3_init_15 rfl (lv_at hl 3 rfl) ?_
  refine q_putF (ty := .int) (v := .int (iI a3)) hx hb hts inX3 tyX3 tyX3_ok nmX3 hown hK hP rfl 2 (by decide) (hts (.fieldLink RX3 16 "TavernBench$Objector" "weight" "I") (by decide +kernel)) (fun _ h9 => h9) rfl hin rfl (by decide +kernel) rfl rfl (Nat.le_of_ble_eq_true rfl) dX3_init_16 (fun H i1 hP hz1 ho1 => ?_)
  have hP : va_at g.1 vwCl (a, .inr (4, [.int (iI a1), .int (iI a2), .int (iI a3)])) H := hP
  have hS := hS.put (k := i1) hz1 ho1 rfl
  refine W.widen (k := 0) (n := 0) (by omega) (by omega) ?_
  refine q_mretv hx hb hr hlocks hS dX3_init_19 ?_
  · exact hP

set_option maxHeartbeats 4000000 in
set_option maxRecDepth 100000 in
theorem cc_worth (l : Launch) (g : GG) (x : XX) (a : Nat) (a1 a2 : Int) (hb0 : x.2.2 ≤ a) : MetXV l yX4_init wsX4_init ({ frames := 1, cells := 0, slots := 0, locals := 12 }) g x [.ref a, .int (iI a1), .int (iI a2)] (fun H => va_at g.1 vwCl (a, .inr (5, [.int (iI 0), .int (iI 0)])) H) (fun H => va_at g.1 vwCl (a, .inr (5, [.int (iI a1), .int (iI a2)])) H) (fun q => q = a) 0 0 := by
  refine Met.ofW (cc := cX4_init) (maxL := 3) (ret := none) (by decide) rfl ?_
  intro p e s m args below meth c s₁ B hml hv
  obtain ⟨rfl, hP, hK, hX⟩ := hv
  have hx := B.exec
  have hb := B.bytes
  have hr := B.returns
  have hts := atoms_spec (ws := wsX4_init) B.pre
  have hown : s.vm.findClass RX4 = some m.cls := findClass_of_methodNamed B.named
  have hlocks := B.notSynchronized
  have inX4 : ∀ w ∈ wsX40, w ∈ wsX4_init := by decide +kernel
  have hl := lv_entry ([.ref a, .int (iI a1), .int (iI a2)]) (n := 3) (Nat.le_of_ble_eq_true rfl)
  rw [lg_entry_eq]
  generalize (lg_sl ([.ref a, .int (iI a1), .int (iI a2)]) ++ List.replicate (3 - (lg_sl ([.ref a, .int (iI a1), .int (iI a2)])).length) Slot.unset).toArray = ls at hl ⊢
  have hl : lv_has ls 3 [(0, .ref a), (1, .int (iI a1)), (2, .int (iI a2))] := hl
  have hin : meth.name = "<init>" := (name_of_methodNamed B.named B.method).1
  have hS : va_S (fun q => q = a) s.heap s.heap [] := va_S.rf
  have hAb : ∀ q, (fun q => q = a) q → x.2.2 ≤ q := fun q h => by rw [h]; exact hb0
  refine lv_aload_n hx hb dX4_init_0 rfl (lv_at hl 0 rfl) ?_
  refine W.objInit hx hb hown (hts (.methodLink RX4 1 objectInit) (by decide +kernel)) (hts (.instanceMethod objectInit) (by decide +kernel)) (hts (.code objectInit ⟨#[0xb1]⟩ 1 none) (by decide +kernel)) rfl (by rw [hml]; exact hl.1) rfl dX4_init_1 (Nat.le_of_ble_eq_true rfl) (Nat.le_of_ble_eq_true rfl) ?_
  refine W.eq (g2 := F0 m 4 ls []) rfl ?_
  refine lv_aload_n hx hb dX4_init_4 rfl (lv_at hl 0 rfl) ?_
  refine lv_iload_n hx hb dX4_init_5 rfl (lv_at hl 1 rfl) ?_
  refine q_putF (ty := .int) (v := .int (iI a1)) hx hb hts inX4 tyX4 tyX4_ok nmX4 hown hK hP rfl 0 (by decide) (hts (.fieldLink RX4 7 "TavernBench$Worth" "day" "I") (by decide +kernel)) (fun _ h9 => h9) rfl hin rfl (by decide +kernel) rfl rfl (Nat.le_of_ble_eq_true rfl) dX4_init_6 (fun H i1 hP hz1 ho1 => ?_)
  have hP : va_at g.1 vwCl (a, .inr (5, [.int (iI a1), .int (iI 0)])) H := hP
  have hS := hS.put (k := i1) hz1 ho1 rfl
  refine lv_aload_n hx hb dX4_init_9 rfl (lv_at hl 0 rfl) ?_
  refine lv_iload_n hx hb dX4_init_10 rfl (lv_at hl 2 rfl) ?_
  refine q_putF (ty := .int) (v := .int (iI a2)) hx hb hts inX4 tyX4 tyX4_ok nmX4 hown hK hP rfl 1 (by decide) (hts (.fieldLink RX4 13 "TavernBench$Worth" "amount" "I") (by decide +kernel)) (fun _ h9 => h9) rfl hin rfl (by decide +kernel) rfl rfl (Nat.le_of_ble_eq_true rfl) dX4_init_11 (fun H i1 hP hz1 ho1 => ?_)
  have hP : va_at g.1 vwCl (a, .inr (5, [.int (iI a1), .int (iI a2)])) H := hP
  have hS := hS.put (k := i1) hz1 ho1 rfl
  refine W.widen (k := 0) (n := 0) (by omega) (by omega) ?_
  refine q_mretv hx hb hr hlocks hS dX4_init_14 ?_
  · exact hP

set_option maxHeartbeats 4000000 in
set_option maxRecDepth 100000 in
theorem cc_house (l : Launch) (g : GG) (x : XX) (a sz : Nat) (a1 a2 a3 a4 a5 : Int) (hb0 : x.2.2 ≤ a) (hb2 : x.2.2 ≤ sz) : MetXV l yX1_init wsX1_init ({ frames := 7, cells := 4, slots := 57, locals := 191 }) g x [.ref a, .int (iI a1), .int (iI a2), .int (iI a3), .int (iI a4), .int (iI a5)] (fun H => H.size = sz ∧ va_at g.1 vwCl (a, .inr (2, [.int (iI 0), .int (iI 0), .int (iI 0), .int (iI 0), .null, .null, .int (iI 0)])) H) (fun H => ∃ q1 q2 q3 q4 : Nat, (sz ≤ q1 ∧ q1 < q2 ∧ q2 < q3 ∧ q3 < q4) ∧ va_at g.1 vwCl (a, .inr (2, [.int (iI a1), .int (iI a2), .int (iI a3), .int (iI a4), .ref q1, .ref q2, .int (iI 0)])) H ∧ va_at g.1 vwCl (q1, .inr (0, [.int (iI 0), .ref x.2.1, .int (iI 0)])) H ∧ va_at g.1 vwCl (q2, .inr (0, [.int (iI 1), .ref q4, .int (iI 1)])) H ∧ va_at g.1 vwCl (q3, .inr (5, [.int (iI a4), .int (iI a5)])) H ∧ va_at g.1 vwCl (q4, arrE g 1 (fun _ => q3)) H) (fun q => q = a ∨ sz ≤ q) 4 57 := by
  refine Met.ofW (cc := cX1_init) (maxL := 6) (ret := none) (by decide) rfl ?_
  intro p e s m args below meth c s₁ B hml hv
  obtain ⟨rfl, hP, hK, hX⟩ := hv
  have hx := B.exec
  have hb := B.bytes
  have hr := B.returns
  have hts := atoms_spec (ws := wsX1_init) B.pre
  have hown : s.vm.findClass RX1 = some m.cls := findClass_of_methodNamed B.named
  have hlocks := B.notSynchronized
  have inJx4a65c : ∀ w ∈ wsJx4a65c0, w ∈ wsX1_init := by decide +kernel
  have inX1 : ∀ w ∈ wsX10, w ∈ wsX1_init := by decide +kernel
  have inX4 : ∀ w ∈ wsX40, w ∈ wsX1_init := by decide +kernel
  have hl := lv_entry ([.ref a, .int (iI a1), .int (iI a2), .int (iI a3), .int (iI a4), .int (iI a5)]) (n := 6) (Nat.le_of_ble_eq_true rfl)
  rw [lg_entry_eq]
  generalize (lg_sl ([.ref a, .int (iI a1), .int (iI a2), .int (iI a3), .int (iI a4), .int (iI a5)]) ++ List.replicate (6 - (lg_sl ([.ref a, .int (iI a1), .int (iI a2), .int (iI a3), .int (iI a4), .int (iI a5)])).length) Slot.unset).toArray = ls at hl ⊢
  have hl : lv_has ls 6 [(0, .ref a), (1, .int (iI a1)), (2, .int (iI a2)), (3, .int (iI a3)), (4, .int (iI a4)), (5, .int (iI a5))] := hl
  have hin : meth.name = "<init>" := (name_of_methodNamed B.named B.method).1
  have hS : va_S (fun q => q = a ∨ sz ≤ q) s.heap s.heap [] := va_S.rf
  have hAb : ∀ q, (fun q => q = a ∨ sz ≤ q) q → x.2.2 ≤ q := fun q h => h.elim (fun z => by rw [z]; exact hb0) (fun z => Nat.le_trans hb2 z)
  obtain ⟨hsz0, hO⟩ := hP
  have hls : a < sz := by have h9 : a < s.heap.size := va_at.lt2 hO; omega
  refine lv_aload_n hx hb dX1_init_0 rfl (lv_at hl 0 rfl) ?_
  refine W.objInit hx hb hown (hts (.methodLink RX1 3 objectInit) (by decide +kernel)) (hts (.instanceMethod objectInit) (by decide +kernel)) (hts (.code objectInit ⟨#[0xb1]⟩ 1 none) (by decide +kernel)) rfl (by rw [hml]; exact hl.1) rfl dX1_init_1 (Nat.le_of_ble_eq_true rfl) (Nat.le_of_ble_eq_true rfl) ?_
  refine W.eq (g2 := F0 m 4 ls []) rfl ?_
  refine lv_aload_n hx hb dX1_init_4 rfl (lv_at hl 0 rfl) ?_
  refine lv_iload_n hx hb dX1_init_5 rfl (lv_at hl 1 rfl) ?_
  refine q_putF (ty := .int) (v := .int (iI a1)) hx hb hts inX1 tyX1 tyX1_ok nmX1 hown hK hO rfl 0 (by decide) (hts (.fieldLink RX1 9 "TavernBench$House" "x" "I") (by decide +kernel)) (fun _ h9 => h9) rfl hin rfl (by decide +kernel) rfl rfl (Nat.le_of_ble_eq_true rfl) dX1_init_6 (fun H i1 hO hz1 ho1 => ?_)
  have hO : va_at g.1 vwCl (a, .inr (2, [.int (iI a1), .int (iI 0), .int (iI 0), .int (iI 0), .null, .null, .int (iI 0)])) H := hO
  have hS := hS.put (k := i1) hz1 ho1 (Or.inl rfl)
  refine lv_aload_n hx hb dX1_init_9 rfl (lv_at hl 0 rfl) ?_
  refine lv_iload_n hx hb dX1_init_10 rfl (lv_at hl 2 rfl) ?_
  refine q_putF (ty := .int) (v := .int (iI a2)) hx hb hts inX1 tyX1 tyX1_ok nmX1 hown hK hO rfl 1 (by decide) (hts (.fieldLink RX1 15 "TavernBench$House" "y" "I") (by decide +kernel)) (fun _ h9 => h9) rfl hin rfl (by decide +kernel) rfl rfl (Nat.le_of_ble_eq_true rfl) dX1_init_11 (fun H i1 hO hz1 ho1 => ?_)
  have hO : va_at g.1 vwCl (a, .inr (2, [.int (iI a1), .int (iI a2), .int (iI 0), .int (iI 0), .null, .null, .int (iI 0)])) H := hO
  have hS := hS.put (k := i1) hz1 ho1 (Or.inl rfl)
  refine lv_aload_n hx hb dX1_init_14 rfl (lv_at hl 0 rfl) ?_
  refine lv_iload_n hx hb dX1_init_15 rfl (lv_at hl 3 rfl) ?_
  refine q_putF (ty := .int) (v := .int (iI a3)) hx hb hts inX1 tyX1 tyX1_ok nmX1 hown hK hO rfl 2 (by decide) (hts (.fieldLink RX1 18 "TavernBench$House" "kind" "I") (by decide +kernel)) (fun _ h9 => h9) rfl hin rfl (by decide +kernel) rfl rfl (Nat.le_of_ble_eq_true rfl) dX1_init_16 (fun H i1 hO hz1 ho1 => ?_)
  have hO : va_at g.1 vwCl (a, .inr (2, [.int (iI a1), .int (iI a2), .int (iI a3), .int (iI 0), .null, .null, .int (iI 0)])) H := hO
  have hS := hS.put (k := i1) hz1 ho1 (Or.inl rfl)
  refine lv_aload_n hx hb dX1_init_19 rfl (lv_at hl 0 rfl) ?_
  refine lv_iload hx hb dX1_init_20 (lv_at hl 4 rfl) ?_
  refine q_putF (ty := .int) (v := .int (iI a4)) hx hb hts inX1 tyX1 tyX1_ok nmX1 hown hK hO rfl 3 (by decide) (hts (.fieldLink RX1 21 "TavernBench$House" "granted" "I") (by decide +kernel)) (fun _ h9 => h9) rfl hin rfl (by decide +kernel) rfl rfl (Nat.le_of_ble_eq_true rfl) dX1_init_22 (fun H i1 hO hz1 ho1 => ?_)
  have hO : va_at g.1 vwCl (a, .inr (2, [.int (iI a1), .int (iI a2), .int (iI a3), .int (iI a4), .null, .null, .int (iI 0)])) H := hO
  have hS := hS.put (k := i1) hz1 ho1 (Or.inl rfl)
  refine lv_aload_n hx hb dX1_init_25 rfl (lv_at hl 0 rfl) ?_
  refine q_newN (ci := 0) (fs := [.int (iI 0), .null, .int (iI 0)]) hx hb hts inJx4a65c tyJx4a65c tyJx4a65c_ok hown (hts (.classLink RX1 24 RJx4a65c) (by decide +kernel)) (hts (.instantiable RJx4a65c 3) (by decide +kernel)) (hts (.initialized RJx4a65c) (by decide +kernel)) hK rfl hS (fun j hj => by rcases j with _ | _ | _ | j <;> first | rfl | omega) (Nat.le_of_ble_eq_true rfl) (Nat.le_of_ble_eq_true rfl) dX1_init_26 (fun nw26 H hqnw26 hOnw26 hz1 ho1 hS => ?_)
  have hO := hO.kept (ho1 _ (va_at.lt2 hO))
  have hltnw26 : nw26 < H.size := va_at.lt2 hOnw26
  refine lv_dup hx hb dX1_init_29 rfl ?_
  refine q_xI (As := []) (rest := [.ref nw26, .ref a]) ⟨hx, hb, hml, hown, hts⟩ (cj_init l g x nw26 (by omega)) (cwI 0 hts gX1_init_Jx4a65c_init_da8c8 rfl rfl rfl (hts (.initialized RJx4a65c) (by decide +kernel)) (hts (.methodLink RX1 26 yJx4a65c_init_da8c8) (by decide +kernel)) (hts (.instanceMethod yJx4a65c_init_da8c8) (by decide +kernel)) rfl (by decide +kernel) ⟨Nat.le_of_ble_eq_true rfl, Nat.le_of_ble_eq_true rfl⟩) (q_pSX hK hX hS hAb hOnw26) rfl hl.1 rfl (Nat.le_of_ble_eq_true rfl) ⟨Nat.le_of_ble_eq_true rfl, Nat.le_of_ble_eq_true rfl⟩ dX1_init_30 hS (fun q h => by rw [show q = nw26 from h]; exact (Or.inr (by omega))) (fun H locs hOnw26 hz1 hk1 hS => ?_)
  have hO := hO.kept (hk1 _ (va_at.lt2 hO) (by omega))
  refine q_putF (ty := (.object "java/util/ArrayList")) (v := .ref nw26) hx hb hts inX1 tyX1 tyX1_ok nmX1 hown hK hO rfl 4 (by decide) (hts (.fieldLink RX1 27 "TavernBench$House" "events" "Ljava/util/ArrayList;") (by decide +kernel)) (fun _ h9 => h9) rfl hin rfl (by decide +kernel) rfl rfl (Nat.le_of_ble_eq_true rfl) dX1_init_33 (fun H i1 hO hz1 ho1 => ?_)
  have hO : va_at g.1 vwCl (a, .inr (2, [.int (iI a1), .int (iI a2), .int (iI a3), .int (iI a4), .ref nw26, .null, .int (iI 0)])) H := hO
  have hOnw26 := hOnw26.kept (ho1 _ (by omega))
  have hS := hS.put (k := i1) hz1 ho1 (Or.inl rfl)
  refine lv_aload_n hx hb dX1_init_36 rfl (lv_at hl 0 rfl) ?_
  refine q_newN (ci := 0) (fs := [.int (iI 0), .null, .int (iI 0)]) hx hb hts inJx4a65c tyJx4a65c tyJx4a65c_ok hown (hts (.classLink RX1 24 RJx4a65c) (by decide +kernel)) (hts (.instantiable RJx4a65c 3) (by decide +kernel)) (hts (.initialized RJx4a65c) (by decide +kernel)) hK rfl hS (fun j hj => by rcases j with _ | _ | _ | j <;> first | rfl | omega) (Nat.le_of_ble_eq_true rfl) (Nat.le_of_ble_eq_true rfl) dX1_init_37 (fun nw37 H hqnw37 hOnw37 hz1 ho1 hS => ?_)
  have hO := hO.kept (ho1 _ (va_at.lt2 hO))
  have hOnw26 := hOnw26.kept (ho1 _ (va_at.lt2 hOnw26))
  have hltnw37 : nw37 < H.size := va_at.lt2 hOnw37
  refine lv_dup hx hb dX1_init_40 rfl ?_
  refine q_xI (As := []) (rest := [.ref nw37, .ref a]) ⟨hx, hb, hml, hown, hts⟩ (cj_init l g x nw37 (by omega)) (cwI 0 hts gX1_init_Jx4a65c_init_da8c8 rfl rfl rfl (hts (.initialized RJx4a65c) (by decide +kernel)) (hts (.methodLink RX1 26 yJx4a65c_init_da8c8) (by decide +kernel)) (hts (.instanceMethod yJx4a65c_init_da8c8) (by decide +kernel)) rfl (by decide +kernel) ⟨Nat.le_of_ble_eq_true rfl, Nat.le_of_ble_eq_true rfl⟩) (q_pSX hK hX hS hAb hOnw37) rfl hl.1 rfl (Nat.le_of_ble_eq_true rfl) ⟨Nat.le_of_ble_eq_true rfl, Nat.le_of_ble_eq_true rfl⟩ dX1_init_41 hS (fun q h => by rw [show q = nw37 from h]; exact (Or.inr (by omega))) (fun H locs hOnw37 hz1 hk1 hS => ?_)
  have hO := hO.kept (hk1 _ (va_at.lt2 hO) (by omega))
  have hOnw26 := hOnw26.kept (hk1 _ (va_at.lt2 hOnw26) (by omega))
  refine q_putF (ty := (.object "java/util/ArrayList")) (v := .ref nw37) hx hb hts inX1 tyX1 tyX1_ok nmX1 hown hK hO rfl 5 (by decide) (hts (.fieldLink RX1 31 "TavernBench$House" "worths" "Ljava/util/ArrayList;") (by decide +kernel)) (fun _ h9 => h9) rfl hin rfl (by decide +kernel) rfl rfl (Nat.le_of_ble_eq_true rfl) dX1_init_44 (fun H i1 hO hz1 ho1 => ?_)
  have hO : va_at g.1 vwCl (a, .inr (2, [.int (iI a1), .int (iI a2), .int (iI a3), .int (iI a4), .ref nw26, .ref nw37, .int (iI 0)])) H := hO
  have hOnw26 := hOnw26.kept (ho1 _ (by omega))
  have hOnw37 := hOnw37.kept (ho1 _ (by omega))
  have hS := hS.put (k := i1) hz1 ho1 (Or.inl rfl)
  refine lv_aload_n hx hb dX1_init_47 rfl (lv_at hl 0 rfl) ?_
  refine q_get (v := .ref nw37) (C := RX1) (T := TX1) (N := 7) hx hb hts inX1 hown hK hO rfl 5 (by decide) (hts (.fieldLink RX1 31 "TavernBench$House" "worths" "Ljava/util/ArrayList;") (by decide +kernel)) (fun _ h9 => h9) rfl dX1_init_48 ?_
  refine q_newN (ci := 5) (fs := [.int (iI 0), .int (iI 0)]) hx hb hts inX4 tyX4 tyX4_ok hown (hts (.classLink RX1 34 RX4) (by decide +kernel)) (hts (.instantiable RX4 2) (by decide +kernel)) (hts (.initialized RX4) (by decide +kernel)) hK rfl hS (fun j hj => by rcases j with _ | _ | j <;> first | rfl | omega) (Nat.le_of_ble_eq_true rfl) (Nat.le_of_ble_eq_true rfl) dX1_init_51 (fun nw51 H hqnw51 hOnw51 hz1 ho1 hS => ?_)
  have hO := hO.kept (ho1 _ (va_at.lt2 hO))
  have hOnw26 := hOnw26.kept (ho1 _ (va_at.lt2 hOnw26))
  have hOnw37 := hOnw37.kept (ho1 _ (va_at.lt2 hOnw37))
  have hltnw51 : nw51 < H.size := va_at.lt2 hOnw51
  refine lv_dup hx hb dX1_init_54 rfl ?_
  refine lv_iload hx hb dX1_init_55 (lv_at hl 4 rfl) ?_
  refine lv_iload hx hb dX1_init_57 (lv_at hl 5 rfl) ?_
  refine q_xI (As := [.int (iI a4), .int (iI a5)]) (rest := [.ref nw51, .ref nw37]) ⟨hx, hb, hml, hown, hts⟩ (cc_worth l g x nw51 a4 a5 (by omega)) (cwI 2 hts gX1_init_X4_init rfl rfl rfl (hts (.initialized RX4) (by decide +kernel)) (hts (.methodLink RX1 36 yX4_init) (by decide +kernel)) (hts (.instanceMethod yX4_init) (by decide +kernel)) rfl (by decide +kernel) ⟨Nat.le_of_ble_eq_true rfl, Nat.le_of_ble_eq_true rfl⟩) (q_pSX hK hX hS hAb hOnw51) rfl hl.1 rfl (Nat.le_of_ble_eq_true rfl) ⟨Nat.le_of_ble_eq_true rfl, Nat.le_of_ble_eq_true rfl⟩ dX1_init_59 hS (fun q h => by rw [show q = nw51 from h]; exact (Or.inr (by omega))) (fun H locs hOnw51 hz1 hk1 hS => ?_)
  have hO := hO.kept (hk1 _ (va_at.lt2 hO) (by omega))
  have hOnw26 := hOnw26.kept (hk1 _ (va_at.lt2 hOnw26) (by omega))
  have hOnw37 := hOnw37.kept (hk1 _ (va_at.lt2 hOnw37) (by omega))
  obtain ⟨szA, hszA⟩ : ∃ szA : Nat, H.size = szA := ⟨_, rfl⟩
  refine q_xVi (As := [.ref nw51]) (rest := []) ⟨hx, hb, hml, hown, hts⟩ (cj_addE l g x nw37 0 szA 5 nw51 _ 0 (fun _ => nw51) rfl (by decide) (by omega) (fun h => absurd h (by decide)) (by omega) (fun h => absurd h (by decide)) (by omega) (fun h => absurd h (by decide)) (fun i h1 h2 => absurd h2 (by omega)) ⟨by decide, by decide⟩) (cwV 1 hts gX1_init_Jx4a65c_add_9ea2d rfl rfl rfl (by decide +kernel) ⟨Nat.le_of_ble_eq_true rfl, Nat.le_of_ble_eq_true rfl⟩) (q_pVX hK hX hS hAb hOnw37 rfl ⟨hszA, by rw [show lstE x.2.1 0 0 = .inr (0, [.int (iI 0), .ref x.2.1, .int (iI 0)]) from rfl]; exact hOnw37, fun h => absurd h (by decide), fun i h1 h2 => absurd h2 (by omega), _, hOnw51⟩) rfl hl.1 rfl (Nat.le_of_ble_eq_true rfl) ⟨Nat.le_of_ble_eq_true rfl, Nat.le_of_ble_eq_true rfl⟩ dX1_init_62 hS (fun q h => by unfold ADA at h; omega) (fun H locs hM hz1 hk1 hS => ?_)
  obtain ⟨hLn, hAn⟩ := hM
  have hO := hO.kept (hk1 _ (va_at.lt2 hO) (by intro h9; unfold ADA at h9; omega))
  have hOnw26 := hOnw26.kept (hk1 _ (va_at.lt2 hOnw26) (by intro h9; unfold ADA at h9; omega))
  have hOnw51 := hOnw51.kept (hk1 _ (va_at.lt2 hOnw51) (by intro h9; unfold ADA at h9; omega))
  have e4 : nbA 0 szA 0 = szA := if_neg (by omega)
  rw [e4] at hLn hAn
  refine lv_pop hx hb dX1_init_65 rfl ?_
  refine W.widen (k := 4) (n := 57) (by omega) (by omega) ?_
  refine q_mretv hx hb hr hlocks hS dX1_init_66 ?_
  · exact ⟨nw26, nw37, nw51, szA, ⟨by omega, by omega, by omega, by omega⟩, hO, hOnw26, hLn, hOnw51, by rw [show (fun q => if q = 0 then nw51 else (fun _ => nw51) q : Int → Nat) = fun _ => nw51 from funext fun q => by split <;> rfl] at hAn; exact hAn⟩
