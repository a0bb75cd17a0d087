set_option maxHeartbeats 4000000 in
set_option maxRecDepth 100000 in
theorem cc_class (l : Launch) (g : GG) (x : XX) (a sz : Nat) (hb0 : x.2.2 ≤ a) (hb2 : x.2.2 ≤ sz) : MetXV l yX5_init wsX5_init ({ frames := 4, cells := 5, slots := 34, locals := 72 }) g x [.ref a] (fun H => H.size = sz ∧ va_at g.1 vwCl (a, .inr (6, [.null, .null, .null, .null, .null, .int (iI 0), .int (iI 0), .int (iI 0), .int (iI 0), .int (iI 0), .long (lI 0)])) H) (fun H => ∃ q1 q2 q3 q4 q5 : Nat, (sz ≤ q1 ∧ q1 < q2 ∧ q2 < q3 ∧ q3 < q4 ∧ q4 < q5) ∧ va_at g.1 vwCl (a, .inr (6, [.ref q1, .ref q2, .ref q3, .ref q4, .ref q5, .int (iI 0), .int (iI 20), .int (iI 100), .int (iI 0), .int (iI 0), .long (lI 1)])) H ∧ va_at g.1 vwCl (q1, .inr (0, [.int (iI 0), .ref x.2.1, .int (iI 0)])) H ∧ va_at g.1 vwCl (q2, .inr (0, [.int (iI 0), .ref x.2.1, .int (iI 0)])) H ∧ va_at g.1 vwCl (q3, .inr (0, [.int (iI 0), .ref x.2.1, .int (iI 0)])) H ∧ va_at g.1 vwCl (q4, .inl (g.2.1, 20, .inl (fun _ => iI 0))) H ∧ va_at g.1 vwCl (q5, .inr (3, lawFs 0 0 0 0 0)) H) (fun q => q = a ∨ sz ≤ q) 5 34 := by
  refine Met.ofW (cc := cX5_init) (maxL := 1) (ret := none) (by decide) rfl ?_
  intro p e s m args below meth c s₁ B hml hv
  obtain ⟨rfl, hP, hK, hX⟩ := hv
  have hx := B.exec
  have hb := B.bytes
  have hr := B.returns
  have hts := atoms_spec (ws := wsX5_init) B.pre
  have hown : s.vm.findClass RX5 = some m.cls := findClass_of_methodNamed B.named
  have hlocks := B.notSynchronized
  have inJx4a65c : ∀ w ∈ wsJx4a65c0, w ∈ wsX5_init := by decide +kernel
  have inX2 : ∀ w ∈ wsX20, w ∈ wsX5_init := by decide +kernel
  have inX5 : ∀ w ∈ wsX50, w ∈ wsX5_init := by decide +kernel
  have hl := lv_entry ([.ref a]) (n := 1) (Nat.le_of_ble_eq_true rfl)
  rw [lg_entry_eq]
  generalize (lg_sl ([.ref a]) ++ List.replicate (1 - (lg_sl ([.ref a])).length) Slot.unset).toArray = ls at hl ⊢
  have hl : lv_has ls 1 [(0, .ref a)] := hl
  have hin : meth.name = "<init>" := (name_of_methodNamed B.named B.method).1
  have hS : va_S (fun q => q = a ∨ sz ≤ q) s.heap s.heap [] := va_S.rf
  have hAb : ∀ q, (fun q => q = a ∨ sz ≤ q) q → x.2.2 ≤ q := fun q h => h.elim (fun z => by rw [z]; exact hb0) (fun z => Nat.le_trans hb2 z)
  obtain ⟨hsz0, hO⟩ := hP
  have hls : a < sz := by have h9 : a < s.heap.size := va_at.lt2 hO; omega
  refine lv_aload_n hx hb dX5_init_0 rfl (lv_at hl 0 rfl) ?_
  refine W.objInit hx hb hown (hts (.methodLink RX5 1 objectInit) (by decide +kernel)) (hts (.instanceMethod objectInit) (by decide +kernel)) (hts (.code objectInit ⟨#[0xb1]⟩ 1 none) (by decide +kernel)) rfl (by rw [hml]; exact hl.1) rfl dX5_init_1 (Nat.le_of_ble_eq_true rfl) (Nat.le_of_ble_eq_true rfl) ?_
  refine W.eq (g2 := F0 m 4 ls []) rfl ?_
  refine lv_aload_n hx hb dX5_init_4 rfl (lv_at hl 0 rfl) ?_
  refine q_newN (ci := 0) (fs := [.int (iI 0), .null, .int (iI 0)]) hx hb hts inJx4a65c tyJx4a65c tyJx4a65c_ok hown (hts (.classLink RX5 7 RJx4a65c) (by decide +kernel)) (hts (.instantiable RJx4a65c 3) (by decide +kernel)) (hts (.initialized RJx4a65c) (by decide +kernel)) hK rfl hS (fun j hj => by rcases j with _ | _ | _ | j <;> first | rfl | omega) (Nat.le_of_ble_eq_true rfl) (Nat.le_of_ble_eq_true rfl) dX5_init_5 (fun nw5 H hqnw5 hOnw5 hz1 ho1 hS => ?_)
  have hO := hO.kept (ho1 _ (va_at.lt2 hO))
  have hltnw5 : nw5 < H.size := va_at.lt2 hOnw5
  refine lv_dup hx hb dX5_init_8 rfl ?_
  refine q_xI (As := []) (rest := [.ref nw5, .ref a]) ⟨hx, hb, hml, hown, hts⟩ (cj_init l g x nw5 (by omega)) (cwI 0 hts gX5_init_Jx4a65c_init_da8c8 rfl rfl rfl (hts (.initialized RJx4a65c) (by decide +kernel)) (hts (.methodLink RX5 9 yJx4a65c_init_da8c8) (by decide +kernel)) (hts (.instanceMethod yJx4a65c_init_da8c8) (by decide +kernel)) rfl (by decide +kernel) ⟨Nat.le_of_ble_eq_true rfl, Nat.le_of_ble_eq_true rfl⟩) (q_pSX hK hX hS hAb hOnw5) rfl hl.1 rfl (Nat.le_of_ble_eq_true rfl) ⟨Nat.le_of_ble_eq_true rfl, Nat.le_of_ble_eq_true rfl⟩ dX5_init_9 hS (fun q h => by rw [show q = nw5 from h]; exact (Or.inr (by omega))) (fun H locs hOnw5 hz1 hk1 hS => ?_)
  have hO := hO.kept (hk1 _ (va_at.lt2 hO) (by omega))
  refine q_putF (ty := (.object "java/util/ArrayList")) (v := .ref nw5) hx hb hts inX5 tyX5 tyX5_ok nmX5 hown hK hO rfl 0 (by decide) (hts (.fieldLink RX5 10 "TavernBench" "laws" "Ljava/util/ArrayList;") (by decide +kernel)) (fun _ h9 => h9) rfl hin rfl (by decide +kernel) rfl rfl (Nat.le_of_ble_eq_true rfl) dX5_init_12 (fun H i1 hO hz1 ho1 => ?_)
  have hO : va_at g.1 vwCl (a, .inr (6, [.ref nw5, .null, .null, .null, .null, .int (iI 0), .int (iI 0), .int (iI 0), .int (iI 0), .int (iI 0), .long (lI 0)])) H := hO
  have hOnw5 := hOnw5.kept (ho1 _ (by omega))
  have hS := hS.put (k := i1) hz1 ho1 (Or.inl rfl)
  refine lv_aload_n hx hb dX5_init_15 rfl (lv_at hl 0 rfl) ?_
  refine q_newN (ci := 0) (fs := [.int (iI 0), .null, .int (iI 0)]) hx hb hts inJx4a65c tyJx4a65c tyJx4a65c_ok hown (hts (.classLink RX5 7 RJx4a65c) (by decide +kernel)) (hts (.instantiable RJx4a65c 3) (by decide +kernel)) (hts (.initialized RJx4a65c) (by decide +kernel)) hK rfl hS (fun j hj => by rcases j with _ | _ | _ | j <;> first | rfl | omega) (Nat.le_of_ble_eq_true rfl) (Nat.le_of_ble_eq_true rfl) dX5_init_16 (fun nw16 H hqnw16 hOnw16 hz1 ho1 hS => ?_)
  have hO := hO.kept (ho1 _ (va_at.lt2 hO))
  have hOnw5 := hOnw5.kept (ho1 _ (va_at.lt2 hOnw5))
  have hltnw16 : nw16 < H.size := va_at.lt2 hOnw16
  refine lv_dup hx hb dX5_init_19 rfl ?_
  refine q_xI (As := []) (rest := [.ref nw16, .ref a]) ⟨hx, hb, hml, hown, hts⟩ (cj_init l g x nw16 (by omega)) (cwI 0 hts gX5_init_Jx4a65c_init_da8c8 rfl rfl rfl (hts (.initialized RJx4a65c) (by decide +kernel)) (hts (.methodLink RX5 9 yJx4a65c_init_da8c8) (by decide +kernel)) (hts (.instanceMethod yJx4a65c_init_da8c8) (by decide +kernel)) rfl (by decide +kernel) ⟨Nat.le_of_ble_eq_true rfl, Nat.le_of_ble_eq_true rfl⟩) (q_pSX hK hX hS hAb hOnw16) rfl hl.1 rfl (Nat.le_of_ble_eq_true rfl) ⟨Nat.le_of_ble_eq_true rfl, Nat.le_of_ble_eq_true rfl⟩ dX5_init_20 hS (fun q h => by rw [show q = nw16 from h]; exact (Or.inr (by omega))) (fun H locs hOnw16 hz1 hk1 hS => ?_)
  have hO := hO.kept (hk1 _ (va_at.lt2 hO) (by omega))
  have hOnw5 := hOnw5.kept (hk1 _ (va_at.lt2 hOnw5) (by omega))
  refine q_putF (ty := (.object "java/util/ArrayList")) (v := .ref nw16) hx hb hts inX5 tyX5 tyX5_ok nmX5 hown hK hO rfl 1 (by decide) (hts (.fieldLink RX5 16 "TavernBench" "objectors" "Ljava/util/ArrayList;") (by decide +kernel)) (fun _ h9 => h9) rfl hin rfl (by decide +kernel) rfl rfl (Nat.le_of_ble_eq_true rfl) dX5_init_23 (fun H i1 hO hz1 ho1 => ?_)
  have hO : va_at g.1 vwCl (a, .inr (6, [.ref nw5, .ref nw16, .null, .null, .null, .int (iI 0), .int (iI 0), .int (iI 0), .int (iI 0), .int (iI 0), .long (lI 0)])) H := hO
  have hOnw5 := hOnw5.kept (ho1 _ (by omega))
  have hOnw16 := hOnw16.kept (ho1 _ (by omega))
  have hS := hS.put (k := i1) hz1 ho1 (Or.inl rfl)
  refine lv_aload_n hx hb dX5_init_26 rfl (lv_at hl 0 rfl) ?_
  refine q_newN (ci := 0) (fs := [.int (iI 0), .null, .int (iI 0)]) hx hb hts inJx4a65c tyJx4a65c tyJx4a65c_ok hown (hts (.classLink RX5 7 RJx4a65c) (by decide +kernel)) (hts (.instantiable RJx4a65c 3) (by decide +kernel)) (hts (.initialized RJx4a65c) (by decide +kernel)) hK rfl hS (fun j hj => by rcases j with _ | _ | _ | j <;> first | rfl | omega) (Nat.le_of_ble_eq_true rfl) (Nat.le_of_ble_eq_true rfl) dX5_init_27 (fun nw27 H hqnw27 hOnw27 hz1 ho1 hS => ?_)
  have hO := hO.kept (ho1 _ (va_at.lt2 hO))
  have hOnw5 := hOnw5.kept (ho1 _ (va_at.lt2 hOnw5))
  have hOnw16 := hOnw16.kept (ho1 _ (va_at.lt2 hOnw16))
  have hltnw27 : nw27 < H.size := va_at.lt2 hOnw27
  refine lv_dup hx hb dX5_init_30 rfl ?_
  refine q_xI (As := []) (rest := [.ref nw27, .ref a]) ⟨hx, hb, hml, hown, hts⟩ (cj_init l g x nw27 (by omega)) (cwI 0 hts gX5_init_Jx4a65c_init_da8c8 rfl rfl rfl (hts (.initialized RJx4a65c) (by decide +kernel)) (hts (.methodLink RX5 9 yJx4a65c_init_da8c8) (by decide +kernel)) (hts (.instanceMethod yJx4a65c_init_da8c8) (by decide +kernel)) rfl (by decide +kernel) ⟨Nat.le_of_ble_eq_true rfl, Nat.le_of_ble_eq_true rfl⟩) (q_pSX hK hX hS hAb hOnw27) rfl hl.1 rfl (Nat.le_of_ble_eq_true rfl) ⟨Nat.le_of_ble_eq_true rfl, Nat.le_of_ble_eq_true rfl⟩ dX5_init_31 hS (fun q h => by rw [show q = nw27 from h]; exact (Or.inr (by omega))) (fun H locs hOnw27 hz1 hk1 hS => ?_)
  have hO := hO.kept (hk1 _ (va_at.lt2 hO) (by omega))
  have hOnw5 := hOnw5.kept (hk1 _ (va_at.lt2 hOnw5) (by omega))
  have hOnw16 := hOnw16.kept (hk1 _ (va_at.lt2 hOnw16) (by omega))
  refine q_putF (ty := (.object "java/util/ArrayList")) (v := .ref nw27) hx hb hts inX5 tyX5 tyX5_ok nmX5 hown hK hO rfl 2 (by decide) (hts (.fieldLink RX5 19 "TavernBench" "houses" "Ljava/util/ArrayList;") (by decide +kernel)) (fun _ h9 => h9) rfl hin rfl (by decide +kernel) rfl rfl (Nat.le_of_ble_eq_true rfl) dX5_init_34 (fun H i1 hO hz1 ho1 => ?_)
  have hO : va_at g.1 vwCl (a, .inr (6, [.ref nw5, .ref nw16, .ref nw27, .null, .null, .int (iI 0), .int (iI 0), .int (iI 0), .int (iI 0), .int (iI 0), .long (lI 0)])) H := hO
  have hOnw5 := hOnw5.kept (ho1 _ (by omega))
  have hOnw16 := hOnw16.kept (ho1 _ (by omega))
  have hOnw27 := hOnw27.kept (ho1 _ (by omega))
  have hS := hS.put (k := i1) hz1 ho1 (Or.inl rfl)
  refine lv_aload_n hx hb dX5_init_37 rfl (lv_at hl 0 rfl) ?_
  refine q_bipush hx hb 20 dX5_init_38 (by decide +kernel) ?_
  refine q_newI (n := 20) hx hb (hts (.arrayClass .int) (by decide +kernel)) hK hS rfl (by decide) (Nat.le_of_ble_eq_true rfl) (Nat.le_of_ble_eq_true rfl) dX5_init_40 (fun nw40 H hqnw40 hOnw40 hz1 ho1 hS => ?_)
  have hO := hO.kept (ho1 _ (va_at.lt2 hO))
  have hOnw5 := hOnw5.kept (ho1 _ (va_at.lt2 hOnw5))
  have hOnw16 := hOnw16.kept (ho1 _ (va_at.lt2 hOnw16))
  have hOnw27 := hOnw27.kept (ho1 _ (va_at.lt2 hOnw27))
  have hltnw40 : nw40 < H.size := va_at.lt2 hOnw40
  refine q_putF (ty := (.array .int)) (v := .ref nw40) hx hb hts inX5 tyX5 tyX5_ok nmX5 hown hK hO rfl 3 (by decide) (hts (.fieldLink RX5 22 "TavernBench" "feastDays" "[I") (by decide +kernel)) (fun _ h9 => h9) rfl hin rfl (by decide +kernel) rfl rfl (Nat.le_of_ble_eq_true rfl) dX5_init_42 (fun H i1 hO hz1 ho1 => ?_)
  have hO : va_at g.1 vwCl (a, .inr (6, [.ref nw5, .ref nw16, .ref nw27, .ref nw40, .null, .int (iI 0), .int (iI 0), .int (iI 0), .int (iI 0), .int (iI 0), .long (lI 0)])) H := hO
  have hOnw5 := hOnw5.kept (ho1 _ (by omega))
  have hOnw16 := hOnw16.kept (ho1 _ (by omega))
  have hOnw27 := hOnw27.kept (ho1 _ (by omega))
  have hOnw40 := hOnw40.kept (ho1 _ (by omega))
  have hS := hS.put (k := i1) hz1 ho1 (Or.inl rfl)
  refine lv_aload_n hx hb dX5_init_45 rfl (lv_at hl 0 rfl) ?_
  refine q_newN (ci := 3) (fs := [.int (iI 0), .int (iI 0), .int (iI 0), .int (iI 0), .int (iI 0)]) hx hb hts inX2 tyX2 tyX2_ok hown (hts (.classLink RX5 26 RX2) (by decide +kernel)) (hts (.instantiable RX2 5) (by decide +kernel)) (hts (.initialized RX2) (by decide +kernel)) hK rfl hS (fun j hj => by rcases j with _ | _ | _ | _ | _ | j <;> first | rfl | omega) (Nat.le_of_ble_eq_true rfl) (Nat.le_of_ble_eq_true rfl) dX5_init_46 (fun nw46 H hqnw46 hOnw46 hz1 ho1 hS => ?_)
  have hO := hO.kept (ho1 _ (va_at.lt2 hO))
  have hOnw5 := hOnw5.kept (ho1 _ (va_at.lt2 hOnw5))
  have hOnw16 := hOnw16.kept (ho1 _ (va_at.lt2 hOnw16))
  have hOnw27 := hOnw27.kept (ho1 _ (va_at.lt2 hOnw27))
  have hOnw40 := hOnw40.kept (ho1 _ (va_at.lt2 hOnw40))
  have hltnw46 : nw46 < H.size := va_at.lt2 hOnw46
  refine lv_dup hx hb dX5_init_49 rfl ?_
  refine lv_iconst (v := iI 0) hx hb dX5_init_50 rfl ?_
  refine lv_iconst (v := iI 0) hx hb dX5_init_51 rfl ?_
  refine lv_iconst (v := iI 0) hx hb dX5_init_52 rfl ?_
  refine lv_iconst (v := iI 0) hx hb dX5_init_53 rfl ?_
  refine lv_iconst (v := iI 0) hx hb dX5_init_54 rfl ?_
  refine q_xI (As := [.int (iI 0), .int (iI 0), .int (iI 0), .int (iI 0), .int (iI 0)]) (rest := [.ref nw46, .ref a]) ⟨hx, hb, hml, hown, hts⟩ (cc_law l g x nw46 0 0 0 0 0 (by omega)) (cwI 5 hts gX5_init_X2_init rfl rfl rfl (hts (.initialized RX2) (by decide +kernel)) (hts (.methodLink RX5 28 yX2_init) (by decide +kernel)) (hts (.instanceMethod yX2_init) (by decide +kernel)) rfl (by decide +kernel) ⟨Nat.le_of_ble_eq_true rfl, Nat.le_of_ble_eq_true rfl⟩) (q_pSX hK hX hS hAb hOnw46) rfl hl.1 rfl (Nat.le_of_ble_eq_true rfl) ⟨Nat.le_of_ble_eq_true rfl, Nat.le_of_ble_eq_true rfl⟩ dX5_init_55 hS (fun q h => by rw [show q = nw46 from h]; exact (Or.inr (by omega))) (fun H locs hOnw46 hz1 hk1 hS => ?_)
  have hO := hO.kept (hk1 _ (va_at.lt2 hO) (by omega))
  have hOnw5 := hOnw5.kept (hk1 _ (va_at.lt2 hOnw5) (by omega))
  have hOnw16 := hOnw16.kept (hk1 _ (va_at.lt2 hOnw16) (by omega))
  have hOnw27 := hOnw27.kept (hk1 _ (va_at.lt2 hOnw27) (by omega))
  have hOnw40 := hOnw40.kept (hk1 _ (va_at.lt2 hOnw40) (by omega))
  refine q_putF (ty := (.object "TavernBench$Law")) (v := .ref nw46) hx hb hts inX5 tyX5 tyX5_ok nmX5 hown hK hO rfl 4 (by decide) (hts (.fieldLink RX5 31 "TavernBench" "shutLaw" "LTavernBench$Law;") (by decide +kernel)) (fun _ h9 => h9) rfl hin rfl (by decide +kernel) rfl rfl (Nat.le_of_ble_eq_true rfl) dX5_init_58 (fun H i1 hO hz1 ho1 => ?_)
  have hO : va_at g.1 vwCl (a, .inr (6, [.ref nw5, .ref nw16, .ref nw27, .ref nw40, .ref nw46, .int (iI 0), .int (iI 0), .int (iI 0), .int (iI 0), .int (iI 0), .long (lI 0)])) H := hO
  have hOnw5 := hOnw5.kept (ho1 _ (by omega))
  have hOnw16 := hOnw16.kept (ho1 _ (by omega))
  have hOnw27 := hOnw27.kept (ho1 _ (by omega))
  have hOnw40 := hOnw40.kept (ho1 _ (by omega))
  have hOnw46 := hOnw46.kept (ho1 _ (by omega))
  have hS := hS.put (k := i1) hz1 ho1 (Or.inl rfl)
  refine lv_aload_n hx hb dX5_init_61 rfl (lv_at hl 0 rfl) ?_
  refine q_bipush hx hb 20 dX5_init_62 (by decide +kernel) ?_
  refine q_put (ty := .int) (v := .int (iI 20)) hx hb hts inX5 tyX5 tyX5_ok nmX5 hown hK hO rfl 6 (by decide) (hts (.fieldLink RX5 35 "TavernBench" "near" "I") (by decide +kernel)) (fun _ h9 => h9) rfl (by decide +kernel) rfl rfl (Nat.le_of_ble_eq_true rfl) dX5_init_64 (fun H i1 hO hz1 ho1 => ?_)
  have hO : va_at g.1 vwCl (a, .inr (6, [.ref nw5, .ref nw16, .ref nw27, .ref nw40, .ref nw46, .int (iI 0), .int (iI 20), .int (iI 0), .int (iI 0), .int (iI 0), .long (lI 0)])) H := hO
  have hOnw5 := hOnw5.kept (ho1 _ (by omega))
  have hOnw16 := hOnw16.kept (ho1 _ (by omega))
  have hOnw27 := hOnw27.kept (ho1 _ (by omega))
  have hOnw40 := hOnw40.kept (ho1 _ (by omega))
  have hOnw46 := hOnw46.kept (ho1 _ (by omega))
  have hS := hS.put (k := i1) hz1 ho1 (Or.inl rfl)
  refine lv_aload_n hx hb dX5_init_67 rfl (lv_at hl 0 rfl) ?_
  refine q_bipush hx hb 100 dX5_init_68 (by decide +kernel) ?_
  refine q_put (ty := .int) (v := .int (iI 100)) hx hb hts inX5 tyX5 tyX5_ok nmX5 hown hK hO rfl 7 (by decide) (hts (.fieldLink RX5 39 "TavernBench" "heard" "I") (by decide +kernel)) (fun _ h9 => h9) rfl (by decide +kernel) rfl rfl (Nat.le_of_ble_eq_true rfl) dX5_init_70 (fun H i1 hO hz1 ho1 => ?_)
  have hO : va_at g.1 vwCl (a, .inr (6, [.ref nw5, .ref nw16, .ref nw27, .ref nw40, .ref nw46, .int (iI 0), .int (iI 20), .int (iI 100), .int (iI 0), .int (iI 0), .long (lI 0)])) H := hO
  have hOnw5 := hOnw5.kept (ho1 _ (by omega))
  have hOnw16 := hOnw16.kept (ho1 _ (by omega))
  have hOnw27 := hOnw27.kept (ho1 _ (by omega))
  have hOnw40 := hOnw40.kept (ho1 _ (by omega))
  have hOnw46 := hOnw46.kept (ho1 _ (by omega))
  have hS := hS.put (k := i1) hz1 ho1 (Or.inl rfl)
  refine lv_aload_n hx hb dX5_init_73 rfl (lv_at hl 0 rfl) ?_
  refine lv_lconst (v := lI 1) hx hb dX5_init_74 (by decide +kernel) ?_
  refine q_put (ty := .long) (v := .long (lI 1)) hx hb hts inX5 tyX5 tyX5_ok nmX5 hown hK hO rfl 10 (by decide) (hts (.fieldLink RX5 42 "TavernBench" "lastSeed" "J") (by decide +kernel)) (fun _ h9 => h9) rfl (by decide +kernel) rfl rfl (Nat.le_of_ble_eq_true rfl) dX5_init_75 (fun H i1 hO hz1 ho1 => ?_)
  have hO : va_at g.1 vwCl (a, .inr (6, [.ref nw5, .ref nw16, .ref nw27, .ref nw40, .ref nw46, .int (iI 0), .int (iI 20), .int (iI 100), .int (iI 0), .int (iI 0), .long (lI 1)])) H := hO
  have hOnw5 := hOnw5.kept (ho1 _ (by omega))
  have hOnw16 := hOnw16.kept (ho1 _ (by omega))
  have hOnw27 := hOnw27.kept (ho1 _ (by omega))
  have hOnw40 := hOnw40.kept (ho1 _ (by omega))
  have hOnw46 := hOnw46.kept (ho1 _ (by omega))
  have hS := hS.put (k := i1) hz1 ho1 (Or.inl rfl)
  refine W.widen (k := 5) (n := 34) (by omega) (by omega) ?_
  refine q_mretv hx hb hr hlocks hS dX5_init_78 ?_
  · exact ⟨nw5, nw16, nw27, nw40, nw46, ⟨by omega, by omega, by omega, by omega, by omega⟩, hO, hOnw5, hOnw16, hOnw27, hOnw40, hOnw46⟩
