set_option maxHeartbeats 4000000 in
set_option maxRecDepth 100000 in
theorem cj_ACinit (l : Launch) (g : GG) (x : XX) (la : Nat) (hb0 : x.2.2 ≤ la) : MetXV l yJxa1e45_init_da8c8 wsJxa1e45_init_da8c8 ({ frames := 1, cells := 0, slots := 0, locals := 12 }) g x [.ref la] (fun H => va_at g.1 vwCl (la, .inr (0, [.int (iI 0), .null, .int (iI 0)])) H) (fun H => va_at g.1 vwCl (la, .inr (0, [.int (iI 0), .null, .int (iI 0)])) H) (fun q => q = la) 0 0 := by
  refine Met.ofW (cc := cJxa1e45_init_da8c8) (maxL := 1) (ret := none) (by decide) rfl ?_
  intro p e s m args below meth c s₁ B hml hv
  obtain ⟨rfl, hP, hK, hX⟩ := hv
  have hx := B.exec
  have hb := B.bytes
  have hr := B.returns
  have hts := atoms_spec (ws := wsJxa1e45_init_da8c8) B.pre
  have hown : s.vm.findClass RJxa1e45 = some m.cls := findClass_of_methodNamed B.named
  have hlocks := B.notSynchronized
  have hl := lv_entry ([.ref la]) (n := 1) (Nat.le_of_ble_eq_true rfl)
  rw [lg_entry_eq]
  generalize (lg_sl ([.ref la]) ++ List.replicate (1 - (lg_sl ([.ref la])).length) Slot.unset).toArray = ls at hl ⊢
  have hl : lv_has ls 1 [(0, .ref la)] := hl
  have hin : meth.name = "<init>" := (name_of_methodNamed B.named B.method).1
  have hS : va_S (fun q => q = la) s.heap s.heap [] := va_S.rf
  have hAb : ∀ q, (fun q => q = la) q → x.2.2 ≤ q := fun q h => by rw [h]; exact hb0
  refine lv_aload_n hx hb dJxa1e45_init_da8c8_0 rfl (lv_at hl 0 rfl) ?_
  refine W.objInit hx hb hown (hts (.methodLink RJxa1e45 1 objectInit) (by decide +kernel)) (hts (.instanceMethod objectInit) (by decide +kernel)) (hts (.code objectInit ⟨#[0xb1]⟩ 1 none) (by decide +kernel)) rfl (by rw [hml]; exact hl.1) rfl dJxa1e45_init_da8c8_1 (Nat.le_of_ble_eq_true rfl) (Nat.le_of_ble_eq_true rfl) ?_
  refine W.eq (g2 := F0 m 4 ls []) rfl ?_
  refine W.widen (k := 0) (n := 0) (by omega) (by omega) ?_
  refine q_mretv hx hb hr hlocks hS dJxa1e45_init_da8c8_4 ?_
  · exact hP

set_option maxHeartbeats 4000000 in
set_option maxRecDepth 100000 in
theorem cj_ALinit (l : Launch) (g : GG) (x : XX) (la : Nat) (hb0 : x.2.2 ≤ la) : MetXV l yJxc12de_init_da8c8 wsJxc12de_init_da8c8 ({ frames := 2, cells := 0, slots := 0, locals := 32 }) g x [.ref la] (fun H => va_at g.1 vwCl (la, .inr (0, [.int (iI 0), .null, .int (iI 0)])) H) (fun H => va_at g.1 vwCl (la, .inr (0, [.int (iI 0), .null, .int (iI 0)])) H) (fun q => q = la) 0 0 := by
  refine Met.ofW (cc := cJxc12de_init_da8c8) (maxL := 1) (ret := none) (by decide) rfl ?_
  intro p e s m args below meth c s₁ B hml hv
  obtain ⟨rfl, hP, hK, hX⟩ := hv
  have hx := B.exec
  have hb := B.bytes
  have hr := B.returns
  have hts := atoms_spec (ws := wsJxc12de_init_da8c8) B.pre
  have hown : s.vm.findClass RJxc12de = some m.cls := findClass_of_methodNamed B.named
  have hlocks := B.notSynchronized
  have inJx4a65c : ∀ w ∈ wsJx4a65c0, w ∈ wsJxc12de_init_da8c8 := by decide +kernel
  have hl := lv_entry ([.ref la]) (n := 1) (Nat.le_of_ble_eq_true rfl)
  rw [lg_entry_eq]
  generalize (lg_sl ([.ref la]) ++ List.replicate (1 - (lg_sl ([.ref la])).length) Slot.unset).toArray = ls at hl ⊢
  have hl : lv_has ls 1 [(0, .ref la)] := hl
  have hin : meth.name = "<init>" := (name_of_methodNamed B.named B.method).1
  have hS : va_S (fun q => q = la) s.heap s.heap [] := va_S.rf
  have hAb : ∀ q, (fun q => q = la) q → x.2.2 ≤ q := fun q h => by rw [h]; exact hb0
  refine lv_aload_n hx hb dJxc12de_init_da8c8_0 rfl (lv_at hl 0 rfl) ?_
  refine q_xI (As := []) (rest := []) ⟨hx, hb, hml, hown, hts⟩ (cj_ACinit l g x la hb0) (cwI 0 hts gJxc12de_init_da8c8_Jxa1e45_init_da8c8 rfl rfl rfl (hts (.initialized RJxa1e45) (by decide +kernel)) (hts (.methodLink RJxc12de 1 yJxa1e45_init_da8c8) (by decide +kernel)) (hts (.instanceMethod yJxa1e45_init_da8c8) (by decide +kernel)) rfl (by decide +kernel) ⟨Nat.le_of_ble_eq_true rfl, Nat.le_of_ble_eq_true rfl⟩) (q_pSX hK hX hS hAb hP) rfl hl.1 rfl (Nat.le_of_ble_eq_true rfl) ⟨Nat.le_of_ble_eq_true rfl, Nat.le_of_ble_eq_true rfl⟩ dJxc12de_init_da8c8_1 hS (fun _ h => h) (fun H locs hP hz1 hk1 hS => ?_)
  refine lv_aload_n hx hb dJxc12de_init_da8c8_4 rfl (lv_at hl 0 rfl) ?_
  refine lv_iconst (v := iI 0) hx hb dJxc12de_init_da8c8_5 rfl ?_
  refine q_put (ty := .int) (v := .int (iI 0)) hx hb hts inJx4a65c tyJx4a65c tyJx4a65c_ok nmJx4a65c hown hK hP rfl 0 (by decide) (hts (.fieldLink RJxc12de 7 "java/util/AbstractList" "modCount" "I") (by decide +kernel)) (fun _ h9 => h9) rfl (by decide +kernel) rfl rfl (Nat.le_of_ble_eq_true rfl) dJxc12de_init_da8c8_6 (fun H i1 hP hz1 ho1 => ?_)
  have hP : va_at g.1 vwCl (la, .inr (0, [.int (iI 0), .null, .int (iI 0)])) H := hP
  have hS := hS.put (k := i1) hz1 ho1 rfl
  refine W.widen (k := 0) (n := 0) (by omega) (by omega) ?_
  refine q_mretv hx hb hr hlocks hS dJxc12de_init_da8c8_9 ?_
  · exact hP

set_option maxHeartbeats 4000000 in
set_option maxRecDepth 100000 in
theorem cj_init (l : Launch) (g : GG) (x : XX) (la : Nat) (hb0 : x.2.2 ≤ la) : MetXV l yJx4a65c_init_da8c8 wsJx4a65c_init_da8c8 ({ frames := 3, cells := 0, slots := 0, locals := 52 }) g x [.ref la] (fun H => va_at g.1 vwCl (la, .inr (0, [.int (iI 0), .null, .int (iI 0)])) H) (fun H => va_at g.1 vwCl (la, .inr (0, [.int (iI 0), .ref x.2.1, .int (iI 0)])) H) (fun q => q = la) 0 0 := by
  refine Met.ofW (cc := cJx4a65c_init_da8c8) (maxL := 1) (ret := none) (by decide) rfl ?_
  intro p e s m args below meth c s₁ B hml hv
  obtain ⟨rfl, hP, hK, hX⟩ := hv
  have hx := B.exec
  have hb := B.bytes
  have hr := B.returns
  have hts := atoms_spec (ws := wsJx4a65c_init_da8c8) B.pre
  have hown : s.vm.findClass RJx4a65c = some m.cls := findClass_of_methodNamed B.named
  have hlocks := B.notSynchronized
  have inJx4a65c : ∀ w ∈ wsJx4a65c0, w ∈ wsJx4a65c_init_da8c8 := by decide +kernel
  have hl := lv_entry ([.ref la]) (n := 1) (Nat.le_of_ble_eq_true rfl)
  rw [lg_entry_eq]
  generalize (lg_sl ([.ref la]) ++ List.replicate (1 - (lg_sl ([.ref la])).length) Slot.unset).toArray = ls at hl ⊢
  have hl : lv_has ls 1 [(0, .ref la)] := hl
  have hin : meth.name = "<init>" := (name_of_methodNamed B.named B.method).1
  have hS : va_S (fun q => q = la) s.heap s.heap [] := va_S.rf
  have hAb : ∀ q, (fun q => q = la) q → x.2.2 ≤ q := fun q h => by rw [h]; exact hb0
  refine lv_aload_n hx hb dJx4a65c_init_da8c8_0 rfl (lv_at hl 0 rfl) ?_
  refine q_xI (As := []) (rest := []) ⟨hx, hb, hml, hown, hts⟩ (cj_ALinit l g x la hb0) (cwI 0 hts gJx4a65c_init_da8c8_Jxc12de_init_da8c8 rfl rfl rfl (hts (.initialized RJxc12de) (by decide +kernel)) (hts (.methodLink RJx4a65c 1 yJxc12de_init_da8c8) (by decide +kernel)) (hts (.instanceMethod yJxc12de_init_da8c8) (by decide +kernel)) rfl (by decide +kernel) ⟨Nat.le_of_ble_eq_true rfl, Nat.le_of_ble_eq_true rfl⟩) (q_pSX hK hX hS hAb hP) rfl hl.1 rfl (Nat.le_of_ble_eq_true rfl) ⟨Nat.le_of_ble_eq_true rfl, Nat.le_of_ble_eq_true rfl⟩ dJx4a65c_init_da8c8_1 hS (fun _ h => h) (fun H locs hP hz1 hk1 hS => ?_)
  refine lv_aload_n hx hb dJx4a65c_init_da8c8_4 rfl (lv_at hl 0 rfl) ?_
  refine q_eA hx hb hX hS hAb hown (hts (.fieldLink RJx4a65c 39 "java/util/ArrayList" "DEFAULTCAPACITY_EMPTY_ELEMENTDATA" "[Ljava/lang/Object;") (by decide +kernel)) dJx4a65c_init_da8c8_5 ?_
  refine q_put (ty := (.array (.object "java/lang/Object"))) (v := .ref x.2.1) hx hb hts inJx4a65c tyJx4a65c tyJx4a65c_ok nmJx4a65c hown hK hP rfl 1 (by decide) (hts (.fieldLink RJx4a65c 9 "java/util/ArrayList" "elementData" "[Ljava/lang/Object;") (by decide +kernel)) (fun _ h9 => h9) rfl (by decide +kernel) rfl rfl (Nat.le_of_ble_eq_true rfl) dJx4a65c_init_da8c8_8 (fun H i1 hP hz1 ho1 => ?_)
  have hP : va_at g.1 vwCl (la, .inr (0, [.int (iI 0), .ref x.2.1, .int (iI 0)])) H := hP
  have hS := hS.put (k := i1) hz1 ho1 rfl
  refine W.widen (k := 0) (n := 0) (by omega) (by omega) ?_
  refine q_mretv hx hb hr hlocks hS dJx4a65c_init_da8c8_11 ?_
  · exact hP

set_option maxHeartbeats 4000000 in
set_option maxRecDepth 100000 in
theorem cj_newLength (l : Launch) (g : GG) (o : Int) (mi : Int) (pr : Int) (r_o : R32 o) (r_mi : R32 mi) (r_pr : R32 pr) (ho : 0 ≤ o ∧ o ≤ 1000) (hmi : 1 ≤ mi ∧ mi ≤ 1000) (hpr : 0 ≤ pr ∧ pr ≤ 1000) : MetI l yJ8_newLength_cabcc wsJ8_newLength_cabcc ({ frames := 1, cells := 0, slots := 0, locals := 21 }) g [.int (iI o), .int (iI mi), .int (iI pr)] (fun _ => True) (o + max mi pr) := by
  refine Met.ofW (cc := cJ8_newLength_cabcc) (maxL := 4) (ret := (some .int)) (by decide) rfl ?_
  intro p e s m args below meth c s₁ B hml hv
  obtain ⟨rfl, _, hK⟩ := hv
  have hx := B.exec
  have hb := B.bytes
  have hr := B.returns
  have hts := atoms_spec (ws := wsJ8_newLength_cabcc) B.pre
  have hown : s.vm.findClass RJ8 = some m.cls := findClass_of_methodNamed B.named
  have hlocks := B.notSynchronized
  have hl := lv_entry ([.int (iI o), .int (iI mi), .int (iI pr)]) (n := 4) (Nat.le_of_ble_eq_true rfl)
  rw [lg_entry_eq]
  generalize (lg_sl ([.int (iI o), .int (iI mi), .int (iI pr)]) ++ List.replicate (4 - (lg_sl ([.int (iI o), .int (iI mi), .int (iI pr)])).length) Slot.unset).toArray = ls at hl ⊢
  have hl : lv_has ls 4 [(0, .int (iI o)), (1, .int (iI mi)), (2, .int (iI pr))] := hl
  refine lv_iload_n hx hb dJ8_newLength_cabcc_0 rfl (lv_at hl 0 rfl) ?_
  refine lv_iload_n hx hb dJ8_newLength_cabcc_1 rfl (lv_at hl 1 rfl) ?_
  refine lv_iload_n hx hb dJ8_newLength_cabcc_2 rfl (lv_at hl 2 rfl) ?_
  refine q_mmax hx hb (hml.trans hl.1.symm) hown (hts (.methodLink RJ8 194 Lib.Math.max.name) (by decide +kernel)) (hts (.static Lib.Math.max.name) (by decide +kernel)) (hts (.initialized "java/lang/Math") (by decide +kernel)) (hts (.code Lib.Math.max.name Lib.Math.max.code 2 (some .int)) (by decide +kernel)) (Nat.le_of_ble_eq_true rfl) (Nat.le_of_ble_eq_true rfl) (Nat.zero_le _) (Nat.zero_le _) dJ8_newLength_cabcc_3 r_mi r_pr ?_
  refine q_iadd hx hb dJ8_newLength_cabcc_6 ?_
  refine lv_istore_n (lv' := [(3, .int (iI (o + (max mi pr)))), (0, .int (iI o)), (1, .int (iI mi)), (2, .int (iI pr))]) hx hb dJ8_newLength_cabcc_7 rfl hl (by decide) rfl (fun ls hl => ?_)
  refine lv_iconst (v := iI 0) hx hb dJ8_newLength_cabcc_8 rfl ?_
  refine lv_iload_n hx hb dJ8_newLength_cabcc_9 rfl (lv_at hl 0 rfl) ?_
  refine q_icmp_ge (tgt := 21) hx hb dJ8_newLength_cabcc_10 (by decide) (by decide) (by omega) (fun c10 => ?_) (fun c10 => ?_)
  · exact absurd c10 (by omega)
  · refine lv_iload_n hx hb dJ8_newLength_cabcc_13 rfl (lv_at hl 0 rfl) ?_
    refine q_ldc hx hb 2147483639 hown (hts (.constant RJ8 200 (2147483639)) (by decide +kernel)) (by decide +kernel) dJ8_newLength_cabcc_14 ?_
    refine q_icmp_gt (tgt := 21) hx hb dJ8_newLength_cabcc_16 (by decide) (by omega) (by decide) (fun c16 => ?_) (fun c16 => ?_)
    · exact absurd c16 (by omega)
    · refine lv_iload_n hx hb dJ8_newLength_cabcc_19 rfl (lv_at hl 0 rfl) ?_
      refine q_reti hx hb hr hlocks dJ8_newLength_cabcc_20 ?_
      first | rfl | exact bI_e1 (by omega) | exact bI_e0 (by omega) | exact bI_iff (by omega) | omega

set_option maxHeartbeats 4000000 in
set_option maxRecDepth 100000 in
theorem cj_copy3 (l : Launch) (g : GG) (x : XX) (ba sz n0 n1 : Nat) (f : Nat → Option Nat) (ci : Nat) (r : vw_C) (hc : vwCl[ci]? = some r) (hci : ci ∈ [1, 2, 3, 4, 5]) (hba : x.2.2 ≤ ba) (hsz : x.2.2 ≤ sz) (hn : n0 ≤ n1 ∧ n1 ≤ 49)  : MetXR l yJ7_copyOf_6403c wsJ7_copyOf_6403c ({ frames := 1, cells := 1, slots := 49, locals := 60 }) g x [.ref ba, .int (iI (n1 : Int)), .ref x.1] (fun H => H.size = sz ∧ va_at g.1 vwCl (ba, .inl (g.2.2.2.2, n0, .inr (.inr (.inr (.inr f))))) H ∧ (∀ (i y : Nat), i < n0 → f i = some y → ∃ vs, va_at g.1 vwCl (y, .inr (ci, vs)) H)) sz (fun H => va_at g.1 vwCl (sz, .inl (g.2.2.2.2, n1, .inr (.inr (.inr (.inr (fun k => if k < n0 then f k else none)))))) H) (fun q => q = ba ∨ sz ≤ q) 1 49 := by
  refine Met.ofW (cc := cJ7_copyOf_6403c) (maxL := 4) (ret := (some (.array (.object "java/lang/Object")))) (by decide) rfl ?_
  intro p e s m args below meth c s₁ B hml hv
  obtain ⟨rfl, hP, hK, hX⟩ := hv
  have hx := B.exec
  have hb := B.bytes
  have hr := B.returns
  have hts := atoms_spec (ws := wsJ7_copyOf_6403c) B.pre
  have hown : s.vm.findClass RJ7 = some m.cls := findClass_of_methodNamed B.named
  have hlocks := B.notSynchronized
  have hl := lv_entry ([.ref ba, .int (iI (n1 : Int)), .ref x.1]) (n := 4) (Nat.le_of_ble_eq_true rfl)
  rw [lg_entry_eq]
  generalize (lg_sl ([.ref ba, .int (iI (n1 : Int)), .ref x.1]) ++ List.replicate (4 - (lg_sl ([.ref ba, .int (iI (n1 : Int)), .ref x.1])).length) Slot.unset).toArray = ls at hl ⊢
  have hl : lv_has ls 4 [(0, .ref ba), (1, .int (iI (n1 : Int))), (2, .ref x.1)] := hl
  have hS : va_S (fun q => q = ba ∨ sz ≤ q) s.heap s.heap [] := va_S.rf
  have hAb : ∀ q, (fun q => q = ba ∨ sz ≤ q) q → x.2.2 ≤ q := fun q h => h.elim (fun z => by rw [z]; exact hba) (fun z => Nat.le_trans hsz z)
  refine lv_aload_n hx hb dJ7_copyOf_6403c_0 rfl (lv_at hl 2 rfl) ?_
  refine va_ldcM hx hb hown (hts (.classLink RJ7 110 "[Ljava/lang/Object;") (by decide +kernel)) hX.1.1 dJ7_copyOf_6403c_1 ?_
  refine lv_acmp_ne (rx := some x.1) (ry := some x.1) (tgt := 13) hx hb dJ7_copyOf_6403c_3 (by decide) (fun h9 => absurd rfl h9) (fun _ => ?_)
  refine lv_iload_n hx hb dJ7_copyOf_6403c_6 rfl (lv_at hl 1 rfl) ?_
  refine q_newq (n := n1) hx hb hown (hts (.classLink RJ7 2 "java/lang/Object") (by decide +kernel)) hK hX hS (fun q h => Or.inr (by rw [← hP.1]; exact h)) rfl (by omega) (Nat.le_of_ble_eq_true rfl) (by show 0 + n1 ≤ 49; omega) dJ7_copyOf_6403c_7 (fun na H hna hN hz1 ho1 hS => ?_)
  have hba1 := hP.2.1.kept (ho1 _ (va_at.lt2 hP.2.1))
  have hel1 : ∀ (i y : Nat), i < n0 → f i = some y → ∃ vs, va_at g.1 vwCl (y, .inr (ci, vs)) H := fun i y h1 h2 => by
    obtain ⟨vs, hv⟩ := hP.2.2 i y h1 h2
    exact ⟨vs, hv.kept (ho1 _ (va_at.lt2 hv))⟩
  have hlt := va_at.lt2 hP.2.1
  have hna2 : na = sz := by rw [hna]; exact hP.1
  subst hna2
  refine lv_goto (tgt := 24) hx hb dJ7_copyOf_6403c_10 (by decide) ?_
  refine lv_astore_n (lv' := [(3, .ref na), (0, .ref ba), (1, .int (iI (n1 : Int))), (2, .ref x.1)]) hx hb dJ7_copyOf_6403c_24 rfl hl (by decide) rfl (fun ls hl => ?_)
  refine lv_aload_n hx hb dJ7_copyOf_6403c_25 rfl (lv_at hl 1 rfl) ?_
  refine lv_iconst (v := iI 0) hx hb dJ7_copyOf_6403c_26 rfl ?_
  refine lv_aload_n hx hb dJ7_copyOf_6403c_27 rfl (lv_at hl 0 rfl) ?_
  refine lv_iconst (v := iI 0) hx hb dJ7_copyOf_6403c_28 rfl ?_
  refine lv_aload_n hx hb dJ7_copyOf_6403c_29 rfl (lv_at hl 1 rfl) ?_
  refine q_alen (t0 := 3) (z := (n0 : Int)) hx hb hK hba1 rfl rfl dJ7_copyOf_6403c_30 ?_
  refine lv_iload_n hx hb dJ7_copyOf_6403c_31 rfl (lv_at hl 2 rfl) ?_
  refine q_mmin hx hb (hml.trans hl.1.symm) hown (hts (.methodLink RJ7 304 Lib.Math.min.name) (by decide +kernel)) (hts (.static Lib.Math.min.name) (by decide +kernel)) (hts (.initialized "java/lang/Math") (by decide +kernel)) (hts (.code Lib.Math.min.name Lib.Math.min.code 2 (some .int)) (by decide +kernel)) (Nat.le_of_ble_eq_true rfl) (Nat.le_of_ble_eq_true rfl) (Nat.le_of_ble_eq_true rfl) (by show 0 + n1 ≤ 49; omega) dJ7_copyOf_6403c_32 (by omega) (by omega) ?_
  refine q_copyq hx hb (hml.trans hl.1.symm) hown (hts (.methodLink RJ7 150 arraycopyName) (by decide +kernel)) (hts (.native arraycopyName) (by decide +kernel)) (hts (.static arraycopyName) (by decide +kernel)) (hts (.initialized "java/lang/System") (by decide +kernel)) hK hS hba1 hN (by omega) (Or.inl rfl) (Or.inr (Nat.le_refl _)) ⟨hn.1, by omega⟩ hc (hX.2.1 ci r hc hci) hel1 (Nat.le_of_ble_eq_true rfl) (by decide) (by omega) dJ7_copyOf_6403c_35 (fun H locs hN hS hz2 ho2 => ?_)
  refine lv_aload_n hx hb dJ7_copyOf_6403c_38 rfl (lv_at hl 0 rfl) ?_
  refine W.widen (k := 1) (n := 49) (by omega) (by omega) ?_
  refine q_mretr hx hb hr (Or.inr ⟨_, rfl⟩) hlocks hS dJ7_copyOf_6403c_39 ?_ ?_
  · rfl
  · exact hN

set_option maxHeartbeats 4000000 in
set_option maxRecDepth 100000 in
theorem cj_copy2 (l : Launch) (g : GG) (x : XX) (ba sz n0 n1 : Nat) (f : Nat → Option Nat) (ci : Nat) (r : vw_C) (hc : vwCl[ci]? = some r) (hci : ci ∈ [1, 2, 3, 4, 5]) (hba : x.2.2 ≤ ba) (hsz : x.2.2 ≤ sz) (hn : n0 ≤ n1 ∧ n1 ≤ 49)  : MetXR l yJ7_copyOf_1904c wsJ7_copyOf_1904c ({ frames := 2, cells := 1, slots := 49, locals := 83 }) g x [.ref ba, .int (iI (n1 : Int))] (fun H => H.size = sz ∧ va_at g.1 vwCl (ba, .inl (g.2.2.2.2, n0, .inr (.inr (.inr (.inr f))))) H ∧ (∀ (i y : Nat), i < n0 → f i = some y → ∃ vs, va_at g.1 vwCl (y, .inr (ci, vs)) H)) sz (fun H => va_at g.1 vwCl (sz, .inl (g.2.2.2.2, n1, .inr (.inr (.inr (.inr (fun k => if k < n0 then f k else none)))))) H) (fun q => q = ba ∨ sz ≤ q) 1 49 := by
  refine Met.ofW (cc := cJ7_copyOf_1904c) (maxL := 2) (ret := (some (.array (.object "java/lang/Object")))) (by decide) rfl ?_
  intro p e s m args below meth c s₁ B hml hv
  obtain ⟨rfl, hP, hK, hX⟩ := hv
  have hx := B.exec
  have hb := B.bytes
  have hr := B.returns
  have hts := atoms_spec (ws := wsJ7_copyOf_1904c) B.pre
  have hown : s.vm.findClass RJ7 = some m.cls := findClass_of_methodNamed B.named
  have hlocks := B.notSynchronized
  have hl := lv_entry ([.ref ba, .int (iI (n1 : Int))]) (n := 2) (Nat.le_of_ble_eq_true rfl)
  rw [lg_entry_eq]
  generalize (lg_sl ([.ref ba, .int (iI (n1 : Int))]) ++ List.replicate (2 - (lg_sl ([.ref ba, .int (iI (n1 : Int))])).length) Slot.unset).toArray = ls at hl ⊢
  have hl : lv_has ls 2 [(0, .ref ba), (1, .int (iI (n1 : Int)))] := hl
  have hS : va_S (fun q => q = ba ∨ sz ≤ q) s.heap s.heap [] := va_S.rf
  have hAb : ∀ q, (fun q => q = ba ∨ sz ≤ q) q → x.2.2 ≤ q := fun q h => h.elim (fun z => by rw [z]; exact hba) (fun z => Nat.le_trans hsz z)
  refine lv_aload_n hx hb dJ7_copyOf_1904c_0 rfl (lv_at hl 0 rfl) ?_
  refine lv_iload_n hx hb dJ7_copyOf_1904c_1 rfl (lv_at hl 1 rfl) ?_
  refine lv_aload_n hx hb dJ7_copyOf_1904c_2 rfl (lv_at hl 0 rfl) ?_
  have hrc : ∃ cell : Cell, s.heap[ba]? = some cell ∧ cell.vm.isStatics = false ∧ s.vm.findClass "[Ljava/lang/Object;" = some cell.cls := by
    obtain ⟨kA, comp, k1, k2, k3, k4⟩ := (hK.1.2 3 _ rfl).2
    exact ⟨_, hP.2.1, rfl, k4⟩
  refine va_getC hx hb (hml.trans hl.1.symm) hown (hts (.methodLink RJ7 86 ⟨"java/lang/Object", "getClass", "()Ljava/lang/Class;"⟩) (by decide +kernel)) (va_Dc.use hX.1.2.1) (hts (.selects "[Ljava/lang/Object;" ⟨"java/lang/Object", "getClass", "()Ljava/lang/Class;"⟩ ⟨"java/lang/Object", "getClass", "()Ljava/lang/Class;"⟩) (by decide +kernel)) (hts (.instanceMethod ⟨"java/lang/Object", "getClass", "()Ljava/lang/Class;"⟩) (by decide +kernel)) (hts (.native ⟨"java/lang/Object", "getClass", "()Ljava/lang/Class;"⟩) (by decide +kernel)) hX.1.1 hrc (Nat.le_of_ble_eq_true rfl) (Nat.le_of_ble_eq_true rfl) dJ7_copyOf_1904c_3 ?_
  refine q_xSr (As := [.ref ba, .int (iI (n1 : Int)), .ref x.1]) (rest := []) ⟨hx, hb, hml, hown, hts⟩ (cj_copy3 l g x ba sz n0 n1 f ci r hc hci hba hsz hn) (va_cwS 3 hts gJ7_copyOf_1904c_J7_copyOf_6403c rfl rfl rfl (by decide +kernel) ⟨Nat.le_of_ble_eq_true rfl, Nat.le_of_ble_eq_true rfl⟩) (q_pSX hK hX hS hAb hP) rfl hl.1 rfl (Nat.le_of_ble_eq_true rfl) ⟨Nat.le_of_ble_eq_true rfl, Nat.le_of_ble_eq_true rfl⟩ dJ7_copyOf_1904c_6 hS (fun _ h => h) (fun H locs hN hz1 hk1 hS => ?_)
  refine W.widen (k := 1) (n := 49) (by omega) (by omega) ?_
  refine q_mretr hx hb hr (Or.inr ⟨_, rfl⟩) hlocks hS dJ7_copyOf_1904c_9 ?_ ?_
  · rfl
  · exact hN
