set_option maxHeartbeats 4000000 in
set_option maxRecDepth 100000 in
theorem cj_growI0 (l : Launch) (g : GG) (x : XX) (la sz : Nat) (hb0 : x.2.2 ≤ la) (hb2 : x.2.2 ≤ sz)  : MetXR l yJx4a65c_grow_92f84 wsJx4a65c_grow_92f84 ({ frames := 1, cells := 1, slots := 49, locals := 21 }) g x [.ref la, .int (iI (0 + 1))] (fun H => H.size = sz ∧ va_at g.1 vwCl (la, .inr (0, [.int (iI (0 + 1)), .ref x.2.1, .int (iI (0))])) H) sz (fun H => va_at g.1 vwCl (la, .inr (0, [.int (iI (0 + 1)), .ref sz, .int (iI (0))])) H ∧ va_at g.1 vwCl (sz, .inl (g.2.2.2.2, 10, .inr (.inr (.inr (.inr (fun _ => none)))))) H) (fun q => q = la ∨ sz ≤ q) 1 49 := by
  refine Met.ofW (cc := cJx4a65c_grow_92f84) (maxL := 4) (ret := (some (.array (.object "java/lang/Object")))) (by decide) rfl ?_
  intro p e s m args below meth c s₁ B hml hv
  obtain ⟨rfl, hP, hK, hX⟩ := hv
  have hx := B.exec
  have hb := B.bytes
  have hr := B.returns
  have hts := atoms_spec (ws := wsJx4a65c_grow_92f84) B.pre
  have hown : s.vm.findClass RJx4a65c = some m.cls := findClass_of_methodNamed B.named
  have hlocks := B.notSynchronized
  have inJx4a65c : ∀ w ∈ wsJx4a65c0, w ∈ wsJx4a65c_grow_92f84 := by decide +kernel
  have hl := lv_entry ([.ref la, .int (iI (0 + 1))]) (n := 4) (Nat.le_of_ble_eq_true rfl)
  rw [lg_entry_eq]
  generalize (lg_sl ([.ref la, .int (iI (0 + 1))]) ++ List.replicate (4 - (lg_sl ([.ref la, .int (iI (0 + 1))])).length) Slot.unset).toArray = ls at hl ⊢
  have hl : lv_has ls 4 [(0, .ref la), (1, .int (iI (0 + 1)))] := hl
  have hS : va_S (fun q => q = la ∨ sz ≤ q) s.heap s.heap [] := va_S.rf
  have hAb : ∀ q, (fun q => q = la ∨ sz ≤ q) q → x.2.2 ≤ q := fun q h => h.elim (fun z => by rw [z]; exact hb0) (fun z => Nat.le_trans hb2 z)
  obtain ⟨hsz0, hL⟩ := hP
  have hls : la < sz := by have h9 : la < s.heap.size := va_at.lt2 hL; omega
  refine lv_aload_n hx hb dJx4a65c_grow_92f84_0 rfl (lv_at hl 0 rfl) ?_
  refine q_get (v := .ref x.2.1) (C := RJx4a65c) (T := TJx4a65c) (N := 3) hx hb hts inJx4a65c hown hK hL rfl 1 (by decide) (hts (.fieldLink RJx4a65c 9 "java/util/ArrayList" "elementData" "[Ljava/lang/Object;") (by decide +kernel)) (fun _ h9 => h9) rfl dJx4a65c_grow_92f84_1 ?_
  refine q_lenA hx hb hX hS hAb dJx4a65c_grow_92f84_4 ?_
  refine lv_istore_n (lv' := [(2, .int (iI 0)), (0, .ref la), (1, .int (iI (0 + 1)))]) hx hb dJx4a65c_grow_92f84_5 rfl hl (by decide) rfl (fun ls hl => ?_)
  refine lv_iload_n hx hb dJx4a65c_grow_92f84_6 rfl (lv_at hl 0 rfl) ?_
  refine q_if_gt (tgt := 20) hx hb dJx4a65c_grow_92f84_7 (by decide) (by decide) (fun c7 => ?_) (fun c7 => ?_)
  · exact absurd c7 (by decide)
  refine lv_aload_n hx hb dJx4a65c_grow_92f84_10 rfl (lv_at hl 1 rfl) ?_
  refine q_get (v := .ref x.2.1) (C := RJx4a65c) (T := TJx4a65c) (N := 3) hx hb hts inJx4a65c hown hK hL rfl 1 (by decide) (hts (.fieldLink RJx4a65c 9 "java/util/ArrayList" "elementData" "[Ljava/lang/Object;") (by decide +kernel)) (fun _ h9 => h9) rfl dJx4a65c_grow_92f84_11 ?_
  refine q_eA hx hb hX hS hAb hown (hts (.fieldLink RJx4a65c 39 "java/util/ArrayList" "DEFAULTCAPACITY_EMPTY_ELEMENTDATA" "[Ljava/lang/Object;") (by decide +kernel)) dJx4a65c_grow_92f84_14 ?_
  refine lv_acmp_eq (rx := some x.2.1) (ry := some x.2.1) (tgt := 45) hx hb dJx4a65c_grow_92f84_17 (by decide) (fun _ => ?_) (fun h9 => absurd rfl h9)
  refine lv_aload_n hx hb dJx4a65c_grow_92f84_45 rfl (lv_at hl 1 rfl) ?_
  refine q_bipush hx hb 10 dJx4a65c_grow_92f84_46 (by decide +kernel) ?_
  refine lv_iload_n hx hb dJx4a65c_grow_92f84_48 rfl (lv_at hl 2 rfl) ?_
  refine q_mmax hx hb (hml.trans hl.1.symm) hown (hts (.methodLink RJx4a65c 79 Lib.Math.max.name) (by decide +kernel)) (hts (.static Lib.Math.max.name) (by decide +kernel)) (hts (.initialized "java/lang/Math") (by decide +kernel)) (hts (.code Lib.Math.max.name Lib.Math.max.code 2 (some .int)) (by decide +kernel)) (Nat.le_of_ble_eq_true rfl) (Nat.le_of_ble_eq_true rfl) (Nat.zero_le _) (Nat.zero_le _) dJx4a65c_grow_92f84_49 (by decide) (by omega) ?_
  refine q_newq (n := 10) hx hb hown (hts (.classLink RJx4a65c 7 "java/lang/Object") (by decide +kernel)) hK hX hS (fun q h => Or.inr (by rw [← hsz0]; exact h)) (by decide) (by omega) (Nat.le_of_ble_eq_true rfl) (Nat.le_of_ble_eq_true rfl) dJx4a65c_grow_92f84_52 (fun na H hna hN hz1 ho1 hS => ?_)
  have hL := hL.kept (ho1 _ (va_at.lt2 hL))
  have hna2 : na = sz := by rw [hna]; exact hsz0
  subst hna2
  refine lv_dup_x1 hx hb dJx4a65c_grow_92f84_55 rfl rfl ?_
  refine q_put (ty := (.array (.object "java/lang/Object"))) (v := .ref na) hx hb hts inJx4a65c tyJx4a65c tyJx4a65c_ok nmJx4a65c hown hK hL rfl 1 (by decide) (hts (.fieldLink RJx4a65c 9 "java/util/ArrayList" "elementData" "[Ljava/lang/Object;") (by decide +kernel)) (fun _ h9 => h9) rfl (by decide +kernel) rfl rfl (Nat.le_of_ble_eq_true rfl) dJx4a65c_grow_92f84_56 (fun H i1 hL hz1 ho1 => ?_)
  have hL : va_at g.1 vwCl (la, .inr (0, [.int (iI (0 + 1)), .ref na, .int (iI 0)])) H := hL
  have hN := hN.kept (ho1 _ (by omega))
  have hS := hS.put (k := i1) hz1 ho1 (Or.inl rfl)
  refine W.widen (k := 1) (n := 49) (by omega) (by omega) ?_
  refine q_mretr hx hb hr (Or.inr ⟨_, rfl⟩) hlocks hS dJx4a65c_grow_92f84_59 ?_ ?_
  · rfl
  · exact ⟨hL, hN⟩

set_option maxHeartbeats 4000000 in
set_option maxRecDepth 100000 in
theorem cj_grow0 (l : Launch) (g : GG) (x : XX) (la sz : Nat) (hb0 : x.2.2 ≤ la) (hb2 : x.2.2 ≤ sz)  : MetXR l yJx4a65c_grow_d5877 wsJx4a65c_grow_d5877 ({ frames := 2, cells := 1, slots := 49, locals := 44 }) g x [.ref la] (fun H => H.size = sz ∧ va_at g.1 vwCl (la, .inr (0, [.int (iI (0 + 1)), .ref x.2.1, .int (iI (0))])) H) sz (fun H => va_at g.1 vwCl (la, .inr (0, [.int (iI (0 + 1)), .ref sz, .int (iI (0))])) H ∧ va_at g.1 vwCl (sz, .inl (g.2.2.2.2, 10, .inr (.inr (.inr (.inr (fun _ => none)))))) H) (fun q => q = la ∨ sz ≤ q) 1 49 := by
  refine Met.ofW (cc := cJx4a65c_grow_d5877) (maxL := 1) (ret := (some (.array (.object "java/lang/Object")))) (by decide) rfl ?_
  intro p e s m args below meth c s₁ B hml hv
  obtain ⟨rfl, hP, hK, hX⟩ := hv
  have hx := B.exec
  have hb := B.bytes
  have hr := B.returns
  have hts := atoms_spec (ws := wsJx4a65c_grow_d5877) B.pre
  have hown : s.vm.findClass RJx4a65c = some m.cls := findClass_of_methodNamed B.named
  have hlocks := B.notSynchronized
  have inJx4a65c : ∀ w ∈ wsJx4a65c0, w ∈ wsJx4a65c_grow_d5877 := by decide +kernel
  have hl := lv_entry ([.ref la]) (n := 1) (Nat.le_of_ble_eq_true rfl)
  rw [lg_entry_eq]
  generalize (lg_sl ([.ref la]) ++ List.replicate (1 - (lg_sl ([.ref la])).length) Slot.unset).toArray = ls at hl ⊢
  have hl : lv_has ls 1 [(0, .ref la)] := hl
  have hS : va_S (fun q => q = la ∨ sz ≤ q) s.heap s.heap [] := va_S.rf
  have hAb : ∀ q, (fun q => q = la ∨ sz ≤ q) q → x.2.2 ≤ q := fun q h => h.elim (fun z => by rw [z]; exact hb0) (fun z => Nat.le_trans hb2 z)
  obtain ⟨hsz0, hL⟩ := hP
  have hls : la < sz := by have h9 : la < s.heap.size := va_at.lt2 hL; omega
  refine lv_aload_n hx hb dJx4a65c_grow_d5877_0 rfl (lv_at hl 0 rfl) ?_
  refine lv_aload_n hx hb dJx4a65c_grow_d5877_1 rfl (lv_at hl 0 rfl) ?_
  refine q_get (v := .int (iI 0)) (C := RJx4a65c) (T := TJx4a65c) (N := 3) hx hb hts inJx4a65c hown hK hL rfl 2 (by decide) (hts (.fieldLink RJx4a65c 48 "java/util/ArrayList" "size" "I") (by decide +kernel)) (fun _ h9 => h9) rfl dJx4a65c_grow_d5877_2 ?_
  refine lv_iconst (v := iI 1) hx hb dJx4a65c_grow_d5877_5 rfl ?_
  refine q_iadd hx hb dJx4a65c_grow_d5877_6 ?_
  refine q_xVr (As := [.int (iI (0 + 1))]) (rest := []) ⟨hx, hb, hml, hown, hts⟩ (cj_growI0 l g x la sz hb0 hb2) (cwV 1 hts gJx4a65c_grow_d5877_Jx4a65c_grow_92f84 rfl rfl rfl (by decide +kernel) ⟨Nat.le_of_ble_eq_true rfl, Nat.le_of_ble_eq_true rfl⟩) (q_pVX hK hX hS hAb hL rfl ⟨hsz0, hL⟩) rfl hl.1 rfl (Nat.le_of_ble_eq_true rfl) ⟨Nat.le_of_ble_eq_true rfl, Nat.le_of_ble_eq_true rfl⟩ dJx4a65c_grow_d5877_7 hS (fun _ h => h) (fun H locs hM hz1 hk1 hS => ?_)
  obtain ⟨hL, hN⟩ := hM
  refine W.widen (k := 1) (n := 49) (by omega) (by omega) ?_
  refine q_mretr hx hb hr (Or.inr ⟨_, rfl⟩) hlocks hS dJx4a65c_grow_d5877_10 ?_ ?_
  · rfl
  · exact ⟨hL, hN⟩

set_option maxHeartbeats 4000000 in
set_option maxRecDepth 100000 in
theorem cj_growIN (l : Launch) (g : GG) (x : XX) (la ba sz ci : Nat) (r : vw_C) (n : Int) (el : Int → Nat) (hc : vwCl[ci]? = some r) (hci : ci ∈ [1, 2, 3, 4, 5]) (hb0 : x.2.2 ≤ la) (hb1 : x.2.2 ≤ ba) (hb2 : x.2.2 ≤ sz) (hlb : la ≠ ba) (hn : 0 < n ∧ n ≤ 48) (hcn : (capN n : Int) = n)  : MetXR l yJx4a65c_grow_92f84 wsJx4a65c_grow_92f84 ({ frames := 3, cells := 1, slots := 49, locals := 104 }) g x [.ref la, .int (iI (n + 1))] (fun H => H.size = sz ∧ va_at g.1 vwCl (la, .inr (0, [.int (iI (n + 1)), .ref ba, .int (iI (n))])) H ∧ va_at g.1 vwCl (ba, arrE g n el) H ∧ (∀ i : Int, 0 ≤ i → i < n → ∃ vs, va_at g.1 vwCl (el i, .inr (ci, vs)) H)) sz (fun H => va_at g.1 vwCl (la, .inr (0, [.int (iI (n + 1)), .ref sz, .int (iI (n))])) H ∧ va_at g.1 vwCl (sz, .inl (g.2.2.2.2, capN (n + 1), .inr (.inr (.inr (.inr (fun k => if k < capN n then arrF n el k else none)))))) H) (fun q => q = la ∨ q = ba ∨ sz ≤ q) 1 49 := by
  refine Met.ofW (cc := cJx4a65c_grow_92f84) (maxL := 4) (ret := (some (.array (.object "java/lang/Object")))) (by decide) rfl ?_
  intro p e s m args below meth c s₁ B hml hv
  obtain ⟨rfl, hP, hK, hX⟩ := hv
  have hx := B.exec
  have hb := B.bytes
  have hr := B.returns
  have hts := atoms_spec (ws := wsJx4a65c_grow_92f84) B.pre
  have hown : s.vm.findClass RJx4a65c = some m.cls := findClass_of_methodNamed B.named
  have hlocks := B.notSynchronized
  have inJx4a65c : ∀ w ∈ wsJx4a65c0, w ∈ wsJx4a65c_grow_92f84 := by decide +kernel
  have hl := lv_entry ([.ref la, .int (iI (n + 1))]) (n := 4) (Nat.le_of_ble_eq_true rfl)
  rw [lg_entry_eq]
  generalize (lg_sl ([.ref la, .int (iI (n + 1))]) ++ List.replicate (4 - (lg_sl ([.ref la, .int (iI (n + 1))])).length) Slot.unset).toArray = ls at hl ⊢
  have hl : lv_has ls 4 [(0, .ref la), (1, .int (iI (n + 1)))] := hl
  have hS : va_S (fun q => q = la ∨ q = ba ∨ sz ≤ q) s.heap s.heap [] := va_S.rf
  have hAb : ∀ q, (fun q => q = la ∨ q = ba ∨ sz ≤ q) q → x.2.2 ≤ q := fun q h => h.elim (fun z => by rw [z]; exact hb0) (fun h => h.elim (fun z => by rw [z]; exact hb1) (fun z => Nat.le_trans hb2 z))
  obtain ⟨hsz0, hL, hA, hE⟩ := hP
  have hls : la < sz := by have h9 : la < s.heap.size := va_at.lt2 hL; omega
  have hcl1 := capN_le (n := n) (by omega) (by omega)
  have hcl2 := capN_le (n := n + 1) (by omega) (by omega)
  have hE2 : ∀ (i y : Nat), i < capN n → arrF n el i = some y → ∃ vs, va_at g.1 vwCl (y, .inr (ci, vs)) s.heap := fun i y h1 h2 => by
    unfold arrF at h2
    rw [if_pos (by omega)] at h2
    cases h2
    exact hE _ (by omega) (by omega)
  refine lv_aload_n hx hb dJx4a65c_grow_92f84_0 rfl (lv_at hl 0 rfl) ?_
  refine q_get (v := .ref ba) (C := RJx4a65c) (T := TJx4a65c) (N := 3) hx hb hts inJx4a65c hown hK hL rfl 1 (by decide) (hts (.fieldLink RJx4a65c 9 "java/util/ArrayList" "elementData" "[Ljava/lang/Object;") (by decide +kernel)) (fun _ h9 => h9) rfl dJx4a65c_grow_92f84_1 ?_
  refine q_alen (t0 := 3) (z := n) hx hb hK hA rfl hcn dJx4a65c_grow_92f84_4 ?_
  refine lv_istore_n (lv' := [(2, .int (iI n)), (0, .ref la), (1, .int (iI (n + 1)))]) hx hb dJx4a65c_grow_92f84_5 rfl hl (by decide) rfl (fun ls hl => ?_)
  refine lv_iload_n hx hb dJx4a65c_grow_92f84_6 rfl (lv_at hl 0 rfl) ?_
  refine q_if_gt (tgt := 20) hx hb dJx4a65c_grow_92f84_7 (by decide) (by omega) (fun c7 => ?_) (fun c7 => ?_)
  · refine lv_iload_n hx hb dJx4a65c_grow_92f84_20 rfl (lv_at hl 0 rfl) ?_
    refine lv_iload_n hx hb dJx4a65c_grow_92f84_21 rfl (lv_at hl 2 rfl) ?_
    refine lv_iload_n hx hb dJx4a65c_grow_92f84_22 rfl (lv_at hl 0 rfl) ?_
    refine q_isub hx hb dJx4a65c_grow_92f84_23 ?_
    refine lv_iload_n hx hb dJx4a65c_grow_92f84_24 rfl (lv_at hl 0 rfl) ?_
    refine lv_iconst (v := iI 1) hx hb dJx4a65c_grow_92f84_25 rfl ?_
    refine q_ishr1 hx hb ⟨by omega, by omega⟩ dJx4a65c_grow_92f84_26 ?_
    refine q_cSi (As := [.int (iI n), .int (iI ((n + 1) - n)), .int (iI (n / 2))]) (rest := []) ⟨hx, hb, hml, hown, hts⟩ (cj_newLength l g n ((n + 1) - n) (n / 2) (by omega) (by omega) (by omega) (by omega) (by omega) (by omega)) (va_cwS 3 hts gJx4a65c_grow_92f84_J8_newLength_cabcc rfl rfl rfl (by decide +kernel) ⟨Nat.le_of_ble_eq_true rfl, Nat.le_of_ble_eq_true rfl⟩) (q_pS hK trivial) rfl hl.1 rfl (Nat.le_of_ble_eq_true rfl) ⟨Nat.zero_le _, Nat.zero_le _⟩ dJx4a65c_grow_92f84_27 ?_
    refine q_top (z := ((capN (n + 1) : Nat) : Int)) (by
      exact (capN_full (by omega) hcn)) ?_
    refine lv_istore_n (lv' := [(3, .int (iI ((capN (n + 1) : Nat) : Int))), (2, .int (iI n)), (0, .ref la), (1, .int (iI (n + 1)))]) hx hb dJx4a65c_grow_92f84_30 rfl hl (by decide) rfl (fun ls hl => ?_)
    refine lv_aload_n hx hb dJx4a65c_grow_92f84_31 rfl (lv_at hl 2 rfl) ?_
    refine lv_aload_n hx hb dJx4a65c_grow_92f84_32 rfl (lv_at hl 2 rfl) ?_
    refine q_get (v := .ref ba) (C := RJx4a65c) (T := TJx4a65c) (N := 3) hx hb hts inJx4a65c hown hK hL rfl 1 (by decide) (hts (.fieldLink RJx4a65c 9 "java/util/ArrayList" "elementData" "[Ljava/lang/Object;") (by decide +kernel)) (fun _ h9 => h9) rfl dJx4a65c_grow_92f84_33 ?_
    refine lv_iload_n hx hb dJx4a65c_grow_92f84_36 rfl (lv_at hl 0 rfl) ?_
    refine q_xSr (As := [.ref ba, .int (iI ((capN (n + 1) : Nat) : Int))]) (rest := [.ref la]) ⟨hx, hb, hml, hown, hts⟩ (cj_copy2 l g x ba sz (capN n) (capN (n + 1)) (arrF n el) ci r hc hci hb1 hb2 (by omega)) (va_cwS 2 hts gJx4a65c_grow_92f84_J7_copyOf_1904c rfl rfl rfl (by decide +kernel) ⟨Nat.le_of_ble_eq_true rfl, Nat.le_of_ble_eq_true rfl⟩) (q_pSX hK hX hS hAb ⟨hsz0, hA, hE2⟩) rfl hl.1 rfl (Nat.le_of_ble_eq_true rfl) ⟨Nat.le_of_ble_eq_true rfl, Nat.le_of_ble_eq_true rfl⟩ dJx4a65c_grow_92f84_37 hS (fun _ h => Or.inr h) (fun H locs hN hz1 hk1 hS => ?_)
    have hL := hL.kept (hk1 _ (va_at.lt2 hL) (fun h => h.elim (fun z => hlb z) (fun z => by have z2 : sz ≤ la := z; omega)))
    refine lv_dup_x1 hx hb dJx4a65c_grow_92f84_40 rfl rfl ?_
    refine q_put (ty := (.array (.object "java/lang/Object"))) (v := .ref sz) hx hb hts inJx4a65c tyJx4a65c tyJx4a65c_ok nmJx4a65c hown hK hL rfl 1 (by decide) (hts (.fieldLink RJx4a65c 9 "java/util/ArrayList" "elementData" "[Ljava/lang/Object;") (by decide +kernel)) (fun _ h9 => h9) rfl (by decide +kernel) rfl rfl (Nat.le_of_ble_eq_true rfl) dJx4a65c_grow_92f84_41 (fun H i1 hL hz1 ho1 => ?_)
    have hL : va_at g.1 vwCl (la, .inr (0, [.int (iI (n + 1)), .ref sz, .int (iI n)])) H := hL
    have hN := hN.kept (ho1 _ (by omega))
    have hS := hS.put (k := i1) hz1 ho1 (Or.inl rfl)
    refine W.widen (k := 1) (n := 49) (by omega) (by omega) ?_
    refine q_mretr hx hb hr (Or.inr ⟨_, rfl⟩) hlocks hS dJx4a65c_grow_92f84_44 ?_ ?_
    · rfl
    · exact ⟨hL, hN⟩
  · exact absurd c7 (by omega)

set_option maxHeartbeats 4000000 in
set_option maxRecDepth 100000 in
theorem cj_growN (l : Launch) (g : GG) (x : XX) (la ba sz ci : Nat) (r : vw_C) (n : Int) (el : Int → Nat) (hc : vwCl[ci]? = some r) (hci : ci ∈ [1, 2, 3, 4, 5]) (hb0 : x.2.2 ≤ la) (hb1 : x.2.2 ≤ ba) (hb2 : x.2.2 ≤ sz) (hlb : la ≠ ba) (hn : 0 < n ∧ n ≤ 48) (hcn : (capN n : Int) = n)  : MetXR l yJx4a65c_grow_d5877 wsJx4a65c_grow_d5877 ({ frames := 4, cells := 1, slots := 49, locals := 127 }) g x [.ref la] (fun H => H.size = sz ∧ va_at g.1 vwCl (la, .inr (0, [.int (iI (n + 1)), .ref ba, .int (iI (n))])) H ∧ va_at g.1 vwCl (ba, arrE g n el) H ∧ (∀ i : Int, 0 ≤ i → i < n → ∃ vs, va_at g.1 vwCl (el i, .inr (ci, vs)) H)) sz (fun H => va_at g.1 vwCl (la, .inr (0, [.int (iI (n + 1)), .ref sz, .int (iI (n))])) H ∧ va_at g.1 vwCl (sz, .inl (g.2.2.2.2, capN (n + 1), .inr (.inr (.inr (.inr (fun k => if k < capN n then arrF n el k else none)))))) H) (fun q => q = la ∨ q = ba ∨ sz ≤ q) 1 49 := by
  refine Met.ofW (cc := cJx4a65c_grow_d5877) (maxL := 1) (ret := (some (.array (.object "java/lang/Object")))) (by decide) rfl ?_
  intro p e s m args below meth c s₁ B hml hv
  obtain ⟨rfl, hP, hK, hX⟩ := hv
  have hx := B.exec
  have hb := B.bytes
  have hr := B.returns
  have hts := atoms_spec (ws := wsJx4a65c_grow_d5877) B.pre
  have hown : s.vm.findClass RJx4a65c = some m.cls := findClass_of_methodNamed B.named
  have hlocks := B.notSynchronized
  have inJx4a65c : ∀ w ∈ wsJx4a65c0, w ∈ wsJx4a65c_grow_d5877 := by decide +kernel
  have hl := lv_entry ([.ref la]) (n := 1) (Nat.le_of_ble_eq_true rfl)
  rw [lg_entry_eq]
  generalize (lg_sl ([.ref la]) ++ List.replicate (1 - (lg_sl ([.ref la])).length) Slot.unset).toArray = ls at hl ⊢
  have hl : lv_has ls 1 [(0, .ref la)] := hl
  have hS : va_S (fun q => q = la ∨ q = ba ∨ sz ≤ q) s.heap s.heap [] := va_S.rf
  have hAb : ∀ q, (fun q => q = la ∨ q = ba ∨ sz ≤ q) q → x.2.2 ≤ q := fun q h => h.elim (fun z => by rw [z]; exact hb0) (fun h => h.elim (fun z => by rw [z]; exact hb1) (fun z => Nat.le_trans hb2 z))
  obtain ⟨hsz0, hL, hA, hE⟩ := hP
  have hls : la < sz := by have h9 : la < s.heap.size := va_at.lt2 hL; omega
  have hcl1 := capN_le (n := n) (by omega) (by omega)
  have hcl2 := capN_le (n := n + 1) (by omega) (by omega)
  refine lv_aload_n hx hb dJx4a65c_grow_d5877_0 rfl (lv_at hl 0 rfl) ?_
  refine lv_aload_n hx hb dJx4a65c_grow_d5877_1 rfl (lv_at hl 0 rfl) ?_
  refine q_get (v := .int (iI n)) (C := RJx4a65c) (T := TJx4a65c) (N := 3) hx hb hts inJx4a65c hown hK hL rfl 2 (by decide) (hts (.fieldLink RJx4a65c 48 "java/util/ArrayList" "size" "I") (by decide +kernel)) (fun _ h9 => h9) rfl dJx4a65c_grow_d5877_2 ?_
  refine lv_iconst (v := iI 1) hx hb dJx4a65c_grow_d5877_5 rfl ?_
  refine q_iadd hx hb dJx4a65c_grow_d5877_6 ?_
  refine q_xVr (As := [.int (iI (n + 1))]) (rest := []) ⟨hx, hb, hml, hown, hts⟩ (cj_growIN l g x la ba sz ci r n el hc hci hb0 hb1 hb2 hlb hn hcn) (cwV 1 hts gJx4a65c_grow_d5877_Jx4a65c_grow_92f84 rfl rfl rfl (by decide +kernel) ⟨Nat.le_of_ble_eq_true rfl, Nat.le_of_ble_eq_true rfl⟩) (q_pVX hK hX hS hAb hL rfl ⟨hsz0, hL, hA, hE⟩) rfl hl.1 rfl (Nat.le_of_ble_eq_true rfl) ⟨Nat.le_of_ble_eq_true rfl, Nat.le_of_ble_eq_true rfl⟩ dJx4a65c_grow_d5877_7 hS (fun _ h => h) (fun H locs hM hz1 hk1 hS => ?_)
  obtain ⟨hL, hN⟩ := hM
  refine W.widen (k := 1) (n := 49) (by omega) (by omega) ?_
  refine q_mretr hx hb hr (Or.inr ⟨_, rfl⟩) hlocks hS dJx4a65c_grow_d5877_10 ?_ ?_
  · rfl
  · exact ⟨hL, hN⟩
