theorem sur_min {S : St} {h day a : Int} {n : Nat} (h1 : S 21 (16 * h + (n : Int)) = 6) (h2 : S 20 (16 * h + (n : Int)) ≤ day) : sSur S h day a (n + 1) = min (sSur S h day a n) (S 20 (16 * h + (n : Int))) := by
  by_cases y : S 20 (16 * h + (n : Int)) < sSur S h day a n
  · have e : sSur S h day a (n + 1) = S 20 (16 * h + (n : Int)) := mn_t (q := qSur S h day) (f := fun j => S 20 (16 * h + j)) ⟨h1, h2⟩ y
    rw [e]; omega
  · have e : sSur S h day a (n + 1) = sSur S h day a n := mn_f (q := qSur S h day) (f := fun j => S 20 (16 * h + j)) (fun z => y z.2)
    rw [e]; omega
theorem capN_le {n : Int} (h0 : 0 ≤ n) (h : n ≤ 49) : n ≤ capN n ∧ capN n ≤ 49 ∧ 10 ≤ capN n := by
  unfold capN
  repeat' split
  all_goals omega

set_option maxHeartbeats 4000000 in
set_option maxRecDepth 100000 in
theorem c0_size (l : Launch) (g : GG) (eA : Nat) (la ba : Nat) (n : Int)    : MetI l yJx4a65c_size_8abf5 wsJx4a65c_size_8abf5 ({ frames := 0, cells := 0, slots := 0, locals := 0 }) g [.ref la] (fun H => va_at g.1 vwCl (la, lstE eA ba n) H) n := by
  refine Met.ofW (cc := cJx4a65c_size_8abf5) (maxL := 1) (ret := (some .int)) (by decide) rfl ?_
  intro p e s m args below meth c s₁ B hml hv
  obtain ⟨rfl, hC, hK⟩ := hv
  have hx := B.exec
  have hb := B.bytes
  have hr := B.returns
  have hts := atoms_spec (ws := wsJx4a65c_size_8abf5) B.pre
  have hown : s.vm.findClass RJx4a65c = some m.cls := findClass_of_methodNamed B.named
  have hlocks := B.notSynchronized
  have inJx4a65c : ∀ w ∈ wsJx4a65c0, w ∈ wsJx4a65c_size_8abf5 := by decide +kernel
  have hl := lv_entry ([.ref la]) (n := 1) (Nat.le_of_ble_eq_true rfl)
  rw [lg_entry_eq]
  generalize (lg_sl ([.ref la]) ++ List.replicate (1 - (lg_sl ([.ref la])).length) Slot.unset).toArray = ls at hl ⊢
  have hl : lv_has ls 1 [(0, .ref la)] := hl
  refine lv_aload_n hx hb dJx4a65c_size_8abf5_0 rfl (lv_at hl 0 rfl) ?_
  refine q_get (v := .int (iI n)) (C := RJx4a65c) (T := TJx4a65c) (N := 3) hx hb hts inJx4a65c hown hK hC rfl 2 (by decide) (hts (.fieldLink RJx4a65c 48 "java/util/ArrayList" "size" "I") (by decide +kernel)) (fun _ h9 => h9) rfl dJx4a65c_size_8abf5_1 ?_
  refine q_reti hx hb hr hlocks dJx4a65c_size_8abf5_4 ?_
  first | rfl | exact bI_e1 (by omega) | exact bI_e0 (by omega) | exact bI_iff (by omega) | omega

set_option maxHeartbeats 4000000 in
set_option maxRecDepth 100000 in
theorem c0_isEmpty (l : Launch) (g : GG) (eA : Nat) (la ba : Nat) (n : Int)   (rn : R32 n) : MetI l yJx4a65c_isEmpty_aae02 wsJx4a65c_isEmpty_aae02 ({ frames := 0, cells := 0, slots := 0, locals := 0 }) g [.ref la] (fun H => va_at g.1 vwCl (la, lstE eA ba n) H) (bI (n = 0)) := by
  refine Met.ofW (cc := cJx4a65c_isEmpty_aae02) (maxL := 1) (ret := (some .boolean)) (by decide) rfl ?_
  intro p e s m args below meth c s₁ B hml hv
  obtain ⟨rfl, hC, hK⟩ := hv
  have hx := B.exec
  have hb := B.bytes
  have hr := B.returns
  have hts := atoms_spec (ws := wsJx4a65c_isEmpty_aae02) B.pre
  have hown : s.vm.findClass RJx4a65c = some m.cls := findClass_of_methodNamed B.named
  have hlocks := B.notSynchronized
  have inJx4a65c : ∀ w ∈ wsJx4a65c0, w ∈ wsJx4a65c_isEmpty_aae02 := by decide +kernel
  have hl := lv_entry ([.ref la]) (n := 1) (Nat.le_of_ble_eq_true rfl)
  rw [lg_entry_eq]
  generalize (lg_sl ([.ref la]) ++ List.replicate (1 - (lg_sl ([.ref la])).length) Slot.unset).toArray = ls at hl ⊢
  have hl : lv_has ls 1 [(0, .ref la)] := hl
  refine lv_aload_n hx hb dJx4a65c_isEmpty_aae02_0 rfl (lv_at hl 0 rfl) ?_
  refine q_get (v := .int (iI n)) (C := RJx4a65c) (T := TJx4a65c) (N := 3) hx hb hts inJx4a65c hown hK hC rfl 2 (by decide) (hts (.fieldLink RJx4a65c 48 "java/util/ArrayList" "size" "I") (by decide +kernel)) (fun _ h9 => h9) rfl dJx4a65c_isEmpty_aae02_1 ?_
  refine q_if_ne (tgt := 11) hx hb dJx4a65c_isEmpty_aae02_4 (by decide) rn (fun c4 => ?_) (fun c4 => ?_)
  · refine lv_iconst (v := iI 0) hx hb dJx4a65c_isEmpty_aae02_11 rfl ?_
    refine q_retz hx hb hr hlocks (Or.inl rfl) dJx4a65c_isEmpty_aae02_12 ?_
    first | rfl | exact bI_e1 (by omega) | exact bI_e0 (by omega) | exact bI_iff (by omega) | omega
  · refine lv_iconst (v := iI 1) hx hb dJx4a65c_isEmpty_aae02_7 rfl ?_
    refine lv_goto (tgt := 12) hx hb dJx4a65c_isEmpty_aae02_8 (by decide) ?_
    refine q_retz hx hb hr hlocks (Or.inr rfl) dJx4a65c_isEmpty_aae02_12 ?_
    first | rfl | exact bI_e1 (by omega) | exact bI_e0 (by omega) | exact bI_iff (by omega) | omega

set_option maxHeartbeats 4000000 in
set_option maxRecDepth 100000 in
theorem cj_checkIndex (l : Launch) (g : GG) (i : Int) (n : Int) (r_i : R32 i) (r_n : R32 n) (hi : 0 ≤ i ∧ i < n) : MetI l yJ3_checkIndex_8e157 wsJ3_checkIndex_8e157 ({ frames := 0, cells := 0, slots := 0, locals := 0 }) g [.int (iI i), .int (iI n), .null] (fun _ => True) i := by
  refine Met.ofW (cc := cJ3_checkIndex_8e157) (maxL := 3) (ret := (some .int)) (by decide) rfl ?_
  intro p e s m args below meth c s₁ B hml hv
  obtain ⟨rfl, _, hK⟩ := hv
  have hx := B.exec
  have hb := B.bytes
  have hr := B.returns
  have hts := atoms_spec (ws := wsJ3_checkIndex_8e157) B.pre
  have hown : s.vm.findClass RJ3 = some m.cls := findClass_of_methodNamed B.named
  have hlocks := B.notSynchronized
  have hl := lv_entry ([.int (iI i), .int (iI n), .null]) (n := 3) (Nat.le_of_ble_eq_true rfl)
  rw [lg_entry_eq]
  generalize (lg_sl ([.int (iI i), .int (iI n), .null]) ++ List.replicate (3 - (lg_sl ([.int (iI i), .int (iI n), .null])).length) Slot.unset).toArray = ls at hl ⊢
  have hl : lv_has ls 3 [(0, .int (iI i)), (1, .int (iI n)), (2, .null)] := hl
  refine lv_iload_n hx hb dJ3_checkIndex_8e157_0 rfl (lv_at hl 0 rfl) ?_
  refine q_if_lt (tgt := 9) hx hb dJ3_checkIndex_8e157_1 (by decide) r_i (fun c1 => ?_) (fun c1 => ?_)
  · exact absurd c1 (by omega)
  · refine lv_iload_n hx hb dJ3_checkIndex_8e157_4 rfl (lv_at hl 0 rfl) ?_
    refine lv_iload_n hx hb dJ3_checkIndex_8e157_5 rfl (lv_at hl 1 rfl) ?_
    refine q_icmp_lt (tgt := 16) hx hb dJ3_checkIndex_8e157_6 (by decide) r_i r_n (fun c6 => ?_) (fun c6 => ?_)
    · refine lv_iload_n hx hb dJ3_checkIndex_8e157_16 rfl (lv_at hl 0 rfl) ?_
      refine q_reti hx hb hr hlocks dJ3_checkIndex_8e157_17 ?_
      first | rfl | exact bI_e1 (by omega) | exact bI_e0 (by omega) | exact bI_iff (by omega) | omega
    · exact absurd c6 (by omega)

set_option maxHeartbeats 4000000 in
set_option maxRecDepth 100000 in
theorem cj_checkIndex2 (l : Launch) (g : GG) (i : Int) (n : Int) (r_i : R32 i) (r_n : R32 n) (hi : 0 ≤ i ∧ i < n) : MetI l yJ15_checkIndex_7cf53 wsJ15_checkIndex_7cf53 ({ frames := 1, cells := 0, slots := 0, locals := 22 }) g [.int (iI i), .int (iI n)] (fun _ => True) i := by
  refine Met.ofW (cc := cJ15_checkIndex_7cf53) (maxL := 2) (ret := (some .int)) (by decide) rfl ?_
  intro p e s m args below meth c s₁ B hml hv
  obtain ⟨rfl, _, hK⟩ := hv
  have hx := B.exec
  have hb := B.bytes
  have hr := B.returns
  have hts := atoms_spec (ws := wsJ15_checkIndex_7cf53) B.pre
  have hown : s.vm.findClass RJ15 = some m.cls := findClass_of_methodNamed B.named
  have hlocks := B.notSynchronized
  have hl := lv_entry ([.int (iI i), .int (iI n)]) (n := 2) (Nat.le_of_ble_eq_true rfl)
  rw [lg_entry_eq]
  generalize (lg_sl ([.int (iI i), .int (iI n)]) ++ List.replicate (2 - (lg_sl ([.int (iI i), .int (iI n)])).length) Slot.unset).toArray = ls at hl ⊢
  have hl : lv_has ls 2 [(0, .int (iI i)), (1, .int (iI n))] := hl
  refine lv_iload_n hx hb dJ15_checkIndex_7cf53_0 rfl (lv_at hl 0 rfl) ?_
  refine lv_iload_n hx hb dJ15_checkIndex_7cf53_1 rfl (lv_at hl 1 rfl) ?_
  refine lv_null hx hb dJ15_checkIndex_7cf53_2 ?_
  refine q_cSi (As := [.int (iI i), .int (iI n), .null]) (rest := []) ⟨hx, hb, hml, hown, hts⟩ (cj_checkIndex l g i n r_i r_n hi) (va_cwS 3 hts gJ15_checkIndex_7cf53_J3_checkIndex_8e157 rfl rfl rfl (by decide +kernel) ⟨Nat.le_of_ble_eq_true rfl, Nat.le_of_ble_eq_true rfl⟩) (q_pS hK trivial) rfl hl.1 rfl (Nat.le_of_ble_eq_true rfl) ⟨Nat.zero_le _, Nat.zero_le _⟩ dJ15_checkIndex_7cf53_3 ?_
  refine q_reti hx hb hr hlocks dJ15_checkIndex_7cf53_6 ?_
  first | rfl | exact bI_e1 (by omega) | exact bI_e0 (by omega) | exact bI_iff (by omega) | omega

set_option maxHeartbeats 4000000 in
set_option maxRecDepth 100000 in
theorem c0_elementData (l : Launch) (g : GG) (eA : Nat) (la ba : Nat) (n : Int) (el : Int → Nat) (i : Int) (r_i : R32 i) (hi : 0 ≤ i ∧ i < n) (hn : n ≤ 49) : MetQ l yJx4a65c_elementData_915e3 wsJx4a65c_elementData_915e3 ({ frames := 0, cells := 0, slots := 0, locals := 0 }) g [.ref la, .int (iI i)] (fun H => va_at g.1 vwCl (la, lstE eA ba n) H ∧ va_at g.1 vwCl (ba, arrE g n el) H) (some (el i)) := by
  refine Met.ofW (cc := cJx4a65c_elementData_915e3) (maxL := 2) (ret := (some (.object "java/lang/Object"))) (by decide) rfl ?_
  intro p e s m args below meth c s₁ B hml hv
  obtain ⟨rfl, hC, hK⟩ := hv
  have hx := B.exec
  have hb := B.bytes
  have hr := B.returns
  have hts := atoms_spec (ws := wsJx4a65c_elementData_915e3) B.pre
  have hown : s.vm.findClass RJx4a65c = some m.cls := findClass_of_methodNamed B.named
  have hlocks := B.notSynchronized
  have inJx4a65c : ∀ w ∈ wsJx4a65c0, w ∈ wsJx4a65c_elementData_915e3 := by decide +kernel
  have hl := lv_entry ([.ref la, .int (iI i)]) (n := 2) (Nat.le_of_ble_eq_true rfl)
  rw [lg_entry_eq]
  generalize (lg_sl ([.ref la, .int (iI i)]) ++ List.replicate (2 - (lg_sl ([.ref la, .int (iI i)])).length) Slot.unset).toArray = ls at hl ⊢
  have hl : lv_has ls 2 [(0, .ref la), (1, .int (iI i))] := hl
  have hcp := capN_le (n := n) (by omega) hn
  refine lv_aload_n hx hb dJx4a65c_elementData_915e3_0 rfl (lv_at hl 0 rfl) ?_
  refine q_get (v := .ref ba) (C := RJx4a65c) (T := TJx4a65c) (N := 3) hx hb hts inJx4a65c hown hK hC.1 rfl 1 (by decide) (hts (.fieldLink RJx4a65c 9 "java/util/ArrayList" "elementData" "[Ljava/lang/Object;") (by decide +kernel)) (fun _ h9 => h9) (by show some (Value.ref (bfA eA ba n)) = some (Value.ref ba); rw [show bfA eA ba n = ba from if_neg (by omega)]) dJx4a65c_elementData_915e3_1 ?_
  refine lv_iload_n hx hb dJx4a65c_elementData_915e3_4 rfl (lv_at hl 1 rfl) ?_
  refine q_aldq hx hb hK hC.2 (by omega) ⟨by omega, by omega⟩ dJx4a65c_elementData_915e3_5 ?_
  refine q_retq (v := (arrF n el (i).toNat)) hx hb hr (Or.inl ⟨_, rfl⟩) hlocks dJx4a65c_elementData_915e3_6 ?_
  show arrF n el i.toNat = some (el i)
  unfold arrF
  rw [show ((i.toNat : Nat) : Int) = i from Int.toNat_of_nonneg hi.1, if_pos hi.2]

set_option maxHeartbeats 4000000 in
set_option maxRecDepth 100000 in
theorem c0_get (l : Launch) (g : GG) (eA : Nat) (la ba : Nat) (n : Int) (el : Int → Nat) (i : Int) (r_i : R32 i) (hi : 0 ≤ i ∧ i < n) (hn : n ≤ 49) : MetQ l yJx4a65c_get_915e3 wsJx4a65c_get_915e3 ({ frames := 2, cells := 0, slots := 0, locals := 43 }) g [.ref la, .int (iI i)] (fun H => va_at g.1 vwCl (la, lstE eA ba n) H ∧ va_at g.1 vwCl (ba, arrE g n el) H) (some (el i)) := by
  refine Met.ofW (cc := cJx4a65c_get_915e3) (maxL := 2) (ret := (some (.object "java/lang/Object"))) (by decide) rfl ?_
  intro p e s m args below meth c s₁ B hml hv
  obtain ⟨rfl, hC, hK⟩ := hv
  have hx := B.exec
  have hb := B.bytes
  have hr := B.returns
  have hts := atoms_spec (ws := wsJx4a65c_get_915e3) B.pre
  have hown : s.vm.findClass RJx4a65c = some m.cls := findClass_of_methodNamed B.named
  have hlocks := B.notSynchronized
  have inJx4a65c : ∀ w ∈ wsJx4a65c0, w ∈ wsJx4a65c_get_915e3 := by decide +kernel
  have hl := lv_entry ([.ref la, .int (iI i)]) (n := 2) (Nat.le_of_ble_eq_true rfl)
  rw [lg_entry_eq]
  generalize (lg_sl ([.ref la, .int (iI i)]) ++ List.replicate (2 - (lg_sl ([.ref la, .int (iI i)])).length) Slot.unset).toArray = ls at hl ⊢
  have hl : lv_has ls 2 [(0, .ref la), (1, .int (iI i))] := hl
  refine lv_iload_n hx hb dJx4a65c_get_915e3_0 rfl (lv_at hl 1 rfl) ?_
  refine lv_aload_n hx hb dJx4a65c_get_915e3_1 rfl (lv_at hl 0 rfl) ?_
  refine q_get (v := .int (iI n)) (C := RJx4a65c) (T := TJx4a65c) (N := 3) hx hb hts inJx4a65c hown hK hC.1 rfl 2 (by decide) (hts (.fieldLink RJx4a65c 48 "java/util/ArrayList" "size" "I") (by decide +kernel)) (fun _ h9 => h9) rfl dJx4a65c_get_915e3_2 ?_
  refine q_cSi (As := [.int (iI i), .int (iI n)]) (rest := []) ⟨hx, hb, hml, hown, hts⟩ (cj_checkIndex2 l g i n r_i (by omega) hi) (va_cwS 2 hts gJx4a65c_get_915e3_J15_checkIndex_7cf53 rfl rfl rfl (by decide +kernel) ⟨Nat.le_of_ble_eq_true rfl, Nat.le_of_ble_eq_true rfl⟩) (q_pS hK trivial) rfl hl.1 rfl (Nat.le_of_ble_eq_true rfl) ⟨Nat.zero_le _, Nat.zero_le _⟩ dJx4a65c_get_915e3_5 ?_
  refine lv_pop hx hb dJx4a65c_get_915e3_8 rfl ?_
  refine lv_aload_n hx hb dJx4a65c_get_915e3_9 rfl (lv_at hl 0 rfl) ?_
  refine lv_iload_n hx hb dJx4a65c_get_915e3_10 rfl (lv_at hl 1 rfl) ?_
  refine q_cVr (As := [.int (iI i)]) (rest := []) ⟨hx, hb, hml, hown, hts⟩ (c0_elementData l g eA la ba n el i r_i hi hn) (cwV 1 hts gJx4a65c_get_915e3_Jx4a65c_elementData_915e3 rfl rfl rfl (by decide +kernel) ⟨Nat.le_of_ble_eq_true rfl, Nat.le_of_ble_eq_true rfl⟩) (q_pV hK hC.1 rfl hC) rfl hl.1 rfl (Nat.le_of_ble_eq_true rfl) ⟨Nat.zero_le _, Nat.zero_le _⟩ dJx4a65c_get_915e3_11 ?_
  refine q_retq (v := (some (el i))) hx hb hr (Or.inl ⟨_, rfl⟩) hlocks dJx4a65c_get_915e3_14 ?_
  rfl

set_option maxHeartbeats 4000000 in
set_option maxRecDepth 100000 in
theorem c5_isIn (l : Launch) (g : GG) (v : Int) (lo : Int) (hi : Int) (r_v : R32 v) (r_lo : R32 lo) (r_hi : R32 hi)  : MetI l yX5_isIn wsX5_isIn ({ frames := 0, cells := 0, slots := 0, locals := 0 }) g [.int (iI v), .int (iI lo), .int (iI hi)] (fun _ => True) (bI (lo ≤ v ∧ v ≤ hi)) := by
  refine Met.ofW (cc := cX5_isIn) (maxL := 3) (ret := (some .boolean)) (by decide) rfl ?_
  intro p e s m args below meth c s₁ B hml hv
  obtain ⟨rfl, _, hK⟩ := hv
  have hx := B.exec
  have hb := B.bytes
  have hr := B.returns
  have hts := atoms_spec (ws := wsX5_isIn) B.pre
  have hown : s.vm.findClass RX5 = some m.cls := findClass_of_methodNamed B.named
  have hlocks := B.notSynchronized
  have hl := lv_entry ([.int (iI v), .int (iI lo), .int (iI hi)]) (n := 3) (Nat.le_of_ble_eq_true rfl)
  rw [lg_entry_eq]
  generalize (lg_sl ([.int (iI v), .int (iI lo), .int (iI hi)]) ++ List.replicate (3 - (lg_sl ([.int (iI v), .int (iI lo), .int (iI hi)])).length) Slot.unset).toArray = ls at hl ⊢
  have hl : lv_has ls 3 [(0, .int (iI v)), (1, .int (iI lo)), (2, .int (iI hi))] := hl
  refine lv_iload_n hx hb dX5_isIn_0 rfl (lv_at hl 0 rfl) ?_
  refine lv_iload_n hx hb dX5_isIn_1 rfl (lv_at hl 1 rfl) ?_
  refine q_icmp_lt (tgt := 14) hx hb dX5_isIn_2 (by decide) r_v r_lo (fun c2 => ?_) (fun c2 => ?_)
  · refine lv_iconst (v := iI 0) hx hb dX5_isIn_14 rfl ?_
    refine q_retz hx hb hr hlocks (Or.inl rfl) dX5_isIn_15 ?_
    first | rfl | exact bI_e1 (by omega) | exact bI_e0 (by omega) | exact bI_iff (by omega) | omega
  · refine lv_iload_n hx hb dX5_isIn_5 rfl (lv_at hl 0 rfl) ?_
    refine lv_iload_n hx hb dX5_isIn_6 rfl (lv_at hl 2 rfl) ?_
    refine q_icmp_gt (tgt := 14) hx hb dX5_isIn_7 (by decide) r_v r_hi (fun c7 => ?_) (fun c7 => ?_)
    · refine lv_iconst (v := iI 0) hx hb dX5_isIn_14 rfl ?_
      refine q_retz hx hb hr hlocks (Or.inl rfl) dX5_isIn_15 ?_
      first | rfl | exact bI_e1 (by omega) | exact bI_e0 (by omega) | exact bI_iff (by omega) | omega
    · refine lv_iconst (v := iI 1) hx hb dX5_isIn_10 rfl ?_
      refine lv_goto (tgt := 15) hx hb dX5_isIn_11 (by decide) ?_
      refine q_retz hx hb hr hlocks (Or.inr rfl) dX5_isIn_15 ?_
      first | rfl | exact bI_e1 (by omega) | exact bI_e0 (by omega) | exact bI_iff (by omega) | omega

set_option maxHeartbeats 4000000 in
set_option maxRecDepth 100000 in
theorem c5_isDay (l : Launch) (g : GG) (d : Int) (r_d : R32 d)  : MetI l yX5_isDay wsX5_isDay ({ frames := 1, cells := 0, slots := 0, locals := 22 }) g [.int (iI d)] (fun _ => True) (bI (isD d)) := by
  refine Met.ofW (cc := cX5_isDay) (maxL := 1) (ret := (some .boolean)) (by decide) rfl ?_
  intro p e s m args below meth c s₁ B hml hv
  obtain ⟨rfl, _, hK⟩ := hv
  have hx := B.exec
  have hb := B.bytes
  have hr := B.returns
  have hts := atoms_spec (ws := wsX5_isDay) B.pre
  have hown : s.vm.findClass RX5 = some m.cls := findClass_of_methodNamed B.named
  have hlocks := B.notSynchronized
  have hl := lv_entry ([.int (iI d)]) (n := 1) (Nat.le_of_ble_eq_true rfl)
  rw [lg_entry_eq]
  generalize (lg_sl ([.int (iI d)]) ++ List.replicate (1 - (lg_sl ([.int (iI d)])).length) Slot.unset).toArray = ls at hl ⊢
  have hl : lv_has ls 1 [(0, .int (iI d))] := hl
  refine lv_iload_n hx hb dX5_isDay_0 rfl (lv_at hl 0 rfl) ?_
  refine lv_iconst (v := iI 0) hx hb dX5_isDay_1 rfl ?_
  refine q_sipush hx hb 3999 dX5_isDay_2 (by decide +kernel) ?_
  refine q_cSi (As := [.int (iI d), .int (iI 0), .int (iI 3999)]) (rest := []) ⟨hx, hb, hml, hown, hts⟩ (c5_isIn l g d 0 3999 r_d (by decide) (by decide) ) (va_cwS 3 hts gX5_isDay_X5_isIn rfl rfl rfl (by decide +kernel) ⟨Nat.le_of_ble_eq_true rfl, Nat.le_of_ble_eq_true rfl⟩) (q_pS hK trivial) rfl hl.1 rfl (Nat.le_of_ble_eq_true rfl) ⟨Nat.zero_le _, Nat.zero_le _⟩ dX5_isDay_5 ?_
  refine q_retz hx hb hr hlocks (bI_01 _) dX5_isDay_8 ?_
  first | rfl | exact bI_e1 (by omega) | exact bI_e0 (by omega) | exact bI_iff (by omega) | omega

set_option maxHeartbeats 4000000 in
set_option maxRecDepth 100000 in
theorem c5_isKind (l : Launch) (g : GG) (d : Int) (r_d : R32 d)  : MetI l yX5_isKind wsX5_isKind ({ frames := 1, cells := 0, slots := 0, locals := 22 }) g [.int (iI d)] (fun _ => True) (bI (0 ≤ d ∧ d ≤ 2)) := by
  refine Met.ofW (cc := cX5_isKind) (maxL := 1) (ret := (some .boolean)) (by decide) rfl ?_
  intro p e s m args below meth c s₁ B hml hv
  obtain ⟨rfl, _, hK⟩ := hv
  have hx := B.exec
  have hb := B.bytes
  have hr := B.returns
  have hts := atoms_spec (ws := wsX5_isKind) B.pre
  have hown : s.vm.findClass RX5 = some m.cls := findClass_of_methodNamed B.named
  have hlocks := B.notSynchronized
  have hl := lv_entry ([.int (iI d)]) (n := 1) (Nat.le_of_ble_eq_true rfl)
  rw [lg_entry_eq]
  generalize (lg_sl ([.int (iI d)]) ++ List.replicate (1 - (lg_sl ([.int (iI d)])).length) Slot.unset).toArray = ls at hl ⊢
  have hl : lv_has ls 1 [(0, .int (iI d))] := hl
  refine lv_iload_n hx hb dX5_isKind_0 rfl (lv_at hl 0 rfl) ?_
  refine lv_iconst (v := iI 0) hx hb dX5_isKind_1 rfl ?_
  refine lv_iconst (v := iI 2) hx hb dX5_isKind_2 rfl ?_
  refine q_cSi (As := [.int (iI d), .int (iI 0), .int (iI 2)]) (rest := []) ⟨hx, hb, hml, hown, hts⟩ (c5_isIn l g d 0 2 r_d (by decide) (by decide) ) (va_cwS 3 hts gX5_isKind_X5_isIn rfl rfl rfl (by decide +kernel) ⟨Nat.le_of_ble_eq_true rfl, Nat.le_of_ble_eq_true rfl⟩) (q_pS hK trivial) rfl hl.1 rfl (Nat.le_of_ble_eq_true rfl) ⟨Nat.zero_le _, Nat.zero_le _⟩ dX5_isKind_3 ?_
  refine q_retz hx hb hr hlocks (bI_01 _) dX5_isKind_6 ?_
  first | rfl | exact bI_e1 (by omega) | exact bI_e0 (by omega) | exact bI_iff (by omega) | omega

set_option maxHeartbeats 4000000 in
set_option maxRecDepth 100000 in
theorem c5_isWorth (l : Launch) (g : GG) (d : Int) (r_d : R32 d)  : MetI l yX5_isWorth wsX5_isWorth ({ frames := 1, cells := 0, slots := 0, locals := 22 }) g [.int (iI d)] (fun _ => True) (bI (1 ≤ d ∧ d ≤ 100000)) := by
  refine Met.ofW (cc := cX5_isWorth) (maxL := 1) (ret := (some .boolean)) (by decide) rfl ?_
  intro p e s m args below meth c s₁ B hml hv
  obtain ⟨rfl, _, hK⟩ := hv
  have hx := B.exec
  have hb := B.bytes
  have hr := B.returns
  have hts := atoms_spec (ws := wsX5_isWorth) B.pre
  have hown : s.vm.findClass RX5 = some m.cls := findClass_of_methodNamed B.named
  have hlocks := B.notSynchronized
  have hl := lv_entry ([.int (iI d)]) (n := 1) (Nat.le_of_ble_eq_true rfl)
  rw [lg_entry_eq]
  generalize (lg_sl ([.int (iI d)]) ++ List.replicate (1 - (lg_sl ([.int (iI d)])).length) Slot.unset).toArray = ls at hl ⊢
  have hl : lv_has ls 1 [(0, .int (iI d))] := hl
  refine lv_iload_n hx hb dX5_isWorth_0 rfl (lv_at hl 0 rfl) ?_
  refine lv_iconst (v := iI 1) hx hb dX5_isWorth_1 rfl ?_
  refine q_ldc hx hb 100000 hown (hts (.constant RX5 194 (100000)) (by decide +kernel)) (by decide +kernel) dX5_isWorth_2 ?_
  refine q_cSi (As := [.int (iI d), .int (iI 1), .int (iI 100000)]) (rest := []) ⟨hx, hb, hml, hown, hts⟩ (c5_isIn l g d 1 100000 r_d (by decide) (by decide) ) (va_cwS 3 hts gX5_isWorth_X5_isIn rfl rfl rfl (by decide +kernel) ⟨Nat.le_of_ble_eq_true rfl, Nat.le_of_ble_eq_true rfl⟩) (q_pS hK trivial) rfl hl.1 rfl (Nat.le_of_ble_eq_true rfl) ⟨Nat.zero_le _, Nat.zero_le _⟩ dX5_isWorth_4 ?_
  refine q_retz hx hb hr hlocks (bI_01 _) dX5_isWorth_7 ?_
  first | rfl | exact bI_e1 (by omega) | exact bI_e0 (by omega) | exact bI_iff (by omega) | omega

set_option maxHeartbeats 4000000 in
set_option maxRecDepth 100000 in
theorem c5_isPlace (l : Launch) (g : GG) (x : Int) (y : Int) (r_x : R32 x) (r_y : R32 y)  : MetI l yX5_isPlace wsX5_isPlace ({ frames := 1, cells := 0, slots := 0, locals := 22 }) g [.int (iI x), .int (iI y)] (fun _ => True) (bI (isP x y)) := by
  refine Met.ofW (cc := cX5_isPlace) (maxL := 2) (ret := (some .boolean)) (by decide) rfl ?_
  intro p e s m args below meth c s₁ B hml hv
  obtain ⟨rfl, _, hK⟩ := hv
  have hx := B.exec
  have hb := B.bytes
  have hr := B.returns
  have hts := atoms_spec (ws := wsX5_isPlace) B.pre
  have hown : s.vm.findClass RX5 = some m.cls := findClass_of_methodNamed B.named
  have hlocks := B.notSynchronized
  have hl := lv_entry ([.int (iI x), .int (iI y)]) (n := 2) (Nat.le_of_ble_eq_true rfl)
  rw [lg_entry_eq]
  generalize (lg_sl ([.int (iI x), .int (iI y)]) ++ List.replicate (2 - (lg_sl ([.int (iI x), .int (iI y)])).length) Slot.unset).toArray = ls at hl ⊢
  have hl : lv_has ls 2 [(0, .int (iI x)), (1, .int (iI y))] := hl
  refine lv_iload_n hx hb dX5_isPlace_0 rfl (lv_at hl 0 rfl) ?_
  refine lv_iconst (v := iI 0) hx hb dX5_isPlace_1 rfl ?_
  refine q_sipush hx hb 999 dX5_isPlace_2 (by decide +kernel) ?_
  refine q_cSi (As := [.int (iI x), .int (iI 0), .int (iI 999)]) (rest := []) ⟨hx, hb, hml, hown, hts⟩ (c5_isIn l g x 0 999 r_x (by decide) (by decide) ) (va_cwS 3 hts gX5_isPlace_X5_isIn rfl rfl rfl (by decide +kernel) ⟨Nat.le_of_ble_eq_true rfl, Nat.le_of_ble_eq_true rfl⟩) (q_pS hK trivial) rfl hl.1 rfl (Nat.le_of_ble_eq_true rfl) ⟨Nat.zero_le _, Nat.zero_le _⟩ dX5_isPlace_5 ?_
  refine q_ifb_eq (tgt := 26) hx hb dX5_isPlace_8 (by decide) (fun c8 => ?_) (fun c8 => ?_)
  · refine lv_iconst (v := iI 0) hx hb dX5_isPlace_26 rfl ?_
    refine q_retz hx hb hr hlocks (Or.inl rfl) dX5_isPlace_27 ?_
    first | rfl | exact bI_e1 (by omega) | exact bI_e0 (by omega) | exact bI_iff (by omega) | omega
  · refine lv_iload_n hx hb dX5_isPlace_11 rfl (lv_at hl 1 rfl) ?_
    refine lv_iconst (v := iI 0) hx hb dX5_isPlace_12 rfl ?_
    refine q_sipush hx hb 999 dX5_isPlace_13 (by decide +kernel) ?_
    refine q_cSi (As := [.int (iI y), .int (iI 0), .int (iI 999)]) (rest := []) ⟨hx, hb, hml, hown, hts⟩ (c5_isIn l g y 0 999 r_y (by decide) (by decide) ) (va_cwS 3 hts gX5_isPlace_X5_isIn rfl rfl rfl (by decide +kernel) ⟨Nat.le_of_ble_eq_true rfl, Nat.le_of_ble_eq_true rfl⟩) (q_pS hK trivial) rfl hl.1 rfl (Nat.le_of_ble_eq_true rfl) ⟨Nat.zero_le _, Nat.zero_le _⟩ dX5_isPlace_16 ?_
    refine q_ifb_eq (tgt := 26) hx hb dX5_isPlace_19 (by decide) (fun c19 => ?_) (fun c19 => ?_)
    · refine lv_iconst (v := iI 0) hx hb dX5_isPlace_26 rfl ?_
      refine q_retz hx hb hr hlocks (Or.inl rfl) dX5_isPlace_27 ?_
      first | rfl | exact bI_e1 (by omega) | exact bI_e0 (by omega) | exact bI_iff (by omega) | omega
    · refine lv_iconst (v := iI 1) hx hb dX5_isPlace_22 rfl ?_
      refine lv_goto (tgt := 27) hx hb dX5_isPlace_23 (by decide) ?_
      refine q_retz hx hb hr hlocks (Or.inr rfl) dX5_isPlace_27 ?_
      first | rfl | exact bI_e1 (by omega) | exact bI_e0 (by omega) | exact bI_iff (by omega) | omega

set_option maxHeartbeats 4000000 in
set_option maxRecDepth 100000 in
theorem c5_areHours (l : Launch) (g : GG) (f : Int) (t : Int) (r_f : R32 f) (r_t : R32 t)  : MetI l yX5_areHours wsX5_areHours ({ frames := 1, cells := 0, slots := 0, locals := 22 }) g [.int (iI f), .int (iI t)] (fun _ => True) (bI ((f = 0 ∧ t = 0) ∨ ((0 ≤ f ∧ f ≤ 1439) ∧ f < t ∧ t ≤ 1800))) := by
  refine Met.ofW (cc := cX5_areHours) (maxL := 3) (ret := (some .boolean)) (by decide) rfl ?_
  intro p e s m args below meth c s₁ B hml hv
  obtain ⟨rfl, _, hK⟩ := hv
  have hx := B.exec
  have hb := B.bytes
  have hr := B.returns
  have hts := atoms_spec (ws := wsX5_areHours) B.pre
  have hown : s.vm.findClass RX5 = some m.cls := findClass_of_methodNamed B.named
  have hlocks := B.notSynchronized
  have hl := lv_entry ([.int (iI f), .int (iI t)]) (n := 3) (Nat.le_of_ble_eq_true rfl)
  rw [lg_entry_eq]
  generalize (lg_sl ([.int (iI f), .int (iI t)]) ++ List.replicate (3 - (lg_sl ([.int (iI f), .int (iI t)])).length) Slot.unset).toArray = ls at hl ⊢
  have hl : lv_has ls 3 [(0, .int (iI f)), (1, .int (iI t))] := hl
  refine lv_iload_n hx hb dX5_areHours_0 rfl (lv_at hl 0 rfl) ?_
  refine q_if_ne (tgt := 12) hx hb dX5_areHours_1 (by decide) r_f (fun c1 => ?_) (fun c1 => ?_)
  · refine lv_iconst (v := iI 0) hx hb dX5_areHours_12 rfl ?_
    refine lv_istore_n (lv' := [(2, .int (iI 0)), (0, .int (iI f)), (1, .int (iI t))]) hx hb dX5_areHours_13 rfl hl (by decide) rfl (fun ls hl => ?_)
    refine lv_iload_n hx hb dX5_areHours_14 rfl (lv_at hl 0 rfl) ?_
    refine q_if_ne (tgt := 42) hx hb dX5_areHours_15 (by decide) (by decide) (fun c15 => ?_) (fun c15 => ?_)
    · exact absurd c15 (by decide)
    refine lv_iload_n hx hb dX5_areHours_18 rfl (lv_at hl 1 rfl) ?_
    refine lv_iconst (v := iI 0) hx hb dX5_areHours_19 rfl ?_
    refine q_sipush hx hb 1439 dX5_areHours_20 (by decide +kernel) ?_
    refine q_cSi (As := [.int (iI f), .int (iI 0), .int (iI 1439)]) (rest := []) ⟨hx, hb, hml, hown, hts⟩ (c5_isIn l g f 0 1439 r_f (by decide) (by decide) ) (va_cwS 3 hts gX5_areHours_X5_isIn rfl rfl rfl (by decide +kernel) ⟨Nat.le_of_ble_eq_true rfl, Nat.le_of_ble_eq_true rfl⟩) (q_pS hK trivial) rfl hl.1 rfl (Nat.le_of_ble_eq_true rfl) ⟨Nat.zero_le _, Nat.zero_le _⟩ dX5_areHours_23 ?_
    refine q_ifb_eq (tgt := 46) hx hb dX5_areHours_26 (by decide) (fun c26 => ?_) (fun c26 => ?_)
    · refine lv_iconst (v := iI 0) hx hb dX5_areHours_46 rfl ?_
      refine q_retz hx hb hr hlocks (Or.inl rfl) dX5_areHours_47 ?_
      first | rfl | exact bI_e1 (by omega) | exact bI_e0 (by omega) | exact bI_iff (by omega) | omega
    · refine lv_iload_n hx hb dX5_areHours_29 rfl (lv_at hl 2 rfl) ?_
      refine lv_iload_n hx hb dX5_areHours_30 rfl (lv_at hl 1 rfl) ?_
      refine lv_iconst (v := iI 1) hx hb dX5_areHours_31 rfl ?_
      refine q_iadd hx hb dX5_areHours_32 ?_
      refine q_sipush hx hb 1800 dX5_areHours_33 (by decide +kernel) ?_
      refine q_cSi (As := [.int (iI t), .int (iI (f + 1)), .int (iI 1800)]) (rest := []) ⟨hx, hb, hml, hown, hts⟩ (c5_isIn l g t (f + 1) 1800 r_t (by omega) (by decide) ) (va_cwS 3 hts gX5_areHours_X5_isIn rfl rfl rfl (by decide +kernel) ⟨Nat.le_of_ble_eq_true rfl, Nat.le_of_ble_eq_true rfl⟩) (q_pS hK trivial) rfl hl.1 rfl (Nat.le_of_ble_eq_true rfl) ⟨Nat.zero_le _, Nat.zero_le _⟩ dX5_areHours_36 ?_
      refine q_ifb_eq (tgt := 46) hx hb dX5_areHours_39 (by decide) (fun c39 => ?_) (fun c39 => ?_)
      · refine lv_iconst (v := iI 0) hx hb dX5_areHours_46 rfl ?_
        refine q_retz hx hb hr hlocks (Or.inl rfl) dX5_areHours_47 ?_
        first | rfl | exact bI_e1 (by omega) | exact bI_e0 (by omega) | exact bI_iff (by omega) | omega
      · refine lv_iconst (v := iI 1) hx hb dX5_areHours_42 rfl ?_
        refine lv_goto (tgt := 47) hx hb dX5_areHours_43 (by decide) ?_
        refine q_retz hx hb hr hlocks (Or.inr rfl) dX5_areHours_47 ?_
        first | rfl | exact bI_e1 (by omega) | exact bI_e0 (by omega) | exact bI_iff (by omega) | omega
  · refine lv_iload_n hx hb dX5_areHours_4 rfl (lv_at hl 1 rfl) ?_
    refine q_if_ne (tgt := 12) hx hb dX5_areHours_5 (by decide) r_t (fun c5 => ?_) (fun c5 => ?_)
    · refine lv_iconst (v := iI 0) hx hb dX5_areHours_12 rfl ?_
      refine lv_istore_n (lv' := [(2, .int (iI 0)), (0, .int (iI f)), (1, .int (iI t))]) hx hb dX5_areHours_13 rfl hl (by decide) rfl (fun ls hl => ?_)
      refine lv_iload_n hx hb dX5_areHours_14 rfl (lv_at hl 0 rfl) ?_
      refine q_if_ne (tgt := 42) hx hb dX5_areHours_15 (by decide) (by decide) (fun c15_1 => ?_) (fun c15_1 => ?_)
      · exact absurd c15_1 (by decide)
      refine lv_iload_n hx hb dX5_areHours_18 rfl (lv_at hl 1 rfl) ?_
      refine lv_iconst (v := iI 0) hx hb dX5_areHours_19 rfl ?_
      refine q_sipush hx hb 1439 dX5_areHours_20 (by decide +kernel) ?_
      refine q_cSi (As := [.int (iI f), .int (iI 0), .int (iI 1439)]) (rest := []) ⟨hx, hb, hml, hown, hts⟩ (c5_isIn l g f 0 1439 r_f (by decide) (by decide) ) (va_cwS 3 hts gX5_areHours_X5_isIn rfl rfl rfl (by decide +kernel) ⟨Nat.le_of_ble_eq_true rfl, Nat.le_of_ble_eq_true rfl⟩) (q_pS hK trivial) rfl hl.1 rfl (Nat.le_of_ble_eq_true rfl) ⟨Nat.zero_le _, Nat.zero_le _⟩ dX5_areHours_23 ?_
      refine q_ifb_eq (tgt := 46) hx hb dX5_areHours_26 (by decide) (fun c26_1 => ?_) (fun c26_1 => ?_)
      · refine lv_iconst (v := iI 0) hx hb dX5_areHours_46 rfl ?_
        refine q_retz hx hb hr hlocks (Or.inl rfl) dX5_areHours_47 ?_
        first | rfl | exact bI_e1 (by omega) | exact bI_e0 (by omega) | exact bI_iff (by omega) | omega
      · refine lv_iload_n hx hb dX5_areHours_29 rfl (lv_at hl 2 rfl) ?_
        refine lv_iload_n hx hb dX5_areHours_30 rfl (lv_at hl 1 rfl) ?_
        refine lv_iconst (v := iI 1) hx hb dX5_areHours_31 rfl ?_
        refine q_iadd hx hb dX5_areHours_32 ?_
        refine q_sipush hx hb 1800 dX5_areHours_33 (by decide +kernel) ?_
        refine q_cSi (As := [.int (iI t), .int (iI (f + 1)), .int (iI 1800)]) (rest := []) ⟨hx, hb, hml, hown, hts⟩ (c5_isIn l g t (f + 1) 1800 r_t (by omega) (by decide) ) (va_cwS 3 hts gX5_areHours_X5_isIn rfl rfl rfl (by decide +kernel) ⟨Nat.le_of_ble_eq_true rfl, Nat.le_of_ble_eq_true rfl⟩) (q_pS hK trivial) rfl hl.1 rfl (Nat.le_of_ble_eq_true rfl) ⟨Nat.zero_le _, Nat.zero_le _⟩ dX5_areHours_36 ?_
        refine q_ifb_eq (tgt := 46) hx hb dX5_areHours_39 (by decide) (fun c39_1 => ?_) (fun c39_1 => ?_)
        · refine lv_iconst (v := iI 0) hx hb dX5_areHours_46 rfl ?_
          refine q_retz hx hb hr hlocks (Or.inl rfl) dX5_areHours_47 ?_
          first | rfl | exact bI_e1 (by omega) | exact bI_e0 (by omega) | exact bI_iff (by omega) | omega
        · refine lv_iconst (v := iI 1) hx hb dX5_areHours_42 rfl ?_
          refine lv_goto (tgt := 47) hx hb dX5_areHours_43 (by decide) ?_
          refine q_retz hx hb hr hlocks (Or.inr rfl) dX5_areHours_47 ?_
          first | rfl | exact bI_e1 (by omega) | exact bI_e0 (by omega) | exact bI_iff (by omega) | omega
    · refine lv_iconst (v := iI 1) hx hb dX5_areHours_8 rfl ?_
      refine lv_goto (tgt := 13) hx hb dX5_areHours_9 (by decide) ?_
      refine lv_istore_n (lv' := [(2, .int (iI 1)), (0, .int (iI f)), (1, .int (iI t))]) hx hb dX5_areHours_13 rfl hl (by decide) rfl (fun ls hl => ?_)
      refine lv_iload_n hx hb dX5_areHours_14 rfl (lv_at hl 0 rfl) ?_
      refine q_if_ne (tgt := 42) hx hb dX5_areHours_15 (by decide) (by decide) (fun c15_2 => ?_) (fun c15_2 => ?_)
      rotate_left
      · exact absurd c15_2 (by decide)
      refine lv_iconst (v := iI 1) hx hb dX5_areHours_42 rfl ?_
      refine lv_goto (tgt := 47) hx hb dX5_areHours_43 (by decide) ?_
      refine q_retz hx hb hr hlocks (Or.inr rfl) dX5_areHours_47 ?_
      first | rfl | exact bI_e1 (by omega) | exact bI_e0 (by omega) | exact bI_iff (by omega) | omega

set_option maxHeartbeats 4000000 in
set_option maxRecDepth 100000 in
theorem c5_isEvent (l : Launch) (g : GG) (k : Int) (v : Int) (r_k : R32 k) (r_v : R32 v)  : MetI l yX5_isEvent wsX5_isEvent ({ frames := 1, cells := 0, slots := 0, locals := 22 }) g [.int (iI k), .int (iI v)] (fun _ => True) (bI (vEv k v)) := by
  refine Met.ofW (cc := cX5_isEvent) (maxL := 2) (ret := (some .boolean)) (by decide) rfl ?_
  intro p e s m args below meth c s₁ B hml hv
  obtain ⟨rfl, _, hK⟩ := hv
  have hx := B.exec
  have hb := B.bytes
  have hr := B.returns
  have hts := atoms_spec (ws := wsX5_isEvent) B.pre
  have hown : s.vm.findClass RX5 = some m.cls := findClass_of_methodNamed B.named
  have hlocks := B.notSynchronized
  have hl := lv_entry ([.int (iI k), .int (iI v)]) (n := 2) (Nat.le_of_ble_eq_true rfl)
  rw [lg_entry_eq]
  generalize (lg_sl ([.int (iI k), .int (iI v)]) ++ List.replicate (2 - (lg_sl ([.int (iI k), .int (iI v)])).length) Slot.unset).toArray = ls at hl ⊢
  have hl : lv_has ls 2 [(0, .int (iI k)), (1, .int (iI v))] := hl
  refine lv_iload_n hx hb dX5_isEvent_0 rfl (lv_at hl 0 rfl) ?_
  rcases (show k < 0 ∨ 4 < k ∨ k = 0 ∨ k = 1 ∨ k = 2 ∨ k = 3 ∨ k = 4 by omega) with c1 | c1 | c1 | c1 | c1 | c1 | c1
  · refine q_tabOut (tgt := 53) hx hb dX5_isEvent_1 r_k (Or.inl c1) (by decide) ?_
    refine lv_iload_n hx hb dX5_isEvent_53 rfl (lv_at hl 0 rfl) ?_
    refine lv_iconst (v := iI 0) hx hb dX5_isEvent_54 rfl ?_
    refine q_bipush hx hb 6 dX5_isEvent_55 (by decide +kernel) ?_
    refine q_cSi (As := [.int (iI k), .int (iI 0), .int (iI 6)]) (rest := []) ⟨hx, hb, hml, hown, hts⟩ (c5_isIn l g k 0 6 r_k (by decide) (by decide) ) (va_cwS 3 hts gX5_isEvent_X5_isIn rfl rfl rfl (by decide +kernel) ⟨Nat.le_of_ble_eq_true rfl, Nat.le_of_ble_eq_true rfl⟩) (q_pS hK trivial) rfl hl.1 rfl (Nat.le_of_ble_eq_true rfl) ⟨Nat.zero_le _, Nat.zero_le _⟩ dX5_isEvent_57 ?_
    refine q_retz hx hb hr hlocks (bI_01 _) dX5_isEvent_60 ?_
    first | rfl | exact bI_e1 (by omega) | exact bI_e0 (by omega) | exact bI_iff (by omega) | omega
  · refine q_tabOut (tgt := 53) hx hb dX5_isEvent_1 r_k (Or.inr c1) (by decide) ?_
    refine lv_iload_n hx hb dX5_isEvent_53 rfl (lv_at hl 0 rfl) ?_
    refine lv_iconst (v := iI 0) hx hb dX5_isEvent_54 rfl ?_
    refine q_bipush hx hb 6 dX5_isEvent_55 (by decide +kernel) ?_
    refine q_cSi (As := [.int (iI k), .int (iI 0), .int (iI 6)]) (rest := []) ⟨hx, hb, hml, hown, hts⟩ (c5_isIn l g k 0 6 r_k (by decide) (by decide) ) (va_cwS 3 hts gX5_isEvent_X5_isIn rfl rfl rfl (by decide +kernel) ⟨Nat.le_of_ble_eq_true rfl, Nat.le_of_ble_eq_true rfl⟩) (q_pS hK trivial) rfl hl.1 rfl (Nat.le_of_ble_eq_true rfl) ⟨Nat.zero_le _, Nat.zero_le _⟩ dX5_isEvent_57 ?_
    refine q_retz hx hb hr hlocks (bI_01 _) dX5_isEvent_60 ?_
    first | rfl | exact bI_e1 (by omega) | exact bI_e0 (by omega) | exact bI_iff (by omega) | omega
  · refine q_tabIn (off := 35) (tgt := 36) (k := 0) hx hb dX5_isEvent_1 r_k c1 (by decide) (by decide) (by decide +kernel) (by decide) ?_
    refine lv_iload_n hx hb dX5_isEvent_36 rfl (lv_at hl 1 rfl) ?_
    refine lv_iconst (v := iI 0) hx hb dX5_isEvent_37 rfl ?_
    refine q_bipush hx hb 99 dX5_isEvent_38 (by decide +kernel) ?_
    refine q_cSi (As := [.int (iI v), .int (iI 0), .int (iI 99)]) (rest := []) ⟨hx, hb, hml, hown, hts⟩ (c5_isIn l g v 0 99 r_v (by decide) (by decide) ) (va_cwS 3 hts gX5_isEvent_X5_isIn rfl rfl rfl (by decide +kernel) ⟨Nat.le_of_ble_eq_true rfl, Nat.le_of_ble_eq_true rfl⟩) (q_pS hK trivial) rfl hl.1 rfl (Nat.le_of_ble_eq_true rfl) ⟨Nat.zero_le _, Nat.zero_le _⟩ dX5_isEvent_40 ?_
    refine q_retz hx hb hr hlocks (bI_01 _) dX5_isEvent_43 ?_
    first | rfl | exact bI_e1 (by omega) | exact bI_e0 (by omega) | exact bI_iff (by omega) | omega
  · refine q_tabIn (off := 35) (tgt := 36) (k := 1) hx hb dX5_isEvent_1 r_k c1 (by decide) (by decide) (by decide +kernel) (by decide) ?_
    refine lv_iload_n hx hb dX5_isEvent_36 rfl (lv_at hl 1 rfl) ?_
    refine lv_iconst (v := iI 0) hx hb dX5_isEvent_37 rfl ?_
    refine q_bipush hx hb 99 dX5_isEvent_38 (by decide +kernel) ?_
    refine q_cSi (As := [.int (iI v), .int (iI 0), .int (iI 99)]) (rest := []) ⟨hx, hb, hml, hown, hts⟩ (c5_isIn l g v 0 99 r_v (by decide) (by decide) ) (va_cwS 3 hts gX5_isEvent_X5_isIn rfl rfl rfl (by decide +kernel) ⟨Nat.le_of_ble_eq_true rfl, Nat.le_of_ble_eq_true rfl⟩) (q_pS hK trivial) rfl hl.1 rfl (Nat.le_of_ble_eq_true rfl) ⟨Nat.zero_le _, Nat.zero_le _⟩ dX5_isEvent_40 ?_
    refine q_retz hx hb hr hlocks (bI_01 _) dX5_isEvent_43 ?_
    first | rfl | exact bI_e1 (by omega) | exact bI_e0 (by omega) | exact bI_iff (by omega) | omega
  · refine q_tabIn (off := 52) (tgt := 53) (k := 2) hx hb dX5_isEvent_1 r_k c1 (by decide) (by decide) (by decide +kernel) (by decide) ?_
    refine lv_iload_n hx hb dX5_isEvent_53 rfl (lv_at hl 0 rfl) ?_
    refine lv_iconst (v := iI 0) hx hb dX5_isEvent_54 rfl ?_
    refine q_bipush hx hb 6 dX5_isEvent_55 (by decide +kernel) ?_
    refine q_cSi (As := [.int (iI k), .int (iI 0), .int (iI 6)]) (rest := []) ⟨hx, hb, hml, hown, hts⟩ (c5_isIn l g k 0 6 r_k (by decide) (by decide) ) (va_cwS 3 hts gX5_isEvent_X5_isIn rfl rfl rfl (by decide +kernel) ⟨Nat.le_of_ble_eq_true rfl, Nat.le_of_ble_eq_true rfl⟩) (q_pS hK trivial) rfl hl.1 rfl (Nat.le_of_ble_eq_true rfl) ⟨Nat.zero_le _, Nat.zero_le _⟩ dX5_isEvent_57 ?_
    refine q_retz hx hb hr hlocks (bI_01 _) dX5_isEvent_60 ?_
    first | rfl | exact bI_e1 (by omega) | exact bI_e0 (by omega) | exact bI_iff (by omega) | omega
  · refine q_tabIn (off := 52) (tgt := 53) (k := 3) hx hb dX5_isEvent_1 r_k c1 (by decide) (by decide) (by decide +kernel) (by decide) ?_
    refine lv_iload_n hx hb dX5_isEvent_53 rfl (lv_at hl 0 rfl) ?_
    refine lv_iconst (v := iI 0) hx hb dX5_isEvent_54 rfl ?_
    refine q_bipush hx hb 6 dX5_isEvent_55 (by decide +kernel) ?_
    refine q_cSi (As := [.int (iI k), .int (iI 0), .int (iI 6)]) (rest := []) ⟨hx, hb, hml, hown, hts⟩ (c5_isIn l g k 0 6 r_k (by decide) (by decide) ) (va_cwS 3 hts gX5_isEvent_X5_isIn rfl rfl rfl (by decide +kernel) ⟨Nat.le_of_ble_eq_true rfl, Nat.le_of_ble_eq_true rfl⟩) (q_pS hK trivial) rfl hl.1 rfl (Nat.le_of_ble_eq_true rfl) ⟨Nat.zero_le _, Nat.zero_le _⟩ dX5_isEvent_57 ?_
    refine q_retz hx hb hr hlocks (bI_01 _) dX5_isEvent_60 ?_
    first | rfl | exact bI_e1 (by omega) | exact bI_e0 (by omega) | exact bI_iff (by omega) | omega
  · refine q_tabIn (off := 43) (tgt := 44) (k := 4) hx hb dX5_isEvent_1 r_k c1 (by decide) (by decide) (by decide +kernel) (by decide) ?_
    refine lv_iload_n hx hb dX5_isEvent_44 rfl (lv_at hl 1 rfl) ?_
    refine lv_iconst (v := iI 0) hx hb dX5_isEvent_45 rfl ?_
    refine q_sipush hx hb 1439 dX5_isEvent_46 (by decide +kernel) ?_
    refine q_cSi (As := [.int (iI v), .int (iI 0), .int (iI 1439)]) (rest := []) ⟨hx, hb, hml, hown, hts⟩ (c5_isIn l g v 0 1439 r_v (by decide) (by decide) ) (va_cwS 3 hts gX5_isEvent_X5_isIn rfl rfl rfl (by decide +kernel) ⟨Nat.le_of_ble_eq_true rfl, Nat.le_of_ble_eq_true rfl⟩) (q_pS hK trivial) rfl hl.1 rfl (Nat.le_of_ble_eq_true rfl) ⟨Nat.zero_le _, Nat.zero_le _⟩ dX5_isEvent_49 ?_
    refine q_retz hx hb hr hlocks (bI_01 _) dX5_isEvent_52 ?_
    first | rfl | exact bI_e1 (by omega) | exact bI_e0 (by omega) | exact bI_iff (by omega) | omega

set_option maxHeartbeats 4000000 in
set_option maxRecDepth 100000 in
theorem c5_squareOfDistance (l : Launch) (g : GG) (x : Int) (y : Int) (x2 : Int) (y2 : Int) (r_x : R32 x) (r_y : R32 y) (r_x2 : R32 x2) (r_y2 : R32 y2)  : MetI l yX5_squareOfDistance wsX5_squareOfDistance ({ frames := 0, cells := 0, slots := 0, locals := 0 }) g [.int (iI x), .int (iI y), .int (iI x2), .int (iI y2)] (fun _ => True) (off2 x y x2 y2) := by
  refine Met.ofW (cc := cX5_squareOfDistance) (maxL := 4) (ret := (some .int)) (by decide) rfl ?_
  intro p e s m args below meth c s₁ B hml hv
  obtain ⟨rfl, _, hK⟩ := hv
  have hx := B.exec
  have hb := B.bytes
  have hr := B.returns
  have hts := atoms_spec (ws := wsX5_squareOfDistance) B.pre
  have hown : s.vm.findClass RX5 = some m.cls := findClass_of_methodNamed B.named
  have hlocks := B.notSynchronized
  have hl := lv_entry ([.int (iI x), .int (iI y), .int (iI x2), .int (iI y2)]) (n := 4) (Nat.le_of_ble_eq_true rfl)
  rw [lg_entry_eq]
  generalize (lg_sl ([.int (iI x), .int (iI y), .int (iI x2), .int (iI y2)]) ++ List.replicate (4 - (lg_sl ([.int (iI x), .int (iI y), .int (iI x2), .int (iI y2)])).length) Slot.unset).toArray = ls at hl ⊢
  have hl : lv_has ls 4 [(0, .int (iI x)), (1, .int (iI y)), (2, .int (iI x2)), (3, .int (iI y2))] := hl
  refine lv_iload_n hx hb dX5_squareOfDistance_0 rfl (lv_at hl 0 rfl) ?_
  refine lv_iload_n hx hb dX5_squareOfDistance_1 rfl (lv_at hl 2 rfl) ?_
  refine q_isub hx hb dX5_squareOfDistance_2 ?_
  refine lv_iload_n hx hb dX5_squareOfDistance_3 rfl (lv_at hl 0 rfl) ?_
  refine lv_iload_n hx hb dX5_squareOfDistance_4 rfl (lv_at hl 2 rfl) ?_
  refine q_isub hx hb dX5_squareOfDistance_5 ?_
  refine q_imul hx hb dX5_squareOfDistance_6 ?_
  refine lv_iload_n hx hb dX5_squareOfDistance_7 rfl (lv_at hl 1 rfl) ?_
  refine lv_iload_n hx hb dX5_squareOfDistance_8 rfl (lv_at hl 3 rfl) ?_
  refine q_isub hx hb dX5_squareOfDistance_9 ?_
  refine lv_iload_n hx hb dX5_squareOfDistance_10 rfl (lv_at hl 1 rfl) ?_
  refine lv_iload_n hx hb dX5_squareOfDistance_11 rfl (lv_at hl 3 rfl) ?_
  refine q_isub hx hb dX5_squareOfDistance_12 ?_
  refine q_imul hx hb dX5_squareOfDistance_13 ?_
  refine q_iadd hx hb dX5_squareOfDistance_14 ?_
  refine q_reti hx hb hr hlocks dX5_squareOfDistance_15 ?_
  first | rfl | exact bI_e1 (by omega) | exact bI_e0 (by omega) | exact bI_iff (by omega) | omega

/-- the first offence of a number, by its address -/
noncomputable def sNumb (S : St) (h v : Int) : Nat → Int
  | 0 => -1
  | n + 1 => cI (sNumb S h v n < 0 ∧ qTold S h v n) (n : Int) (sNumb S h v n)
theorem sNumb_s (S : St) (h v : Int) (n : Nat) : sNumb S h v (n + 1) = cI (sNumb S h v n < 0 ∧ qTold S h v n) (n : Int) (sNumb S h v n) := rfl
theorem sNumb_0 {S : St} {h v : Int} {n : Nat} (hn : ¬ exN (qTold S h v) n) : sNumb S h v n = -1 := by
  induction n with
  | zero => rfl
  | succ n ih =>
    rw [sNumb_s, cI_f (fun z => hn ⟨n, by omega, z.2⟩)]
    exact ih (fun z => hn (exN_s.mpr (Or.inl z)))
theorem sNumb_1 {S : St} {h v : Int} {n : Nat} (h1 : ¬ exN (qTold S h v) n) (h2 : qTold S h v n) : ∀ k, sNumb S h v (n + 1 + k) = (n : Int) := by
  intro k
  induction k with
  | zero =>
    show sNumb S h v (n + 1) = _
    rw [sNumb_s, cI_t ⟨by rw [sNumb_0 h1]; decide, h2⟩]
  | succ k ih =>
    show sNumb S h v (n + 1 + k + 1) = _
    rw [sNumb_s, cI_f (fun z => by have z1 := z.1; rw [ih] at z1; omega), ih]
theorem sNumb_b (S : St) (h v : Int) (n : Nat) : (sNumb S h v n = -1 ∧ ¬ exN (qTold S h v) n) ∨ (0 ≤ sNumb S h v n ∧ sNumb S h v n < n ∧ qTold S h v (sNumb S h v n).toNat) := by
  induction n with
  | zero => exact Or.inl ⟨rfl, exN_0⟩
  | succ n ih =>
    rw [sNumb_s]
    by_cases c : sNumb S h v n < 0 ∧ qTold S h v n
    · rw [cI_t c]; exact Or.inr ⟨by omega, by omega, by simpa using c.2⟩
    · rw [cI_f c]
      rcases ih with ⟨a, b⟩ | ⟨a, b, d⟩
      · exact Or.inl ⟨a, fun z => (exN_s.mp z).elim b (fun y => c ⟨by omega, y⟩)⟩
      · exact Or.inr ⟨a, by omega, d⟩
def evA (ad : AD) (h z : Int) : Option Nat := if z < 0 then none else some (ad 10 h z)

set_option maxHeartbeats 4000000 in
set_option maxRecDepth 100000 in
theorem c1_offenceNumbered (l : Launch) (g : GG) (eA : Nat) (P : Nat → Prop) (ad : AD) (S : St) (hRS : ∀ k z, k < 26 → R32 (S k z)) (h : Int) (h0 : 0 ≤ h ∧ h < S 14 0) (v : Int) (r_v : R32 v) (h19 : 0 ≤ S 19 h ∧ S 19 h ≤ 16) : MetQ l yX1_offenceNumbered wsX1_offenceNumbered ({ frames := 3, cells := 0, slots := 0, locals := 64 }) g [.ref (ad 7 h 0), .int (iI v)] (fun H => RepC g eA P ad S H) (evA ad h (sNumb S h v (S 19 h).toNat)) := by
  refine Met.ofW (cc := cX1_offenceNumbered) (maxL := 4) (ret := (some (.object "TavernBench$Event"))) (by decide) rfl ?_
  intro p e s m args below meth c s₁ B hml hv
  obtain ⟨rfl, hC, hK⟩ := hv
  have hx := B.exec
  have hb := B.bytes
  have hr := B.returns
  have hts := atoms_spec (ws := wsX1_offenceNumbered) B.pre
  have hown : s.vm.findClass RX1 = some m.cls := findClass_of_methodNamed B.named
  have hlocks := B.notSynchronized
  have inX0 : ∀ w ∈ wsX00, w ∈ wsX1_offenceNumbered := by decide +kernel
  have inX1 : ∀ w ∈ wsX10, w ∈ wsX1_offenceNumbered := by decide +kernel
  have hl := lv_entry ([.ref (ad 7 h 0), .int (iI v)]) (n := 4) (Nat.le_of_ble_eq_true rfl)
  rw [lg_entry_eq]
  generalize (lg_sl ([.ref (ad 7 h 0), .int (iI v)]) ++ List.replicate (4 - (lg_sl ([.ref (ad 7 h 0), .int (iI v)])).length) Slot.unset).toArray = ls at hl ⊢
  have hl : lv_has ls 4 [(0, .ref (ad 7 h 0)), (1, .int (iI v))] := hl
  refine lv_iconst (v := iI 0) hx hb dX1_offenceNumbered_0 rfl ?_
  refine lv_istore_n (lv' := [(2, .int (iI 0)), (0, .ref (ad 7 h 0)), (1, .int (iI v))]) hx hb dX1_offenceNumbered_1 rfl hl (by decide) rfl (fun ls hl => ?_)
  have e0 : (((0 : Nat) : Int) : Int) = 0 := by
    rfl
  refine q_loop (nL := 4) (fun (u : Nat) => u ≤ (S 19 h).toNat ∧ ¬ exN (qTold S h v) u) (fun u => (S 19 h).toNat - u) (fun (u : Nat) => [(0, .ref (ad 7 h 0)), (1, .int (iI v)), (2, .int (iI ((u : Nat) : Int)))]) 0 ⟨Nat.zero_le _, exN_0⟩ (lv_sub hl [1, 2, 0] (by simp only [e0]; rfl)) (fun u hu2 ihu ls hl => ?_)
  have hl : lv_has ls 4 [(0, .ref (ad 7 h 0)), (1, .int (iI v)), (2, .int (iI ((u : Nat) : Int)))] := hl
  have hu1 : u ≤ (S 19 h).toNat := hu2.1
  refine lv_iload_n hx hb dX1_offenceNumbered_2 rfl (lv_at hl 2 rfl) ?_
  refine lv_aload_n hx hb dX1_offenceNumbered_3 rfl (lv_at hl 0 rfl) ?_
  refine q_get (v := .ref (ad 8 h 0)) (C := RX1) (T := TX1) (N := 7) hx hb hts inX1 hown hK (hC.house (k := h) h0) rfl 4 (by decide) (hts (.fieldLink RX1 27 "TavernBench$House" "events" "Ljava/util/ArrayList;") (by decide +kernel)) (fun _ h9 => h9) rfl dX1_offenceNumbered_4 ?_
  refine q_cVi (As := []) (rest := [.int (iI ((u : Nat) : Int))]) ⟨hx, hb, hml, hown, hts⟩ (c0_size l g eA (ad 8 h 0) (ad 9 h 0) (S 19 h)) (cwV 0 hts gX1_offenceNumbered_Jx4a65c_size_8abf5 rfl rfl rfl (by decide +kernel) ⟨Nat.le_of_ble_eq_true rfl, Nat.le_of_ble_eq_true rfl⟩) (q_pV hK (hC.hlst (k := h) (j := 0) h0 (by decide)) rfl (hC.hlst (k := h) (j := 0) h0 (by decide))) rfl hl.1 rfl (Nat.le_of_ble_eq_true rfl) ⟨Nat.zero_le _, Nat.zero_le _⟩ dX1_offenceNumbered_7 ?_
  refine q_icmp_ge (tgt := 48) hx hb dX1_offenceNumbered_10 (by decide) (by omega) (hRS _ _ (by decide)) (fun c10 => ?_) (fun c10 => ?_)
  · refine lv_null hx hb dX1_offenceNumbered_48 ?_
    refine q_retq (v := none) hx hb hr (Or.inl ⟨_, rfl⟩) hlocks dX1_offenceNumbered_49 ?_
    have eu : u = (S 19 h).toNat := by omega
    rw [eu] at hu2
    rw [sNumb_0 hu2.2]
    rfl
  · refine lv_aload_n hx hb dX1_offenceNumbered_13 rfl (lv_at hl 0 rfl) ?_
    refine q_get (v := .ref (ad 8 h 0)) (C := RX1) (T := TX1) (N := 7) hx hb hts inX1 hown hK (hC.house (k := h) h0) rfl 4 (by decide) (hts (.fieldLink RX1 27 "TavernBench$House" "events" "Ljava/util/ArrayList;") (by decide +kernel)) (fun _ h9 => h9) rfl dX1_offenceNumbered_14 ?_
    refine lv_iload_n hx hb dX1_offenceNumbered_17 rfl (lv_at hl 2 rfl) ?_
    refine q_cVr (As := [.int (iI ((u : Nat) : Int))]) (rest := []) ⟨hx, hb, hml, hown, hts⟩ (c0_get l g eA (ad 8 h 0) (ad 9 h 0) (S 19 h) (fun q => ad 10 h q) ((u : Nat) : Int) (by omega) ⟨by omega, by omega⟩ (by omega)) (cwV 1 hts gX1_offenceNumbered_Jx4a65c_get_915e3 rfl rfl rfl (by decide +kernel) ⟨Nat.le_of_ble_eq_true rfl, Nat.le_of_ble_eq_true rfl⟩) (q_pV hK (hC.hlst (k := h) (j := 0) h0 (by decide)) rfl ⟨(hC.hlst (k := h) (j := 0) h0 (by decide)), (hC.harr (k := h) (j := 0) h0 (by decide) (by show 0 < S 19 h; omega))⟩) rfl hl.1 rfl (Nat.le_of_ble_eq_true rfl) ⟨Nat.zero_le _, Nat.zero_le _⟩ dX1_offenceNumbered_18 ?_
    refine q_cast (C := RX0) (T := TX0) (N := 4) hx hb hown (hts (.classLink RX1 47 RX0) (by decide +kernel)) hK (hC.event (k := h) (j := ((u : Nat) : Int)) h0 ⟨by omega, by omega⟩) rfl dX1_offenceNumbered_21 ?_
    refine lv_astore_n (lv' := [(3, .ref (ad 10 h ((u : Nat) : Int))), (0, .ref (ad 7 h 0)), (1, .int (iI v)), (2, .int (iI ((u : Nat) : Int)))]) hx hb dX1_offenceNumbered_24 rfl hl (by decide) rfl (fun ls hl => ?_)
    refine lv_aload_n hx hb dX1_offenceNumbered_25 rfl (lv_at hl 0 rfl) ?_
    refine q_get (v := .int (iI (S 21 (16 * h + ((u : Nat) : Int))))) (C := RX0) (T := TX0) (N := 4) hx hb hts inX0 hown hK (hC.event (k := h) (j := ((u : Nat) : Int)) h0 ⟨by omega, by omega⟩) rfl 1 (by decide) (hts (.fieldLink RX1 69 "TavernBench$Event" "kind" "I") (by decide +kernel)) (fun _ h9 => h9) rfl dX1_offenceNumbered_26 ?_
    refine q_if_ne (tgt := 42) hx hb dX1_offenceNumbered_29 (by decide) (hRS _ _ (by decide)) (fun c29 => ?_) (fun c29 => ?_)
    · refine lv_iinc (v := iI (((u : Nat) : Int) + 1)) (lv' := [(2, .int (iI (((u : Nat) : Int) + 1))), (3, .ref (ad 10 h ((u : Nat) : Int))), (0, .ref (ad 7 h 0)), (1, .int (iI v))]) hx hb dX1_offenceNumbered_42 hl (k := 3) rfl (iI_add _ _) (by decide) rfl (fun ls hl => ?_)
      refine lv_goto (tgt := 2) hx hb dX1_offenceNumbered_45 (by decide) ?_
      have e0 : ((((u + 1) : Nat) : Int) : Int) = ((u : Nat) : Int) + 1 := by
        omega
      exact ihu (u + 1) ⟨by omega, fun z => (exN_s.mp z).elim hu2.2 (fun y => by first | exact absurd y.1 (by assumption) | exact absurd y.2 (by assumption))⟩ (by show (S 19 h).toNat - (u + 1) < (S 19 h).toNat - u; omega) ls (lv_sub hl [2, 3, 0] (by simp only [e0]; rfl))
    · refine lv_aload_n hx hb dX1_offenceNumbered_32 rfl (lv_at hl 0 rfl) ?_
      refine q_get (v := .int (iI (S 22 (16 * h + ((u : Nat) : Int))))) (C := RX0) (T := TX0) (N := 4) hx hb hts inX0 hown hK (hC.event (k := h) (j := ((u : Nat) : Int)) h0 ⟨by omega, by omega⟩) rfl 2 (by decide) (hts (.fieldLink RX1 70 "TavernBench$Event" "v" "I") (by decide +kernel)) (fun _ h9 => h9) rfl dX1_offenceNumbered_33 ?_
      refine lv_iload_n hx hb dX1_offenceNumbered_36 rfl (lv_at hl 2 rfl) ?_
      refine q_icmp_ne (tgt := 42) hx hb dX1_offenceNumbered_37 (by decide) (hRS _ _ (by decide)) r_v (fun c37 => ?_) (fun c37 => ?_)
      · refine lv_iinc (v := iI (((u : Nat) : Int) + 1)) (lv' := [(2, .int (iI (((u : Nat) : Int) + 1))), (3, .ref (ad 10 h ((u : Nat) : Int))), (0, .ref (ad 7 h 0)), (1, .int (iI v))]) hx hb dX1_offenceNumbered_42 hl (k := 3) rfl (iI_add _ _) (by decide) rfl (fun ls hl => ?_)
        refine lv_goto (tgt := 2) hx hb dX1_offenceNumbered_45 (by decide) ?_
        have e0 : ((((u + 1) : Nat) : Int) : Int) = ((u : Nat) : Int) + 1 := by
          omega
        exact ihu (u + 1) ⟨by omega, fun z => (exN_s.mp z).elim hu2.2 (fun y => by first | exact absurd y.1 (by assumption) | exact absurd y.2 (by assumption))⟩ (by show (S 19 h).toNat - (u + 1) < (S 19 h).toNat - u; omega) ls (lv_sub hl [2, 3, 0] (by simp only [e0]; rfl))
      · refine lv_aload_n hx hb dX1_offenceNumbered_40 rfl (lv_at hl 0 rfl) ?_
        refine q_retq (v := (some (ad 10 h ((u : Nat) : Int)))) hx hb hr (Or.inl ⟨_, rfl⟩) hlocks dX1_offenceNumbered_41 ?_
        show some (ad 10 h ((u : Nat) : Int)) = evA ad h (sNumb S h v (S 19 h).toNat)
        have hk := sNumb_1 (n := u) hu2.2 ⟨by assumption, by assumption⟩ ((S 19 h).toNat - (u + 1))
        rw [Nat.add_sub_cancel' (by omega)] at hk
        rw [hk]
        unfold evA
        rw [if_neg (by omega)]

set_option maxHeartbeats 4000000 in
set_option maxRecDepth 100000 in
theorem c1_offencesCounted (l : Launch) (g : GG) (eA : Nat) (P : Nat → Prop) (ad : AD) (S : St) (hI : Inv S) (hQ : InvC S) (h : Int) (h0 : 0 ≤ h ∧ h < S 14 0) (day : Int) (asked : Int) (r_day : R32 day) (r_asked : R32 asked) (hd : isD day) : MetI l yX1_offencesCounted wsX1_offencesCounted ({ frames := 3, cells := 0, slots := 0, locals := 64 }) g [.ref (ad 7 h 0), .int (iI day), .int (iI asked)] (fun H => RepC g eA P ad S H) (sOffC S h day asked (S 19 h).toNat) := by
  refine Met.ofW (cc := cX1_offencesCounted) (maxL := 7) (ret := (some .int)) (by decide) rfl ?_
  intro p e s m args below meth c s₁ B hml hv
  obtain ⟨rfl, hC, hK⟩ := hv
  have hx := B.exec
  have hb := B.bytes
  have hr := B.returns
  have hts := atoms_spec (ws := wsX1_offencesCounted) B.pre
  have hown : s.vm.findClass RX1 = some m.cls := findClass_of_methodNamed B.named
  have hlocks := B.notSynchronized
  have inX0 : ∀ w ∈ wsX00, w ∈ wsX1_offencesCounted := by decide +kernel
  have inX1 : ∀ w ∈ wsX10, w ∈ wsX1_offencesCounted := by decide +kernel
  have hl := lv_entry ([.ref (ad 7 h 0), .int (iI day), .int (iI asked)]) (n := 7) (Nat.le_of_ble_eq_true rfl)
  rw [lg_entry_eq]
  generalize (lg_sl ([.ref (ad 7 h 0), .int (iI day), .int (iI asked)]) ++ List.replicate (7 - (lg_sl ([.ref (ad 7 h 0), .int (iI day), .int (iI asked)])).length) Slot.unset).toArray = ls at hl ⊢
  have hl : lv_has ls 7 [(0, .ref (ad 7 h 0)), (1, .int (iI day)), (2, .int (iI asked))] := hl
  have hH := hI.house h0.1 h0.2
  have hN := hI.nums
  refine lv_iconst (v := iI 0) hx hb dX1_offencesCounted_0 rfl ?_
  refine lv_istore_n (lv' := [(3, .int (iI 0)), (0, .ref (ad 7 h 0)), (1, .int (iI day)), (2, .int (iI asked))]) hx hb dX1_offencesCounted_1 rfl hl (by decide) rfl (fun ls hl => ?_)
  refine lv_iconst (v := iI 0) hx hb dX1_offencesCounted_2 rfl ?_
  refine lv_istore (lv' := [(4, .int (iI 0)), (3, .int (iI 0)), (0, .ref (ad 7 h 0)), (1, .int (iI day)), (2, .int (iI asked))]) hx hb dX1_offencesCounted_3 hl (by decide) rfl (fun ls hl => ?_)
  have e0 : (sOffC S h day asked 0 : Int) = 0 := by
    rfl
  have e1 : (((0 : Nat) : Int) : Int) = 0 := by
    rfl
  refine q_loopN (nL := 7) ((S 19 h).toNat) (fun (u : Nat) => [(0, .ref (ad 7 h 0)), (1, .int (iI day)), (2, .int (iI asked)), (3, .int (iI (sOffC S h day asked u))), (4, .int (iI ((u : Nat) : Int)))]) (lv_sub hl [2, 3, 4, 1, 0] (by simp only [e0, e1]; rfl)) (fun u hu ihu ls hl => ?_)
  have hl : lv_has ls 7 [(0, .ref (ad 7 h 0)), (1, .int (iI day)), (2, .int (iI asked)), (3, .int (iI (sOffC S h day asked u))), (4, .int (iI ((u : Nat) : Int)))] := hl
  refine lv_iload hx hb dX1_offencesCounted_5 (lv_at hl 4 rfl) ?_
  refine lv_aload_n hx hb dX1_offencesCounted_7 rfl (lv_at hl 0 rfl) ?_
  refine q_get (v := .ref (ad 8 h 0)) (C := RX1) (T := TX1) (N := 7) hx hb hts inX1 hown hK (hC.house (k := h) h0) rfl 4 (by decide) (hts (.fieldLink RX1 27 "TavernBench$House" "events" "Ljava/util/ArrayList;") (by decide +kernel)) (fun _ h9 => h9) rfl dX1_offencesCounted_8 ?_
  refine q_cVi (As := []) (rest := [.int (iI ((u : Nat) : Int))]) ⟨hx, hb, hml, hown, hts⟩ (c0_size l g eA (ad 8 h 0) (ad 9 h 0) (S 19 h)) (cwV 0 hts gX1_offencesCounted_Jx4a65c_size_8abf5 rfl rfl rfl (by decide +kernel) ⟨Nat.le_of_ble_eq_true rfl, Nat.le_of_ble_eq_true rfl⟩) (q_pV hK (hC.hlst (k := h) (j := 0) h0 (by decide)) rfl (hC.hlst (k := h) (j := 0) h0 (by decide))) rfl hl.1 rfl (Nat.le_of_ble_eq_true rfl) ⟨Nat.zero_le _, Nat.zero_le _⟩ dX1_offencesCounted_11 ?_
  refine q_icmp_ge (tgt := 91) hx hb dX1_offencesCounted_14 (by decide) (by omega) (hI.R (by decide)) (fun c14 => ?_) (fun c14 => ?_)
  · refine lv_iload_n hx hb dX1_offencesCounted_91 rfl (lv_at hl 3 rfl) ?_
    refine q_reti hx hb hr hlocks dX1_offencesCounted_92 ?_
    have e : u = (S 19 h).toNat := by omega
    rw [e]
  · refine lv_aload_n hx hb dX1_offencesCounted_17 rfl (lv_at hl 0 rfl) ?_
    refine q_get (v := .ref (ad 8 h 0)) (C := RX1) (T := TX1) (N := 7) hx hb hts inX1 hown hK (hC.house (k := h) h0) rfl 4 (by decide) (hts (.fieldLink RX1 27 "TavernBench$House" "events" "Ljava/util/ArrayList;") (by decide +kernel)) (fun _ h9 => h9) rfl dX1_offencesCounted_18 ?_
    refine lv_iload hx hb dX1_offencesCounted_21 (lv_at hl 4 rfl) ?_
    refine q_cVr (As := [.int (iI ((u : Nat) : Int))]) (rest := []) ⟨hx, hb, hml, hown, hts⟩ (c0_get l g eA (ad 8 h 0) (ad 9 h 0) (S 19 h) (fun q => ad 10 h q) ((u : Nat) : Int) (by omega) ⟨by omega, by omega⟩ (by omega)) (cwV 1 hts gX1_offencesCounted_Jx4a65c_get_915e3 rfl rfl rfl (by decide +kernel) ⟨Nat.le_of_ble_eq_true rfl, Nat.le_of_ble_eq_true rfl⟩) (q_pV hK (hC.hlst (k := h) (j := 0) h0 (by decide)) rfl ⟨(hC.hlst (k := h) (j := 0) h0 (by decide)), (hC.harr (k := h) (j := 0) h0 (by decide) (by show 0 < S 19 h; omega))⟩) rfl hl.1 rfl (Nat.le_of_ble_eq_true rfl) ⟨Nat.zero_le _, Nat.zero_le _⟩ dX1_offencesCounted_23 ?_
    refine q_cast (C := RX0) (T := TX0) (N := 4) hx hb hown (hts (.classLink RX1 47 RX0) (by decide +kernel)) hK (hC.event (k := h) (j := ((u : Nat) : Int)) h0 ⟨by omega, by omega⟩) rfl dX1_offencesCounted_26 ?_
    refine lv_astore (lv' := [(5, .ref (ad 10 h ((u : Nat) : Int))), (0, .ref (ad 7 h 0)), (1, .int (iI day)), (2, .int (iI asked)), (3, .int (iI (sOffC S h day asked u))), (4, .int (iI ((u : Nat) : Int)))]) hx hb dX1_offencesCounted_29 hl (by decide) rfl (fun ls hl => ?_)
    have hv := hI.ev h0.1 h0.2 (j := ((u : Nat) : Int)) (by omega) (by omega)
    have hq := hQ h h0.1 h0.2 u (by omega)
    refine q_aload hx hb dX1_offencesCounted_31 (lv_at hl 0 rfl) ?_
    refine q_get (v := .int (iI (S 20 (16 * h + ((u : Nat) : Int))))) (C := RX0) (T := TX0) (N := 4) hx hb hts inX0 hown hK (hC.event (k := h) (j := ((u : Nat) : Int)) h0 ⟨by omega, by omega⟩) rfl 0 (by decide) (hts (.fieldLink RX1 87 "TavernBench$Event" "day" "I") (by decide +kernel)) (fun _ h9 => h9) rfl dX1_offencesCounted_33 ?_
    refine lv_iload_n hx hb dX1_offencesCounted_36 rfl (lv_at hl 2 rfl) ?_
    refine q_sipush hx hb 1825 dX1_offencesCounted_37 (by decide +kernel) ?_
    refine q_isub hx hb dX1_offencesCounted_40 ?_
    refine q_icmp_lt (tgt := 57) hx hb dX1_offencesCounted_41 (by decide) (hI.R (by decide)) (by omega) (fun c41 => ?_) (fun c41 => ?_)
    · refine lv_iconst (v := iI 0) hx hb dX1_offencesCounted_57 rfl ?_
      refine lv_istore (lv' := [(6, .int (iI 0)), (5, .ref (ad 10 h ((u : Nat) : Int))), (0, .ref (ad 7 h 0)), (1, .int (iI day)), (2, .int (iI asked)), (3, .int (iI (sOffC S h day asked u))), (4, .int (iI ((u : Nat) : Int)))]) hx hb dX1_offencesCounted_58 hl (by decide) rfl (fun ls hl => ?_)
      refine lv_iload hx hb dX1_offencesCounted_60 (lv_at hl 0 rfl) ?_
      refine q_if_eq (tgt := 85) hx hb dX1_offencesCounted_62 (by decide) (by decide) (fun c62 => ?_) (fun c62 => ?_)
      rotate_left
      · exact absurd c62 (by decide)
      refine lv_iinc (v := iI (((u : Nat) : Int) + 1)) (lv' := [(4, .int (iI (((u : Nat) : Int) + 1))), (6, .int (iI 0)), (5, .ref (ad 10 h ((u : Nat) : Int))), (0, .ref (ad 7 h 0)), (1, .int (iI day)), (2, .int (iI asked)), (3, .int (iI (sOffC S h day asked u)))]) hx hb dX1_offencesCounted_85 hl (k := 6) rfl (iI_add _ _) (by decide) rfl (fun ls hl => ?_)
      refine lv_goto (tgt := 5) hx hb dX1_offencesCounted_88 (by decide) ?_
      have e0 : (sOffC S h day asked (u + 1) : Int) = sOffC S h day asked u := by
        first | exact cnt_1 ⟨⟨⟨by assumption, by assumption⟩, by assumption⟩, by assumption⟩ | (refine (cnt_0 (fun z => ?_)).trans (Int.add_zero _); first | exact absurd z.1.1.1 (Int.not_le.mpr (by assumption)) | exact absurd z.1.1.2 (Int.not_le.mpr (by assumption)) | exact absurd z.1.2 (by assumption) | exact absurd z.2 (Int.not_lt.mpr (by assumption)))
      have e1 : ((((u + 1) : Nat) : Int) : Int) = ((u : Nat) : Int) + 1 := by
        omega
      exact ihu (by omega) ls (lv_sub hl [3, 4, 5, 6, 0] (by simp only [e0, e1]; rfl))
    · refine q_aload hx hb dX1_offencesCounted_44 (lv_at hl 0 rfl) ?_
      refine q_get (v := .int (iI (S 20 (16 * h + ((u : Nat) : Int))))) (C := RX0) (T := TX0) (N := 4) hx hb hts inX0 hown hK (hC.event (k := h) (j := ((u : Nat) : Int)) h0 ⟨by omega, by omega⟩) rfl 0 (by decide) (hts (.fieldLink RX1 87 "TavernBench$Event" "day" "I") (by decide +kernel)) (fun _ h9 => h9) rfl dX1_offencesCounted_46 ?_
      refine lv_iload_n hx hb dX1_offencesCounted_49 rfl (lv_at hl 2 rfl) ?_
      refine q_icmp_gt (tgt := 57) hx hb dX1_offencesCounted_50 (by decide) (hI.R (by decide)) r_day (fun c50 => ?_) (fun c50 => ?_)
      · refine lv_iconst (v := iI 0) hx hb dX1_offencesCounted_57 rfl ?_
        refine lv_istore (lv' := [(6, .int (iI 0)), (5, .ref (ad 10 h ((u : Nat) : Int))), (0, .ref (ad 7 h 0)), (1, .int (iI day)), (2, .int (iI asked)), (3, .int (iI (sOffC S h day asked u))), (4, .int (iI ((u : Nat) : Int)))]) hx hb dX1_offencesCounted_58 hl (by decide) rfl (fun ls hl => ?_)
        refine lv_iload hx hb dX1_offencesCounted_60 (lv_at hl 0 rfl) ?_
        refine q_if_eq (tgt := 85) hx hb dX1_offencesCounted_62 (by decide) (by decide) (fun c62_1 => ?_) (fun c62_1 => ?_)
        rotate_left
        · exact absurd c62_1 (by decide)
        refine lv_iinc (v := iI (((u : Nat) : Int) + 1)) (lv' := [(4, .int (iI (((u : Nat) : Int) + 1))), (6, .int (iI 0)), (5, .ref (ad 10 h ((u : Nat) : Int))), (0, .ref (ad 7 h 0)), (1, .int (iI day)), (2, .int (iI asked)), (3, .int (iI (sOffC S h day asked u)))]) hx hb dX1_offencesCounted_85 hl (k := 6) rfl (iI_add _ _) (by decide) rfl (fun ls hl => ?_)
        refine lv_goto (tgt := 5) hx hb dX1_offencesCounted_88 (by decide) ?_
        have e0 : (sOffC S h day asked (u + 1) : Int) = sOffC S h day asked u := by
          first | exact cnt_1 ⟨⟨⟨by assumption, by assumption⟩, by assumption⟩, by assumption⟩ | (refine (cnt_0 (fun z => ?_)).trans (Int.add_zero _); first | exact absurd z.1.1.1 (Int.not_le.mpr (by assumption)) | exact absurd z.1.1.2 (Int.not_le.mpr (by assumption)) | exact absurd z.1.2 (by assumption) | exact absurd z.2 (Int.not_lt.mpr (by assumption)))
        have e1 : ((((u + 1) : Nat) : Int) : Int) = ((u : Nat) : Int) + 1 := by
          omega
        exact ihu (by omega) ls (lv_sub hl [3, 4, 5, 6, 0] (by simp only [e0, e1]; rfl))
      · refine lv_iconst (v := iI 1) hx hb dX1_offencesCounted_53 rfl ?_
        refine lv_goto (tgt := 58) hx hb dX1_offencesCounted_54 (by decide) ?_
        refine lv_istore (lv' := [(6, .int (iI 1)), (5, .ref (ad 10 h ((u : Nat) : Int))), (0, .ref (ad 7 h 0)), (1, .int (iI day)), (2, .int (iI asked)), (3, .int (iI (sOffC S h day asked u))), (4, .int (iI ((u : Nat) : Int)))]) hx hb dX1_offencesCounted_58 hl (by decide) rfl (fun ls hl => ?_)
        refine lv_iload hx hb dX1_offencesCounted_60 (lv_at hl 0 rfl) ?_
        refine q_if_eq (tgt := 85) hx hb dX1_offencesCounted_62 (by decide) (by decide) (fun c62_2 => ?_) (fun c62_2 => ?_)
        · exact absurd c62_2 (by decide)
        refine q_aload hx hb dX1_offencesCounted_65 (lv_at hl 1 rfl) ?_
        refine q_get (v := .int (iI (S 21 (16 * h + ((u : Nat) : Int))))) (C := RX0) (T := TX0) (N := 4) hx hb hts inX0 hown hK (hC.event (k := h) (j := ((u : Nat) : Int)) h0 ⟨by omega, by omega⟩) rfl 1 (by decide) (hts (.fieldLink RX1 69 "TavernBench$Event" "kind" "I") (by decide +kernel)) (fun _ h9 => h9) rfl dX1_offencesCounted_67 ?_
        refine q_if_ne (tgt := 85) hx hb dX1_offencesCounted_70 (by decide) (hI.R (by decide)) (fun c70 => ?_) (fun c70 => ?_)
        · refine lv_iinc (v := iI (((u : Nat) : Int) + 1)) (lv' := [(4, .int (iI (((u : Nat) : Int) + 1))), (6, .int (iI 1)), (5, .ref (ad 10 h ((u : Nat) : Int))), (0, .ref (ad 7 h 0)), (1, .int (iI day)), (2, .int (iI asked)), (3, .int (iI (sOffC S h day asked u)))]) hx hb dX1_offencesCounted_85 hl (k := 6) rfl (iI_add _ _) (by decide) rfl (fun ls hl => ?_)
          refine lv_goto (tgt := 5) hx hb dX1_offencesCounted_88 (by decide) ?_
          have e0 : (sOffC S h day asked (u + 1) : Int) = sOffC S h day asked u := by
            first | exact cnt_1 ⟨⟨⟨by assumption, by assumption⟩, by assumption⟩, by assumption⟩ | (refine (cnt_0 (fun z => ?_)).trans (Int.add_zero _); first | exact absurd z.1.1.1 (Int.not_le.mpr (by assumption)) | exact absurd z.1.1.2 (Int.not_le.mpr (by assumption)) | exact absurd z.1.2 (by assumption) | exact absurd z.2 (Int.not_lt.mpr (by assumption)))
          have e1 : ((((u + 1) : Nat) : Int) : Int) = ((u : Nat) : Int) + 1 := by
            omega
          exact ihu (by omega) ls (lv_sub hl [3, 4, 5, 6, 0] (by simp only [e0, e1]; rfl))
        · refine q_aload hx hb dX1_offencesCounted_73 (lv_at hl 1 rfl) ?_
          refine q_get (v := .int (iI (S 40 (16 * h + ((u : Nat) : Int))))) (C := RX0) (T := TX0) (N := 4) hx hb hts inX0 hown hK (hC.event (k := h) (j := ((u : Nat) : Int)) h0 ⟨by omega, by omega⟩) rfl 3 (by decide) (hts (.fieldLink RX1 52 "TavernBench$Event" "quashedFrom" "I") (by decide +kernel)) (fun _ h9 => h9) rfl dX1_offencesCounted_75 ?_
          refine lv_iload_n hx hb dX1_offencesCounted_78 rfl (lv_at hl 4 rfl) ?_
          refine q_icmp_le (tgt := 85) hx hb dX1_offencesCounted_79 (by decide) (by omega) r_asked (fun c79 => ?_) (fun c79 => ?_)
          · refine lv_iinc (v := iI (((u : Nat) : Int) + 1)) (lv' := [(4, .int (iI (((u : Nat) : Int) + 1))), (6, .int (iI 1)), (5, .ref (ad 10 h ((u : Nat) : Int))), (0, .ref (ad 7 h 0)), (1, .int (iI day)), (2, .int (iI asked)), (3, .int (iI (sOffC S h day asked u)))]) hx hb dX1_offencesCounted_85 hl (k := 6) rfl (iI_add _ _) (by decide) rfl (fun ls hl => ?_)
            refine lv_goto (tgt := 5) hx hb dX1_offencesCounted_88 (by decide) ?_
            have e0 : (sOffC S h day asked (u + 1) : Int) = sOffC S h day asked u := by
              first | exact cnt_1 ⟨⟨⟨by assumption, by assumption⟩, by assumption⟩, by assumption⟩ | (refine (cnt_0 (fun z => ?_)).trans (Int.add_zero _); first | exact absurd z.1.1.1 (Int.not_le.mpr (by assumption)) | exact absurd z.1.1.2 (Int.not_le.mpr (by assumption)) | exact absurd z.1.2 (by assumption) | exact absurd z.2 (Int.not_lt.mpr (by assumption)))
            have e1 : ((((u + 1) : Nat) : Int) : Int) = ((u : Nat) : Int) + 1 := by
              omega
            exact ihu (by omega) ls (lv_sub hl [3, 4, 5, 6, 0] (by simp only [e0, e1]; rfl))
          · refine lv_iinc (v := iI ((sOffC S h day asked u) + 1)) (lv' := [(3, .int (iI ((sOffC S h day asked u) + 1))), (6, .int (iI 1)), (5, .ref (ad 10 h ((u : Nat) : Int))), (0, .ref (ad 7 h 0)), (1, .int (iI day)), (2, .int (iI asked)), (4, .int (iI ((u : Nat) : Int)))]) hx hb dX1_offencesCounted_82 hl (k := 5) rfl (iI_add _ _) (by decide) rfl (fun ls hl => ?_)
            refine lv_iinc (v := iI (((u : Nat) : Int) + 1)) (lv' := [(4, .int (iI (((u : Nat) : Int) + 1))), (3, .int (iI ((sOffC S h day asked u) + 1))), (6, .int (iI 1)), (5, .ref (ad 10 h ((u : Nat) : Int))), (0, .ref (ad 7 h 0)), (1, .int (iI day)), (2, .int (iI asked))]) hx hb dX1_offencesCounted_85 hl (k := 6) rfl (iI_add _ _) (by decide) rfl (fun ls hl => ?_)
            refine lv_goto (tgt := 5) hx hb dX1_offencesCounted_88 (by decide) ?_
            have e0 : (sOffC S h day asked (u + 1) : Int) = (sOffC S h day asked u) + 1 := by
              first | exact cnt_1 ⟨⟨⟨by assumption, by assumption⟩, by assumption⟩, by assumption⟩ | (refine (cnt_0 (fun z => ?_)).trans (Int.add_zero _); first | exact absurd z.1.1.1 (Int.not_le.mpr (by assumption)) | exact absurd z.1.1.2 (Int.not_le.mpr (by assumption)) | exact absurd z.1.2 (by assumption) | exact absurd z.2 (Int.not_lt.mpr (by assumption)))
            have e1 : ((((u + 1) : Nat) : Int) : Int) = ((u : Nat) : Int) + 1 := by
              omega
            exact ihu (by omega) ls (lv_sub hl [4, 5, 6, 1, 0] (by simp only [e0, e1]; rfl))

set_option maxHeartbeats 4000000 in
set_option maxRecDepth 100000 in
theorem c1_endedFrom (l : Launch) (g : GG) (eA : Nat) (P : Nat → Prop) (ad : AD) (S : St) (hI : Inv S) (hQ : InvC S) (h : Int) (h0 : 0 ≤ h ∧ h < S 14 0) (asked : Int) (r_asked : R32 asked) (hd : isD asked) : MetI l yX1_endedFrom wsX1_endedFrom ({ frames := 4, cells := 0, slots := 0, locals := 90 }) g [.ref (ad 7 h 0), .int (iI asked)] (fun H => RepC g eA P ad S H) (sEndC S h asked (S 19 h).toNat) := by
  refine Met.ofW (cc := cX1_endedFrom) (maxL := 6) (ret := (some .int)) (by decide) rfl ?_
  intro p e s m args below meth c s₁ B hml hv
  obtain ⟨rfl, hC, hK⟩ := hv
  have hx := B.exec
  have hb := B.bytes
  have hr := B.returns
  have hts := atoms_spec (ws := wsX1_endedFrom) B.pre
  have hown : s.vm.findClass RX1 = some m.cls := findClass_of_methodNamed B.named
  have hlocks := B.notSynchronized
  have inX0 : ∀ w ∈ wsX00, w ∈ wsX1_endedFrom := by decide +kernel
  have inX1 : ∀ w ∈ wsX10, w ∈ wsX1_endedFrom := by decide +kernel
  have hl := lv_entry ([.ref (ad 7 h 0), .int (iI asked)]) (n := 6) (Nat.le_of_ble_eq_true rfl)
  rw [lg_entry_eq]
  generalize (lg_sl ([.ref (ad 7 h 0), .int (iI asked)]) ++ List.replicate (6 - (lg_sl ([.ref (ad 7 h 0), .int (iI asked)])).length) Slot.unset).toArray = ls at hl ⊢
  have hl : lv_has ls 6 [(0, .ref (ad 7 h 0)), (1, .int (iI asked))] := hl
  have hH := hI.house h0.1 h0.2
  have hN := hI.nums
  refine q_ldc hx hb 1000000 hown (hts (.constant RX1 86 (1000000)) (by decide +kernel)) (by decide +kernel) dX1_endedFrom_0 ?_
  refine lv_istore_n (lv' := [(2, .int (iI 1000000)), (0, .ref (ad 7 h 0)), (1, .int (iI asked))]) hx hb dX1_endedFrom_2 rfl hl (by decide) rfl (fun ls hl => ?_)
  refine lv_iconst (v := iI 0) hx hb dX1_endedFrom_3 rfl ?_
  refine lv_istore_n (lv' := [(3, .int (iI 0)), (2, .int (iI 1000000)), (0, .ref (ad 7 h 0)), (1, .int (iI asked))]) hx hb dX1_endedFrom_4 rfl hl (by decide) rfl (fun ls hl => ?_)
  have e0 : (sEndC S h asked 0 : Int) = 1000000 := by
    rfl
  have e1 : (((0 : Nat) : Int) : Int) = 0 := by
    rfl
  refine q_loopN (nL := 6) ((S 19 h).toNat) (fun (u : Nat) => [(0, .ref (ad 7 h 0)), (1, .int (iI asked)), (2, .int (iI (sEndC S h asked u))), (3, .int (iI ((u : Nat) : Int)))]) (lv_sub hl [2, 3, 1, 0] (by simp only [e0, e1]; rfl)) (fun u hu ihu ls hl => ?_)
  have hl : lv_has ls 6 [(0, .ref (ad 7 h 0)), (1, .int (iI asked)), (2, .int (iI (sEndC S h asked u))), (3, .int (iI ((u : Nat) : Int)))] := hl
  have hE : 0 ≤ sEndC S h asked u ∧ sEndC S h asked u ≤ 1000000 := mn_b (by decide) (fun k hk _ => by have := hI.ev h0.1 h0.2 (j := k) (by omega) (by omega); show 0 ≤ S 20 (16 * h + k); omega)
  refine lv_iload_n hx hb dX1_endedFrom_5 rfl (lv_at hl 3 rfl) ?_
  refine lv_aload_n hx hb dX1_endedFrom_6 rfl (lv_at hl 0 rfl) ?_
  refine q_get (v := .ref (ad 8 h 0)) (C := RX1) (T := TX1) (N := 7) hx hb hts inX1 hown hK (hC.house (k := h) h0) rfl 4 (by decide) (hts (.fieldLink RX1 27 "TavernBench$House" "events" "Ljava/util/ArrayList;") (by decide +kernel)) (fun _ h9 => h9) rfl dX1_endedFrom_7 ?_
  refine q_cVi (As := []) (rest := [.int (iI ((u : Nat) : Int))]) ⟨hx, hb, hml, hown, hts⟩ (c0_size l g eA (ad 8 h 0) (ad 9 h 0) (S 19 h)) (cwV 0 hts gX1_endedFrom_Jx4a65c_size_8abf5 rfl rfl rfl (by decide +kernel) ⟨Nat.le_of_ble_eq_true rfl, Nat.le_of_ble_eq_true rfl⟩) (q_pV hK (hC.hlst (k := h) (j := 0) h0 (by decide)) rfl (hC.hlst (k := h) (j := 0) h0 (by decide))) rfl hl.1 rfl (Nat.le_of_ble_eq_true rfl) ⟨Nat.zero_le _, Nat.zero_le _⟩ dX1_endedFrom_10 ?_
  refine q_icmp_ge (tgt := 93) hx hb dX1_endedFrom_13 (by decide) (by omega) (hI.R (by decide)) (fun c13 => ?_) (fun c13 => ?_)
  · refine lv_iload_n hx hb dX1_endedFrom_93 rfl (lv_at hl 2 rfl) ?_
    refine q_reti hx hb hr hlocks dX1_endedFrom_94 ?_
    have e : u = (S 19 h).toNat := by omega
    rw [e]
  · refine lv_aload_n hx hb dX1_endedFrom_16 rfl (lv_at hl 0 rfl) ?_
    refine q_get (v := .ref (ad 8 h 0)) (C := RX1) (T := TX1) (N := 7) hx hb hts inX1 hown hK (hC.house (k := h) h0) rfl 4 (by decide) (hts (.fieldLink RX1 27 "TavernBench$House" "events" "Ljava/util/ArrayList;") (by decide +kernel)) (fun _ h9 => h9) rfl dX1_endedFrom_17 ?_
    refine lv_iload_n hx hb dX1_endedFrom_20 rfl (lv_at hl 3 rfl) ?_
    refine q_cVr (As := [.int (iI ((u : Nat) : Int))]) (rest := []) ⟨hx, hb, hml, hown, hts⟩ (c0_get l g eA (ad 8 h 0) (ad 9 h 0) (S 19 h) (fun q => ad 10 h q) ((u : Nat) : Int) (by omega) ⟨by omega, by omega⟩ (by omega)) (cwV 1 hts gX1_endedFrom_Jx4a65c_get_915e3 rfl rfl rfl (by decide +kernel) ⟨Nat.le_of_ble_eq_true rfl, Nat.le_of_ble_eq_true rfl⟩) (q_pV hK (hC.hlst (k := h) (j := 0) h0 (by decide)) rfl ⟨(hC.hlst (k := h) (j := 0) h0 (by decide)), (hC.harr (k := h) (j := 0) h0 (by decide) (by show 0 < S 19 h; omega))⟩) rfl hl.1 rfl (Nat.le_of_ble_eq_true rfl) ⟨Nat.zero_le _, Nat.zero_le _⟩ dX1_endedFrom_21 ?_
    refine q_cast (C := RX0) (T := TX0) (N := 4) hx hb hown (hts (.classLink RX1 47 RX0) (by decide +kernel)) hK (hC.event (k := h) (j := ((u : Nat) : Int)) h0 ⟨by omega, by omega⟩) rfl dX1_endedFrom_24 ?_
    refine lv_astore (lv' := [(4, .ref (ad 10 h ((u : Nat) : Int))), (0, .ref (ad 7 h 0)), (1, .int (iI asked)), (2, .int (iI (sEndC S h asked u))), (3, .int (iI ((u : Nat) : Int)))]) hx hb dX1_endedFrom_27 hl (by decide) rfl (fun ls hl => ?_)
    have hv := hI.ev h0.1 h0.2 (j := ((u : Nat) : Int)) (by omega) (by omega)
    have hq := hQ h h0.1 h0.2 u (by omega)
    refine q_aload hx hb dX1_endedFrom_29 (lv_at hl 0 rfl) ?_
    refine q_get (v := .int (iI (S 21 (16 * h + ((u : Nat) : Int))))) (C := RX0) (T := TX0) (N := 4) hx hb hts inX0 hown hK (hC.event (k := h) (j := ((u : Nat) : Int)) h0 ⟨by omega, by omega⟩) rfl 1 (by decide) (hts (.fieldLink RX1 69 "TavernBench$Event" "kind" "I") (by decide +kernel)) (fun _ h9 => h9) rfl dX1_endedFrom_31 ?_
    refine q_if_ne (tgt := 59) hx hb dX1_endedFrom_34 (by decide) (hI.R (by decide)) (fun c34 => ?_) (fun c34 => ?_)
    · refine lv_iconst (v := iI 0) hx hb dX1_endedFrom_59 rfl ?_
      refine lv_istore (lv' := [(5, .int (iI 0)), (4, .ref (ad 10 h ((u : Nat) : Int))), (0, .ref (ad 7 h 0)), (1, .int (iI asked)), (2, .int (iI (sEndC S h asked u))), (3, .int (iI ((u : Nat) : Int)))]) hx hb dX1_endedFrom_60 hl (by decide) rfl (fun ls hl => ?_)
      refine lv_iload hx hb dX1_endedFrom_62 (lv_at hl 0 rfl) ?_
      refine q_if_eq (tgt := 87) hx hb dX1_endedFrom_64 (by decide) (by decide) (fun c64 => ?_) (fun c64 => ?_)
      rotate_left
      · exact absurd c64 (by decide)
      refine lv_iinc (v := iI (((u : Nat) : Int) + 1)) (lv' := [(3, .int (iI (((u : Nat) : Int) + 1))), (5, .int (iI 0)), (4, .ref (ad 10 h ((u : Nat) : Int))), (0, .ref (ad 7 h 0)), (1, .int (iI asked)), (2, .int (iI (sEndC S h asked u)))]) hx hb dX1_endedFrom_87 hl (k := 5) rfl (iI_add _ _) (by decide) rfl (fun ls hl => ?_)
      refine lv_goto (tgt := 5) hx hb dX1_endedFrom_90 (by decide) ?_
      have e0 : (sEndC S h asked (u + 1) : Int) = sEndC S h asked u := by
        first | exact mn_t ⟨⟨by assumption, by assumption⟩, by assumption⟩ (by assumption) | exact mn_f (fun z => absurd z.1.1.1 (by assumption)) | exact mn_f (fun z => absurd z.1.1.2 (Int.not_le.mpr (by assumption))) | exact mn_f (fun z => absurd z.2 (Int.not_lt.mpr (by assumption))) | exact mn_f (fun z => absurd z.1.2 (Int.not_le.mpr (by assumption)))
      have e1 : ((((u + 1) : Nat) : Int) : Int) = ((u : Nat) : Int) + 1 := by
        omega
      exact ihu (by omega) ls (lv_sub hl [3, 4, 5, 0] (by simp only [e0, e1]; rfl))
    · refine q_aload hx hb dX1_endedFrom_37 (lv_at hl 0 rfl) ?_
      refine q_get (v := .int (iI (S 20 (16 * h + ((u : Nat) : Int))))) (C := RX0) (T := TX0) (N := 4) hx hb hts inX0 hown hK (hC.event (k := h) (j := ((u : Nat) : Int)) h0 ⟨by omega, by omega⟩) rfl 0 (by decide) (hts (.fieldLink RX1 87 "TavernBench$Event" "day" "I") (by decide +kernel)) (fun _ h9 => h9) rfl dX1_endedFrom_39 ?_
      refine lv_iload_n hx hb dX1_endedFrom_42 rfl (lv_at hl 2 rfl) ?_
      refine q_icmp_gt (tgt := 59) hx hb dX1_endedFrom_43 (by decide) (hI.R (by decide)) r_asked (fun c43 => ?_) (fun c43 => ?_)
      · refine lv_iconst (v := iI 0) hx hb dX1_endedFrom_59 rfl ?_
        refine lv_istore (lv' := [(5, .int (iI 0)), (4, .ref (ad 10 h ((u : Nat) : Int))), (0, .ref (ad 7 h 0)), (1, .int (iI asked)), (2, .int (iI (sEndC S h asked u))), (3, .int (iI ((u : Nat) : Int)))]) hx hb dX1_endedFrom_60 hl (by decide) rfl (fun ls hl => ?_)
        refine lv_iload hx hb dX1_endedFrom_62 (lv_at hl 0 rfl) ?_
        refine q_if_eq (tgt := 87) hx hb dX1_endedFrom_64 (by decide) (by decide) (fun c64_1 => ?_) (fun c64_1 => ?_)
        rotate_left
        · exact absurd c64_1 (by decide)
        refine lv_iinc (v := iI (((u : Nat) : Int) + 1)) (lv' := [(3, .int (iI (((u : Nat) : Int) + 1))), (5, .int (iI 0)), (4, .ref (ad 10 h ((u : Nat) : Int))), (0, .ref (ad 7 h 0)), (1, .int (iI asked)), (2, .int (iI (sEndC S h asked u)))]) hx hb dX1_endedFrom_87 hl (k := 5) rfl (iI_add _ _) (by decide) rfl (fun ls hl => ?_)
        refine lv_goto (tgt := 5) hx hb dX1_endedFrom_90 (by decide) ?_
        have e0 : (sEndC S h asked (u + 1) : Int) = sEndC S h asked u := by
          first | exact mn_t ⟨⟨by assumption, by assumption⟩, by assumption⟩ (by assumption) | exact mn_f (fun z => absurd z.1.1.1 (by assumption)) | exact mn_f (fun z => absurd z.1.1.2 (Int.not_le.mpr (by assumption))) | exact mn_f (fun z => absurd z.2 (Int.not_lt.mpr (by assumption))) | exact mn_f (fun z => absurd z.1.2 (Int.not_le.mpr (by assumption)))
        have e1 : ((((u + 1) : Nat) : Int) : Int) = ((u : Nat) : Int) + 1 := by
          omega
        exact ihu (by omega) ls (lv_sub hl [3, 4, 5, 0] (by simp only [e0, e1]; rfl))
      · refine q_aload hx hb dX1_endedFrom_46 (lv_at hl 0 rfl) ?_
        refine q_get (v := .int (iI (S 20 (16 * h + ((u : Nat) : Int))))) (C := RX0) (T := TX0) (N := 4) hx hb hts inX0 hown hK (hC.event (k := h) (j := ((u : Nat) : Int)) h0 ⟨by omega, by omega⟩) rfl 0 (by decide) (hts (.fieldLink RX1 87 "TavernBench$Event" "day" "I") (by decide +kernel)) (fun _ h9 => h9) rfl dX1_endedFrom_48 ?_
        refine lv_iload_n hx hb dX1_endedFrom_51 rfl (lv_at hl 3 rfl) ?_
        refine q_icmp_ge (tgt := 59) hx hb dX1_endedFrom_52 (by decide) (hI.R (by decide)) (by omega) (fun c52 => ?_) (fun c52 => ?_)
        · refine lv_iconst (v := iI 0) hx hb dX1_endedFrom_59 rfl ?_
          refine lv_istore (lv' := [(5, .int (iI 0)), (4, .ref (ad 10 h ((u : Nat) : Int))), (0, .ref (ad 7 h 0)), (1, .int (iI asked)), (2, .int (iI (sEndC S h asked u))), (3, .int (iI ((u : Nat) : Int)))]) hx hb dX1_endedFrom_60 hl (by decide) rfl (fun ls hl => ?_)
          refine lv_iload hx hb dX1_endedFrom_62 (lv_at hl 0 rfl) ?_
          refine q_if_eq (tgt := 87) hx hb dX1_endedFrom_64 (by decide) (by decide) (fun c64_2 => ?_) (fun c64_2 => ?_)
          rotate_left
          · exact absurd c64_2 (by decide)
          refine lv_iinc (v := iI (((u : Nat) : Int) + 1)) (lv' := [(3, .int (iI (((u : Nat) : Int) + 1))), (5, .int (iI 0)), (4, .ref (ad 10 h ((u : Nat) : Int))), (0, .ref (ad 7 h 0)), (1, .int (iI asked)), (2, .int (iI (sEndC S h asked u)))]) hx hb dX1_endedFrom_87 hl (k := 5) rfl (iI_add _ _) (by decide) rfl (fun ls hl => ?_)
          refine lv_goto (tgt := 5) hx hb dX1_endedFrom_90 (by decide) ?_
          have e0 : (sEndC S h asked (u + 1) : Int) = sEndC S h asked u := by
            first | exact mn_t ⟨⟨by assumption, by assumption⟩, by assumption⟩ (by assumption) | exact mn_f (fun z => absurd z.1.1.1 (by assumption)) | exact mn_f (fun z => absurd z.1.1.2 (Int.not_le.mpr (by assumption))) | exact mn_f (fun z => absurd z.2 (Int.not_lt.mpr (by assumption))) | exact mn_f (fun z => absurd z.1.2 (Int.not_le.mpr (by assumption)))
          have e1 : ((((u + 1) : Nat) : Int) : Int) = ((u : Nat) : Int) + 1 := by
            omega
          exact ihu (by omega) ls (lv_sub hl [3, 4, 5, 0] (by simp only [e0, e1]; rfl))
        · refine lv_iconst (v := iI 1) hx hb dX1_endedFrom_55 rfl ?_
          refine lv_goto (tgt := 60) hx hb dX1_endedFrom_56 (by decide) ?_
          refine lv_istore (lv' := [(5, .int (iI 1)), (4, .ref (ad 10 h ((u : Nat) : Int))), (0, .ref (ad 7 h 0)), (1, .int (iI asked)), (2, .int (iI (sEndC S h asked u))), (3, .int (iI ((u : Nat) : Int)))]) hx hb dX1_endedFrom_60 hl (by decide) rfl (fun ls hl => ?_)
          refine lv_iload hx hb dX1_endedFrom_62 (lv_at hl 0 rfl) ?_
          refine q_if_eq (tgt := 87) hx hb dX1_endedFrom_64 (by decide) (by decide) (fun c64_3 => ?_) (fun c64_3 => ?_)
          · exact absurd c64_3 (by decide)
          refine lv_aload_n hx hb dX1_endedFrom_67 rfl (lv_at hl 2 rfl) ?_
          refine q_aload hx hb dX1_endedFrom_68 (lv_at hl 1 rfl) ?_
          refine q_get (v := .int (iI (S 20 (16 * h + ((u : Nat) : Int))))) (C := RX0) (T := TX0) (N := 4) hx hb hts inX0 hown hK (hC.event (k := h) (j := ((u : Nat) : Int)) h0 ⟨by omega, by omega⟩) rfl 0 (by decide) (hts (.fieldLink RX1 87 "TavernBench$Event" "day" "I") (by decide +kernel)) (fun _ h9 => h9) rfl dX1_endedFrom_70 ?_
          refine lv_iload_n hx hb dX1_endedFrom_73 rfl (lv_at hl 3 rfl) ?_
          refine q_cVi (As := [.int (iI (S 20 (16 * h + ((u : Nat) : Int)))), .int (iI asked)]) (rest := []) ⟨hx, hb, hml, hown, hts⟩ (c1_offencesCounted l g eA P ad S hI hQ h h0 (S 20 (16 * h + ((u : Nat) : Int))) asked (hI.R (by decide)) r_asked (by omega)) (cwV 2 hts gX1_endedFrom_X1_offencesCounted rfl rfl rfl (by decide +kernel) ⟨Nat.le_of_ble_eq_true rfl, Nat.le_of_ble_eq_true rfl⟩) (q_pV hK (hC.house (k := h) h0) rfl hC) rfl hl.1 rfl (Nat.le_of_ble_eq_true rfl) ⟨Nat.zero_le _, Nat.zero_le _⟩ dX1_endedFrom_74 ?_
          have hcl := cnt_le (qOffC S h (S 20 (16 * h + ((u : Nat) : Int))) asked) (S 19 h).toNat
          have hso : R32 (sOffC S h (S 20 (16 * h + ((u : Nat) : Int))) asked (S 19 h).toNat) := by show R32 (cnt _ _); omega
          refine lv_iconst (v := iI 3) hx hb dX1_endedFrom_77 rfl ?_
          refine q_icmp_lt (tgt := 87) hx hb dX1_endedFrom_78 (by decide) hso (by decide) (fun c78 => ?_) (fun c78 => ?_)
          · refine lv_iinc (v := iI (((u : Nat) : Int) + 1)) (lv' := [(3, .int (iI (((u : Nat) : Int) + 1))), (5, .int (iI 1)), (4, .ref (ad 10 h ((u : Nat) : Int))), (0, .ref (ad 7 h 0)), (1, .int (iI asked)), (2, .int (iI (sEndC S h asked u)))]) hx hb dX1_endedFrom_87 hl (k := 5) rfl (iI_add _ _) (by decide) rfl (fun ls hl => ?_)
            refine lv_goto (tgt := 5) hx hb dX1_endedFrom_90 (by decide) ?_
            have e0 : (sEndC S h asked (u + 1) : Int) = sEndC S h asked u := by
              first | exact mn_t ⟨⟨by assumption, by assumption⟩, by assumption⟩ (by assumption) | exact mn_f (fun z => absurd z.1.1.1 (by assumption)) | exact mn_f (fun z => absurd z.1.1.2 (Int.not_le.mpr (by assumption))) | exact mn_f (fun z => absurd z.2 (Int.not_lt.mpr (by assumption))) | exact mn_f (fun z => absurd z.1.2 (Int.not_le.mpr (by assumption)))
            have e1 : ((((u + 1) : Nat) : Int) : Int) = ((u : Nat) : Int) + 1 := by
              omega
            exact ihu (by omega) ls (lv_sub hl [3, 4, 5, 0] (by simp only [e0, e1]; rfl))
          · refine q_aload hx hb dX1_endedFrom_81 (lv_at hl 1 rfl) ?_
            refine q_get (v := .int (iI (S 20 (16 * h + ((u : Nat) : Int))))) (C := RX0) (T := TX0) (N := 4) hx hb hts inX0 hown hK (hC.event (k := h) (j := ((u : Nat) : Int)) h0 ⟨by omega, by omega⟩) rfl 0 (by decide) (hts (.fieldLink RX1 87 "TavernBench$Event" "day" "I") (by decide +kernel)) (fun _ h9 => h9) rfl dX1_endedFrom_83 ?_
            refine lv_istore_n (lv' := [(2, .int (iI (S 20 (16 * h + ((u : Nat) : Int))))), (5, .int (iI 1)), (4, .ref (ad 10 h ((u : Nat) : Int))), (0, .ref (ad 7 h 0)), (1, .int (iI asked)), (3, .int (iI ((u : Nat) : Int)))]) hx hb dX1_endedFrom_86 rfl hl (by decide) rfl (fun ls hl => ?_)
            refine lv_iinc (v := iI (((u : Nat) : Int) + 1)) (lv' := [(3, .int (iI (((u : Nat) : Int) + 1))), (2, .int (iI (S 20 (16 * h + ((u : Nat) : Int))))), (5, .int (iI 1)), (4, .ref (ad 10 h ((u : Nat) : Int))), (0, .ref (ad 7 h 0)), (1, .int (iI asked))]) hx hb dX1_endedFrom_87 hl (k := 5) rfl (iI_add _ _) (by decide) rfl (fun ls hl => ?_)
            refine lv_goto (tgt := 5) hx hb dX1_endedFrom_90 (by decide) ?_
            have e0 : (sEndC S h asked (u + 1) : Int) = S 20 (16 * h + ((u : Nat) : Int)) := by
              first | exact mn_t ⟨⟨by assumption, by assumption⟩, by assumption⟩ (by assumption) | exact mn_f (fun z => absurd z.1.1.1 (by assumption)) | exact mn_f (fun z => absurd z.1.1.2 (Int.not_le.mpr (by assumption))) | exact mn_f (fun z => absurd z.2 (Int.not_lt.mpr (by assumption))) | exact mn_f (fun z => absurd z.1.2 (Int.not_le.mpr (by assumption)))
            have e1 : ((((u + 1) : Nat) : Int) : Int) = ((u : Nat) : Int) + 1 := by
              omega
            exact ihu (by omega) ls (lv_sub hl [4, 5, 1, 0] (by simp only [e0, e1]; rfl))

abbrev qTr (S : St) (h a b : Int) (q : Nat) : Prop := S 21 (16 * h + q) = 3 ∧ (a ≤ S 20 (16 * h + q) ∧ S 20 (16 * h + q) ≤ b)

set_option maxHeartbeats 4000000 in
set_option maxRecDepth 100000 in
theorem c1_isTransferred (l : Launch) (g : GG) (eA : Nat) (P : Nat → Prop) (ad : AD) (S : St) (hI : Inv S) (hQ : InvC S) (h : Int) (h0 : 0 ≤ h ∧ h < S 14 0) (a : Int) (b : Int) (r_a : R32 a) (r_b : R32 b)  : MetI l yX1_isTransferred wsX1_isTransferred ({ frames := 3, cells := 0, slots := 0, locals := 64 }) g [.ref (ad 7 h 0), .int (iI a), .int (iI b)] (fun H => RepC g eA P ad S H) (bI (exN (qTr S h a b) (S 19 h).toNat)) := by
  refine Met.ofW (cc := cX1_isTransferred) (maxL := 5) (ret := (some .boolean)) (by decide) rfl ?_
  intro p e s m args below meth c s₁ B hml hv
  obtain ⟨rfl, hC, hK⟩ := hv
  have hx := B.exec
  have hb := B.bytes
  have hr := B.returns
  have hts := atoms_spec (ws := wsX1_isTransferred) B.pre
  have hown : s.vm.findClass RX1 = some m.cls := findClass_of_methodNamed B.named
  have hlocks := B.notSynchronized
  have inX0 : ∀ w ∈ wsX00, w ∈ wsX1_isTransferred := by decide +kernel
  have inX1 : ∀ w ∈ wsX10, w ∈ wsX1_isTransferred := by decide +kernel
  have hl := lv_entry ([.ref (ad 7 h 0), .int (iI a), .int (iI b)]) (n := 5) (Nat.le_of_ble_eq_true rfl)
  rw [lg_entry_eq]
  generalize (lg_sl ([.ref (ad 7 h 0), .int (iI a), .int (iI b)]) ++ List.replicate (5 - (lg_sl ([.ref (ad 7 h 0), .int (iI a), .int (iI b)])).length) Slot.unset).toArray = ls at hl ⊢
  have hl : lv_has ls 5 [(0, .ref (ad 7 h 0)), (1, .int (iI a)), (2, .int (iI b))] := hl
  have hH := hI.house h0.1 h0.2
  have hN := hI.nums
  refine lv_iconst (v := iI 0) hx hb dX1_isTransferred_0 rfl ?_
  refine lv_istore_n (lv' := [(3, .int (iI 0)), (0, .ref (ad 7 h 0)), (1, .int (iI a)), (2, .int (iI b))]) hx hb dX1_isTransferred_1 rfl hl (by decide) rfl (fun ls hl => ?_)
  have e0 : (((0 : Nat) : Int) : Int) = 0 := by
    rfl
  refine q_loop (nL := 5) (fun (u : Nat) => u ≤ (S 19 h).toNat ∧ ¬ exN (qTr S h a b) u) (fun u => (S 19 h).toNat - u) (fun (u : Nat) => [(0, .ref (ad 7 h 0)), (1, .int (iI a)), (2, .int (iI b)), (3, .int (iI ((u : Nat) : Int)))]) 0 ⟨Nat.zero_le _, exN_0⟩ (lv_sub hl [1, 2, 3, 0] (by simp only [e0]; rfl)) (fun u hu2 ihu ls hl => ?_)
  have hl : lv_has ls 5 [(0, .ref (ad 7 h 0)), (1, .int (iI a)), (2, .int (iI b)), (3, .int (iI ((u : Nat) : Int)))] := hl
  have hu1 : u ≤ (S 19 h).toNat := hu2.1
  refine lv_iload_n hx hb dX1_isTransferred_2 rfl (lv_at hl 3 rfl) ?_
  refine lv_aload_n hx hb dX1_isTransferred_3 rfl (lv_at hl 0 rfl) ?_
  refine q_get (v := .ref (ad 8 h 0)) (C := RX1) (T := TX1) (N := 7) hx hb hts inX1 hown hK (hC.house (k := h) h0) rfl 4 (by decide) (hts (.fieldLink RX1 27 "TavernBench$House" "events" "Ljava/util/ArrayList;") (by decide +kernel)) (fun _ h9 => h9) rfl dX1_isTransferred_4 ?_
  refine q_cVi (As := []) (rest := [.int (iI ((u : Nat) : Int))]) ⟨hx, hb, hml, hown, hts⟩ (c0_size l g eA (ad 8 h 0) (ad 9 h 0) (S 19 h)) (cwV 0 hts gX1_isTransferred_Jx4a65c_size_8abf5 rfl rfl rfl (by decide +kernel) ⟨Nat.le_of_ble_eq_true rfl, Nat.le_of_ble_eq_true rfl⟩) (q_pV hK (hC.hlst (k := h) (j := 0) h0 (by decide)) rfl (hC.hlst (k := h) (j := 0) h0 (by decide))) rfl hl.1 rfl (Nat.le_of_ble_eq_true rfl) ⟨Nat.zero_le _, Nat.zero_le _⟩ dX1_isTransferred_7 ?_
  refine q_icmp_ge (tgt := 56) hx hb dX1_isTransferred_10 (by decide) (by omega) (hI.R (by decide)) (fun c10 => ?_) (fun c10 => ?_)
  · refine lv_iconst (v := iI 0) hx hb dX1_isTransferred_56 rfl ?_
    refine q_retz hx hb hr hlocks (Or.inl rfl) dX1_isTransferred_57 ?_
    have eu : u = (S 19 h).toNat := by omega
    rw [eu] at hu2
    exact bI_e0 hu2.2
  · refine lv_aload_n hx hb dX1_isTransferred_13 rfl (lv_at hl 0 rfl) ?_
    refine q_get (v := .ref (ad 8 h 0)) (C := RX1) (T := TX1) (N := 7) hx hb hts inX1 hown hK (hC.house (k := h) h0) rfl 4 (by decide) (hts (.fieldLink RX1 27 "TavernBench$House" "events" "Ljava/util/ArrayList;") (by decide +kernel)) (fun _ h9 => h9) rfl dX1_isTransferred_14 ?_
    refine lv_iload_n hx hb dX1_isTransferred_17 rfl (lv_at hl 3 rfl) ?_
    refine q_cVr (As := [.int (iI ((u : Nat) : Int))]) (rest := []) ⟨hx, hb, hml, hown, hts⟩ (c0_get l g eA (ad 8 h 0) (ad 9 h 0) (S 19 h) (fun q => ad 10 h q) ((u : Nat) : Int) (by omega) ⟨by omega, by omega⟩ (by omega)) (cwV 1 hts gX1_isTransferred_Jx4a65c_get_915e3 rfl rfl rfl (by decide +kernel) ⟨Nat.le_of_ble_eq_true rfl, Nat.le_of_ble_eq_true rfl⟩) (q_pV hK (hC.hlst (k := h) (j := 0) h0 (by decide)) rfl ⟨(hC.hlst (k := h) (j := 0) h0 (by decide)), (hC.harr (k := h) (j := 0) h0 (by decide) (by show 0 < S 19 h; omega))⟩) rfl hl.1 rfl (Nat.le_of_ble_eq_true rfl) ⟨Nat.zero_le _, Nat.zero_le _⟩ dX1_isTransferred_18 ?_
    refine q_cast (C := RX0) (T := TX0) (N := 4) hx hb hown (hts (.classLink RX1 47 RX0) (by decide +kernel)) hK (hC.event (k := h) (j := ((u : Nat) : Int)) h0 ⟨by omega, by omega⟩) rfl dX1_isTransferred_21 ?_
    refine lv_astore (lv' := [(4, .ref (ad 10 h ((u : Nat) : Int))), (0, .ref (ad 7 h 0)), (1, .int (iI a)), (2, .int (iI b)), (3, .int (iI ((u : Nat) : Int)))]) hx hb dX1_isTransferred_24 hl (by decide) rfl (fun ls hl => ?_)
    refine q_aload hx hb dX1_isTransferred_26 (lv_at hl 0 rfl) ?_
    refine q_get (v := .int (iI (S 21 (16 * h + ((u : Nat) : Int))))) (C := RX0) (T := TX0) (N := 4) hx hb hts inX0 hown hK (hC.event (k := h) (j := ((u : Nat) : Int)) h0 ⟨by omega, by omega⟩) rfl 1 (by decide) (hts (.fieldLink RX1 69 "TavernBench$Event" "kind" "I") (by decide +kernel)) (fun _ h9 => h9) rfl dX1_isTransferred_28 ?_
    refine lv_iconst (v := iI 3) hx hb dX1_isTransferred_31 rfl ?_
    refine q_icmp_ne (tgt := 50) hx hb dX1_isTransferred_32 (by decide) (hI.R (by decide)) (by decide) (fun c32 => ?_) (fun c32 => ?_)
    · refine lv_iinc (v := iI (((u : Nat) : Int) + 1)) (lv' := [(3, .int (iI (((u : Nat) : Int) + 1))), (4, .ref (ad 10 h ((u : Nat) : Int))), (0, .ref (ad 7 h 0)), (1, .int (iI a)), (2, .int (iI b))]) hx hb dX1_isTransferred_50 hl (k := 4) rfl (iI_add _ _) (by decide) rfl (fun ls hl => ?_)
      refine lv_goto (tgt := 2) hx hb dX1_isTransferred_53 (by decide) ?_
      have e0 : ((((u + 1) : Nat) : Int) : Int) = ((u : Nat) : Int) + 1 := by
        omega
      exact ihu (u + 1) ⟨by omega, fun z => (exN_s.mp z).elim hu2.2 (fun y => by first | exact absurd y.1 (by assumption) | exact absurd y.2 (by assumption))⟩ (by show (S 19 h).toNat - (u + 1) < (S 19 h).toNat - u; omega) ls (lv_sub hl [2, 3, 4, 0] (by simp only [e0]; rfl))
    · refine q_aload hx hb dX1_isTransferred_35 (lv_at hl 0 rfl) ?_
      refine q_get (v := .int (iI (S 20 (16 * h + ((u : Nat) : Int))))) (C := RX0) (T := TX0) (N := 4) hx hb hts inX0 hown hK (hC.event (k := h) (j := ((u : Nat) : Int)) h0 ⟨by omega, by omega⟩) rfl 0 (by decide) (hts (.fieldLink RX1 87 "TavernBench$Event" "day" "I") (by decide +kernel)) (fun _ h9 => h9) rfl dX1_isTransferred_37 ?_
      refine lv_iload_n hx hb dX1_isTransferred_40 rfl (lv_at hl 2 rfl) ?_
      refine lv_iload_n hx hb dX1_isTransferred_41 rfl (lv_at hl 3 rfl) ?_
      refine q_cNi (As := [.int (iI (S 20 (16 * h + ((u : Nat) : Int)))), .int (iI a), .int (iI b)]) (rest := []) ⟨hx, hb, hml, hown, hts⟩ (c5_isIn l g (S 20 (16 * h + ((u : Nat) : Int))) a b (hI.R (by decide)) r_a r_b ) ⟨va_cnB 3 hts gX1_isTransferred_X5_isIn_n97 rfl rfl rfl hK.2 (hts (.initialized RX5) (by decide +kernel)) (by decide +kernel) ⟨Nat.le_of_ble_eq_true rfl, Nat.le_of_ble_eq_true rfl⟩, hts (.static yX5_isIn) (by decide +kernel), trivial⟩ (q_pS hK trivial) rfl hl.1 rfl (Nat.le_of_ble_eq_true rfl) ⟨Nat.zero_le _, Nat.zero_le _⟩ dX1_isTransferred_42 ?_
      refine q_ifb_eq (tgt := 50) hx hb dX1_isTransferred_45 (by decide) (fun c45 => ?_) (fun c45 => ?_)
      · refine lv_iinc (v := iI (((u : Nat) : Int) + 1)) (lv' := [(3, .int (iI (((u : Nat) : Int) + 1))), (4, .ref (ad 10 h ((u : Nat) : Int))), (0, .ref (ad 7 h 0)), (1, .int (iI a)), (2, .int (iI b))]) hx hb dX1_isTransferred_50 hl (k := 4) rfl (iI_add _ _) (by decide) rfl (fun ls hl => ?_)
        refine lv_goto (tgt := 2) hx hb dX1_isTransferred_53 (by decide) ?_
        have e0 : ((((u + 1) : Nat) : Int) : Int) = ((u : Nat) : Int) + 1 := by
          omega
        exact ihu (u + 1) ⟨by omega, fun z => (exN_s.mp z).elim hu2.2 (fun y => by first | exact absurd y.1 (by assumption) | exact absurd y.2 (by assumption))⟩ (by show (S 19 h).toNat - (u + 1) < (S 19 h).toNat - u; omega) ls (lv_sub hl [2, 3, 4, 0] (by simp only [e0]; rfl))
      · refine lv_iconst (v := iI 1) hx hb dX1_isTransferred_48 rfl ?_
        refine q_retz hx hb hr hlocks (Or.inr rfl) dX1_isTransferred_49 ?_
        exact bI_e1 ⟨u, by omega, by assumption, by assumption⟩

set_option maxHeartbeats 4000000 in
set_option maxRecDepth 100000 in
theorem c1_lapsedFrom (l : Launch) (g : GG) (eA : Nat) (P : Nat → Prop) (ad : AD) (S : St) (hI : Inv S) (hQ : InvC S) (h : Int) (h0 : 0 ≤ h ∧ h < S 14 0) (asked : Int) (r_asked : R32 asked) (hd : isD asked) : MetI l yX1_lapsedFrom wsX1_lapsedFrom ({ frames := 4, cells := 0, slots := 0, locals := 88 }) g [.ref (ad 7 h 0), .int (iI asked)] (fun H => RepC g eA P ad S H) (sLap S h asked 1000000 (S 19 h).toNat) := by
  refine Met.ofW (cc := cX1_lapsedFrom) (maxL := 7) (ret := (some .int)) (by decide) rfl ?_
  intro p e s m args below meth c s₁ B hml hv
  obtain ⟨rfl, hC, hK⟩ := hv
  have hx := B.exec
  have hb := B.bytes
  have hr := B.returns
  have hts := atoms_spec (ws := wsX1_lapsedFrom) B.pre
  have hown : s.vm.findClass RX1 = some m.cls := findClass_of_methodNamed B.named
  have hlocks := B.notSynchronized
  have inX0 : ∀ w ∈ wsX00, w ∈ wsX1_lapsedFrom := by decide +kernel
  have inX1 : ∀ w ∈ wsX10, w ∈ wsX1_lapsedFrom := by decide +kernel
  have hl := lv_entry ([.ref (ad 7 h 0), .int (iI asked)]) (n := 7) (Nat.le_of_ble_eq_true rfl)
  rw [lg_entry_eq]
  generalize (lg_sl ([.ref (ad 7 h 0), .int (iI asked)]) ++ List.replicate (7 - (lg_sl ([.ref (ad 7 h 0), .int (iI asked)])).length) Slot.unset).toArray = ls at hl ⊢
  have hl : lv_has ls 7 [(0, .ref (ad 7 h 0)), (1, .int (iI asked))] := hl
  have hH := hI.house h0.1 h0.2
  have hN := hI.nums
  refine q_ldc hx hb 1000000 hown (hts (.constant RX1 86 (1000000)) (by decide +kernel)) (by decide +kernel) dX1_lapsedFrom_0 ?_
  refine lv_istore_n (lv' := [(2, .int (iI 1000000)), (0, .ref (ad 7 h 0)), (1, .int (iI asked))]) hx hb dX1_lapsedFrom_2 rfl hl (by decide) rfl (fun ls hl => ?_)
  refine lv_iconst (v := iI 0) hx hb dX1_lapsedFrom_3 rfl ?_
  refine lv_istore_n (lv' := [(3, .int (iI 0)), (2, .int (iI 1000000)), (0, .ref (ad 7 h 0)), (1, .int (iI asked))]) hx hb dX1_lapsedFrom_4 rfl hl (by decide) rfl (fun ls hl => ?_)
  have e0 : (sLap S h asked 1000000 0 : Int) = 1000000 := by
    rfl
  have e1 : (((0 : Nat) : Int) : Int) = 0 := by
    rfl
  refine q_loopN (nL := 7) ((S 19 h).toNat) (fun (u : Nat) => [(0, .ref (ad 7 h 0)), (1, .int (iI asked)), (2, .int (iI (sLap S h asked 1000000 u))), (3, .int (iI ((u : Nat) : Int)))]) (lv_sub hl [2, 3, 1, 0] (by simp only [e0, e1]; rfl)) (fun u hu ihu ls hl => ?_)
  have hl : lv_has ls 7 [(0, .ref (ad 7 h 0)), (1, .int (iI asked)), (2, .int (iI (sLap S h asked 1000000 u))), (3, .int (iI ((u : Nat) : Int)))] := hl
  have hE := hI.lapB h0 (a := 1000000) (day := asked) (by decide) (n := u) (by omega)
  refine lv_iload_n hx hb dX1_lapsedFrom_5 rfl (lv_at hl 3 rfl) ?_
  refine lv_aload_n hx hb dX1_lapsedFrom_6 rfl (lv_at hl 0 rfl) ?_
  refine q_get (v := .ref (ad 8 h 0)) (C := RX1) (T := TX1) (N := 7) hx hb hts inX1 hown hK (hC.house (k := h) h0) rfl 4 (by decide) (hts (.fieldLink RX1 27 "TavernBench$House" "events" "Ljava/util/ArrayList;") (by decide +kernel)) (fun _ h9 => h9) rfl dX1_lapsedFrom_7 ?_
  refine q_cVi (As := []) (rest := [.int (iI ((u : Nat) : Int))]) ⟨hx, hb, hml, hown, hts⟩ (c0_size l g eA (ad 8 h 0) (ad 9 h 0) (S 19 h)) (cwV 0 hts gX1_lapsedFrom_Jx4a65c_size_8abf5 rfl rfl rfl (by decide +kernel) ⟨Nat.le_of_ble_eq_true rfl, Nat.le_of_ble_eq_true rfl⟩) (q_pV hK (hC.hlst (k := h) (j := 0) h0 (by decide)) rfl (hC.hlst (k := h) (j := 0) h0 (by decide))) rfl hl.1 rfl (Nat.le_of_ble_eq_true rfl) ⟨Nat.zero_le _, Nat.zero_le _⟩ dX1_lapsedFrom_10 ?_
  refine q_icmp_ge (tgt := 97) hx hb dX1_lapsedFrom_13 (by decide) (by omega) (hI.R (by decide)) (fun c13 => ?_) (fun c13 => ?_)
  · refine lv_iload_n hx hb dX1_lapsedFrom_97 rfl (lv_at hl 2 rfl) ?_
    refine q_reti hx hb hr hlocks dX1_lapsedFrom_98 ?_
    have e : u = (S 19 h).toNat := by omega
    rw [e]
  · refine lv_aload_n hx hb dX1_lapsedFrom_16 rfl (lv_at hl 0 rfl) ?_
    refine q_get (v := .ref (ad 8 h 0)) (C := RX1) (T := TX1) (N := 7) hx hb hts inX1 hown hK (hC.house (k := h) h0) rfl 4 (by decide) (hts (.fieldLink RX1 27 "TavernBench$House" "events" "Ljava/util/ArrayList;") (by decide +kernel)) (fun _ h9 => h9) rfl dX1_lapsedFrom_17 ?_
    refine lv_iload_n hx hb dX1_lapsedFrom_20 rfl (lv_at hl 3 rfl) ?_
    refine q_cVr (As := [.int (iI ((u : Nat) : Int))]) (rest := []) ⟨hx, hb, hml, hown, hts⟩ (c0_get l g eA (ad 8 h 0) (ad 9 h 0) (S 19 h) (fun q => ad 10 h q) ((u : Nat) : Int) (by omega) ⟨by omega, by omega⟩ (by omega)) (cwV 1 hts gX1_lapsedFrom_Jx4a65c_get_915e3 rfl rfl rfl (by decide +kernel) ⟨Nat.le_of_ble_eq_true rfl, Nat.le_of_ble_eq_true rfl⟩) (q_pV hK (hC.hlst (k := h) (j := 0) h0 (by decide)) rfl ⟨(hC.hlst (k := h) (j := 0) h0 (by decide)), (hC.harr (k := h) (j := 0) h0 (by decide) (by show 0 < S 19 h; omega))⟩) rfl hl.1 rfl (Nat.le_of_ble_eq_true rfl) ⟨Nat.zero_le _, Nat.zero_le _⟩ dX1_lapsedFrom_21 ?_
    refine q_cast (C := RX0) (T := TX0) (N := 4) hx hb hown (hts (.classLink RX1 47 RX0) (by decide +kernel)) hK (hC.event (k := h) (j := ((u : Nat) : Int)) h0 ⟨by omega, by omega⟩) rfl dX1_lapsedFrom_24 ?_
    refine lv_astore (lv' := [(4, .ref (ad 10 h ((u : Nat) : Int))), (0, .ref (ad 7 h 0)), (1, .int (iI asked)), (2, .int (iI (sLap S h asked 1000000 u))), (3, .int (iI ((u : Nat) : Int)))]) hx hb dX1_lapsedFrom_27 hl (by decide) rfl (fun ls hl => ?_)
    have hv := hI.ev h0.1 h0.2 (j := ((u : Nat) : Int)) (by omega) (by omega)
    have hq := hQ h h0.1 h0.2 u (by omega)
    have htr : exN (qTr S h (S 20 (16 * h + ((u : Nat) : Int))) (S 20 (16 * h + ((u : Nat) : Int)) + 28 - 1)) (S 19 h).toNat ↔ exN (sTrans S h u) (S 19 h).toNat := by
      constructor
      · rintro ⟨q, q1, q2, q3, q4⟩; exact ⟨q, q1, q2, q3, by omega⟩
      · rintro ⟨q, q1, q2, q3, q4⟩; exact ⟨q, q1, q2, q3, by omega⟩
    refine q_aload hx hb dX1_lapsedFrom_29 (lv_at hl 0 rfl) ?_
    refine q_get (v := .int (iI (S 20 (16 * h + ((u : Nat) : Int))))) (C := RX0) (T := TX0) (N := 4) hx hb hts inX0 hown hK (hC.event (k := h) (j := ((u : Nat) : Int)) h0 ⟨by omega, by omega⟩) rfl 0 (by decide) (hts (.fieldLink RX1 87 "TavernBench$Event" "day" "I") (by decide +kernel)) (fun _ h9 => h9) rfl dX1_lapsedFrom_31 ?_
    refine q_bipush hx hb 28 dX1_lapsedFrom_34 (by decide +kernel) ?_
    refine q_iadd hx hb dX1_lapsedFrom_36 ?_
    refine lv_istore (lv' := [(5, .int (iI ((S 20 (16 * h + ((u : Nat) : Int))) + 28))), (4, .ref (ad 10 h ((u : Nat) : Int))), (0, .ref (ad 7 h 0)), (1, .int (iI asked)), (2, .int (iI (sLap S h asked 1000000 u))), (3, .int (iI ((u : Nat) : Int)))]) hx hb dX1_lapsedFrom_37 hl (by decide) rfl (fun ls hl => ?_)
    refine q_aload hx hb dX1_lapsedFrom_39 (lv_at hl 1 rfl) ?_
    refine q_get (v := .int (iI (S 21 (16 * h + ((u : Nat) : Int))))) (C := RX0) (T := TX0) (N := 4) hx hb hts inX0 hown hK (hC.event (k := h) (j := ((u : Nat) : Int)) h0 ⟨by omega, by omega⟩) rfl 1 (by decide) (hts (.fieldLink RX1 69 "TavernBench$Event" "kind" "I") (by decide +kernel)) (fun _ h9 => h9) rfl dX1_lapsedFrom_41 ?_
    refine lv_iconst (v := iI 2) hx hb dX1_lapsedFrom_44 rfl ?_
    refine q_icmp_ne (tgt := 58) hx hb dX1_lapsedFrom_45 (by decide) (hI.R (by decide)) (by decide) (fun c45 => ?_) (fun c45 => ?_)
    · refine lv_iconst (v := iI 0) hx hb dX1_lapsedFrom_58 rfl ?_
      refine lv_istore (lv' := [(6, .int (iI 0)), (5, .int (iI ((S 20 (16 * h + ((u : Nat) : Int))) + 28))), (4, .ref (ad 10 h ((u : Nat) : Int))), (0, .ref (ad 7 h 0)), (1, .int (iI asked)), (2, .int (iI (sLap S h asked 1000000 u))), (3, .int (iI ((u : Nat) : Int)))]) hx hb dX1_lapsedFrom_59 hl (by decide) rfl (fun ls hl => ?_)
      refine lv_iload hx hb dX1_lapsedFrom_61 (lv_at hl 0 rfl) ?_
      refine q_if_eq (tgt := 91) hx hb dX1_lapsedFrom_63 (by decide) (by decide) (fun c63 => ?_) (fun c63 => ?_)
      rotate_left
      · exact absurd c63 (by decide)
      refine lv_iinc (v := iI (((u : Nat) : Int) + 1)) (lv' := [(3, .int (iI (((u : Nat) : Int) + 1))), (6, .int (iI 0)), (5, .int (iI ((S 20 (16 * h + ((u : Nat) : Int))) + 28))), (4, .ref (ad 10 h ((u : Nat) : Int))), (0, .ref (ad 7 h 0)), (1, .int (iI asked)), (2, .int (iI (sLap S h asked 1000000 u)))]) hx hb dX1_lapsedFrom_91 hl (k := 6) rfl (iI_add _ _) (by decide) rfl (fun ls hl => ?_)
      refine lv_goto (tgt := 5) hx hb dX1_lapsedFrom_94 (by decide) ?_
      have e0 : (sLap S h asked 1000000 (u + 1) : Int) = sLap S h asked 1000000 u := by
        first | exact sLap_t ⟨⟨by assumption, fun z => c85 (htr.mpr z)⟩, by assumption⟩ (by assumption) | exact sLap_f (fun z => absurd z.1.1.1 (by assumption)) | exact sLap_f (fun z => absurd z.1.2 (Int.not_le.mpr (by assumption))) | exact sLap_f (fun z => absurd z.2 (Int.not_lt.mpr (by assumption))) | exact sLap_f (fun z => z.1.1.2 (htr.mp (by assumption)))
      have e1 : ((((u + 1) : Nat) : Int) : Int) = ((u : Nat) : Int) + 1 := by
        omega
      exact ihu (by omega) ls (lv_sub hl [4, 5, 6, 0] (by simp only [e0, e1]; rfl))
    · refine lv_iload hx hb dX1_lapsedFrom_48 (lv_at hl 0 rfl) ?_
      refine lv_iload_n hx hb dX1_lapsedFrom_50 rfl (lv_at hl 3 rfl) ?_
      refine q_icmp_gt (tgt := 58) hx hb dX1_lapsedFrom_51 (by decide) (by omega) r_asked (fun c51 => ?_) (fun c51 => ?_)
      · refine lv_iconst (v := iI 0) hx hb dX1_lapsedFrom_58 rfl ?_
        refine lv_istore (lv' := [(6, .int (iI 0)), (5, .int (iI ((S 20 (16 * h + ((u : Nat) : Int))) + 28))), (4, .ref (ad 10 h ((u : Nat) : Int))), (0, .ref (ad 7 h 0)), (1, .int (iI asked)), (2, .int (iI (sLap S h asked 1000000 u))), (3, .int (iI ((u : Nat) : Int)))]) hx hb dX1_lapsedFrom_59 hl (by decide) rfl (fun ls hl => ?_)
        refine lv_iload hx hb dX1_lapsedFrom_61 (lv_at hl 0 rfl) ?_
        refine q_if_eq (tgt := 91) hx hb dX1_lapsedFrom_63 (by decide) (by decide) (fun c63_1 => ?_) (fun c63_1 => ?_)
        rotate_left
        · exact absurd c63_1 (by decide)
        refine lv_iinc (v := iI (((u : Nat) : Int) + 1)) (lv' := [(3, .int (iI (((u : Nat) : Int) + 1))), (6, .int (iI 0)), (5, .int (iI ((S 20 (16 * h + ((u : Nat) : Int))) + 28))), (4, .ref (ad 10 h ((u : Nat) : Int))), (0, .ref (ad 7 h 0)), (1, .int (iI asked)), (2, .int (iI (sLap S h asked 1000000 u)))]) hx hb dX1_lapsedFrom_91 hl (k := 6) rfl (iI_add _ _) (by decide) rfl (fun ls hl => ?_)
        refine lv_goto (tgt := 5) hx hb dX1_lapsedFrom_94 (by decide) ?_
        have e0 : (sLap S h asked 1000000 (u + 1) : Int) = sLap S h asked 1000000 u := by
          first | exact sLap_t ⟨⟨by assumption, fun z => c85 (htr.mpr z)⟩, by assumption⟩ (by assumption) | exact sLap_f (fun z => absurd z.1.1.1 (by assumption)) | exact sLap_f (fun z => absurd z.1.2 (Int.not_le.mpr (by assumption))) | exact sLap_f (fun z => absurd z.2 (Int.not_lt.mpr (by assumption))) | exact sLap_f (fun z => z.1.1.2 (htr.mp (by assumption)))
        have e1 : ((((u + 1) : Nat) : Int) : Int) = ((u : Nat) : Int) + 1 := by
          omega
        exact ihu (by omega) ls (lv_sub hl [4, 5, 6, 0] (by simp only [e0, e1]; rfl))
      · refine lv_iconst (v := iI 1) hx hb dX1_lapsedFrom_54 rfl ?_
        refine lv_goto (tgt := 59) hx hb dX1_lapsedFrom_55 (by decide) ?_
        refine lv_istore (lv' := [(6, .int (iI 1)), (5, .int (iI ((S 20 (16 * h + ((u : Nat) : Int))) + 28))), (4, .ref (ad 10 h ((u : Nat) : Int))), (0, .ref (ad 7 h 0)), (1, .int (iI asked)), (2, .int (iI (sLap S h asked 1000000 u))), (3, .int (iI ((u : Nat) : Int)))]) hx hb dX1_lapsedFrom_59 hl (by decide) rfl (fun ls hl => ?_)
        refine lv_iload hx hb dX1_lapsedFrom_61 (lv_at hl 0 rfl) ?_
        refine q_if_eq (tgt := 91) hx hb dX1_lapsedFrom_63 (by decide) (by decide) (fun c63_2 => ?_) (fun c63_2 => ?_)
        · exact absurd c63_2 (by decide)
        refine lv_iload hx hb dX1_lapsedFrom_66 (lv_at hl 1 rfl) ?_
        refine lv_iload_n hx hb dX1_lapsedFrom_68 rfl (lv_at hl 5 rfl) ?_
        refine q_icmp_ge (tgt := 91) hx hb dX1_lapsedFrom_69 (by decide) (by omega) (by omega) (fun c69 => ?_) (fun c69 => ?_)
        · refine lv_iinc (v := iI (((u : Nat) : Int) + 1)) (lv' := [(3, .int (iI (((u : Nat) : Int) + 1))), (6, .int (iI 1)), (5, .int (iI ((S 20 (16 * h + ((u : Nat) : Int))) + 28))), (4, .ref (ad 10 h ((u : Nat) : Int))), (0, .ref (ad 7 h 0)), (1, .int (iI asked)), (2, .int (iI (sLap S h asked 1000000 u)))]) hx hb dX1_lapsedFrom_91 hl (k := 6) rfl (iI_add _ _) (by decide) rfl (fun ls hl => ?_)
          refine lv_goto (tgt := 5) hx hb dX1_lapsedFrom_94 (by decide) ?_
          have e0 : (sLap S h asked 1000000 (u + 1) : Int) = sLap S h asked 1000000 u := by
            first | exact sLap_t ⟨⟨by assumption, fun z => c85 (htr.mpr z)⟩, by assumption⟩ (by assumption) | exact sLap_f (fun z => absurd z.1.1.1 (by assumption)) | exact sLap_f (fun z => absurd z.1.2 (Int.not_le.mpr (by assumption))) | exact sLap_f (fun z => absurd z.2 (Int.not_lt.mpr (by assumption))) | exact sLap_f (fun z => z.1.1.2 (htr.mp (by assumption)))
          have e1 : ((((u + 1) : Nat) : Int) : Int) = ((u : Nat) : Int) + 1 := by
            omega
          exact ihu (by omega) ls (lv_sub hl [4, 5, 6, 0] (by simp only [e0, e1]; rfl))
        · refine lv_aload_n hx hb dX1_lapsedFrom_72 rfl (lv_at hl 3 rfl) ?_
          refine q_aload hx hb dX1_lapsedFrom_73 (lv_at hl 2 rfl) ?_
          refine q_get (v := .int (iI (S 20 (16 * h + ((u : Nat) : Int))))) (C := RX0) (T := TX0) (N := 4) hx hb hts inX0 hown hK (hC.event (k := h) (j := ((u : Nat) : Int)) h0 ⟨by omega, by omega⟩) rfl 0 (by decide) (hts (.fieldLink RX1 87 "TavernBench$Event" "day" "I") (by decide +kernel)) (fun _ h9 => h9) rfl dX1_lapsedFrom_75 ?_
          refine lv_iload hx hb dX1_lapsedFrom_78 (lv_at hl 1 rfl) ?_
          refine lv_iconst (v := iI 1) hx hb dX1_lapsedFrom_80 rfl ?_
          refine q_isub hx hb dX1_lapsedFrom_81 ?_
          refine q_cVi (As := [.int (iI (S 20 (16 * h + ((u : Nat) : Int)))), .int (iI (((S 20 (16 * h + ((u : Nat) : Int))) + 28) - 1))]) (rest := []) ⟨hx, hb, hml, hown, hts⟩ (c1_isTransferred l g eA P ad S hI hQ h h0 (S 20 (16 * h + ((u : Nat) : Int))) (((S 20 (16 * h + ((u : Nat) : Int))) + 28) - 1) (hI.R (by decide)) (by omega) ) (cwV 2 hts gX1_lapsedFrom_X1_isTransferred rfl rfl rfl (by decide +kernel) ⟨Nat.le_of_ble_eq_true rfl, Nat.le_of_ble_eq_true rfl⟩) (q_pV hK (hC.house (k := h) h0) rfl hC) rfl hl.1 rfl (Nat.le_of_ble_eq_true rfl) ⟨Nat.zero_le _, Nat.zero_le _⟩ dX1_lapsedFrom_82 ?_
          refine q_ifb_ne (tgt := 91) hx hb dX1_lapsedFrom_85 (by decide) (fun c85 => ?_) (fun c85 => ?_)
          · refine lv_iinc (v := iI (((u : Nat) : Int) + 1)) (lv' := [(3, .int (iI (((u : Nat) : Int) + 1))), (6, .int (iI 1)), (5, .int (iI ((S 20 (16 * h + ((u : Nat) : Int))) + 28))), (4, .ref (ad 10 h ((u : Nat) : Int))), (0, .ref (ad 7 h 0)), (1, .int (iI asked)), (2, .int (iI (sLap S h asked 1000000 u)))]) hx hb dX1_lapsedFrom_91 hl (k := 6) rfl (iI_add _ _) (by decide) rfl (fun ls hl => ?_)
            refine lv_goto (tgt := 5) hx hb dX1_lapsedFrom_94 (by decide) ?_
            have e0 : (sLap S h asked 1000000 (u + 1) : Int) = sLap S h asked 1000000 u := by
              first | exact sLap_t ⟨⟨by assumption, fun z => c85 (htr.mpr z)⟩, by assumption⟩ (by assumption) | exact sLap_f (fun z => absurd z.1.1.1 (by assumption)) | exact sLap_f (fun z => absurd z.1.2 (Int.not_le.mpr (by assumption))) | exact sLap_f (fun z => absurd z.2 (Int.not_lt.mpr (by assumption))) | exact sLap_f (fun z => z.1.1.2 (htr.mp (by assumption)))
            have e1 : ((((u + 1) : Nat) : Int) : Int) = ((u : Nat) : Int) + 1 := by
              omega
            exact ihu (by omega) ls (lv_sub hl [4, 5, 6, 0] (by simp only [e0, e1]; rfl))
          · refine lv_iload hx hb dX1_lapsedFrom_88 (lv_at hl 1 rfl) ?_
            refine lv_istore_n (lv' := [(2, .int (iI ((S 20 (16 * h + ((u : Nat) : Int))) + 28))), (6, .int (iI 1)), (5, .int (iI ((S 20 (16 * h + ((u : Nat) : Int))) + 28))), (4, .ref (ad 10 h ((u : Nat) : Int))), (0, .ref (ad 7 h 0)), (1, .int (iI asked)), (3, .int (iI ((u : Nat) : Int)))]) hx hb dX1_lapsedFrom_90 rfl hl (by decide) rfl (fun ls hl => ?_)
            refine lv_iinc (v := iI (((u : Nat) : Int) + 1)) (lv' := [(3, .int (iI (((u : Nat) : Int) + 1))), (2, .int (iI ((S 20 (16 * h + ((u : Nat) : Int))) + 28))), (6, .int (iI 1)), (5, .int (iI ((S 20 (16 * h + ((u : Nat) : Int))) + 28))), (4, .ref (ad 10 h ((u : Nat) : Int))), (0, .ref (ad 7 h 0)), (1, .int (iI asked))]) hx hb dX1_lapsedFrom_91 hl (k := 6) rfl (iI_add _ _) (by decide) rfl (fun ls hl => ?_)
            refine lv_goto (tgt := 5) hx hb dX1_lapsedFrom_94 (by decide) ?_
            have e0 : (sLap S h asked 1000000 (u + 1) : Int) = (S 20 (16 * h + ((u : Nat) : Int))) + 28 := by
              first | exact sLap_t ⟨⟨by assumption, fun z => c85 (htr.mpr z)⟩, by assumption⟩ (by assumption) | exact sLap_f (fun z => absurd z.1.1.1 (by assumption)) | exact sLap_f (fun z => absurd z.1.2 (Int.not_le.mpr (by assumption))) | exact sLap_f (fun z => absurd z.2 (Int.not_lt.mpr (by assumption))) | exact sLap_f (fun z => z.1.1.2 (htr.mp (by assumption)))
            have e1 : ((((u + 1) : Nat) : Int) : Int) = ((u : Nat) : Int) + 1 := by
              omega
            exact ihu (by omega) ls (lv_sub hl [5, 6, 1, 0] (by simp only [e0, e1]; rfl))

set_option maxHeartbeats 4000000 in
set_option maxRecDepth 100000 in
theorem c1_surplusFrom (l : Launch) (g : GG) (eA : Nat) (P : Nat → Prop) (ad : AD) (S : St) (hI : Inv S) (hQ : InvC S) (h : Int) (h0 : 0 ≤ h ∧ h < S 14 0) (asked : Int) (r_asked : R32 asked)  : MetI l yX1_surplusFrom wsX1_surplusFrom ({ frames := 3, cells := 0, slots := 0, locals := 64 }) g [.ref (ad 7 h 0), .int (iI asked)] (fun H => RepC g eA P ad S H) (sSur S h asked 1000000 (S 19 h).toNat) := by
  refine Met.ofW (cc := cX1_surplusFrom) (maxL := 5) (ret := (some .int)) (by decide) rfl ?_
  intro p e s m args below meth c s₁ B hml hv
  obtain ⟨rfl, hC, hK⟩ := hv
  have hx := B.exec
  have hb := B.bytes
  have hr := B.returns
  have hts := atoms_spec (ws := wsX1_surplusFrom) B.pre
  have hown : s.vm.findClass RX1 = some m.cls := findClass_of_methodNamed B.named
  have hlocks := B.notSynchronized
  have inX0 : ∀ w ∈ wsX00, w ∈ wsX1_surplusFrom := by decide +kernel
  have inX1 : ∀ w ∈ wsX10, w ∈ wsX1_surplusFrom := by decide +kernel
  have hl := lv_entry ([.ref (ad 7 h 0), .int (iI asked)]) (n := 5) (Nat.le_of_ble_eq_true rfl)
  rw [lg_entry_eq]
  generalize (lg_sl ([.ref (ad 7 h 0), .int (iI asked)]) ++ List.replicate (5 - (lg_sl ([.ref (ad 7 h 0), .int (iI asked)])).length) Slot.unset).toArray = ls at hl ⊢
  have hl : lv_has ls 5 [(0, .ref (ad 7 h 0)), (1, .int (iI asked))] := hl
  have hH := hI.house h0.1 h0.2
  have hN := hI.nums
  refine q_ldc hx hb 1000000 hown (hts (.constant RX1 86 (1000000)) (by decide +kernel)) (by decide +kernel) dX1_surplusFrom_0 ?_
  refine lv_istore_n (lv' := [(2, .int (iI 1000000)), (0, .ref (ad 7 h 0)), (1, .int (iI asked))]) hx hb dX1_surplusFrom_2 rfl hl (by decide) rfl (fun ls hl => ?_)
  refine lv_iconst (v := iI 0) hx hb dX1_surplusFrom_3 rfl ?_
  refine lv_istore_n (lv' := [(3, .int (iI 0)), (2, .int (iI 1000000)), (0, .ref (ad 7 h 0)), (1, .int (iI asked))]) hx hb dX1_surplusFrom_4 rfl hl (by decide) rfl (fun ls hl => ?_)
  have e0 : (sSur S h asked 1000000 0 : Int) = 1000000 := by
    rfl
  have e1 : (((0 : Nat) : Int) : Int) = 0 := by
    rfl
  refine q_loopN (nL := 5) ((S 19 h).toNat) (fun (u : Nat) => [(0, .ref (ad 7 h 0)), (1, .int (iI asked)), (2, .int (iI (sSur S h asked 1000000 u))), (3, .int (iI ((u : Nat) : Int)))]) (lv_sub hl [2, 3, 1, 0] (by simp only [e0, e1]; rfl)) (fun u hu ihu ls hl => ?_)
  have hl : lv_has ls 5 [(0, .ref (ad 7 h 0)), (1, .int (iI asked)), (2, .int (iI (sSur S h asked 1000000 u))), (3, .int (iI ((u : Nat) : Int)))] := hl
  have hE := hI.surB h0 (a := 1000000) (day := asked) (by decide) (n := u) (by omega)
  refine lv_iload_n hx hb dX1_surplusFrom_5 rfl (lv_at hl 3 rfl) ?_
  refine lv_aload_n hx hb dX1_surplusFrom_6 rfl (lv_at hl 0 rfl) ?_
  refine q_get (v := .ref (ad 8 h 0)) (C := RX1) (T := TX1) (N := 7) hx hb hts inX1 hown hK (hC.house (k := h) h0) rfl 4 (by decide) (hts (.fieldLink RX1 27 "TavernBench$House" "events" "Ljava/util/ArrayList;") (by decide +kernel)) (fun _ h9 => h9) rfl dX1_surplusFrom_7 ?_
  refine q_cVi (As := []) (rest := [.int (iI ((u : Nat) : Int))]) ⟨hx, hb, hml, hown, hts⟩ (c0_size l g eA (ad 8 h 0) (ad 9 h 0) (S 19 h)) (cwV 0 hts gX1_surplusFrom_Jx4a65c_size_8abf5 rfl rfl rfl (by decide +kernel) ⟨Nat.le_of_ble_eq_true rfl, Nat.le_of_ble_eq_true rfl⟩) (q_pV hK (hC.hlst (k := h) (j := 0) h0 (by decide)) rfl (hC.hlst (k := h) (j := 0) h0 (by decide))) rfl hl.1 rfl (Nat.le_of_ble_eq_true rfl) ⟨Nat.zero_le _, Nat.zero_le _⟩ dX1_surplusFrom_10 ?_
  refine q_icmp_ge (tgt := 64) hx hb dX1_surplusFrom_13 (by decide) (by omega) (hI.R (by decide)) (fun c13 => ?_) (fun c13 => ?_)
  · refine lv_iload_n hx hb dX1_surplusFrom_64 rfl (lv_at hl 2 rfl) ?_
    refine q_reti hx hb hr hlocks dX1_surplusFrom_65 ?_
    have e : u = (S 19 h).toNat := by omega
    rw [e]
  · refine lv_aload_n hx hb dX1_surplusFrom_16 rfl (lv_at hl 0 rfl) ?_
    refine q_get (v := .ref (ad 8 h 0)) (C := RX1) (T := TX1) (N := 7) hx hb hts inX1 hown hK (hC.house (k := h) h0) rfl 4 (by decide) (hts (.fieldLink RX1 27 "TavernBench$House" "events" "Ljava/util/ArrayList;") (by decide +kernel)) (fun _ h9 => h9) rfl dX1_surplusFrom_17 ?_
    refine lv_iload_n hx hb dX1_surplusFrom_20 rfl (lv_at hl 3 rfl) ?_
    refine q_cVr (As := [.int (iI ((u : Nat) : Int))]) (rest := []) ⟨hx, hb, hml, hown, hts⟩ (c0_get l g eA (ad 8 h 0) (ad 9 h 0) (S 19 h) (fun q => ad 10 h q) ((u : Nat) : Int) (by omega) ⟨by omega, by omega⟩ (by omega)) (cwV 1 hts gX1_surplusFrom_Jx4a65c_get_915e3 rfl rfl rfl (by decide +kernel) ⟨Nat.le_of_ble_eq_true rfl, Nat.le_of_ble_eq_true rfl⟩) (q_pV hK (hC.hlst (k := h) (j := 0) h0 (by decide)) rfl ⟨(hC.hlst (k := h) (j := 0) h0 (by decide)), (hC.harr (k := h) (j := 0) h0 (by decide) (by show 0 < S 19 h; omega))⟩) rfl hl.1 rfl (Nat.le_of_ble_eq_true rfl) ⟨Nat.zero_le _, Nat.zero_le _⟩ dX1_surplusFrom_21 ?_
    refine q_cast (C := RX0) (T := TX0) (N := 4) hx hb hown (hts (.classLink RX1 47 RX0) (by decide +kernel)) hK (hC.event (k := h) (j := ((u : Nat) : Int)) h0 ⟨by omega, by omega⟩) rfl dX1_surplusFrom_24 ?_
    refine lv_astore (lv' := [(4, .ref (ad 10 h ((u : Nat) : Int))), (0, .ref (ad 7 h 0)), (1, .int (iI asked)), (2, .int (iI (sSur S h asked 1000000 u))), (3, .int (iI ((u : Nat) : Int)))]) hx hb dX1_surplusFrom_27 hl (by decide) rfl (fun ls hl => ?_)
    have hv := hI.ev h0.1 h0.2 (j := ((u : Nat) : Int)) (by omega) (by omega)
    have hq := hQ h h0.1 h0.2 u (by omega)
    refine q_aload hx hb dX1_surplusFrom_29 (lv_at hl 0 rfl) ?_
    refine q_get (v := .int (iI (S 21 (16 * h + ((u : Nat) : Int))))) (C := RX0) (T := TX0) (N := 4) hx hb hts inX0 hown hK (hC.event (k := h) (j := ((u : Nat) : Int)) h0 ⟨by omega, by omega⟩) rfl 1 (by decide) (hts (.fieldLink RX1 69 "TavernBench$Event" "kind" "I") (by decide +kernel)) (fun _ h9 => h9) rfl dX1_surplusFrom_31 ?_
    refine q_bipush hx hb 6 dX1_surplusFrom_34 (by decide +kernel) ?_
    refine q_icmp_ne (tgt := 58) hx hb dX1_surplusFrom_36 (by decide) (hI.R (by decide)) (by decide) (fun c36 => ?_) (fun c36 => ?_)
    · refine lv_iinc (v := iI (((u : Nat) : Int) + 1)) (lv' := [(3, .int (iI (((u : Nat) : Int) + 1))), (4, .ref (ad 10 h ((u : Nat) : Int))), (0, .ref (ad 7 h 0)), (1, .int (iI asked)), (2, .int (iI (sSur S h asked 1000000 u)))]) hx hb dX1_surplusFrom_58 hl (k := 4) rfl (iI_add _ _) (by decide) rfl (fun ls hl => ?_)
      refine lv_goto (tgt := 5) hx hb dX1_surplusFrom_61 (by decide) ?_
      have e0 : (sSur S h asked 1000000 (u + 1) : Int) = sSur S h asked 1000000 u := by
        first | exact mn_f (fun z => absurd z.1.1 (by assumption)) | exact mn_f (fun z => absurd z.1.2 (Int.not_le.mpr (by assumption))) | exact sur_min (by assumption) (by assumption)
      have e1 : ((((u + 1) : Nat) : Int) : Int) = ((u : Nat) : Int) + 1 := by
        omega
      exact ihu (by omega) ls (lv_sub hl [2, 3, 4, 0] (by simp only [e0, e1]; rfl))
    · refine q_aload hx hb dX1_surplusFrom_39 (lv_at hl 0 rfl) ?_
      refine q_get (v := .int (iI (S 20 (16 * h + ((u : Nat) : Int))))) (C := RX0) (T := TX0) (N := 4) hx hb hts inX0 hown hK (hC.event (k := h) (j := ((u : Nat) : Int)) h0 ⟨by omega, by omega⟩) rfl 0 (by decide) (hts (.fieldLink RX1 87 "TavernBench$Event" "day" "I") (by decide +kernel)) (fun _ h9 => h9) rfl dX1_surplusFrom_41 ?_
      refine lv_iload_n hx hb dX1_surplusFrom_44 rfl (lv_at hl 2 rfl) ?_
      refine q_icmp_gt (tgt := 58) hx hb dX1_surplusFrom_45 (by decide) (hI.R (by decide)) r_asked (fun c45 => ?_) (fun c45 => ?_)
      · refine lv_iinc (v := iI (((u : Nat) : Int) + 1)) (lv' := [(3, .int (iI (((u : Nat) : Int) + 1))), (4, .ref (ad 10 h ((u : Nat) : Int))), (0, .ref (ad 7 h 0)), (1, .int (iI asked)), (2, .int (iI (sSur S h asked 1000000 u)))]) hx hb dX1_surplusFrom_58 hl (k := 4) rfl (iI_add _ _) (by decide) rfl (fun ls hl => ?_)
        refine lv_goto (tgt := 5) hx hb dX1_surplusFrom_61 (by decide) ?_
        have e0 : (sSur S h asked 1000000 (u + 1) : Int) = sSur S h asked 1000000 u := by
          first | exact mn_f (fun z => absurd z.1.1 (by assumption)) | exact mn_f (fun z => absurd z.1.2 (Int.not_le.mpr (by assumption))) | exact sur_min (by assumption) (by assumption)
        have e1 : ((((u + 1) : Nat) : Int) : Int) = ((u : Nat) : Int) + 1 := by
          omega
        exact ihu (by omega) ls (lv_sub hl [2, 3, 4, 0] (by simp only [e0, e1]; rfl))
      · refine lv_iload_n hx hb dX1_surplusFrom_48 rfl (lv_at hl 3 rfl) ?_
        refine q_aload hx hb dX1_surplusFrom_49 (lv_at hl 0 rfl) ?_
        refine q_get (v := .int (iI (S 20 (16 * h + ((u : Nat) : Int))))) (C := RX0) (T := TX0) (N := 4) hx hb hts inX0 hown hK (hC.event (k := h) (j := ((u : Nat) : Int)) h0 ⟨by omega, by omega⟩) rfl 0 (by decide) (hts (.fieldLink RX1 87 "TavernBench$Event" "day" "I") (by decide +kernel)) (fun _ h9 => h9) rfl dX1_surplusFrom_51 ?_
        refine q_mmin hx hb (hml.trans hl.1.symm) hown (hts (.methodLink RX1 55 Lib.Math.min.name) (by decide +kernel)) (hts (.static Lib.Math.min.name) (by decide +kernel)) (hts (.initialized "java/lang/Math") (by decide +kernel)) (hts (.code Lib.Math.min.name Lib.Math.min.code 2 (some .int)) (by decide +kernel)) (Nat.le_of_ble_eq_true rfl) (Nat.le_of_ble_eq_true rfl) (Nat.zero_le _) (Nat.zero_le _) dX1_surplusFrom_54 (by omega) (hI.R (by decide)) ?_
        refine lv_istore_n (lv' := [(2, .int (iI (min (sSur S h asked 1000000 u) (S 20 (16 * h + ((u : Nat) : Int)))))), (4, .ref (ad 10 h ((u : Nat) : Int))), (0, .ref (ad 7 h 0)), (1, .int (iI asked)), (3, .int (iI ((u : Nat) : Int)))]) hx hb dX1_surplusFrom_57 rfl hl (by decide) rfl (fun ls hl => ?_)
        refine lv_iinc (v := iI (((u : Nat) : Int) + 1)) (lv' := [(3, .int (iI (((u : Nat) : Int) + 1))), (2, .int (iI (min (sSur S h asked 1000000 u) (S 20 (16 * h + ((u : Nat) : Int)))))), (4, .ref (ad 10 h ((u : Nat) : Int))), (0, .ref (ad 7 h 0)), (1, .int (iI asked))]) hx hb dX1_surplusFrom_58 hl (k := 4) rfl (iI_add _ _) (by decide) rfl (fun ls hl => ?_)
        refine lv_goto (tgt := 5) hx hb dX1_surplusFrom_61 (by decide) ?_
        have e0 : (sSur S h asked 1000000 (u + 1) : Int) = min (sSur S h asked 1000000 u) (S 20 (16 * h + ((u : Nat) : Int))) := by
          first | exact mn_f (fun z => absurd z.1.1 (by assumption)) | exact mn_f (fun z => absurd z.1.2 (Int.not_le.mpr (by assumption))) | exact sur_min (by assumption) (by assumption)
        have e1 : ((((u + 1) : Nat) : Int) : Int) = ((u : Nat) : Int) + 1 := by
          omega
        exact ihu (by omega) ls (lv_sub hl [3, 4, 1, 0] (by simp only [e0, e1]; rfl))
