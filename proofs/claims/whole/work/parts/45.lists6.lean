set_option maxHeartbeats 4000000 in
set_option maxRecDepth 100000 in
theorem cj_add30 (l : Launch) (g : GG) (x : XX) (la ba sz ci v : Nat) (r : vw_C) (el : Int → Nat) (hc : vwCl[ci]? = some r) (hci : ci ∈ [1, 2, 3, 4, 5]) (hb0 : x.2.2 ≤ la) (hb2 : x.2.2 ≤ sz) (hvl : v ≠ la)  : MetXV l yJx4a65c_add_72be8 wsJx4a65c_add_72be8 ({ frames := 5, cells := 1, slots := 49, locals := 147 }) g x [.ref la, .ref v, .ref x.2.1, .int (iI 0)] (fun H => H.size = sz ∧ va_at g.1 vwCl (la, .inr (0, [.int (iI (0 + 1)), .ref x.2.1, .int (iI (0))])) H ∧ (∃ vs, va_at g.1 vwCl (v, .inr (ci, vs)) H)) (fun H => va_at g.1 vwCl (la, .inr (0, [.int (iI (0 + 1)), .ref sz, .int (iI (0 + 1))])) H ∧ va_at g.1 vwCl (sz, arrE g (0 + 1) (fun q => if q = 0 then v else el q)) H) (fun q => q = la ∨ sz ≤ q) 1 49 := by
  refine Met.ofW (cc := cJx4a65c_add_72be8) (maxL := 4) (ret := none) (by decide) rfl ?_
  intro p e s m args below meth c s₁ B hml hv
  obtain ⟨rfl, hP, hK, hX⟩ := hv
  have hx := B.exec
  have hb := B.bytes
  have hr := B.returns
  have hts := atoms_spec (ws := wsJx4a65c_add_72be8) B.pre
  have hown : s.vm.findClass RJx4a65c = some m.cls := findClass_of_methodNamed B.named
  have hlocks := B.notSynchronized
  have inJx4a65c : ∀ w ∈ wsJx4a65c0, w ∈ wsJx4a65c_add_72be8 := by decide +kernel
  have hl := lv_entry ([.ref la, .ref v, .ref x.2.1, .int (iI 0)]) (n := 4) (Nat.le_of_ble_eq_true rfl)
  rw [lg_entry_eq]
  generalize (lg_sl ([.ref la, .ref v, .ref x.2.1, .int (iI 0)]) ++ List.replicate (4 - (lg_sl ([.ref la, .ref v, .ref x.2.1, .int (iI 0)])).length) Slot.unset).toArray = ls at hl ⊢
  have hl : lv_has ls 4 [(0, .ref la), (1, .ref v), (2, .ref x.2.1), (3, .int (iI 0))] := hl
  have hS : va_S (fun q => q = la ∨ sz ≤ q) s.heap s.heap [] := va_S.rf
  have hAb : ∀ q, (fun q => q = la ∨ sz ≤ q) q → x.2.2 ≤ q := fun q h => h.elim (fun z => by rw [z]; exact hb0) (fun z => Nat.le_trans hb2 z)
  obtain ⟨hsz0, hL, vs0, hV⟩ := hP
  have hls : la < sz := by have h9 : la < s.heap.size := va_at.lt2 hL; omega
  have hvs : v < s.heap.size := va_at.lt2 hV
  refine lv_iload_n hx hb dJx4a65c_add_72be8_0 rfl (lv_at hl 3 rfl) ?_
  refine lv_aload_n hx hb dJx4a65c_add_72be8_1 rfl (lv_at hl 2 rfl) ?_
  refine q_lenA hx hb hX hS hAb dJx4a65c_add_72be8_2 ?_
  refine q_icmp_ne (tgt := 11) hx hb dJx4a65c_add_72be8_3 (by decide) (by decide) (by decide) (fun c3 => ?_) (fun c3 => ?_)
  · exact absurd rfl c3
  · refine lv_aload_n hx hb dJx4a65c_add_72be8_6 rfl (lv_at hl 0 rfl) ?_
    refine q_xVr (As := []) (rest := []) ⟨hx, hb, hml, hown, hts⟩ (cj_grow0 l g x la sz hb0 hb2) (cwV 0 hts gJx4a65c_add_72be8_Jx4a65c_grow_d5877 rfl rfl rfl (by decide +kernel) ⟨Nat.le_of_ble_eq_true rfl, Nat.le_of_ble_eq_true rfl⟩) (q_pVX hK hX hS hAb hL rfl ⟨hsz0, hL⟩) rfl hl.1 rfl (Nat.le_of_ble_eq_true rfl) ⟨Nat.le_of_ble_eq_true rfl, Nat.le_of_ble_eq_true rfl⟩ dJx4a65c_add_72be8_7 hS (fun _ h => h) (fun H locs hM hz1 hk1 hS => ?_)
    obtain ⟨hL, hN⟩ := hM
    have hV := hV.kept (hk1 _ hvs (fun h => h.elim (fun z => hvl z) (fun z => by have z2 : sz ≤ v := z; omega)))
    refine lv_astore_n (lv' := [(2, .ref sz), (0, .ref la), (1, .ref v), (3, .int (iI 0))]) hx hb dJx4a65c_add_72be8_10 rfl hl (by decide) rfl (fun ls hl => ?_)
    refine lv_aload_n hx hb dJx4a65c_add_72be8_11 rfl (lv_at hl 0 rfl) ?_
    refine lv_iload_n hx hb dJx4a65c_add_72be8_12 rfl (lv_at hl 3 rfl) ?_
    refine lv_aload_n hx hb dJx4a65c_add_72be8_13 rfl (lv_at hl 2 rfl) ?_
    refine q_astq hx hb hK hN (by omega) hV hc (hX.2.1 ci r hc hci) ⟨by omega, by omega⟩ dJx4a65c_add_72be8_14 (fun H i1 hN hz1 ho1 => ?_)
    have hS := hS.put (k := i1) hz1 ho1 (Or.inr (Nat.le_refl _))
    have hL := hL.kept (ho1 _ (by omega))
    refine lv_aload_n hx hb dJx4a65c_add_72be8_15 rfl (lv_at hl 1 rfl) ?_
    refine lv_iload_n hx hb dJx4a65c_add_72be8_16 rfl (lv_at hl 3 rfl) ?_
    refine lv_iconst (v := iI 1) hx hb dJx4a65c_add_72be8_17 rfl ?_
    refine q_iadd hx hb dJx4a65c_add_72be8_18 ?_
    refine q_put (ty := .int) (v := .int (iI (0 + 1))) hx hb hts inJx4a65c tyJx4a65c tyJx4a65c_ok nmJx4a65c hown hK hL rfl 2 (by decide) (hts (.fieldLink RJx4a65c 48 "java/util/ArrayList" "size" "I") (by decide +kernel)) (fun _ h9 => h9) rfl (by decide +kernel) rfl rfl (Nat.le_of_ble_eq_true rfl) dJx4a65c_add_72be8_19 (fun H i1 hL hz1 ho1 => ?_)
    have hL : va_at g.1 vwCl (la, .inr (0, [.int (iI (0 + 1)), .ref sz, .int (iI (0 + 1))])) H := hL
    have hN := hN.kept (ho1 _ (by omega))
    have hS := hS.put (k := i1) hz1 ho1 (Or.inl rfl)
    refine W.widen (k := 1) (n := 49) (by omega) (by omega) ?_
    refine q_mretv hx hb hr hlocks hS dJx4a65c_add_72be8_22 ?_
    · exact ⟨hL, by rw [arr_add0 el v] at hN; exact hN⟩

set_option maxHeartbeats 4000000 in
set_option maxRecDepth 100000 in
theorem cj_add3m (l : Launch) (g : GG) (x : XX) (la ba sz ci v : Nat) (r : vw_C) (n : Int) (el : Int → Nat) (hc : vwCl[ci]? = some r) (hci : ci ∈ [1, 2, 3, 4, 5]) (hb0 : x.2.2 ≤ la) (hb1 : x.2.2 ≤ ba) (hb2 : x.2.2 ≤ sz) (hlb : la ≠ ba) (hvl : v ≠ la) (hvb : v ≠ ba) (hel : ∀ i : Int, 0 ≤ i → i < n → el i ≠ la) (hn : 0 < n ∧ n ≤ 48) (hcn : n < (capN n : Int))  : MetXV l yJx4a65c_add_72be8 wsJx4a65c_add_72be8 ({ frames := 0, cells := 1, slots := 49, locals := 0 }) g x [.ref la, .ref v, .ref ba, .int (iI n)] (fun H => H.size = sz ∧ va_at g.1 vwCl (la, .inr (0, [.int (iI (n + 1)), .ref ba, .int (iI (n))])) H ∧ va_at g.1 vwCl (ba, arrE g n el) H ∧ (∀ i : Int, 0 ≤ i → i < n → ∃ vs, va_at g.1 vwCl (el i, .inr (ci, vs)) H) ∧ (∃ vs, va_at g.1 vwCl (v, .inr (ci, vs)) H)) (fun H => va_at g.1 vwCl (la, .inr (0, [.int (iI (n + 1)), .ref ba, .int (iI (n + 1))])) H ∧ va_at g.1 vwCl (ba, arrE g (n + 1) (fun q => if q = n then v else el q)) H) (fun q => q = la ∨ q = ba ∨ sz ≤ q) 1 49 := by
  refine Met.ofW (cc := cJx4a65c_add_72be8) (maxL := 4) (ret := none) (by decide) rfl ?_
  intro p e s m args below meth c s₁ B hml hv
  obtain ⟨rfl, hP, hK, hX⟩ := hv
  have hx := B.exec
  have hb := B.bytes
  have hr := B.returns
  have hts := atoms_spec (ws := wsJx4a65c_add_72be8) B.pre
  have hown : s.vm.findClass RJx4a65c = some m.cls := findClass_of_methodNamed B.named
  have hlocks := B.notSynchronized
  have inJx4a65c : ∀ w ∈ wsJx4a65c0, w ∈ wsJx4a65c_add_72be8 := by decide +kernel
  have hl := lv_entry ([.ref la, .ref v, .ref ba, .int (iI n)]) (n := 4) (Nat.le_of_ble_eq_true rfl)
  rw [lg_entry_eq]
  generalize (lg_sl ([.ref la, .ref v, .ref ba, .int (iI n)]) ++ List.replicate (4 - (lg_sl ([.ref la, .ref v, .ref ba, .int (iI n)])).length) Slot.unset).toArray = ls at hl ⊢
  have hl : lv_has ls 4 [(0, .ref la), (1, .ref v), (2, .ref ba), (3, .int (iI n))] := hl
  have hS : va_S (fun q => q = la ∨ q = ba ∨ sz ≤ q) s.heap s.heap [] := va_S.rf
  have hAb : ∀ q, (fun q => q = la ∨ q = ba ∨ sz ≤ q) q → x.2.2 ≤ q := fun q h => h.elim (fun z => by rw [z]; exact hb0) (fun h => h.elim (fun z => by rw [z]; exact hb1) (fun z => Nat.le_trans hb2 z))
  obtain ⟨hsz0, hL, hA, hE, vs0, hV⟩ := hP
  have hls : la < sz := by have h9 : la < s.heap.size := va_at.lt2 hL; omega
  have hvs : v < s.heap.size := va_at.lt2 hV
  have hcl1 := capN_le (n := n) (by omega) (by omega)
  refine lv_iload_n hx hb dJx4a65c_add_72be8_0 rfl (lv_at hl 3 rfl) ?_
  refine lv_aload_n hx hb dJx4a65c_add_72be8_1 rfl (lv_at hl 2 rfl) ?_
  refine q_alen (t0 := 3) (z := (capN n : Int)) hx hb hK hA rfl rfl dJx4a65c_add_72be8_2 ?_
  refine q_icmp_ne (tgt := 11) hx hb dJx4a65c_add_72be8_3 (by decide) (by omega) (by omega) (fun c3 => ?_) (fun c3 => ?_)
  · refine lv_aload_n hx hb dJx4a65c_add_72be8_11 rfl (lv_at hl 2 rfl) ?_
    refine lv_iload_n hx hb dJx4a65c_add_72be8_12 rfl (lv_at hl 3 rfl) ?_
    refine lv_aload_n hx hb dJx4a65c_add_72be8_13 rfl (lv_at hl 1 rfl) ?_
    refine q_astq hx hb hK hA (by omega) hV hc (hX.2.1 ci r hc hci) ⟨by omega, by omega⟩ dJx4a65c_add_72be8_14 (fun H i1 hN hz1 ho1 => ?_)
    have hS := hS.put (k := i1) hz1 ho1 (Or.inr (Or.inl rfl))
    have hL := hL.kept (ho1 _ (by omega))
    refine lv_aload_n hx hb dJx4a65c_add_72be8_15 rfl (lv_at hl 0 rfl) ?_
    refine lv_iload_n hx hb dJx4a65c_add_72be8_16 rfl (lv_at hl 3 rfl) ?_
    refine lv_iconst (v := iI 1) hx hb dJx4a65c_add_72be8_17 rfl ?_
    refine q_iadd hx hb dJx4a65c_add_72be8_18 ?_
    refine q_put (ty := .int) (v := .int (iI (n + 1))) hx hb hts inJx4a65c tyJx4a65c tyJx4a65c_ok nmJx4a65c hown hK hL rfl 2 (by decide) (hts (.fieldLink RJx4a65c 48 "java/util/ArrayList" "size" "I") (by decide +kernel)) (fun _ h9 => h9) rfl (by decide +kernel) rfl rfl (Nat.le_of_ble_eq_true rfl) dJx4a65c_add_72be8_19 (fun H i1 hL hz1 ho1 => ?_)
    have hL : va_at g.1 vwCl (la, .inr (0, [.int (iI (n + 1)), .ref ba, .int (iI (n + 1))])) H := hL
    have hN := hN.kept (ho1 _ (by omega))
    have hS := hS.put (k := i1) hz1 ho1 (Or.inl rfl)
    refine W.widen (k := 1) (n := 49) (by omega) (by omega) ?_
    refine q_mretv hx hb hr hlocks hS dJx4a65c_add_72be8_22 ?_
    · exact ⟨hL, by rw [arr_addM (by omega) el v, ← capN_mid hn.1 hcn] at hN; exact hN⟩
  · exact absurd c3 (by omega)

set_option maxHeartbeats 4000000 in
set_option maxRecDepth 100000 in
theorem cj_add3f (l : Launch) (g : GG) (x : XX) (la ba sz ci v : Nat) (r : vw_C) (n : Int) (el : Int → Nat) (hc : vwCl[ci]? = some r) (hci : ci ∈ [1, 2, 3, 4, 5]) (hb0 : x.2.2 ≤ la) (hb1 : x.2.2 ≤ ba) (hb2 : x.2.2 ≤ sz) (hlb : la ≠ ba) (hvl : v ≠ la) (hvb : v ≠ ba) (hel : ∀ i : Int, 0 ≤ i → i < n → el i ≠ la) (hn : 0 < n ∧ n ≤ 48) (hcn : (capN n : Int) = n)  : MetXV l yJx4a65c_add_72be8 wsJx4a65c_add_72be8 ({ frames := 5, cells := 1, slots := 49, locals := 147 }) g x [.ref la, .ref v, .ref ba, .int (iI n)] (fun H => H.size = sz ∧ va_at g.1 vwCl (la, .inr (0, [.int (iI (n + 1)), .ref ba, .int (iI (n))])) H ∧ va_at g.1 vwCl (ba, arrE g n el) H ∧ (∀ i : Int, 0 ≤ i → i < n → ∃ vs, va_at g.1 vwCl (el i, .inr (ci, vs)) H) ∧ (∃ vs, va_at g.1 vwCl (v, .inr (ci, vs)) H)) (fun H => va_at g.1 vwCl (la, .inr (0, [.int (iI (n + 1)), .ref sz, .int (iI (n + 1))])) H ∧ va_at g.1 vwCl (sz, arrE g (n + 1) (fun q => if q = n then v else el q)) H) (fun q => q = la ∨ q = ba ∨ sz ≤ q) 1 49 := by
  refine Met.ofW (cc := cJx4a65c_add_72be8) (maxL := 4) (ret := none) (by decide) rfl ?_
  intro p e s m args below meth c s₁ B hml hv
  obtain ⟨rfl, hP, hK, hX⟩ := hv
  have hx := B.exec
  have hb := B.bytes
  have hr := B.returns
  have hts := atoms_spec (ws := wsJx4a65c_add_72be8) B.pre
  have hown : s.vm.findClass RJx4a65c = some m.cls := findClass_of_methodNamed B.named
  have hlocks := B.notSynchronized
  have inJx4a65c : ∀ w ∈ wsJx4a65c0, w ∈ wsJx4a65c_add_72be8 := by decide +kernel
  have hl := lv_entry ([.ref la, .ref v, .ref ba, .int (iI n)]) (n := 4) (Nat.le_of_ble_eq_true rfl)
  rw [lg_entry_eq]
  generalize (lg_sl ([.ref la, .ref v, .ref ba, .int (iI n)]) ++ List.replicate (4 - (lg_sl ([.ref la, .ref v, .ref ba, .int (iI n)])).length) Slot.unset).toArray = ls at hl ⊢
  have hl : lv_has ls 4 [(0, .ref la), (1, .ref v), (2, .ref ba), (3, .int (iI n))] := hl
  have hS : va_S (fun q => q = la ∨ q = ba ∨ sz ≤ q) s.heap s.heap [] := va_S.rf
  have hAb : ∀ q, (fun q => q = la ∨ q = ba ∨ sz ≤ q) q → x.2.2 ≤ q := fun q h => h.elim (fun z => by rw [z]; exact hb0) (fun h => h.elim (fun z => by rw [z]; exact hb1) (fun z => Nat.le_trans hb2 z))
  obtain ⟨hsz0, hL, hA, hE, vs0, hV⟩ := hP
  have hls : la < sz := by have h9 : la < s.heap.size := va_at.lt2 hL; omega
  have hvs : v < s.heap.size := va_at.lt2 hV
  have hcl1 := capN_le (n := n) (by omega) (by omega)
  have hcl3 := capN_le (n := n + 1) (by omega) (by omega)
  refine lv_iload_n hx hb dJx4a65c_add_72be8_0 rfl (lv_at hl 3 rfl) ?_
  refine lv_aload_n hx hb dJx4a65c_add_72be8_1 rfl (lv_at hl 2 rfl) ?_
  refine q_alen (t0 := 3) (z := n) hx hb hK hA rfl hcn dJx4a65c_add_72be8_2 ?_
  refine q_icmp_ne (tgt := 11) hx hb dJx4a65c_add_72be8_3 (by decide) (by omega) (by omega) (fun c3 => ?_) (fun c3 => ?_)
  · exact absurd rfl c3
  · refine lv_aload_n hx hb dJx4a65c_add_72be8_6 rfl (lv_at hl 0 rfl) ?_
    refine q_xVr (As := []) (rest := []) ⟨hx, hb, hml, hown, hts⟩ (cj_growN l g x la ba sz ci r n el hc hci hb0 hb1 hb2 hlb hn hcn) (cwV 0 hts gJx4a65c_add_72be8_Jx4a65c_grow_d5877 rfl rfl rfl (by decide +kernel) ⟨Nat.le_of_ble_eq_true rfl, Nat.le_of_ble_eq_true rfl⟩) (q_pVX hK hX hS hAb hL rfl ⟨hsz0, hL, hA, hE⟩) rfl hl.1 rfl (Nat.le_of_ble_eq_true rfl) ⟨Nat.le_of_ble_eq_true rfl, Nat.le_of_ble_eq_true rfl⟩ dJx4a65c_add_72be8_7 hS (fun _ h => h) (fun H locs hM hz1 hk1 hS => ?_)
    obtain ⟨hL, hN⟩ := hM
    have hV := hV.kept (hk1 _ hvs (fun h => h.elim (fun z => hvl z) (fun h => h.elim (fun z => hvb z) (fun z => by have z2 : sz ≤ v := z; omega))))
    refine lv_astore_n (lv' := [(2, .ref sz), (0, .ref la), (1, .ref v), (3, .int (iI n))]) hx hb dJx4a65c_add_72be8_10 rfl hl (by decide) rfl (fun ls hl => ?_)
    refine lv_aload_n hx hb dJx4a65c_add_72be8_11 rfl (lv_at hl 0 rfl) ?_
    refine lv_iload_n hx hb dJx4a65c_add_72be8_12 rfl (lv_at hl 3 rfl) ?_
    refine lv_aload_n hx hb dJx4a65c_add_72be8_13 rfl (lv_at hl 2 rfl) ?_
    refine q_astq hx hb hK hN (by omega) hV hc (hX.2.1 ci r hc hci) ⟨by omega, by omega⟩ dJx4a65c_add_72be8_14 (fun H i1 hN hz1 ho1 => ?_)
    have hS := hS.put (k := i1) hz1 ho1 (Or.inr (Or.inr (Nat.le_refl _)))
    have hL := hL.kept (ho1 _ (by omega))
    refine lv_aload_n hx hb dJx4a65c_add_72be8_15 rfl (lv_at hl 1 rfl) ?_
    refine lv_iload_n hx hb dJx4a65c_add_72be8_16 rfl (lv_at hl 3 rfl) ?_
    refine lv_iconst (v := iI 1) hx hb dJx4a65c_add_72be8_17 rfl ?_
    refine q_iadd hx hb dJx4a65c_add_72be8_18 ?_
    refine q_put (ty := .int) (v := .int (iI (n + 1))) hx hb hts inJx4a65c tyJx4a65c tyJx4a65c_ok nmJx4a65c hown hK hL rfl 2 (by decide) (hts (.fieldLink RJx4a65c 48 "java/util/ArrayList" "size" "I") (by decide +kernel)) (fun _ h9 => h9) rfl (by decide +kernel) rfl rfl (Nat.le_of_ble_eq_true rfl) dJx4a65c_add_72be8_19 (fun H i1 hL hz1 ho1 => ?_)
    have hL : va_at g.1 vwCl (la, .inr (0, [.int (iI (n + 1)), .ref sz, .int (iI (n + 1))])) H := hL
    have hN := hN.kept (ho1 _ (by omega))
    have hS := hS.put (k := i1) hz1 ho1 (Or.inl rfl)
    refine W.widen (k := 1) (n := 49) (by omega) (by omega) ?_
    refine q_mretv hx hb hr hlocks hS dJx4a65c_add_72be8_22 ?_
    · exact ⟨hL, by rw [arr_addF (by omega) hcn el v] at hN; exact hN⟩

set_option maxHeartbeats 4000000 in
set_option maxRecDepth 100000 in
theorem cj_addE0 (l : Launch) (g : GG) (x : XX) (la ba sz ci v : Nat) (r : vw_C) (el : Int → Nat) (hc : vwCl[ci]? = some r) (hci : ci ∈ [1, 2, 3, 4, 5]) (hb0 : x.2.2 ≤ la) (hb1 : (0 : Int) < 0 → x.2.2 ≤ ba) (hb2 : x.2.2 ≤ sz) (hlb : (0 : Int) < 0 → la ≠ ba) (hvl : v ≠ la) (hvb : (0 : Int) < 0 → v ≠ ba) (hel : ∀ i : Int, 0 ≤ i → i < (0 : Int) → el i ≠ la)  : MetXM l yJx4a65c_add_9ea2d wsJx4a65c_add_9ea2d ({ frames := 6, cells := 1, slots := 49, locals := 170 }) g x [.ref la, .ref v] (fun H => ADP g x la ba sz v ci 0 el H) 1 (fun H => ADQ g x la ba sz v 0 el H) (fun q => ADA la ba sz 0 q) 1 49 := by
  refine Met.ofW (cc := cJx4a65c_add_9ea2d) (maxL := 2) (ret := (some .boolean)) (by decide) rfl ?_
  intro p e s m args below meth c s₁ B hml hv
  obtain ⟨rfl, hP, hK, hX⟩ := hv
  have hx := B.exec
  have hb := B.bytes
  have hr := B.returns
  have hts := atoms_spec (ws := wsJx4a65c_add_9ea2d) B.pre
  have hown : s.vm.findClass RJx4a65c = some m.cls := findClass_of_methodNamed B.named
  have hlocks := B.notSynchronized
  have inJx4a65c : ∀ w ∈ wsJx4a65c0, w ∈ wsJx4a65c_add_9ea2d := by decide +kernel
  have hl := lv_entry ([.ref la, .ref v]) (n := 2) (Nat.le_of_ble_eq_true rfl)
  rw [lg_entry_eq]
  generalize (lg_sl ([.ref la, .ref v]) ++ List.replicate (2 - (lg_sl ([.ref la, .ref v])).length) Slot.unset).toArray = ls at hl ⊢
  have hl : lv_has ls 2 [(0, .ref la), (1, .ref v)] := hl
  have hS : va_S (fun q => ADA la ba sz 0 q) s.heap s.heap [] := va_S.rf
  have hAb : ∀ q, (fun q => ADA la ba sz 0 q) q → x.2.2 ≤ q := fun q h => h.elim (fun z => by rw [z]; exact hb0) (fun h => h.elim (fun z => by rw [z.2]; exact hb1 z.1) (fun z => Nat.le_trans hb2 z))
  obtain ⟨hsz0, hL, hA, hE, vs0, hV⟩ := hP
  have hls : la < sz := by have h9 : la < s.heap.size := va_at.lt2 hL; omega
  have hL : va_at g.1 vwCl (la, .inr (0, [.int (iI (0)), .ref x.2.1, .int (iI (0))])) s.heap := hL
  refine lv_aload_n hx hb dJx4a65c_add_9ea2d_0 rfl (lv_at hl 0 rfl) ?_
  refine lv_dup hx hb dJx4a65c_add_9ea2d_1 rfl ?_
  refine q_get (v := .int (iI 0)) (C := RJx4a65c) (T := TJx4a65c) (N := 3) hx hb hts inJx4a65c hown hK hL rfl 0 (by decide) (hts (.fieldLink RJx4a65c 63 "java/util/ArrayList" "modCount" "I") (by decide +kernel)) (fun z h9 => u_same (hts (.sameField "java/util/ArrayList" "java/util/AbstractList" "modCount" "I") (by decide +kernel)) z h9) rfl dJx4a65c_add_9ea2d_2 ?_
  refine lv_iconst (v := iI 1) hx hb dJx4a65c_add_9ea2d_5 rfl ?_
  refine q_iadd hx hb dJx4a65c_add_9ea2d_6 ?_
  refine q_put (ty := .int) (v := .int (iI (0 + 1))) hx hb hts inJx4a65c tyJx4a65c tyJx4a65c_ok nmJx4a65c hown hK hL rfl 0 (by decide) (hts (.fieldLink RJx4a65c 63 "java/util/ArrayList" "modCount" "I") (by decide +kernel)) (fun z h9 => u_same (hts (.sameField "java/util/ArrayList" "java/util/AbstractList" "modCount" "I") (by decide +kernel)) z h9) rfl (by decide +kernel) rfl rfl (Nat.le_of_ble_eq_true rfl) dJx4a65c_add_9ea2d_7 (fun H i1 hL hz1 ho1 => ?_)
  have hL : va_at g.1 vwCl (la, .inr (0, [.int (iI (0 + 1)), .ref x.2.1, .int (iI 0)])) H := hL
  have hV := hV.kept (ho1 _ hvl)
  have hS := hS.put (k := i1) hz1 ho1 (Or.inl rfl)
  refine lv_aload_n hx hb dJx4a65c_add_9ea2d_10 rfl (lv_at hl 0 rfl) ?_
  refine lv_aload_n hx hb dJx4a65c_add_9ea2d_11 rfl (lv_at hl 1 rfl) ?_
  refine lv_aload_n hx hb dJx4a65c_add_9ea2d_12 rfl (lv_at hl 0 rfl) ?_
  refine q_get (v := .ref x.2.1) (C := RJx4a65c) (T := TJx4a65c) (N := 3) hx hb hts inJx4a65c hown hK hL rfl 1 (by decide) (hts (.fieldLink RJx4a65c 9 "java/util/ArrayList" "elementData" "[Ljava/lang/Object;") (by decide +kernel)) (fun _ h9 => h9) rfl dJx4a65c_add_9ea2d_13 ?_
  refine lv_aload_n hx hb dJx4a65c_add_9ea2d_16 rfl (lv_at hl 0 rfl) ?_
  refine q_get (v := .int (iI 0)) (C := RJx4a65c) (T := TJx4a65c) (N := 3) hx hb hts inJx4a65c hown hK hL rfl 2 (by decide) (hts (.fieldLink RJx4a65c 48 "java/util/ArrayList" "size" "I") (by decide +kernel)) (fun _ h9 => h9) rfl dJx4a65c_add_9ea2d_17 ?_
  refine q_xVv (As := [.ref v, .ref x.2.1, .int (iI 0)]) (rest := []) ⟨hx, hb, hml, hown, hts⟩ (cj_add30 l g x la ba sz ci v r el hc hci hb0 hb2 hvl) (cwV 3 hts gJx4a65c_add_9ea2d_Jx4a65c_add_72be8 rfl rfl rfl (by decide +kernel) ⟨Nat.le_of_ble_eq_true rfl, Nat.le_of_ble_eq_true rfl⟩) (q_pVX hK hX hS hAb hL rfl ⟨hz1.trans hsz0, hL, _, hV⟩) rfl hl.1 rfl (Nat.le_of_ble_eq_true rfl) ⟨Nat.le_of_ble_eq_true rfl, Nat.le_of_ble_eq_true rfl⟩ dJx4a65c_add_9ea2d_20 hS (fun q h => h.elim Or.inl (fun z => Or.inr (Or.inr z))) (fun H locs hM hz1 hk1 hS => ?_)
  refine lv_iconst (v := iI 1) hx hb dJx4a65c_add_9ea2d_23 rfl ?_
  refine W.widen (k := 1) (n := 49) (by omega) (by omega) ?_
  refine q_mretz hx hb hr hlocks hS (Or.inr rfl) dJx4a65c_add_9ea2d_24 ?_ ?_
  · rfl
  · have e0 : nbA ba sz 0 = sz := if_neg (by omega)
    show va_at _ _ (la, lstE x.2.1 (nbA ba sz 0) (0 + 1)) H ∧ va_at _ _ (nbA ba sz 0, _) H
    rw [e0]
    exact hM

set_option maxHeartbeats 4000000 in
set_option maxRecDepth 100000 in
theorem cj_addEm (l : Launch) (g : GG) (x : XX) (la ba sz ci v : Nat) (r : vw_C) (n : Int) (el : Int → Nat) (hc : vwCl[ci]? = some r) (hci : ci ∈ [1, 2, 3, 4, 5]) (hb0 : x.2.2 ≤ la) (hb1 : 0 < n → x.2.2 ≤ ba) (hb2 : x.2.2 ≤ sz) (hlb : 0 < n → la ≠ ba) (hvl : v ≠ la) (hvb : 0 < n → v ≠ ba) (hel : ∀ i : Int, 0 ≤ i → i < n → el i ≠ la) (hn : 0 < n ∧ n ≤ 48) (hcn : n < (capN n : Int))  : MetXM l yJx4a65c_add_9ea2d wsJx4a65c_add_9ea2d ({ frames := 6, cells := 1, slots := 49, locals := 170 }) g x [.ref la, .ref v] (fun H => ADP g x la ba sz v ci n el H) 1 (fun H => ADQ g x la ba sz v n el H) (fun q => ADA la ba sz n q) 1 49 := by
  refine Met.ofW (cc := cJx4a65c_add_9ea2d) (maxL := 2) (ret := (some .boolean)) (by decide) rfl ?_
  intro p e s m args below meth c s₁ B hml hv
  obtain ⟨rfl, hP, hK, hX⟩ := hv
  have hx := B.exec
  have hb := B.bytes
  have hr := B.returns
  have hts := atoms_spec (ws := wsJx4a65c_add_9ea2d) B.pre
  have hown : s.vm.findClass RJx4a65c = some m.cls := findClass_of_methodNamed B.named
  have hlocks := B.notSynchronized
  have inJx4a65c : ∀ w ∈ wsJx4a65c0, w ∈ wsJx4a65c_add_9ea2d := by decide +kernel
  have hl := lv_entry ([.ref la, .ref v]) (n := 2) (Nat.le_of_ble_eq_true rfl)
  rw [lg_entry_eq]
  generalize (lg_sl ([.ref la, .ref v]) ++ List.replicate (2 - (lg_sl ([.ref la, .ref v])).length) Slot.unset).toArray = ls at hl ⊢
  have hl : lv_has ls 2 [(0, .ref la), (1, .ref v)] := hl
  have hS : va_S (fun q => ADA la ba sz n q) s.heap s.heap [] := va_S.rf
  have hAb : ∀ q, (fun q => ADA la ba sz n q) q → x.2.2 ≤ q := fun q h => h.elim (fun z => by rw [z]; exact hb0) (fun h => h.elim (fun z => by rw [z.2]; exact hb1 z.1) (fun z => Nat.le_trans hb2 z))
  obtain ⟨hsz0, hL, hA, hE, vs0, hV⟩ := hP
  have hls : la < sz := by have h9 : la < s.heap.size := va_at.lt2 hL; omega
  have hL : va_at g.1 vwCl (la, .inr (0, [.int (iI (n)), .ref ba, .int (iI (n))])) s.heap := by
    have e0 : bfA x.2.1 ba n = ba := if_neg (by omega)
    have h9 := hL
    unfold lstE at h9
    rw [e0] at h9
    exact h9
  have hA := hA hn.1
  refine lv_aload_n hx hb dJx4a65c_add_9ea2d_0 rfl (lv_at hl 0 rfl) ?_
  refine lv_dup hx hb dJx4a65c_add_9ea2d_1 rfl ?_
  refine q_get (v := .int (iI n)) (C := RJx4a65c) (T := TJx4a65c) (N := 3) hx hb hts inJx4a65c hown hK hL rfl 0 (by decide) (hts (.fieldLink RJx4a65c 63 "java/util/ArrayList" "modCount" "I") (by decide +kernel)) (fun z h9 => u_same (hts (.sameField "java/util/ArrayList" "java/util/AbstractList" "modCount" "I") (by decide +kernel)) z h9) rfl dJx4a65c_add_9ea2d_2 ?_
  refine lv_iconst (v := iI 1) hx hb dJx4a65c_add_9ea2d_5 rfl ?_
  refine q_iadd hx hb dJx4a65c_add_9ea2d_6 ?_
  refine q_put (ty := .int) (v := .int (iI (n + 1))) hx hb hts inJx4a65c tyJx4a65c tyJx4a65c_ok nmJx4a65c hown hK hL rfl 0 (by decide) (hts (.fieldLink RJx4a65c 63 "java/util/ArrayList" "modCount" "I") (by decide +kernel)) (fun z h9 => u_same (hts (.sameField "java/util/ArrayList" "java/util/AbstractList" "modCount" "I") (by decide +kernel)) z h9) rfl (by decide +kernel) rfl rfl (Nat.le_of_ble_eq_true rfl) dJx4a65c_add_9ea2d_7 (fun H i1 hL hz1 ho1 => ?_)
  have hL : va_at g.1 vwCl (la, .inr (0, [.int (iI (n + 1)), .ref ba, .int (iI n)])) H := hL
  have hV := hV.kept (ho1 _ hvl)
  have hS := hS.put (k := i1) hz1 ho1 (Or.inl rfl)
  refine lv_aload_n hx hb dJx4a65c_add_9ea2d_10 rfl (lv_at hl 0 rfl) ?_
  refine lv_aload_n hx hb dJx4a65c_add_9ea2d_11 rfl (lv_at hl 1 rfl) ?_
  refine lv_aload_n hx hb dJx4a65c_add_9ea2d_12 rfl (lv_at hl 0 rfl) ?_
  refine q_get (v := .ref ba) (C := RJx4a65c) (T := TJx4a65c) (N := 3) hx hb hts inJx4a65c hown hK hL rfl 1 (by decide) (hts (.fieldLink RJx4a65c 9 "java/util/ArrayList" "elementData" "[Ljava/lang/Object;") (by decide +kernel)) (fun _ h9 => h9) rfl dJx4a65c_add_9ea2d_13 ?_
  refine lv_aload_n hx hb dJx4a65c_add_9ea2d_16 rfl (lv_at hl 0 rfl) ?_
  refine q_get (v := .int (iI n)) (C := RJx4a65c) (T := TJx4a65c) (N := 3) hx hb hts inJx4a65c hown hK hL rfl 2 (by decide) (hts (.fieldLink RJx4a65c 48 "java/util/ArrayList" "size" "I") (by decide +kernel)) (fun _ h9 => h9) rfl dJx4a65c_add_9ea2d_17 ?_
  refine q_xVv (As := [.ref v, .ref ba, .int (iI n)]) (rest := []) ⟨hx, hb, hml, hown, hts⟩ (cj_add3m l g x la ba sz ci v r n el hc hci hb0 (hb1 hn.1) hb2 (hlb hn.1) hvl (hvb hn.1) hel hn hcn) (cwV 3 hts gJx4a65c_add_9ea2d_Jx4a65c_add_72be8 rfl rfl rfl (by decide +kernel) ⟨Nat.le_of_ble_eq_true rfl, Nat.le_of_ble_eq_true rfl⟩) (q_pVX hK hX hS hAb hL rfl ⟨hz1.trans hsz0, hL, hA.kept (ho1 _ (hlb hn.1).symm), fun i a1 a2 => (hE i a1 a2).imp (fun _ h9 => h9.kept (ho1 _ (hel i a1 a2))), _, hV⟩) rfl hl.1 rfl (Nat.le_of_ble_eq_true rfl) ⟨Nat.le_of_ble_eq_true rfl, Nat.le_of_ble_eq_true rfl⟩ dJx4a65c_add_9ea2d_20 hS (fun q h => h.elim Or.inl (fun h => h.elim (fun z => Or.inr (Or.inl ⟨hn.1, z⟩)) (fun z => Or.inr (Or.inr z)))) (fun H locs hM hz1 hk1 hS => ?_)
  refine lv_iconst (v := iI 1) hx hb dJx4a65c_add_9ea2d_23 rfl ?_
  refine W.widen (k := 1) (n := 49) (by omega) (by omega) ?_
  refine q_mretz hx hb hr hlocks hS (Or.inr rfl) dJx4a65c_add_9ea2d_24 ?_ ?_
  · rfl
  · have e0 : nbA ba sz n = ba := if_pos (by omega)
    have e1 : bfA x.2.1 ba (n + 1) = ba := if_neg (by omega)
    show va_at _ _ (la, .inr (0, [.int (iI (n + 1)), .ref (bfA x.2.1 (nbA ba sz n) (n + 1)), .int (iI (n + 1))])) H ∧ va_at _ _ (nbA ba sz n, _) H
    rw [e0, e1]
    exact hM

set_option maxHeartbeats 4000000 in
set_option maxRecDepth 100000 in
theorem cj_addEf (l : Launch) (g : GG) (x : XX) (la ba sz ci v : Nat) (r : vw_C) (n : Int) (el : Int → Nat) (hc : vwCl[ci]? = some r) (hci : ci ∈ [1, 2, 3, 4, 5]) (hb0 : x.2.2 ≤ la) (hb1 : 0 < n → x.2.2 ≤ ba) (hb2 : x.2.2 ≤ sz) (hlb : 0 < n → la ≠ ba) (hvl : v ≠ la) (hvb : 0 < n → v ≠ ba) (hel : ∀ i : Int, 0 ≤ i → i < n → el i ≠ la) (hn : 0 < n ∧ n ≤ 48) (hcn : (capN n : Int) = n)  : MetXM l yJx4a65c_add_9ea2d wsJx4a65c_add_9ea2d ({ frames := 6, cells := 1, slots := 49, locals := 170 }) g x [.ref la, .ref v] (fun H => ADP g x la ba sz v ci n el H) 1 (fun H => ADQ g x la ba sz v n el H) (fun q => ADA la ba sz n q) 1 49 := by
  refine Met.ofW (cc := cJx4a65c_add_9ea2d) (maxL := 2) (ret := (some .boolean)) (by decide) rfl ?_
  intro p e s m args below meth c s₁ B hml hv
  obtain ⟨rfl, hP, hK, hX⟩ := hv
  have hx := B.exec
  have hb := B.bytes
  have hr := B.returns
  have hts := atoms_spec (ws := wsJx4a65c_add_9ea2d) B.pre
  have hown : s.vm.findClass RJx4a65c = some m.cls := findClass_of_methodNamed B.named
  have hlocks := B.notSynchronized
  have inJx4a65c : ∀ w ∈ wsJx4a65c0, w ∈ wsJx4a65c_add_9ea2d := by decide +kernel
  have hl := lv_entry ([.ref la, .ref v]) (n := 2) (Nat.le_of_ble_eq_true rfl)
  rw [lg_entry_eq]
  generalize (lg_sl ([.ref la, .ref v]) ++ List.replicate (2 - (lg_sl ([.ref la, .ref v])).length) Slot.unset).toArray = ls at hl ⊢
  have hl : lv_has ls 2 [(0, .ref la), (1, .ref v)] := hl
  have hS : va_S (fun q => ADA la ba sz n q) s.heap s.heap [] := va_S.rf
  have hAb : ∀ q, (fun q => ADA la ba sz n q) q → x.2.2 ≤ q := fun q h => h.elim (fun z => by rw [z]; exact hb0) (fun h => h.elim (fun z => by rw [z.2]; exact hb1 z.1) (fun z => Nat.le_trans hb2 z))
  obtain ⟨hsz0, hL, hA, hE, vs0, hV⟩ := hP
  have hls : la < sz := by have h9 : la < s.heap.size := va_at.lt2 hL; omega
  have hL : va_at g.1 vwCl (la, .inr (0, [.int (iI (n)), .ref ba, .int (iI (n))])) s.heap := by
    have e0 : bfA x.2.1 ba n = ba := if_neg (by omega)
    have h9 := hL
    unfold lstE at h9
    rw [e0] at h9
    exact h9
  have hA := hA hn.1
  refine lv_aload_n hx hb dJx4a65c_add_9ea2d_0 rfl (lv_at hl 0 rfl) ?_
  refine lv_dup hx hb dJx4a65c_add_9ea2d_1 rfl ?_
  refine q_get (v := .int (iI n)) (C := RJx4a65c) (T := TJx4a65c) (N := 3) hx hb hts inJx4a65c hown hK hL rfl 0 (by decide) (hts (.fieldLink RJx4a65c 63 "java/util/ArrayList" "modCount" "I") (by decide +kernel)) (fun z h9 => u_same (hts (.sameField "java/util/ArrayList" "java/util/AbstractList" "modCount" "I") (by decide +kernel)) z h9) rfl dJx4a65c_add_9ea2d_2 ?_
  refine lv_iconst (v := iI 1) hx hb dJx4a65c_add_9ea2d_5 rfl ?_
  refine q_iadd hx hb dJx4a65c_add_9ea2d_6 ?_
  refine q_put (ty := .int) (v := .int (iI (n + 1))) hx hb hts inJx4a65c tyJx4a65c tyJx4a65c_ok nmJx4a65c hown hK hL rfl 0 (by decide) (hts (.fieldLink RJx4a65c 63 "java/util/ArrayList" "modCount" "I") (by decide +kernel)) (fun z h9 => u_same (hts (.sameField "java/util/ArrayList" "java/util/AbstractList" "modCount" "I") (by decide +kernel)) z h9) rfl (by decide +kernel) rfl rfl (Nat.le_of_ble_eq_true rfl) dJx4a65c_add_9ea2d_7 (fun H i1 hL hz1 ho1 => ?_)
  have hL : va_at g.1 vwCl (la, .inr (0, [.int (iI (n + 1)), .ref ba, .int (iI n)])) H := hL
  have hV := hV.kept (ho1 _ hvl)
  have hS := hS.put (k := i1) hz1 ho1 (Or.inl rfl)
  refine lv_aload_n hx hb dJx4a65c_add_9ea2d_10 rfl (lv_at hl 0 rfl) ?_
  refine lv_aload_n hx hb dJx4a65c_add_9ea2d_11 rfl (lv_at hl 1 rfl) ?_
  refine lv_aload_n hx hb dJx4a65c_add_9ea2d_12 rfl (lv_at hl 0 rfl) ?_
  refine q_get (v := .ref ba) (C := RJx4a65c) (T := TJx4a65c) (N := 3) hx hb hts inJx4a65c hown hK hL rfl 1 (by decide) (hts (.fieldLink RJx4a65c 9 "java/util/ArrayList" "elementData" "[Ljava/lang/Object;") (by decide +kernel)) (fun _ h9 => h9) rfl dJx4a65c_add_9ea2d_13 ?_
  refine lv_aload_n hx hb dJx4a65c_add_9ea2d_16 rfl (lv_at hl 0 rfl) ?_
  refine q_get (v := .int (iI n)) (C := RJx4a65c) (T := TJx4a65c) (N := 3) hx hb hts inJx4a65c hown hK hL rfl 2 (by decide) (hts (.fieldLink RJx4a65c 48 "java/util/ArrayList" "size" "I") (by decide +kernel)) (fun _ h9 => h9) rfl dJx4a65c_add_9ea2d_17 ?_
  refine q_xVv (As := [.ref v, .ref ba, .int (iI n)]) (rest := []) ⟨hx, hb, hml, hown, hts⟩ (cj_add3f l g x la ba sz ci v r n el hc hci hb0 (hb1 hn.1) hb2 (hlb hn.1) hvl (hvb hn.1) hel hn hcn) (cwV 3 hts gJx4a65c_add_9ea2d_Jx4a65c_add_72be8 rfl rfl rfl (by decide +kernel) ⟨Nat.le_of_ble_eq_true rfl, Nat.le_of_ble_eq_true rfl⟩) (q_pVX hK hX hS hAb hL rfl ⟨hz1.trans hsz0, hL, hA.kept (ho1 _ (hlb hn.1).symm), fun i a1 a2 => (hE i a1 a2).imp (fun _ h9 => h9.kept (ho1 _ (hel i a1 a2))), _, hV⟩) rfl hl.1 rfl (Nat.le_of_ble_eq_true rfl) ⟨Nat.le_of_ble_eq_true rfl, Nat.le_of_ble_eq_true rfl⟩ dJx4a65c_add_9ea2d_20 hS (fun q h => h.elim Or.inl (fun h => h.elim (fun z => Or.inr (Or.inl ⟨hn.1, z⟩)) (fun z => Or.inr (Or.inr z)))) (fun H locs hM hz1 hk1 hS => ?_)
  refine lv_iconst (v := iI 1) hx hb dJx4a65c_add_9ea2d_23 rfl ?_
  refine W.widen (k := 1) (n := 49) (by omega) (by omega) ?_
  refine q_mretz hx hb hr hlocks hS (Or.inr rfl) dJx4a65c_add_9ea2d_24 ?_ ?_
  · rfl
  · have e0 : nbA ba sz n = sz := if_neg (by omega)
    have e1 : bfA x.2.1 sz (n + 1) = sz := if_neg (by omega)
    show va_at _ _ (la, .inr (0, [.int (iI (n + 1)), .ref (bfA x.2.1 (nbA ba sz n) (n + 1)), .int (iI (n + 1))])) H ∧ va_at _ _ (nbA ba sz n, _) H
    rw [e0, e1]
    exact hM

theorem cj_addE (l : Launch) (g : GG) (x : XX) (la ba sz ci v : Nat) (r : vw_C) (n : Int) (el : Int → Nat) (hc : vwCl[ci]? = some r) (hci : ci ∈ [1, 2, 3, 4, 5]) (hb0 : x.2.2 ≤ la) (hb1 : 0 < n → x.2.2 ≤ ba) (hb2 : x.2.2 ≤ sz) (hlb : 0 < n → la ≠ ba) (hvl : v ≠ la) (hvb : 0 < n → v ≠ ba) (hel : ∀ i : Int, 0 ≤ i → i < n → el i ≠ la) (hn : 0 ≤ n ∧ n ≤ 48)  : MetXM l yJx4a65c_add_9ea2d wsJx4a65c_add_9ea2d ({ frames := 6, cells := 1, slots := 49, locals := 170 }) g x [.ref la, .ref v] (fun H => ADP g x la ba sz v ci n el H) 1 (fun H => ADQ g x la ba sz v n el H) (fun q => ADA la ba sz n q) 1 49 := by
  have hcl1 := capN_le (n := n) (by omega) (by omega)
  by_cases h0 : n = 0
  · subst h0
    exact cj_addE0 l g x la ba sz ci v r el hc hci hb0 hb1 hb2 hlb hvl hvb hel
  · by_cases h1 : n < (capN n : Int)
    · exact cj_addEm l g x la ba sz ci v r n el hc hci hb0 hb1 hb2 hlb hvl hvb hel ⟨by omega, hn.2⟩ h1
    · exact cj_addEf l g x la ba sz ci v r n el hc hci hb0 hb1 hb2 hlb hvl hvb hel ⟨by omega, hn.2⟩ (by omega)
