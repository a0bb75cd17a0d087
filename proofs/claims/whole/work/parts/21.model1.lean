set_option maxHeartbeats 4000000 in
set_option maxRecDepth 100000 in
theorem c6_in (l : Launch) (g : GG) (v : Int) (lo : Int) (hi : Int) (r_v : R32 v) (r_lo : R32 lo) (r_hi : R32 hi)  : MetI l yX6_in wsX6_in ({ frames := 0, cells := 0, slots := 0, locals := 0 }) g [.int (iI v), .int (iI lo), .int (iI hi)] (fun _ => True) (bI (lo ≤ v ∧ v ≤ hi)) := by
  refine Met.ofW (cc := cX6_in) (maxL := 3) (ret := (some .boolean)) (by decide) rfl ?_
  intro p e s m args below meth c s₁ B hml hv
  obtain ⟨rfl, _, hK⟩ := hv
  have hx := B.exec
  have hb := B.bytes
  have hr := B.returns
  have hts := atoms_spec (ws := wsX6_in) B.pre
  have hown : s.vm.findClass RX6 = some m.cls := findClass_of_methodNamed B.named
  have hlocks := B.notSynchronized
  have hl := lv_entry ([.int (iI v), .int (iI lo), .int (iI hi)]) (n := 3) (Nat.le_of_ble_eq_true rfl)
  rw [lg_entry_eq]
  generalize (lg_sl ([.int (iI v), .int (iI lo), .int (iI hi)]) ++ List.replicate (3 - (lg_sl ([.int (iI v), .int (iI lo), .int (iI hi)])).length) Slot.unset).toArray = ls at hl ⊢
  have hl : lv_has ls 3 [(0, .int (iI v)), (1, .int (iI lo)), (2, .int (iI hi))] := hl
  refine lv_iload_n hx hb dX6_in_0 rfl (lv_at hl 0 rfl) ?_
  refine lv_iload_n hx hb dX6_in_1 rfl (lv_at hl 1 rfl) ?_
  refine q_icmp_lt (tgt := 14) hx hb dX6_in_2 (by decide) r_v r_lo (fun c2 => ?_) (fun c2 => ?_)
  · refine lv_iconst (v := iI 0) hx hb dX6_in_14 rfl ?_
    refine q_retz hx hb hr hlocks (Or.inl rfl) dX6_in_15 ?_
    first | rfl | exact bI_e1 (by omega) | exact bI_e0 (by omega) | exact bI_iff (by omega) | omega
  · refine lv_iload_n hx hb dX6_in_5 rfl (lv_at hl 0 rfl) ?_
    refine lv_iload_n hx hb dX6_in_6 rfl (lv_at hl 2 rfl) ?_
    refine q_icmp_gt (tgt := 14) hx hb dX6_in_7 (by decide) r_v r_hi (fun c7 => ?_) (fun c7 => ?_)
    · refine lv_iconst (v := iI 0) hx hb dX6_in_14 rfl ?_
      refine q_retz hx hb hr hlocks (Or.inl rfl) dX6_in_15 ?_
      first | rfl | exact bI_e1 (by omega) | exact bI_e0 (by omega) | exact bI_iff (by omega) | omega
    · refine lv_iconst (v := iI 1) hx hb dX6_in_10 rfl ?_
      refine lv_goto (tgt := 15) hx hb dX6_in_11 (by decide) ?_
      refine q_retz hx hb hr hlocks (Or.inr rfl) dX6_in_15 ?_
      first | rfl | exact bI_e1 (by omega) | exact bI_e0 (by omega) | exact bI_iff (by omega) | omega

set_option maxHeartbeats 4000000 in
set_option maxRecDepth 100000 in
theorem c6_isDay (l : Launch) (g : GG) (d : Int) (r_d : R32 d)  : MetI l yX6_isDay wsX6_isDay ({ frames := 1, cells := 0, slots := 0, locals := 22 }) g [.int (iI d)] (fun _ => True) (bI (isD d)) := by
  refine Met.ofW (cc := cX6_isDay) (maxL := 1) (ret := (some .boolean)) (by decide) rfl ?_
  intro p e s m args below meth c s₁ B hml hv
  obtain ⟨rfl, _, hK⟩ := hv
  have hx := B.exec
  have hb := B.bytes
  have hr := B.returns
  have hts := atoms_spec (ws := wsX6_isDay) B.pre
  have hown : s.vm.findClass RX6 = some m.cls := findClass_of_methodNamed B.named
  have hlocks := B.notSynchronized
  have hl := lv_entry ([.int (iI d)]) (n := 1) (Nat.le_of_ble_eq_true rfl)
  rw [lg_entry_eq]
  generalize (lg_sl ([.int (iI d)]) ++ List.replicate (1 - (lg_sl ([.int (iI d)])).length) Slot.unset).toArray = ls at hl ⊢
  have hl : lv_has ls 1 [(0, .int (iI d))] := hl
  refine lv_iload_n hx hb dX6_isDay_0 rfl (lv_at hl 0 rfl) ?_
  refine lv_iconst (v := iI 0) hx hb dX6_isDay_1 rfl ?_
  refine q_sipush hx hb 3999 dX6_isDay_2 (by decide +kernel) ?_
  refine q_cSi (As := [.int (iI d), .int (iI 0), .int (iI 3999)]) (rest := []) ⟨hx, hb, hml, hown, hts⟩ (c6_in l g d 0 3999 r_d (by decide) (by decide) ) (va_cwS 3 hts gX6_isDay_X6_in rfl rfl rfl (by decide +kernel) ⟨Nat.le_of_ble_eq_true rfl, Nat.le_of_ble_eq_true rfl⟩) (q_pS hK trivial) rfl hl.1 rfl (Nat.le_of_ble_eq_true rfl) ⟨Nat.zero_le _, Nat.zero_le _⟩ dX6_isDay_5 ?_
  refine q_retz hx hb hr hlocks (bI_01 _) dX6_isDay_8 ?_
  first | rfl | exact bI_e1 (by omega) | exact bI_e0 (by omega) | exact bI_iff (by omega) | omega

set_option maxHeartbeats 4000000 in
set_option maxRecDepth 100000 in
theorem c6_isPlace (l : Launch) (g : GG) (x : Int) (y : Int) (r_x : R32 x) (r_y : R32 y)  : MetI l yX6_isPlace wsX6_isPlace ({ frames := 1, cells := 0, slots := 0, locals := 22 }) g [.int (iI x), .int (iI y)] (fun _ => True) (bI (isP x y)) := by
  refine Met.ofW (cc := cX6_isPlace) (maxL := 2) (ret := (some .boolean)) (by decide) rfl ?_
  intro p e s m args below meth c s₁ B hml hv
  obtain ⟨rfl, _, hK⟩ := hv
  have hx := B.exec
  have hb := B.bytes
  have hr := B.returns
  have hts := atoms_spec (ws := wsX6_isPlace) B.pre
  have hown : s.vm.findClass RX6 = some m.cls := findClass_of_methodNamed B.named
  have hlocks := B.notSynchronized
  have hl := lv_entry ([.int (iI x), .int (iI y)]) (n := 2) (Nat.le_of_ble_eq_true rfl)
  rw [lg_entry_eq]
  generalize (lg_sl ([.int (iI x), .int (iI y)]) ++ List.replicate (2 - (lg_sl ([.int (iI x), .int (iI y)])).length) Slot.unset).toArray = ls at hl ⊢
  have hl : lv_has ls 2 [(0, .int (iI x)), (1, .int (iI y))] := hl
  refine lv_iload_n hx hb dX6_isPlace_0 rfl (lv_at hl 0 rfl) ?_
  refine lv_iconst (v := iI 0) hx hb dX6_isPlace_1 rfl ?_
  refine q_sipush hx hb 999 dX6_isPlace_2 (by decide +kernel) ?_
  refine q_cSi (As := [.int (iI x), .int (iI 0), .int (iI 999)]) (rest := []) ⟨hx, hb, hml, hown, hts⟩ (c6_in l g x 0 999 r_x (by decide) (by decide) ) (va_cwS 3 hts gX6_isPlace_X6_in rfl rfl rfl (by decide +kernel) ⟨Nat.le_of_ble_eq_true rfl, Nat.le_of_ble_eq_true rfl⟩) (q_pS hK trivial) rfl hl.1 rfl (Nat.le_of_ble_eq_true rfl) ⟨Nat.zero_le _, Nat.zero_le _⟩ dX6_isPlace_5 ?_
  refine q_ifb_eq (tgt := 26) hx hb dX6_isPlace_8 (by decide) (fun c8 => ?_) (fun c8 => ?_)
  · refine lv_iconst (v := iI 0) hx hb dX6_isPlace_26 rfl ?_
    refine q_retz hx hb hr hlocks (Or.inl rfl) dX6_isPlace_27 ?_
    first | exact bI_e1 (by omega) | exact bI_e0 (by omega)
  · refine lv_iload_n hx hb dX6_isPlace_11 rfl (lv_at hl 1 rfl) ?_
    refine lv_iconst (v := iI 0) hx hb dX6_isPlace_12 rfl ?_
    refine q_sipush hx hb 999 dX6_isPlace_13 (by decide +kernel) ?_
    refine q_cSi (As := [.int (iI y), .int (iI 0), .int (iI 999)]) (rest := []) ⟨hx, hb, hml, hown, hts⟩ (c6_in l g y 0 999 r_y (by decide) (by decide) ) (va_cwS 3 hts gX6_isPlace_X6_in rfl rfl rfl (by decide +kernel) ⟨Nat.le_of_ble_eq_true rfl, Nat.le_of_ble_eq_true rfl⟩) (q_pS hK trivial) rfl hl.1 rfl (Nat.le_of_ble_eq_true rfl) ⟨Nat.zero_le _, Nat.zero_le _⟩ dX6_isPlace_16 ?_
    refine q_ifb_eq (tgt := 26) hx hb dX6_isPlace_19 (by decide) (fun c19 => ?_) (fun c19 => ?_)
    · refine lv_iconst (v := iI 0) hx hb dX6_isPlace_26 rfl ?_
      refine q_retz hx hb hr hlocks (Or.inl rfl) dX6_isPlace_27 ?_
      first | exact bI_e1 (by omega) | exact bI_e0 (by omega)
    · refine lv_iconst (v := iI 1) hx hb dX6_isPlace_22 rfl ?_
      refine lv_goto (tgt := 27) hx hb dX6_isPlace_23 (by decide) ?_
      refine q_retz hx hb hr hlocks (Or.inr rfl) dX6_isPlace_27 ?_
      first | exact bI_e1 (by omega) | exact bI_e0 (by omega)

set_option maxHeartbeats 4000000 in
set_option maxRecDepth 100000 in
theorem c6_off (l : Launch) (g : GG) (x : Int) (y : Int) (x2 : Int) (y2 : Int) (r_x : R32 x) (r_y : R32 y) (r_x2 : R32 x2) (r_y2 : R32 y2)  : MetI l yX6_off wsX6_off ({ frames := 0, cells := 0, slots := 0, locals := 0 }) g [.int (iI x), .int (iI y), .int (iI x2), .int (iI y2)] (fun _ => True) (off2 x y x2 y2) := by
  refine Met.ofW (cc := cX6_off) (maxL := 4) (ret := (some .int)) (by decide) rfl ?_
  intro p e s m args below meth c s₁ B hml hv
  obtain ⟨rfl, _, hK⟩ := hv
  have hx := B.exec
  have hb := B.bytes
  have hr := B.returns
  have hts := atoms_spec (ws := wsX6_off) B.pre
  have hown : s.vm.findClass RX6 = some m.cls := findClass_of_methodNamed B.named
  have hlocks := B.notSynchronized
  have hl := lv_entry ([.int (iI x), .int (iI y), .int (iI x2), .int (iI y2)]) (n := 4) (Nat.le_of_ble_eq_true rfl)
  rw [lg_entry_eq]
  generalize (lg_sl ([.int (iI x), .int (iI y), .int (iI x2), .int (iI y2)]) ++ List.replicate (4 - (lg_sl ([.int (iI x), .int (iI y), .int (iI x2), .int (iI y2)])).length) Slot.unset).toArray = ls at hl ⊢
  have hl : lv_has ls 4 [(0, .int (iI x)), (1, .int (iI y)), (2, .int (iI x2)), (3, .int (iI y2))] := hl
  refine lv_iload_n hx hb dX6_off_0 rfl (lv_at hl 0 rfl) ?_
  refine lv_iload_n hx hb dX6_off_1 rfl (lv_at hl 2 rfl) ?_
  refine q_isub hx hb dX6_off_2 ?_
  refine lv_iload_n hx hb dX6_off_3 rfl (lv_at hl 0 rfl) ?_
  refine lv_iload_n hx hb dX6_off_4 rfl (lv_at hl 2 rfl) ?_
  refine q_isub hx hb dX6_off_5 ?_
  refine q_imul hx hb dX6_off_6 ?_
  refine lv_iload_n hx hb dX6_off_7 rfl (lv_at hl 1 rfl) ?_
  refine lv_iload_n hx hb dX6_off_8 rfl (lv_at hl 3 rfl) ?_
  refine q_isub hx hb dX6_off_9 ?_
  refine lv_iload_n hx hb dX6_off_10 rfl (lv_at hl 1 rfl) ?_
  refine lv_iload_n hx hb dX6_off_11 rfl (lv_at hl 3 rfl) ?_
  refine q_isub hx hb dX6_off_12 ?_
  refine q_imul hx hb dX6_off_13 ?_
  refine q_iadd hx hb dX6_off_14 ?_
  refine q_reti hx hb hr hlocks dX6_off_15 ?_
  first | rfl | exact bI_e1 (by omega) | exact bI_e0 (by omega) | exact bI_iff (by omega) | omega

set_option maxHeartbeats 4000000 in
set_option maxRecDepth 100000 in
theorem c6_isFeast (l : Launch) (g : GG) (mad : Nat → Nat) (S : St) (hI : Inv S) (d : Int) (r_d : R32 d)  : MetI l yX6_isFeast wsX6_isFeast ({ frames := 0, cells := 0, slots := 0, locals := 0 }) g [.ref (mad 0), .int (iI d)] (fun H => RepM g mad S H) (bI (sFeast S d)) := by
  refine Met.ofW (cc := cX6_isFeast) (maxL := 4) (ret := (some .boolean)) (by decide) rfl ?_
  intro p e s m args below meth c s₁ B hml hv
  obtain ⟨rfl, hM, hK⟩ := hv
  have hx := B.exec
  have hb := B.bytes
  have hr := B.returns
  have hts := atoms_spec (ws := wsX6_isFeast) B.pre
  have hown : s.vm.findClass RX6 = some m.cls := findClass_of_methodNamed B.named
  have hlocks := B.notSynchronized
  have inX6 : ∀ w ∈ wsX60, w ∈ wsX6_isFeast := by decide +kernel
  have hl := lv_entry ([.ref (mad 0), .int (iI d)]) (n := 4) (Nat.le_of_ble_eq_true rfl)
  rw [lg_entry_eq]
  generalize (lg_sl ([.ref (mad 0), .int (iI d)]) ++ List.replicate (4 - (lg_sl ([.ref (mad 0), .int (iI d)])).length) Slot.unset).toArray = ls at hl ⊢
  have hl : lv_has ls 4 [(0, .ref (mad 0)), (1, .int (iI d))] := hl
  refine lv_iconst (v := iI 0) hx hb dX6_isFeast_0 rfl ?_
  refine lv_istore_n (lv' := [(2, .int (iI 0)), (0, .ref (mad 0)), (1, .int (iI d))]) hx hb dX6_isFeast_1 rfl hl (by decide) rfl (fun ls hl => ?_)
  refine lv_iconst (v := iI 0) hx hb dX6_isFeast_2 rfl ?_
  refine lv_istore_n (lv' := [(3, .int (iI 0)), (2, .int (iI 0)), (0, .ref (mad 0)), (1, .int (iI d))]) hx hb dX6_isFeast_3 rfl hl (by decide) rfl (fun ls hl => ?_)
  have e0 : (bI (exN (fun k => S 1 (k : Int) = d) 0) : Int) = 0 := by
    exact bI_f exN_0
  have e1 : (((0 : Nat) : Int) : Int) = 0 := by
    rfl
  refine q_loopN (nL := 4) ((S 0 0).toNat) (fun (i : Nat) => [(0, .ref (mad 0)), (1, .int (iI d)), (2, .int (iI (bI (exN (fun k => S 1 (k : Int) = d) i)))), (3, .int (iI ((i : Nat) : Int)))]) (lv_sub hl [2, 3, 1, 0] (by simp only [e0, e1]; rfl)) (fun i hi ihi ls hl => ?_)
  have hl : lv_has ls 4 [(0, .ref (mad 0)), (1, .int (iI d)), (2, .int (iI (bI (exN (fun k => S 1 (k : Int) = d) i)))), (3, .int (iI ((i : Nat) : Int)))] := hl
  have hN := hI.nums
  refine lv_iload_n hx hb dX6_isFeast_4 rfl (lv_at hl 3 rfl) ?_
  refine lv_aload_n hx hb dX6_isFeast_5 rfl (lv_at hl 0 rfl) ?_
  refine q_get (v := .int (iI (S 0 0))) (C := RX6) (T := TX6) (N := 32) hx hb hts inX6 hown hK hM.1 rfl 0 (by decide) (hts (.fieldLink RX6 96 "TavernBenchModel" "feasts" "I") (by decide +kernel)) (fun _ h9 => h9) rfl dX6_isFeast_6 ?_
  refine q_icmp_ge (tgt := 38) hx hb dX6_isFeast_9 (by decide) (by omega) (hI.R (by decide)) (fun c9 => ?_) (fun c9 => ?_)
  · refine lv_iload_n hx hb dX6_isFeast_38 rfl (lv_at hl 2 rfl) ?_
    refine q_retz hx hb hr hlocks (bI_01 _) dX6_isFeast_39 ?_
    have e : i = (S 0 0).toNat := by omega
    rw [e]
  · refine lv_iload_n hx hb dX6_isFeast_12 rfl (lv_at hl 2 rfl) ?_
    refine q_ifb_ne (tgt := 26) hx hb dX6_isFeast_13 (by decide) (fun c13 => ?_) (fun c13 => ?_)
    · refine lv_iconst (v := iI 1) hx hb dX6_isFeast_26 rfl ?_
      refine lv_goto (tgt := 31) hx hb dX6_isFeast_27 (by decide) ?_
      refine lv_istore_n (lv' := [(2, .int (iI 1)), (0, .ref (mad 0)), (1, .int (iI d)), (3, .int (iI ((i : Nat) : Int)))]) hx hb dX6_isFeast_31 rfl hl (by decide) rfl (fun ls hl => ?_)
      refine lv_iinc (v := iI (((i : Nat) : Int) + 1)) (lv' := [(3, .int (iI (((i : Nat) : Int) + 1))), (2, .int (iI 1)), (0, .ref (mad 0)), (1, .int (iI d))]) hx hb dX6_isFeast_32 hl (k := 3) rfl (iI_add _ _) (by decide) rfl (fun ls hl => ?_)
      refine lv_goto (tgt := 4) hx hb dX6_isFeast_35 (by decide) ?_
      have e0 : (bI (exN (fun k => S 1 (k : Int) = d) (i + 1)) : Int) = 1 := by
        first | exact (bI_t (exN_s.mpr (Or.inl (by assumption)))) | exact (bI_t (exN_s.mpr (Or.inr (by assumption)))) | exact (bI_f (fun z => (exN_s.mp z).elim (by assumption) (by assumption)))
      have e1 : ((((i + 1) : Nat) : Int) : Int) = ((i : Nat) : Int) + 1 := by
        omega
      exact ihi (by omega) ls (lv_sub hl [2, 3, 1, 0] (by simp only [e0, e1]; rfl))
    · refine lv_aload_n hx hb dX6_isFeast_16 rfl (lv_at hl 0 rfl) ?_
      refine q_get (v := .ref (mad 1)) (C := RX6) (T := TX6) (N := 32) hx hb hts inX6 hown hK hM.1 rfl 1 (by decide) (hts (.fieldLink RX6 7 "TavernBenchModel" "feast" "[I") (by decide +kernel)) (fun _ h9 => h9) rfl dX6_isFeast_17 ?_
      refine lv_iload_n hx hb dX6_isFeast_20 rfl (lv_at hl 3 rfl) ?_
      refine q_mld hx hb hK hM 1 20 ⟨by decide, by decide, by decide⟩ rfl ⟨by omega, by omega⟩ dX6_isFeast_21 ?_
      refine lv_iload_n hx hb dX6_isFeast_22 rfl (lv_at hl 1 rfl) ?_
      refine q_icmp_ne (tgt := 30) hx hb dX6_isFeast_23 (by decide) (hI.R (by decide)) r_d (fun c23 => ?_) (fun c23 => ?_)
      · refine lv_iconst (v := iI 0) hx hb dX6_isFeast_30 rfl ?_
        refine lv_istore_n (lv' := [(2, .int (iI 0)), (0, .ref (mad 0)), (1, .int (iI d)), (3, .int (iI ((i : Nat) : Int)))]) hx hb dX6_isFeast_31 rfl hl (by decide) rfl (fun ls hl => ?_)
        refine lv_iinc (v := iI (((i : Nat) : Int) + 1)) (lv' := [(3, .int (iI (((i : Nat) : Int) + 1))), (2, .int (iI 0)), (0, .ref (mad 0)), (1, .int (iI d))]) hx hb dX6_isFeast_32 hl (k := 3) rfl (iI_add _ _) (by decide) rfl (fun ls hl => ?_)
        refine lv_goto (tgt := 4) hx hb dX6_isFeast_35 (by decide) ?_
        have e0 : (bI (exN (fun k => S 1 (k : Int) = d) (i + 1)) : Int) = 0 := by
          first | exact (bI_t (exN_s.mpr (Or.inl (by assumption)))) | exact (bI_t (exN_s.mpr (Or.inr (by assumption)))) | exact (bI_f (fun z => (exN_s.mp z).elim (by assumption) (by assumption)))
        have e1 : ((((i + 1) : Nat) : Int) : Int) = ((i : Nat) : Int) + 1 := by
          omega
        exact ihi (by omega) ls (lv_sub hl [2, 3, 1, 0] (by simp only [e0, e1]; rfl))
      · refine lv_iconst (v := iI 1) hx hb dX6_isFeast_26 rfl ?_
        refine lv_goto (tgt := 31) hx hb dX6_isFeast_27 (by decide) ?_
        refine lv_istore_n (lv' := [(2, .int (iI 1)), (0, .ref (mad 0)), (1, .int (iI d)), (3, .int (iI ((i : Nat) : Int)))]) hx hb dX6_isFeast_31 rfl hl (by decide) rfl (fun ls hl => ?_)
        refine lv_iinc (v := iI (((i : Nat) : Int) + 1)) (lv' := [(3, .int (iI (((i : Nat) : Int) + 1))), (2, .int (iI 1)), (0, .ref (mad 0)), (1, .int (iI d))]) hx hb dX6_isFeast_32 hl (k := 3) rfl (iI_add _ _) (by decide) rfl (fun ls hl => ?_)
        refine lv_goto (tgt := 4) hx hb dX6_isFeast_35 (by decide) ?_
        have e0 : (bI (exN (fun k => S 1 (k : Int) = d) (i + 1)) : Int) = 1 := by
          first | exact (bI_t (exN_s.mpr (Or.inl (by assumption)))) | exact (bI_t (exN_s.mpr (Or.inr (by assumption)))) | exact (bI_f (fun z => (exN_s.mp z).elim (by assumption) (by assumption)))
        have e1 : ((((i + 1) : Nat) : Int) : Int) = ((i : Nat) : Int) + 1 := by
          omega
        exact ihi (by omega) ls (lv_sub hl [2, 3, 1, 0] (by simp only [e0, e1]; rfl))

set_option maxHeartbeats 4000000 in
set_option maxRecDepth 100000 in
theorem c6_isHouse (l : Launch) (g : GG) (mad : Nat → Nat) (S : St) (hI : Inv S) (h : Int) (r_h : R32 h)  : MetI l yX6_isHouse wsX6_isHouse ({ frames := 1, cells := 0, slots := 0, locals := 22 }) g [.ref (mad 0), .int (iI h)] (fun H => RepM g mad S H) (bI (0 ≤ h ∧ h < S 14 0)) := by
  refine Met.ofW (cc := cX6_isHouse) (maxL := 2) (ret := (some .boolean)) (by decide) rfl ?_
  intro p e s m args below meth c s₁ B hml hv
  obtain ⟨rfl, hM, hK⟩ := hv
  have hx := B.exec
  have hb := B.bytes
  have hr := B.returns
  have hts := atoms_spec (ws := wsX6_isHouse) B.pre
  have hown : s.vm.findClass RX6 = some m.cls := findClass_of_methodNamed B.named
  have hlocks := B.notSynchronized
  have inX6 : ∀ w ∈ wsX60, w ∈ wsX6_isHouse := by decide +kernel
  have hl := lv_entry ([.ref (mad 0), .int (iI h)]) (n := 2) (Nat.le_of_ble_eq_true rfl)
  rw [lg_entry_eq]
  generalize (lg_sl ([.ref (mad 0), .int (iI h)]) ++ List.replicate (2 - (lg_sl ([.ref (mad 0), .int (iI h)])).length) Slot.unset).toArray = ls at hl ⊢
  have hl : lv_has ls 2 [(0, .ref (mad 0)), (1, .int (iI h))] := hl
  have hN := hI.nums
  refine lv_iload_n hx hb dX6_isHouse_0 rfl (lv_at hl 1 rfl) ?_
  refine lv_iconst (v := iI 0) hx hb dX6_isHouse_1 rfl ?_
  refine lv_aload_n hx hb dX6_isHouse_2 rfl (lv_at hl 0 rfl) ?_
  refine q_get (v := .int (iI (S 14 0))) (C := RX6) (T := TX6) (N := 32) hx hb hts inX6 hown hK hM.1 rfl 14 (by decide) (hts (.fieldLink RX6 116 "TavernBenchModel" "houses" "I") (by decide +kernel)) (fun _ h9 => h9) rfl dX6_isHouse_3 ?_
  refine lv_iconst (v := iI 1) hx hb dX6_isHouse_6 rfl ?_
  refine q_isub hx hb dX6_isHouse_7 ?_
  refine q_cSi (As := [.int (iI h), .int (iI 0), .int (iI ((S 14 0) - 1))]) (rest := []) ⟨hx, hb, hml, hown, hts⟩ (c6_in l g h 0 ((S 14 0) - 1) r_h (by decide) (by omega) ) (va_cwS 3 hts gX6_isHouse_X6_in rfl rfl rfl (by decide +kernel) ⟨Nat.le_of_ble_eq_true rfl, Nat.le_of_ble_eq_true rfl⟩) (q_pS hK trivial) rfl hl.1 rfl (Nat.le_of_ble_eq_true rfl) ⟨Nat.zero_le _, Nat.zero_le _⟩ dX6_isHouse_8 ?_
  refine q_retz hx hb hr hlocks (bI_01 _) dX6_isHouse_11 ?_
  first | rfl | exact bI_e1 (by omega) | exact bI_e0 (by omega) | exact bI_iff (by omega) | omega

set_option maxHeartbeats 4000000 in
set_option maxRecDepth 100000 in
theorem c6_isTold (l : Launch) (g : GG) (mad : Nat → Nat) (S : St) (hI : Inv S) (h : Int) (v : Int) (r_h : R32 h) (r_v : R32 v) (h0 : 0 ≤ h ∧ h < S 14 0) : MetI l yX6_isTold wsX6_isTold ({ frames := 0, cells := 0, slots := 0, locals := 0 }) g [.ref (mad 0), .int (iI h), .int (iI v)] (fun H => RepM g mad S H) (bI (exN (fun q => S 21 (16 * h + (q : Nat)) = 0 ∧ S 22 (16 * h + (q : Nat)) = v) (S 19 h).toNat)) := by
  refine Met.ofW (cc := cX6_isTold) (maxL := 5) (ret := (some .boolean)) (by decide) rfl ?_
  intro p e s m args below meth c s₁ B hml hv
  obtain ⟨rfl, hM, hK⟩ := hv
  have hx := B.exec
  have hb := B.bytes
  have hr := B.returns
  have hts := atoms_spec (ws := wsX6_isTold) B.pre
  have hown : s.vm.findClass RX6 = some m.cls := findClass_of_methodNamed B.named
  have hlocks := B.notSynchronized
  have inX6 : ∀ w ∈ wsX60, w ∈ wsX6_isTold := by decide +kernel
  have hl := lv_entry ([.ref (mad 0), .int (iI h), .int (iI v)]) (n := 5) (Nat.le_of_ble_eq_true rfl)
  rw [lg_entry_eq]
  generalize (lg_sl ([.ref (mad 0), .int (iI h), .int (iI v)]) ++ List.replicate (5 - (lg_sl ([.ref (mad 0), .int (iI h), .int (iI v)])).length) Slot.unset).toArray = ls at hl ⊢
  have hl : lv_has ls 5 [(0, .ref (mad 0)), (1, .int (iI h)), (2, .int (iI v))] := hl
  have hH := hI.house h0.1 h0.2
  have hN := hI.nums
  refine lv_iconst (v := iI 0) hx hb dX6_isTold_0 rfl ?_
  refine lv_istore_n (lv' := [(3, .int (iI 0)), (0, .ref (mad 0)), (1, .int (iI h)), (2, .int (iI v))]) hx hb dX6_isTold_1 rfl hl (by decide) rfl (fun ls hl => ?_)
  refine q_bipush hx hb 16 dX6_isTold_2 (by decide +kernel) ?_
  refine lv_iload_n hx hb dX6_isTold_4 rfl (lv_at hl 2 rfl) ?_
  refine q_imul hx hb dX6_isTold_5 ?_
  refine lv_istore (lv' := [(4, .int (iI (16 * h))), (3, .int (iI 0)), (0, .ref (mad 0)), (1, .int (iI h)), (2, .int (iI v))]) hx hb dX6_isTold_6 hl (by decide) rfl (fun ls hl => ?_)
  have e0 : (bI (exN (fun q => S 21 (16 * h + (q : Nat)) = 0 ∧ S 22 (16 * h + (q : Nat)) = v) 0) : Int) = 0 := by
    exact bI_f exN_0
  have e1 : (16 * h + ((0 : Nat) : Int) : Int) = 16 * h := by
    omega
  refine q_loopN (nL := 5) ((S 19 h).toNat) (fun (i : Nat) => [(0, .ref (mad 0)), (1, .int (iI h)), (2, .int (iI v)), (3, .int (iI (bI (exN (fun q => S 21 (16 * h + (q : Nat)) = 0 ∧ S 22 (16 * h + (q : Nat)) = v) i)))), (4, .int (iI (16 * h + ((i : Nat) : Int))))]) (lv_sub hl [2, 3, 4, 1, 0] (by simp only [e0, e1]; rfl)) (fun i hi ihi ls hl => ?_)
  have hl : lv_has ls 5 [(0, .ref (mad 0)), (1, .int (iI h)), (2, .int (iI v)), (3, .int (iI (bI (exN (fun q => S 21 (16 * h + (q : Nat)) = 0 ∧ S 22 (16 * h + (q : Nat)) = v) i)))), (4, .int (iI (16 * h + ((i : Nat) : Int))))] := hl
  refine lv_iload hx hb dX6_isTold_8 (lv_at hl 4 rfl) ?_
  refine q_bipush hx hb 16 dX6_isTold_10 (by decide +kernel) ?_
  refine lv_iload_n hx hb dX6_isTold_12 rfl (lv_at hl 1 rfl) ?_
  refine q_imul hx hb dX6_isTold_13 ?_
  refine lv_aload_n hx hb dX6_isTold_14 rfl (lv_at hl 0 rfl) ?_
  refine q_get (v := .ref (mad 19)) (C := RX6) (T := TX6) (N := 32) hx hb hts inX6 hown hK hM.1 rfl 19 (by decide) (hts (.fieldLink RX6 56 "TavernBenchModel" "events" "[I") (by decide +kernel)) (fun _ h9 => h9) rfl dX6_isTold_15 ?_
  refine lv_iload_n hx hb dX6_isTold_18 rfl (lv_at hl 1 rfl) ?_
  refine q_mld hx hb hK hM 19 30 ⟨by decide, by decide, by decide⟩ rfl ⟨by omega, by omega⟩ dX6_isTold_19 ?_
  refine q_iadd hx hb dX6_isTold_20 ?_
  refine q_icmp_ge (tgt := 61) hx hb dX6_isTold_21 (by decide) (by omega) (by omega) (fun c21 => ?_) (fun c21 => ?_)
  · refine lv_iload_n hx hb dX6_isTold_61 rfl (lv_at hl 3 rfl) ?_
    refine q_retz hx hb hr hlocks (bI_01 _) dX6_isTold_62 ?_
    have e : i = (S 19 h).toNat := by omega
    rw [e]
  · refine lv_iload_n hx hb dX6_isTold_24 rfl (lv_at hl 3 rfl) ?_
    refine q_ifb_ne (tgt := 49) hx hb dX6_isTold_25 (by decide) (fun c25 => ?_) (fun c25 => ?_)
    · refine lv_iconst (v := iI 1) hx hb dX6_isTold_49 rfl ?_
      refine lv_goto (tgt := 54) hx hb dX6_isTold_50 (by decide) ?_
      refine lv_istore_n (lv' := [(3, .int (iI 1)), (0, .ref (mad 0)), (1, .int (iI h)), (2, .int (iI v)), (4, .int (iI (16 * h + ((i : Nat) : Int))))]) hx hb dX6_isTold_54 rfl hl (by decide) rfl (fun ls hl => ?_)
      refine lv_iinc (v := iI ((16 * h + ((i : Nat) : Int)) + 1)) (lv' := [(4, .int (iI ((16 * h + ((i : Nat) : Int)) + 1))), (3, .int (iI 1)), (0, .ref (mad 0)), (1, .int (iI h)), (2, .int (iI v))]) hx hb dX6_isTold_55 hl (k := 4) rfl (iI_add _ _) (by decide) rfl (fun ls hl => ?_)
      refine lv_goto (tgt := 8) hx hb dX6_isTold_58 (by decide) ?_
      have e0 : (bI (exN (fun q => S 21 (16 * h + (q : Nat)) = 0 ∧ S 22 (16 * h + (q : Nat)) = v) (i + 1)) : Int) = 1 := by
        first | exact ex_1 (by assumption) | exact ex_1' ⟨by assumption, by assumption⟩ | exact ex_0 (by assumption) (fun z => by first | exact absurd z.1 (by assumption) | exact absurd z.2 (by assumption))
      have e1 : (16 * h + (((i + 1) : Nat) : Int) : Int) = (16 * h + ((i : Nat) : Int)) + 1 := by
        omega
      exact ihi (by omega) ls (lv_sub hl [2, 3, 4, 1, 0] (by simp only [e0, e1]; rfl))
    · refine lv_aload_n hx hb dX6_isTold_28 rfl (lv_at hl 0 rfl) ?_
      refine q_get (v := .ref (mad 21)) (C := RX6) (T := TX6) (N := 32) hx hb hts inX6 hown hK hM.1 rfl 21 (by decide) (hts (.fieldLink RX6 62 "TavernBenchModel" "eventKind" "[I") (by decide +kernel)) (fun _ h9 => h9) rfl dX6_isTold_29 ?_
      refine lv_iload hx hb dX6_isTold_32 (lv_at hl 4 rfl) ?_
      refine q_mld hx hb hK hM 21 480 ⟨by decide, by decide, by decide⟩ rfl ⟨by omega, by omega⟩ dX6_isTold_34 ?_
      refine q_if_ne (tgt := 53) hx hb dX6_isTold_35 (by decide) (hI.R (by decide)) (fun c35 => ?_) (fun c35 => ?_)
      · refine lv_iconst (v := iI 0) hx hb dX6_isTold_53 rfl ?_
        refine lv_istore_n (lv' := [(3, .int (iI 0)), (0, .ref (mad 0)), (1, .int (iI h)), (2, .int (iI v)), (4, .int (iI (16 * h + ((i : Nat) : Int))))]) hx hb dX6_isTold_54 rfl hl (by decide) rfl (fun ls hl => ?_)
        refine lv_iinc (v := iI ((16 * h + ((i : Nat) : Int)) + 1)) (lv' := [(4, .int (iI ((16 * h + ((i : Nat) : Int)) + 1))), (3, .int (iI 0)), (0, .ref (mad 0)), (1, .int (iI h)), (2, .int (iI v))]) hx hb dX6_isTold_55 hl (k := 4) rfl (iI_add _ _) (by decide) rfl (fun ls hl => ?_)
        refine lv_goto (tgt := 8) hx hb dX6_isTold_58 (by decide) ?_
        have e0 : (bI (exN (fun q => S 21 (16 * h + (q : Nat)) = 0 ∧ S 22 (16 * h + (q : Nat)) = v) (i + 1)) : Int) = 0 := by
          first | exact ex_1 (by assumption) | exact ex_1' ⟨by assumption, by assumption⟩ | exact ex_0 (by assumption) (fun z => by first | exact absurd z.1 (by assumption) | exact absurd z.2 (by assumption))
        have e1 : (16 * h + (((i + 1) : Nat) : Int) : Int) = (16 * h + ((i : Nat) : Int)) + 1 := by
          omega
        exact ihi (by omega) ls (lv_sub hl [2, 3, 4, 1, 0] (by simp only [e0, e1]; rfl))
      · refine lv_aload_n hx hb dX6_isTold_38 rfl (lv_at hl 0 rfl) ?_
        refine q_get (v := .ref (mad 22)) (C := RX6) (T := TX6) (N := 32) hx hb hts inX6 hown hK hM.1 rfl 22 (by decide) (hts (.fieldLink RX6 65 "TavernBenchModel" "eventValue" "[I") (by decide +kernel)) (fun _ h9 => h9) rfl dX6_isTold_39 ?_
        refine lv_iload hx hb dX6_isTold_42 (lv_at hl 4 rfl) ?_
        refine q_mld hx hb hK hM 22 480 ⟨by decide, by decide, by decide⟩ rfl ⟨by omega, by omega⟩ dX6_isTold_44 ?_
        refine lv_iload_n hx hb dX6_isTold_45 rfl (lv_at hl 2 rfl) ?_
        refine q_icmp_ne (tgt := 53) hx hb dX6_isTold_46 (by decide) (hI.R (by decide)) r_v (fun c46 => ?_) (fun c46 => ?_)
        · refine lv_iconst (v := iI 0) hx hb dX6_isTold_53 rfl ?_
          refine lv_istore_n (lv' := [(3, .int (iI 0)), (0, .ref (mad 0)), (1, .int (iI h)), (2, .int (iI v)), (4, .int (iI (16 * h + ((i : Nat) : Int))))]) hx hb dX6_isTold_54 rfl hl (by decide) rfl (fun ls hl => ?_)
          refine lv_iinc (v := iI ((16 * h + ((i : Nat) : Int)) + 1)) (lv' := [(4, .int (iI ((16 * h + ((i : Nat) : Int)) + 1))), (3, .int (iI 0)), (0, .ref (mad 0)), (1, .int (iI h)), (2, .int (iI v))]) hx hb dX6_isTold_55 hl (k := 4) rfl (iI_add _ _) (by decide) rfl (fun ls hl => ?_)
          refine lv_goto (tgt := 8) hx hb dX6_isTold_58 (by decide) ?_
          have e0 : (bI (exN (fun q => S 21 (16 * h + (q : Nat)) = 0 ∧ S 22 (16 * h + (q : Nat)) = v) (i + 1)) : Int) = 0 := by
            first | exact ex_1 (by assumption) | exact ex_1' ⟨by assumption, by assumption⟩ | exact ex_0 (by assumption) (fun z => by first | exact absurd z.1 (by assumption) | exact absurd z.2 (by assumption))
          have e1 : (16 * h + (((i + 1) : Nat) : Int) : Int) = (16 * h + ((i : Nat) : Int)) + 1 := by
            omega
          exact ihi (by omega) ls (lv_sub hl [2, 3, 4, 1, 0] (by simp only [e0, e1]; rfl))
        · refine lv_iconst (v := iI 1) hx hb dX6_isTold_49 rfl ?_
          refine lv_goto (tgt := 54) hx hb dX6_isTold_50 (by decide) ?_
          refine lv_istore_n (lv' := [(3, .int (iI 1)), (0, .ref (mad 0)), (1, .int (iI h)), (2, .int (iI v)), (4, .int (iI (16 * h + ((i : Nat) : Int))))]) hx hb dX6_isTold_54 rfl hl (by decide) rfl (fun ls hl => ?_)
          refine lv_iinc (v := iI ((16 * h + ((i : Nat) : Int)) + 1)) (lv' := [(4, .int (iI ((16 * h + ((i : Nat) : Int)) + 1))), (3, .int (iI 1)), (0, .ref (mad 0)), (1, .int (iI h)), (2, .int (iI v))]) hx hb dX6_isTold_55 hl (k := 4) rfl (iI_add _ _) (by decide) rfl (fun ls hl => ?_)
          refine lv_goto (tgt := 8) hx hb dX6_isTold_58 (by decide) ?_
          have e0 : (bI (exN (fun q => S 21 (16 * h + (q : Nat)) = 0 ∧ S 22 (16 * h + (q : Nat)) = v) (i + 1)) : Int) = 1 := by
            first | exact ex_1 (by assumption) | exact ex_1' ⟨by assumption, by assumption⟩ | exact ex_0 (by assumption) (fun z => by first | exact absurd z.1 (by assumption) | exact absurd z.2 (by assumption))
          have e1 : (16 * h + (((i + 1) : Nat) : Int) : Int) = (16 * h + ((i : Nat) : Int)) + 1 := by
            omega
          exact ihi (by omega) ls (lv_sub hl [2, 3, 4, 1, 0] (by simp only [e0, e1]; rfl))

set_option maxHeartbeats 4000000 in
set_option maxRecDepth 100000 in
theorem c6_counts (l : Launch) (g : GG) (mad : Nat → Nat) (S : St) (hI : Inv S) (h : Int) (ee : Int) (day : Int) (r_h : R32 h) (r_ee : R32 ee) (r_day : R32 day) (h0 : 0 ≤ h ∧ h < S 14 0) (he : 0 ≤ ee ∧ ee < 480) : MetI l yX6_counts wsX6_counts ({ frames := 0, cells := 0, slots := 0, locals := 0 }) g [.ref (mad 0), .int (iI h), .int (iI ee), .int (iI day)] (fun H => RepM g mad S H) (bI (sCnt S h ee day)) := by
  refine Met.ofW (cc := cX6_counts) (maxL := 6) (ret := (some .boolean)) (by decide) rfl ?_
  intro p e s m args below meth c s₁ B hml hv
  obtain ⟨rfl, hM, hK⟩ := hv
  have hx := B.exec
  have hb := B.bytes
  have hr := B.returns
  have hts := atoms_spec (ws := wsX6_counts) B.pre
  have hown : s.vm.findClass RX6 = some m.cls := findClass_of_methodNamed B.named
  have hlocks := B.notSynchronized
  have inX6 : ∀ w ∈ wsX60, w ∈ wsX6_counts := by decide +kernel
  have hl := lv_entry ([.ref (mad 0), .int (iI h), .int (iI ee), .int (iI day)]) (n := 6) (Nat.le_of_ble_eq_true rfl)
  rw [lg_entry_eq]
  generalize (lg_sl ([.ref (mad 0), .int (iI h), .int (iI ee), .int (iI day)]) ++ List.replicate (6 - (lg_sl ([.ref (mad 0), .int (iI h), .int (iI ee), .int (iI day)])).length) Slot.unset).toArray = ls at hl ⊢
  have hl : lv_has ls 6 [(0, .ref (mad 0)), (1, .int (iI h)), (2, .int (iI ee)), (3, .int (iI day))] := hl
  have hH := hI.house h0.1 h0.2
  have hN := hI.nums
  refine lv_aload_n hx hb dX6_counts_0 rfl (lv_at hl 0 rfl) ?_
  refine q_get (v := .ref (mad 21)) (C := RX6) (T := TX6) (N := 32) hx hb hts inX6 hown hK hM.1 rfl 21 (by decide) (hts (.fieldLink RX6 62 "TavernBenchModel" "eventKind" "[I") (by decide +kernel)) (fun _ h9 => h9) rfl dX6_counts_1 ?_
  refine lv_iload_n hx hb dX6_counts_4 rfl (lv_at hl 2 rfl) ?_
  refine q_mld hx hb hK hM 21 480 ⟨by decide, by decide, by decide⟩ rfl ⟨by omega, by omega⟩ dX6_counts_5 ?_
  refine q_if_ne (tgt := 19) hx hb dX6_counts_6 (by decide) (hI.R (by decide)) (fun c6 => ?_) (fun c6 => ?_)
  · refine lv_iconst (v := iI 0) hx hb dX6_counts_19 rfl ?_
    refine q_retz hx hb hr hlocks (Or.inl rfl) dX6_counts_20 ?_
    exact bI_e0 (fun z => by have z2 := z.1; omega)
  · refine lv_aload_n hx hb dX6_counts_9 rfl (lv_at hl 0 rfl) ?_
    refine q_get (v := .ref (mad 20)) (C := RX6) (T := TX6) (N := 32) hx hb hts inX6 hown hK hM.1 rfl 20 (by decide) (hts (.fieldLink RX6 59 "TavernBenchModel" "eventDay" "[I") (by decide +kernel)) (fun _ h9 => h9) rfl dX6_counts_10 ?_
    refine lv_iload_n hx hb dX6_counts_13 rfl (lv_at hl 2 rfl) ?_
    refine q_mld hx hb hK hM 20 480 ⟨by decide, by decide, by decide⟩ rfl ⟨by omega, by omega⟩ dX6_counts_14 ?_
    refine lv_iload_n hx hb dX6_counts_15 rfl (lv_at hl 3 rfl) ?_
    refine q_icmp_le (tgt := 21) hx hb dX6_counts_16 (by decide) (hI.R (by decide)) r_day (fun c16 => ?_) (fun c16 => ?_)
    · refine lv_iconst (v := iI 1) hx hb dX6_counts_21 rfl ?_
      refine lv_istore (lv' := [(4, .int (iI 1)), (0, .ref (mad 0)), (1, .int (iI h)), (2, .int (iI ee)), (3, .int (iI day))]) hx hb dX6_counts_22 hl (by decide) rfl (fun ls hl => ?_)
      refine q_bipush hx hb 16 dX6_counts_24 (by decide +kernel) ?_
      refine lv_iload_n hx hb dX6_counts_26 rfl (lv_at hl 2 rfl) ?_
      refine q_imul hx hb dX6_counts_27 ?_
      refine lv_istore (lv' := [(5, .int (iI (16 * h))), (4, .int (iI 1)), (0, .ref (mad 0)), (1, .int (iI h)), (2, .int (iI ee)), (3, .int (iI day))]) hx hb dX6_counts_28 hl (by decide) rfl (fun ls hl => ?_)
      have e0 : (bI (¬ exN (sQuash S h ee day) 0) : Int) = 1 := by
        exact nx_00
      have e1 : (16 * h + ((0 : Nat) : Int) : Int) = 16 * h := by
        omega
      refine q_loopN (nL := 6) ((S 19 h).toNat) (fun (i : Nat) => [(0, .ref (mad 0)), (1, .int (iI h)), (2, .int (iI ee)), (3, .int (iI day)), (4, .int (iI (bI (¬ exN (sQuash S h ee day) i)))), (5, .int (iI (16 * h + ((i : Nat) : Int))))]) (lv_sub hl [2, 3, 4, 5, 1, 0] (by simp only [e0, e1]; rfl)) (fun i hi ihi ls hl => ?_)
      have hl : lv_has ls 6 [(0, .ref (mad 0)), (1, .int (iI h)), (2, .int (iI ee)), (3, .int (iI day)), (4, .int (iI (bI (¬ exN (sQuash S h ee day) i)))), (5, .int (iI (16 * h + ((i : Nat) : Int))))] := hl
      refine lv_iload hx hb dX6_counts_30 (lv_at hl 5 rfl) ?_
      refine q_bipush hx hb 16 dX6_counts_32 (by decide +kernel) ?_
      refine lv_iload_n hx hb dX6_counts_34 rfl (lv_at hl 1 rfl) ?_
      refine q_imul hx hb dX6_counts_35 ?_
      refine lv_aload_n hx hb dX6_counts_36 rfl (lv_at hl 0 rfl) ?_
      refine q_get (v := .ref (mad 19)) (C := RX6) (T := TX6) (N := 32) hx hb hts inX6 hown hK hM.1 rfl 19 (by decide) (hts (.fieldLink RX6 56 "TavernBenchModel" "events" "[I") (by decide +kernel)) (fun _ h9 => h9) rfl dX6_counts_37 ?_
      refine lv_iload_n hx hb dX6_counts_40 rfl (lv_at hl 1 rfl) ?_
      refine q_mld hx hb hK hM 19 30 ⟨by decide, by decide, by decide⟩ rfl ⟨by omega, by omega⟩ dX6_counts_41 ?_
      refine q_iadd hx hb dX6_counts_42 ?_
      refine q_icmp_ge (tgt := 102) hx hb dX6_counts_43 (by decide) (by omega) (by omega) (fun c43 => ?_) (fun c43 => ?_)
      · refine lv_iload hx hb dX6_counts_102 (lv_at hl 4 rfl) ?_
        refine q_retz hx hb hr hlocks (bI_01 _) dX6_counts_104 ?_
        have e : i = (S 19 h).toNat := by omega
        rw [e]
        exact bI_iff ⟨fun z => ⟨⟨by assumption, by assumption⟩, z⟩, fun z => z.2⟩
      · refine lv_iload hx hb dX6_counts_46 (lv_at hl 4 rfl) ?_
        refine q_ifb_eq (tgt := 93) hx hb dX6_counts_48 (by decide) (fun c48 => ?_) (fun c48 => ?_)
        · refine lv_iconst (v := iI 0) hx hb dX6_counts_93 rfl ?_
          refine lv_istore (lv' := [(4, .int (iI 0)), (0, .ref (mad 0)), (1, .int (iI h)), (2, .int (iI ee)), (3, .int (iI day)), (5, .int (iI (16 * h + ((i : Nat) : Int))))]) hx hb dX6_counts_94 hl (by decide) rfl (fun ls hl => ?_)
          refine lv_iinc (v := iI ((16 * h + ((i : Nat) : Int)) + 1)) (lv' := [(5, .int (iI ((16 * h + ((i : Nat) : Int)) + 1))), (4, .int (iI 0)), (0, .ref (mad 0)), (1, .int (iI h)), (2, .int (iI ee)), (3, .int (iI day))]) hx hb dX6_counts_96 hl (k := 5) rfl (iI_add _ _) (by decide) rfl (fun ls hl => ?_)
          refine lv_goto (tgt := 30) hx hb dX6_counts_99 (by decide) ?_
          have e0 : (bI (¬ exN (sQuash S h ee day) (i + 1)) : Int) = 0 := by
            first | exact nx_0 (by assumption) | exact nx_0' ⟨by assumption, by assumption, by assumption⟩ | exact nx_1 (by assumption) (fun z => by first | exact absurd z.1 (by assumption) | exact absurd z.2.1 (by assumption) | (have z2 := z.2.2; omega))
          have e1 : (16 * h + (((i + 1) : Nat) : Int) : Int) = (16 * h + ((i : Nat) : Int)) + 1 := by
            omega
          exact ihi (by omega) ls (lv_sub hl [2, 3, 4, 5, 1, 0] (by simp only [e0, e1]; rfl))
        · refine lv_aload_n hx hb dX6_counts_51 rfl (lv_at hl 0 rfl) ?_
          refine q_get (v := .ref (mad 21)) (C := RX6) (T := TX6) (N := 32) hx hb hts inX6 hown hK hM.1 rfl 21 (by decide) (hts (.fieldLink RX6 62 "TavernBenchModel" "eventKind" "[I") (by decide +kernel)) (fun _ h9 => h9) rfl dX6_counts_52 ?_
          refine lv_iload hx hb dX6_counts_55 (lv_at hl 5 rfl) ?_
          refine q_mld hx hb hK hM 21 480 ⟨by decide, by decide, by decide⟩ rfl ⟨by omega, by omega⟩ dX6_counts_57 ?_
          refine lv_iconst (v := iI 1) hx hb dX6_counts_58 rfl ?_
          refine q_icmp_ne (tgt := 89) hx hb dX6_counts_59 (by decide) (hI.R (by decide)) (by decide) (fun c59 => ?_) (fun c59 => ?_)
          · refine lv_iconst (v := iI 1) hx hb dX6_counts_89 rfl ?_
            refine lv_goto (tgt := 94) hx hb dX6_counts_90 (by decide) ?_
            refine lv_istore (lv' := [(4, .int (iI 1)), (0, .ref (mad 0)), (1, .int (iI h)), (2, .int (iI ee)), (3, .int (iI day)), (5, .int (iI (16 * h + ((i : Nat) : Int))))]) hx hb dX6_counts_94 hl (by decide) rfl (fun ls hl => ?_)
            refine lv_iinc (v := iI ((16 * h + ((i : Nat) : Int)) + 1)) (lv' := [(5, .int (iI ((16 * h + ((i : Nat) : Int)) + 1))), (4, .int (iI 1)), (0, .ref (mad 0)), (1, .int (iI h)), (2, .int (iI ee)), (3, .int (iI day))]) hx hb dX6_counts_96 hl (k := 5) rfl (iI_add _ _) (by decide) rfl (fun ls hl => ?_)
            refine lv_goto (tgt := 30) hx hb dX6_counts_99 (by decide) ?_
            have e0 : (bI (¬ exN (sQuash S h ee day) (i + 1)) : Int) = 1 := by
              first | exact nx_0 (by assumption) | exact nx_0' ⟨by assumption, by assumption, by assumption⟩ | exact nx_1 (by assumption) (fun z => by first | exact absurd z.1 (by assumption) | exact absurd z.2.1 (by assumption) | (have z2 := z.2.2; omega))
            have e1 : (16 * h + (((i + 1) : Nat) : Int) : Int) = (16 * h + ((i : Nat) : Int)) + 1 := by
              omega
            exact ihi (by omega) ls (lv_sub hl [2, 3, 4, 5, 1, 0] (by simp only [e0, e1]; rfl))
          · refine lv_aload_n hx hb dX6_counts_62 rfl (lv_at hl 0 rfl) ?_
            refine q_get (v := .ref (mad 22)) (C := RX6) (T := TX6) (N := 32) hx hb hts inX6 hown hK hM.1 rfl 22 (by decide) (hts (.fieldLink RX6 65 "TavernBenchModel" "eventValue" "[I") (by decide +kernel)) (fun _ h9 => h9) rfl dX6_counts_63 ?_
            refine lv_iload hx hb dX6_counts_66 (lv_at hl 5 rfl) ?_
            refine q_mld hx hb hK hM 22 480 ⟨by decide, by decide, by decide⟩ rfl ⟨by omega, by omega⟩ dX6_counts_68 ?_
            refine lv_aload_n hx hb dX6_counts_69 rfl (lv_at hl 0 rfl) ?_
            refine q_get (v := .ref (mad 22)) (C := RX6) (T := TX6) (N := 32) hx hb hts inX6 hown hK hM.1 rfl 22 (by decide) (hts (.fieldLink RX6 65 "TavernBenchModel" "eventValue" "[I") (by decide +kernel)) (fun _ h9 => h9) rfl dX6_counts_70 ?_
            refine lv_iload_n hx hb dX6_counts_73 rfl (lv_at hl 2 rfl) ?_
            refine q_mld hx hb hK hM 22 480 ⟨by decide, by decide, by decide⟩ rfl ⟨by omega, by omega⟩ dX6_counts_74 ?_
            refine q_icmp_ne (tgt := 89) hx hb dX6_counts_75 (by decide) (hI.R (by decide)) (hI.R (by decide)) (fun c75 => ?_) (fun c75 => ?_)
            · refine lv_iconst (v := iI 1) hx hb dX6_counts_89 rfl ?_
              refine lv_goto (tgt := 94) hx hb dX6_counts_90 (by decide) ?_
              refine lv_istore (lv' := [(4, .int (iI 1)), (0, .ref (mad 0)), (1, .int (iI h)), (2, .int (iI ee)), (3, .int (iI day)), (5, .int (iI (16 * h + ((i : Nat) : Int))))]) hx hb dX6_counts_94 hl (by decide) rfl (fun ls hl => ?_)
              refine lv_iinc (v := iI ((16 * h + ((i : Nat) : Int)) + 1)) (lv' := [(5, .int (iI ((16 * h + ((i : Nat) : Int)) + 1))), (4, .int (iI 1)), (0, .ref (mad 0)), (1, .int (iI h)), (2, .int (iI ee)), (3, .int (iI day))]) hx hb dX6_counts_96 hl (k := 5) rfl (iI_add _ _) (by decide) rfl (fun ls hl => ?_)
              refine lv_goto (tgt := 30) hx hb dX6_counts_99 (by decide) ?_
              have e0 : (bI (¬ exN (sQuash S h ee day) (i + 1)) : Int) = 1 := by
                first | exact nx_0 (by assumption) | exact nx_0' ⟨by assumption, by assumption, by assumption⟩ | exact nx_1 (by assumption) (fun z => by first | exact absurd z.1 (by assumption) | exact absurd z.2.1 (by assumption) | (have z2 := z.2.2; omega))
              have e1 : (16 * h + (((i + 1) : Nat) : Int) : Int) = (16 * h + ((i : Nat) : Int)) + 1 := by
                omega
              exact ihi (by omega) ls (lv_sub hl [2, 3, 4, 5, 1, 0] (by simp only [e0, e1]; rfl))
            · refine lv_aload_n hx hb dX6_counts_78 rfl (lv_at hl 0 rfl) ?_
              refine q_get (v := .ref (mad 20)) (C := RX6) (T := TX6) (N := 32) hx hb hts inX6 hown hK hM.1 rfl 20 (by decide) (hts (.fieldLink RX6 59 "TavernBenchModel" "eventDay" "[I") (by decide +kernel)) (fun _ h9 => h9) rfl dX6_counts_79 ?_
              refine lv_iload hx hb dX6_counts_82 (lv_at hl 5 rfl) ?_
              refine q_mld hx hb hK hM 20 480 ⟨by decide, by decide, by decide⟩ rfl ⟨by omega, by omega⟩ dX6_counts_84 ?_
              refine lv_iload_n hx hb dX6_counts_85 rfl (lv_at hl 3 rfl) ?_
              refine q_icmp_le (tgt := 93) hx hb dX6_counts_86 (by decide) (hI.R (by decide)) r_day (fun c86 => ?_) (fun c86 => ?_)
              · refine lv_iconst (v := iI 0) hx hb dX6_counts_93 rfl ?_
                refine lv_istore (lv' := [(4, .int (iI 0)), (0, .ref (mad 0)), (1, .int (iI h)), (2, .int (iI ee)), (3, .int (iI day)), (5, .int (iI (16 * h + ((i : Nat) : Int))))]) hx hb dX6_counts_94 hl (by decide) rfl (fun ls hl => ?_)
                refine lv_iinc (v := iI ((16 * h + ((i : Nat) : Int)) + 1)) (lv' := [(5, .int (iI ((16 * h + ((i : Nat) : Int)) + 1))), (4, .int (iI 0)), (0, .ref (mad 0)), (1, .int (iI h)), (2, .int (iI ee)), (3, .int (iI day))]) hx hb dX6_counts_96 hl (k := 5) rfl (iI_add _ _) (by decide) rfl (fun ls hl => ?_)
                refine lv_goto (tgt := 30) hx hb dX6_counts_99 (by decide) ?_
                have e0 : (bI (¬ exN (sQuash S h ee day) (i + 1)) : Int) = 0 := by
                  first | exact nx_0 (by assumption) | exact nx_0' ⟨by assumption, by assumption, by assumption⟩ | exact nx_1 (by assumption) (fun z => by first | exact absurd z.1 (by assumption) | exact absurd z.2.1 (by assumption) | (have z2 := z.2.2; omega))
                have e1 : (16 * h + (((i + 1) : Nat) : Int) : Int) = (16 * h + ((i : Nat) : Int)) + 1 := by
                  omega
                exact ihi (by omega) ls (lv_sub hl [2, 3, 4, 5, 1, 0] (by simp only [e0, e1]; rfl))
              · refine lv_iconst (v := iI 1) hx hb dX6_counts_89 rfl ?_
                refine lv_goto (tgt := 94) hx hb dX6_counts_90 (by decide) ?_
                refine lv_istore (lv' := [(4, .int (iI 1)), (0, .ref (mad 0)), (1, .int (iI h)), (2, .int (iI ee)), (3, .int (iI day)), (5, .int (iI (16 * h + ((i : Nat) : Int))))]) hx hb dX6_counts_94 hl (by decide) rfl (fun ls hl => ?_)
                refine lv_iinc (v := iI ((16 * h + ((i : Nat) : Int)) + 1)) (lv' := [(5, .int (iI ((16 * h + ((i : Nat) : Int)) + 1))), (4, .int (iI 1)), (0, .ref (mad 0)), (1, .int (iI h)), (2, .int (iI ee)), (3, .int (iI day))]) hx hb dX6_counts_96 hl (k := 5) rfl (iI_add _ _) (by decide) rfl (fun ls hl => ?_)
                refine lv_goto (tgt := 30) hx hb dX6_counts_99 (by decide) ?_
                have e0 : (bI (¬ exN (sQuash S h ee day) (i + 1)) : Int) = 1 := by
                  first | exact nx_0 (by assumption) | exact nx_0' ⟨by assumption, by assumption, by assumption⟩ | exact nx_1 (by assumption) (fun z => by first | exact absurd z.1 (by assumption) | exact absurd z.2.1 (by assumption) | (have z2 := z.2.2; omega))
                have e1 : (16 * h + (((i + 1) : Nat) : Int) : Int) = (16 * h + ((i : Nat) : Int)) + 1 := by
                  omega
                exact ihi (by omega) ls (lv_sub hl [2, 3, 4, 5, 1, 0] (by simp only [e0, e1]; rfl))
    · refine lv_iconst (v := iI 0) hx hb dX6_counts_19 rfl ?_
      refine q_retz hx hb hr hlocks (Or.inl rfl) dX6_counts_20 ?_
      exact bI_e0 (fun z => by have z2 := z.1; omega)

set_option maxHeartbeats 4000000 in
set_option maxRecDepth 100000 in
theorem c6_endedFrom (l : Launch) (g : GG) (mad : Nat → Nat) (S : St) (hI : Inv S) (h : Int) (day : Int) (r_h : R32 h) (r_day : R32 day) (h0 : 0 ≤ h ∧ h < S 14 0) : MetI l yX6_endedFrom wsX6_endedFrom ({ frames := 1, cells := 0, slots := 0, locals := 25 }) g [.ref (mad 0), .int (iI h), .int (iI day)] (fun H => RepM g mad S H) (sEnd S h day 100000 (S 19 h).toNat) := by
  refine Met.ofW (cc := cX6_endedFrom) (maxL := 8) (ret := (some .int)) (by decide) rfl ?_
  intro p e s m args below meth c s₁ B hml hv
  obtain ⟨rfl, hM, hK⟩ := hv
  have hx := B.exec
  have hb := B.bytes
  have hr := B.returns
  have hts := atoms_spec (ws := wsX6_endedFrom) B.pre
  have hown : s.vm.findClass RX6 = some m.cls := findClass_of_methodNamed B.named
  have hlocks := B.notSynchronized
  have inX6 : ∀ w ∈ wsX60, w ∈ wsX6_endedFrom := by decide +kernel
  have hl := lv_entry ([.ref (mad 0), .int (iI h), .int (iI day)]) (n := 8) (Nat.le_of_ble_eq_true rfl)
  rw [lg_entry_eq]
  generalize (lg_sl ([.ref (mad 0), .int (iI h), .int (iI day)]) ++ List.replicate (8 - (lg_sl ([.ref (mad 0), .int (iI h), .int (iI day)])).length) Slot.unset).toArray = ls at hl ⊢
  have hl : lv_has ls 8 [(0, .ref (mad 0)), (1, .int (iI h)), (2, .int (iI day))] := hl
  have hH := hI.house h0.1 h0.2
  have hN := hI.nums
  refine q_ldc hx hb 100000 hown (hts (.constant RX6 126 (100000)) (by decide +kernel)) (by decide +kernel) dX6_endedFrom_0 ?_
  refine lv_istore_n (lv' := [(3, .int (iI 100000)), (0, .ref (mad 0)), (1, .int (iI h)), (2, .int (iI day))]) hx hb dX6_endedFrom_2 rfl hl (by decide) rfl (fun ls hl => ?_)
  refine q_bipush hx hb 16 dX6_endedFrom_3 (by decide +kernel) ?_
  refine lv_iload_n hx hb dX6_endedFrom_5 rfl (lv_at hl 2 rfl) ?_
  refine q_imul hx hb dX6_endedFrom_6 ?_
  refine lv_aload_n hx hb dX6_endedFrom_7 rfl (lv_at hl 1 rfl) ?_
  refine q_get (v := .ref (mad 19)) (C := RX6) (T := TX6) (N := 32) hx hb hts inX6 hown hK hM.1 rfl 19 (by decide) (hts (.fieldLink RX6 56 "TavernBenchModel" "events" "[I") (by decide +kernel)) (fun _ h9 => h9) rfl dX6_endedFrom_8 ?_
  refine lv_iload_n hx hb dX6_endedFrom_11 rfl (lv_at hl 2 rfl) ?_
  refine q_mld hx hb hK hM 19 30 ⟨by decide, by decide, by decide⟩ rfl ⟨by omega, by omega⟩ dX6_endedFrom_12 ?_
  refine q_iadd hx hb dX6_endedFrom_13 ?_
  refine lv_istore (lv' := [(4, .int (iI ((16 * h) + (S 19 h)))), (3, .int (iI 100000)), (0, .ref (mad 0)), (1, .int (iI h)), (2, .int (iI day))]) hx hb dX6_endedFrom_14 hl (by decide) rfl (fun ls hl => ?_)
  refine q_bipush hx hb 16 dX6_endedFrom_16 (by decide +kernel) ?_
  refine lv_iload_n hx hb dX6_endedFrom_18 rfl (lv_at hl 3 rfl) ?_
  refine q_imul hx hb dX6_endedFrom_19 ?_
  refine lv_istore (lv' := [(5, .int (iI (16 * h))), (4, .int (iI ((16 * h) + (S 19 h)))), (3, .int (iI 100000)), (0, .ref (mad 0)), (1, .int (iI h)), (2, .int (iI day))]) hx hb dX6_endedFrom_20 hl (by decide) rfl (fun ls hl => ?_)
  have e0 : (sEnd S h day 100000 0 : Int) = 100000 := by
    rfl
  have e1 : (16 * h + S 19 h : Int) = (16 * h) + (S 19 h) := by
    omega
  have e2 : (16 * h + ((0 : Nat) : Int) : Int) = 16 * h := by
    omega
  refine q_loopN (nL := 8) ((S 19 h).toNat) (fun (i : Nat) => [(0, .ref (mad 0)), (1, .int (iI h)), (2, .int (iI day)), (3, .int (iI (sEnd S h day 100000 i))), (4, .int (iI (16 * h + S 19 h))), (5, .int (iI (16 * h + ((i : Nat) : Int))))]) (lv_sub hl [3, 4, 5, 2, 1, 0] (by simp only [e0, e1, e2]; rfl)) (fun i hi ihi ls hl => ?_)
  have hl : lv_has ls 8 [(0, .ref (mad 0)), (1, .int (iI h)), (2, .int (iI day)), (3, .int (iI (sEnd S h day 100000 i))), (4, .int (iI (16 * h + S 19 h))), (5, .int (iI (16 * h + ((i : Nat) : Int))))] := hl
  have hE := hI.endB h0 (a := 100000) (day := day) (by decide) (n := i) (by omega)
  refine lv_iload hx hb dX6_endedFrom_22 (lv_at hl 5 rfl) ?_
  refine lv_iload hx hb dX6_endedFrom_24 (lv_at hl 4 rfl) ?_
  refine q_icmp_ge (tgt := 156) hx hb dX6_endedFrom_26 (by decide) (by omega) (by omega) (fun c26 => ?_) (fun c26 => ?_)
  · refine lv_iload_n hx hb dX6_endedFrom_156 rfl (lv_at hl 3 rfl) ?_
    refine q_reti hx hb hr hlocks dX6_endedFrom_157 ?_
    have e : i = (S 19 h).toNat := by omega
    rw [e]
  · refine lv_iconst (v := iI 0) hx hb dX6_endedFrom_29 rfl ?_
    refine lv_istore (lv' := [(6, .int (iI 0)), (0, .ref (mad 0)), (1, .int (iI h)), (2, .int (iI day)), (3, .int (iI (sEnd S h day 100000 i))), (4, .int (iI (16 * h + S 19 h))), (5, .int (iI (16 * h + ((i : Nat) : Int))))]) hx hb dX6_endedFrom_30 hl (by decide) rfl (fun ls hl => ?_)
    refine q_bipush hx hb 16 dX6_endedFrom_32 (by decide +kernel) ?_
    refine lv_iload_n hx hb dX6_endedFrom_34 rfl (lv_at hl 2 rfl) ?_
    refine q_imul hx hb dX6_endedFrom_35 ?_
    refine lv_istore (lv' := [(7, .int (iI (16 * h))), (6, .int (iI 0)), (0, .ref (mad 0)), (1, .int (iI h)), (2, .int (iI day)), (3, .int (iI (sEnd S h day 100000 i))), (4, .int (iI (16 * h + S 19 h))), (5, .int (iI (16 * h + ((i : Nat) : Int))))]) hx hb dX6_endedFrom_36 hl (by decide) rfl (fun ls hl => ?_)
    have e0 : (cI (sCnt S h (16 * h + ((i : Nat) : Int)) day) (sNum S h day i 0) 0 : Int) = 0 := by
      by_cases z : sCnt S h (16 * h + ((i : Nat) : Int)) day
      · rw [cI_t z]; rfl
      · rw [cI_f z]
    have e1 : (16 * h + ((0 : Nat) : Int) : Int) = 16 * h := by
      omega
    refine q_loopN (nL := 8) ((S 19 h).toNat) (fun (j : Nat) => [(0, .ref (mad 0)), (1, .int (iI h)), (2, .int (iI day)), (3, .int (iI (sEnd S h day 100000 i))), (4, .int (iI (16 * h + S 19 h))), (5, .int (iI (16 * h + ((i : Nat) : Int)))), (6, .int (iI (cI (sCnt S h (16 * h + ((i : Nat) : Int)) day) (sNum S h day i j) 0))), (7, .int (iI (16 * h + ((j : Nat) : Int))))]) (lv_sub hl [2, 3, 4, 5, 6, 7, 1, 0] (by simp only [e0, e1]; rfl)) (fun j hj ihj ls hl => ?_)
    have hl : lv_has ls 8 [(0, .ref (mad 0)), (1, .int (iI h)), (2, .int (iI day)), (3, .int (iI (sEnd S h day 100000 i))), (4, .int (iI (16 * h + S 19 h))), (5, .int (iI (16 * h + ((i : Nat) : Int)))), (6, .int (iI (cI (sCnt S h (16 * h + ((i : Nat) : Int)) day) (sNum S h day i j) 0))), (7, .int (iI (16 * h + ((j : Nat) : Int))))] := hl
    refine lv_iload hx hb dX6_endedFrom_38 (lv_at hl 7 rfl) ?_
    refine lv_iload hx hb dX6_endedFrom_40 (lv_at hl 4 rfl) ?_
    refine q_icmp_ge (tgt := 121) hx hb dX6_endedFrom_42 (by decide) (by omega) (by omega) (fun c42 => ?_) (fun c42 => ?_)
    · have e0 : (cI (sCnt S h (16 * h + ((i : Nat) : Int)) day) (sNum S h day i (S 19 h).toNat) 0 : Int) = cI (sCnt S h (16 * h + ((i : Nat) : Int)) day) (sNum S h day i j) 0 := by
        have ej : j = (S 19 h).toNat := by omega
        rw [ej]
      have hl : lv_has ls 8 [(0, .ref (mad 0)), (1, .int (iI h)), (2, .int (iI day)), (3, .int (iI (sEnd S h day 100000 i))), (4, .int (iI (16 * h + S 19 h))), (5, .int (iI (16 * h + ((i : Nat) : Int)))), (6, .int (iI (cI (sCnt S h (16 * h + ((i : Nat) : Int)) day) (sNum S h day i (S 19 h).toNat) 0))), (7, .int (iI (16 * h + ((j : Nat) : Int))))] := (lv_sub hl [0, 1, 2, 3, 4, 5, 6, 7] (by simp only [e0]; rfl))
      have hcn := cnt_le (qNum S h day i) (S 19 h).toNat
      have hcb : R32 (cI (sCnt S h (16 * h + ((i : Nat) : Int)) day) (sNum S h day i (S 19 h).toNat) 0) := by
        by_cases z : sCnt S h (16 * h + ((i : Nat) : Int)) day
        · rw [cI_t z]; show R32 (cnt _ _); omega
        · rw [cI_f z]; decide
      refine lv_iload hx hb dX6_endedFrom_121 (lv_at hl 6 rfl) ?_
      refine lv_iconst (v := iI 2) hx hb dX6_endedFrom_123 rfl ?_
      refine q_icmp_le (tgt := 148) hx hb dX6_endedFrom_124 (by decide) hcb (by decide) (fun c124 => ?_) (fun c124 => ?_)
      · refine lv_iload_n hx hb dX6_endedFrom_148 rfl (lv_at hl 3 rfl) ?_
        refine lv_istore_n (lv' := [(3, .int (iI (sEnd S h day 100000 i))), (0, .ref (mad 0)), (1, .int (iI h)), (2, .int (iI day)), (4, .int (iI (16 * h + S 19 h))), (5, .int (iI (16 * h + ((i : Nat) : Int)))), (6, .int (iI (cI (sCnt S h (16 * h + ((i : Nat) : Int)) day) (sNum S h day i (S 19 h).toNat) 0))), (7, .int (iI (16 * h + ((j : Nat) : Int))))]) hx hb dX6_endedFrom_149 rfl hl (by decide) rfl (fun ls hl => ?_)
        refine lv_iinc (v := iI ((16 * h + ((i : Nat) : Int)) + 1)) (lv' := [(5, .int (iI ((16 * h + ((i : Nat) : Int)) + 1))), (3, .int (iI (sEnd S h day 100000 i))), (0, .ref (mad 0)), (1, .int (iI h)), (2, .int (iI day)), (4, .int (iI (16 * h + S 19 h))), (6, .int (iI (cI (sCnt S h (16 * h + ((i : Nat) : Int)) day) (sNum S h day i (S 19 h).toNat) 0))), (7, .int (iI (16 * h + ((j : Nat) : Int))))]) hx hb dX6_endedFrom_150 hl (k := 5) rfl (iI_add _ _) (by decide) rfl (fun ls hl => ?_)
        refine lv_goto (tgt := 22) hx hb dX6_endedFrom_153 (by decide) ?_
        have e0 : (sEnd S h day 100000 (i + 1) : Int) = sEnd S h day 100000 i := by
          first | exact mn_t (two_cI.mp c124) c135 | exact mn_f (fun z => absurd (two_cI.mpr z.1) (by omega)) | exact mn_f (fun z => absurd z.2 (Int.not_lt.mpr c135))
        have e1 : (16 * h + (((i + 1) : Nat) : Int) : Int) = (16 * h + ((i : Nat) : Int)) + 1 := by
          omega
        exact ihi (by omega) ls (lv_sub hl [2, 3, 4, 1, 5, 0] (by simp only [e0, e1]; rfl))
      · refine lv_aload_n hx hb dX6_endedFrom_127 rfl (lv_at hl 0 rfl) ?_
        refine q_get (v := .ref (mad 20)) (C := RX6) (T := TX6) (N := 32) hx hb hts inX6 hown hK hM.1 rfl 20 (by decide) (hts (.fieldLink RX6 59 "TavernBenchModel" "eventDay" "[I") (by decide +kernel)) (fun _ h9 => h9) rfl dX6_endedFrom_128 ?_
        refine lv_iload hx hb dX6_endedFrom_131 (lv_at hl 5 rfl) ?_
        refine q_mld hx hb hK hM 20 480 ⟨by decide, by decide, by decide⟩ rfl ⟨by omega, by omega⟩ dX6_endedFrom_133 ?_
        refine lv_iload_n hx hb dX6_endedFrom_134 rfl (lv_at hl 3 rfl) ?_
        refine q_icmp_ge (tgt := 148) hx hb dX6_endedFrom_135 (by decide) (hI.R (by decide)) (by omega) (fun c135 => ?_) (fun c135 => ?_)
        · refine lv_iload_n hx hb dX6_endedFrom_148 rfl (lv_at hl 3 rfl) ?_
          refine lv_istore_n (lv' := [(3, .int (iI (sEnd S h day 100000 i))), (0, .ref (mad 0)), (1, .int (iI h)), (2, .int (iI day)), (4, .int (iI (16 * h + S 19 h))), (5, .int (iI (16 * h + ((i : Nat) : Int)))), (6, .int (iI (cI (sCnt S h (16 * h + ((i : Nat) : Int)) day) (sNum S h day i (S 19 h).toNat) 0))), (7, .int (iI (16 * h + ((j : Nat) : Int))))]) hx hb dX6_endedFrom_149 rfl hl (by decide) rfl (fun ls hl => ?_)
          refine lv_iinc (v := iI ((16 * h + ((i : Nat) : Int)) + 1)) (lv' := [(5, .int (iI ((16 * h + ((i : Nat) : Int)) + 1))), (3, .int (iI (sEnd S h day 100000 i))), (0, .ref (mad 0)), (1, .int (iI h)), (2, .int (iI day)), (4, .int (iI (16 * h + S 19 h))), (6, .int (iI (cI (sCnt S h (16 * h + ((i : Nat) : Int)) day) (sNum S h day i (S 19 h).toNat) 0))), (7, .int (iI (16 * h + ((j : Nat) : Int))))]) hx hb dX6_endedFrom_150 hl (k := 5) rfl (iI_add _ _) (by decide) rfl (fun ls hl => ?_)
          refine lv_goto (tgt := 22) hx hb dX6_endedFrom_153 (by decide) ?_
          have e0 : (sEnd S h day 100000 (i + 1) : Int) = sEnd S h day 100000 i := by
            first | exact mn_t (two_cI.mp c124) c135 | exact mn_f (fun z => absurd (two_cI.mpr z.1) (by omega)) | exact mn_f (fun z => absurd z.2 (Int.not_lt.mpr c135))
          have e1 : (16 * h + (((i + 1) : Nat) : Int) : Int) = (16 * h + ((i : Nat) : Int)) + 1 := by
            omega
          exact ihi (by omega) ls (lv_sub hl [2, 3, 4, 1, 5, 0] (by simp only [e0, e1]; rfl))
        · refine lv_aload_n hx hb dX6_endedFrom_138 rfl (lv_at hl 0 rfl) ?_
          refine q_get (v := .ref (mad 20)) (C := RX6) (T := TX6) (N := 32) hx hb hts inX6 hown hK hM.1 rfl 20 (by decide) (hts (.fieldLink RX6 59 "TavernBenchModel" "eventDay" "[I") (by decide +kernel)) (fun _ h9 => h9) rfl dX6_endedFrom_139 ?_
          refine lv_iload hx hb dX6_endedFrom_142 (lv_at hl 5 rfl) ?_
          refine q_mld hx hb hK hM 20 480 ⟨by decide, by decide, by decide⟩ rfl ⟨by omega, by omega⟩ dX6_endedFrom_144 ?_
          refine lv_goto (tgt := 149) hx hb dX6_endedFrom_145 (by decide) ?_
          refine lv_istore_n (lv' := [(3, .int (iI (S 20 (16 * h + ((i : Nat) : Int))))), (0, .ref (mad 0)), (1, .int (iI h)), (2, .int (iI day)), (4, .int (iI (16 * h + S 19 h))), (5, .int (iI (16 * h + ((i : Nat) : Int)))), (6, .int (iI (cI (sCnt S h (16 * h + ((i : Nat) : Int)) day) (sNum S h day i (S 19 h).toNat) 0))), (7, .int (iI (16 * h + ((j : Nat) : Int))))]) hx hb dX6_endedFrom_149 rfl hl (by decide) rfl (fun ls hl => ?_)
          refine lv_iinc (v := iI ((16 * h + ((i : Nat) : Int)) + 1)) (lv' := [(5, .int (iI ((16 * h + ((i : Nat) : Int)) + 1))), (3, .int (iI (S 20 (16 * h + ((i : Nat) : Int))))), (0, .ref (mad 0)), (1, .int (iI h)), (2, .int (iI day)), (4, .int (iI (16 * h + S 19 h))), (6, .int (iI (cI (sCnt S h (16 * h + ((i : Nat) : Int)) day) (sNum S h day i (S 19 h).toNat) 0))), (7, .int (iI (16 * h + ((j : Nat) : Int))))]) hx hb dX6_endedFrom_150 hl (k := 5) rfl (iI_add _ _) (by decide) rfl (fun ls hl => ?_)
          refine lv_goto (tgt := 22) hx hb dX6_endedFrom_153 (by decide) ?_
          have e0 : (sEnd S h day 100000 (i + 1) : Int) = S 20 (16 * h + ((i : Nat) : Int)) := by
            first | exact mn_t (two_cI.mp c124) c135 | exact mn_f (fun z => absurd (two_cI.mpr z.1) (by omega)) | exact mn_f (fun z => absurd z.2 (Int.not_lt.mpr c135))
          have e1 : (16 * h + (((i + 1) : Nat) : Int) : Int) = (16 * h + ((i : Nat) : Int)) + 1 := by
            omega
          exact ihi (by omega) ls (lv_sub hl [2, 3, 4, 1, 5, 0] (by simp only [e0, e1]; rfl))
    · have hc := hI.ev h0.1 h0.2 (j := ((i : Nat) : Int)) (by omega) (by omega)
      have hd := hI.ev h0.1 h0.2 (j := ((j : Nat) : Int)) (by omega) (by omega)
      refine lv_aload_n hx hb dX6_endedFrom_45 rfl (lv_at hl 0 rfl) ?_
      refine lv_iload_n hx hb dX6_endedFrom_46 rfl (lv_at hl 1 rfl) ?_
      refine lv_iload hx hb dX6_endedFrom_47 (lv_at hl 5 rfl) ?_
      refine lv_iload_n hx hb dX6_endedFrom_49 rfl (lv_at hl 2 rfl) ?_
      refine q_cVi (As := [.int (iI h), .int (iI (16 * h + ((i : Nat) : Int))), .int (iI day)]) (rest := []) ⟨hx, hb, hml, hown, hts⟩ (c6_counts l g mad S hI h (16 * h + ((i : Nat) : Int)) day r_h (by omega) r_day h0 ⟨by omega, by omega⟩) (cwV 3 hts gX6_endedFrom_X6_counts rfl rfl rfl (by decide +kernel) ⟨Nat.le_of_ble_eq_true rfl, Nat.le_of_ble_eq_true rfl⟩) (q_pV hK hM.1 rfl hM) rfl hl.1 rfl (Nat.le_of_ble_eq_true rfl) ⟨Nat.zero_le _, Nat.zero_le _⟩ dX6_endedFrom_50 ?_
      refine q_ifb_eq (tgt := 121) hx hb dX6_endedFrom_53 (by decide) (fun c53 => ?_) (fun c53 => ?_)
      · have e0 : (cI (sCnt S h (16 * h + ((i : Nat) : Int)) day) (sNum S h day i (S 19 h).toNat) 0 : Int) = cI (sCnt S h (16 * h + ((i : Nat) : Int)) day) (sNum S h day i j) 0 := by
          rw [cI_f c53, cI_f c53]
        have hl : lv_has ls 8 [(0, .ref (mad 0)), (1, .int (iI h)), (2, .int (iI day)), (3, .int (iI (sEnd S h day 100000 i))), (4, .int (iI (16 * h + S 19 h))), (5, .int (iI (16 * h + ((i : Nat) : Int)))), (6, .int (iI (cI (sCnt S h (16 * h + ((i : Nat) : Int)) day) (sNum S h day i (S 19 h).toNat) 0))), (7, .int (iI (16 * h + ((j : Nat) : Int))))] := (lv_sub hl [0, 1, 2, 3, 4, 5, 6, 7] (by simp only [e0]; rfl))
        have hcn := cnt_le (qNum S h day i) (S 19 h).toNat
        have hcb : R32 (cI (sCnt S h (16 * h + ((i : Nat) : Int)) day) (sNum S h day i (S 19 h).toNat) 0) := by
          by_cases z : sCnt S h (16 * h + ((i : Nat) : Int)) day
          · rw [cI_t z]; show R32 (cnt _ _); omega
          · rw [cI_f z]; decide
        refine lv_iload hx hb dX6_endedFrom_121 (lv_at hl 6 rfl) ?_
        refine lv_iconst (v := iI 2) hx hb dX6_endedFrom_123 rfl ?_
        refine q_icmp_le (tgt := 148) hx hb dX6_endedFrom_124 (by decide) hcb (by decide) (fun c124_1 => ?_) (fun c124_1 => ?_)
        · refine lv_iload_n hx hb dX6_endedFrom_148 rfl (lv_at hl 3 rfl) ?_
          refine lv_istore_n (lv' := [(3, .int (iI (sEnd S h day 100000 i))), (0, .ref (mad 0)), (1, .int (iI h)), (2, .int (iI day)), (4, .int (iI (16 * h + S 19 h))), (5, .int (iI (16 * h + ((i : Nat) : Int)))), (6, .int (iI (cI (sCnt S h (16 * h + ((i : Nat) : Int)) day) (sNum S h day i (S 19 h).toNat) 0))), (7, .int (iI (16 * h + ((j : Nat) : Int))))]) hx hb dX6_endedFrom_149 rfl hl (by decide) rfl (fun ls hl => ?_)
          refine lv_iinc (v := iI ((16 * h + ((i : Nat) : Int)) + 1)) (lv' := [(5, .int (iI ((16 * h + ((i : Nat) : Int)) + 1))), (3, .int (iI (sEnd S h day 100000 i))), (0, .ref (mad 0)), (1, .int (iI h)), (2, .int (iI day)), (4, .int (iI (16 * h + S 19 h))), (6, .int (iI (cI (sCnt S h (16 * h + ((i : Nat) : Int)) day) (sNum S h day i (S 19 h).toNat) 0))), (7, .int (iI (16 * h + ((j : Nat) : Int))))]) hx hb dX6_endedFrom_150 hl (k := 5) rfl (iI_add _ _) (by decide) rfl (fun ls hl => ?_)
          refine lv_goto (tgt := 22) hx hb dX6_endedFrom_153 (by decide) ?_
          have e0 : (sEnd S h day 100000 (i + 1) : Int) = sEnd S h day 100000 i := by
            first | exact mn_t (two_cI.mp c124_1) c135 | exact mn_f (fun z => absurd (two_cI.mpr z.1) (by omega)) | exact mn_f (fun z => absurd z.2 (Int.not_lt.mpr c135))
          have e1 : (16 * h + (((i + 1) : Nat) : Int) : Int) = (16 * h + ((i : Nat) : Int)) + 1 := by
            omega
          exact ihi (by omega) ls (lv_sub hl [2, 3, 4, 1, 5, 0] (by simp only [e0, e1]; rfl))
        · refine lv_aload_n hx hb dX6_endedFrom_127 rfl (lv_at hl 0 rfl) ?_
          refine q_get (v := .ref (mad 20)) (C := RX6) (T := TX6) (N := 32) hx hb hts inX6 hown hK hM.1 rfl 20 (by decide) (hts (.fieldLink RX6 59 "TavernBenchModel" "eventDay" "[I") (by decide +kernel)) (fun _ h9 => h9) rfl dX6_endedFrom_128 ?_
          refine lv_iload hx hb dX6_endedFrom_131 (lv_at hl 5 rfl) ?_
          refine q_mld hx hb hK hM 20 480 ⟨by decide, by decide, by decide⟩ rfl ⟨by omega, by omega⟩ dX6_endedFrom_133 ?_
          refine lv_iload_n hx hb dX6_endedFrom_134 rfl (lv_at hl 3 rfl) ?_
          refine q_icmp_ge (tgt := 148) hx hb dX6_endedFrom_135 (by decide) (hI.R (by decide)) (by omega) (fun c135_1 => ?_) (fun c135_1 => ?_)
          · refine lv_iload_n hx hb dX6_endedFrom_148 rfl (lv_at hl 3 rfl) ?_
            refine lv_istore_n (lv' := [(3, .int (iI (sEnd S h day 100000 i))), (0, .ref (mad 0)), (1, .int (iI h)), (2, .int (iI day)), (4, .int (iI (16 * h + S 19 h))), (5, .int (iI (16 * h + ((i : Nat) : Int)))), (6, .int (iI (cI (sCnt S h (16 * h + ((i : Nat) : Int)) day) (sNum S h day i (S 19 h).toNat) 0))), (7, .int (iI (16 * h + ((j : Nat) : Int))))]) hx hb dX6_endedFrom_149 rfl hl (by decide) rfl (fun ls hl => ?_)
            refine lv_iinc (v := iI ((16 * h + ((i : Nat) : Int)) + 1)) (lv' := [(5, .int (iI ((16 * h + ((i : Nat) : Int)) + 1))), (3, .int (iI (sEnd S h day 100000 i))), (0, .ref (mad 0)), (1, .int (iI h)), (2, .int (iI day)), (4, .int (iI (16 * h + S 19 h))), (6, .int (iI (cI (sCnt S h (16 * h + ((i : Nat) : Int)) day) (sNum S h day i (S 19 h).toNat) 0))), (7, .int (iI (16 * h + ((j : Nat) : Int))))]) hx hb dX6_endedFrom_150 hl (k := 5) rfl (iI_add _ _) (by decide) rfl (fun ls hl => ?_)
            refine lv_goto (tgt := 22) hx hb dX6_endedFrom_153 (by decide) ?_
            have e0 : (sEnd S h day 100000 (i + 1) : Int) = sEnd S h day 100000 i := by
              first | exact mn_t (two_cI.mp c124_1) c135_1 | exact mn_f (fun z => absurd (two_cI.mpr z.1) (by omega)) | exact mn_f (fun z => absurd z.2 (Int.not_lt.mpr c135_1))
            have e1 : (16 * h + (((i + 1) : Nat) : Int) : Int) = (16 * h + ((i : Nat) : Int)) + 1 := by
              omega
            exact ihi (by omega) ls (lv_sub hl [2, 3, 4, 1, 5, 0] (by simp only [e0, e1]; rfl))
          · refine lv_aload_n hx hb dX6_endedFrom_138 rfl (lv_at hl 0 rfl) ?_
            refine q_get (v := .ref (mad 20)) (C := RX6) (T := TX6) (N := 32) hx hb hts inX6 hown hK hM.1 rfl 20 (by decide) (hts (.fieldLink RX6 59 "TavernBenchModel" "eventDay" "[I") (by decide +kernel)) (fun _ h9 => h9) rfl dX6_endedFrom_139 ?_
            refine lv_iload hx hb dX6_endedFrom_142 (lv_at hl 5 rfl) ?_
            refine q_mld hx hb hK hM 20 480 ⟨by decide, by decide, by decide⟩ rfl ⟨by omega, by omega⟩ dX6_endedFrom_144 ?_
            refine lv_goto (tgt := 149) hx hb dX6_endedFrom_145 (by decide) ?_
            refine lv_istore_n (lv' := [(3, .int (iI (S 20 (16 * h + ((i : Nat) : Int))))), (0, .ref (mad 0)), (1, .int (iI h)), (2, .int (iI day)), (4, .int (iI (16 * h + S 19 h))), (5, .int (iI (16 * h + ((i : Nat) : Int)))), (6, .int (iI (cI (sCnt S h (16 * h + ((i : Nat) : Int)) day) (sNum S h day i (S 19 h).toNat) 0))), (7, .int (iI (16 * h + ((j : Nat) : Int))))]) hx hb dX6_endedFrom_149 rfl hl (by decide) rfl (fun ls hl => ?_)
            refine lv_iinc (v := iI ((16 * h + ((i : Nat) : Int)) + 1)) (lv' := [(5, .int (iI ((16 * h + ((i : Nat) : Int)) + 1))), (3, .int (iI (S 20 (16 * h + ((i : Nat) : Int))))), (0, .ref (mad 0)), (1, .int (iI h)), (2, .int (iI day)), (4, .int (iI (16 * h + S 19 h))), (6, .int (iI (cI (sCnt S h (16 * h + ((i : Nat) : Int)) day) (sNum S h day i (S 19 h).toNat) 0))), (7, .int (iI (16 * h + ((j : Nat) : Int))))]) hx hb dX6_endedFrom_150 hl (k := 5) rfl (iI_add _ _) (by decide) rfl (fun ls hl => ?_)
            refine lv_goto (tgt := 22) hx hb dX6_endedFrom_153 (by decide) ?_
            have e0 : (sEnd S h day 100000 (i + 1) : Int) = S 20 (16 * h + ((i : Nat) : Int)) := by
              first | exact mn_t (two_cI.mp c124_1) c135_1 | exact mn_f (fun z => absurd (two_cI.mpr z.1) (by omega)) | exact mn_f (fun z => absurd z.2 (Int.not_lt.mpr c135_1))
            have e1 : (16 * h + (((i + 1) : Nat) : Int) : Int) = (16 * h + ((i : Nat) : Int)) + 1 := by
              omega
            exact ihi (by omega) ls (lv_sub hl [2, 3, 4, 1, 5, 0] (by simp only [e0, e1]; rfl))
      · refine lv_iload hx hb dX6_endedFrom_56 (lv_at hl 6 rfl) ?_
        refine lv_aload_n hx hb dX6_endedFrom_58 rfl (lv_at hl 0 rfl) ?_
        refine lv_iload_n hx hb dX6_endedFrom_59 rfl (lv_at hl 1 rfl) ?_
        refine lv_iload hx hb dX6_endedFrom_60 (lv_at hl 7 rfl) ?_
        refine lv_iload_n hx hb dX6_endedFrom_62 rfl (lv_at hl 2 rfl) ?_
        refine q_cVi (As := [.int (iI h), .int (iI (16 * h + ((j : Nat) : Int))), .int (iI day)]) (rest := [.int (iI (cI (sCnt S h (16 * h + ((i : Nat) : Int)) day) (sNum S h day i j) 0))]) ⟨hx, hb, hml, hown, hts⟩ (c6_counts l g mad S hI h (16 * h + ((j : Nat) : Int)) day r_h (by omega) r_day h0 ⟨by omega, by omega⟩) (cwV 3 hts gX6_endedFrom_X6_counts rfl rfl rfl (by decide +kernel) ⟨Nat.le_of_ble_eq_true rfl, Nat.le_of_ble_eq_true rfl⟩) (q_pV hK hM.1 rfl hM) rfl hl.1 rfl (Nat.le_of_ble_eq_true rfl) ⟨Nat.zero_le _, Nat.zero_le _⟩ dX6_endedFrom_63 ?_
        refine q_ifb_eq (tgt := 111) hx hb dX6_endedFrom_66 (by decide) (fun c66 => ?_) (fun c66 => ?_)
        · refine lv_iconst (v := iI 0) hx hb dX6_endedFrom_111 rfl ?_
          refine q_iadd hx hb dX6_endedFrom_112 ?_
          refine lv_istore (lv' := [(6, .int (iI ((cI (sCnt S h (16 * h + ((i : Nat) : Int)) day) (sNum S h day i j) 0) + 0))), (0, .ref (mad 0)), (1, .int (iI h)), (2, .int (iI day)), (3, .int (iI (sEnd S h day 100000 i))), (4, .int (iI (16 * h + S 19 h))), (5, .int (iI (16 * h + ((i : Nat) : Int)))), (7, .int (iI (16 * h + ((j : Nat) : Int))))]) hx hb dX6_endedFrom_113 hl (by decide) rfl (fun ls hl => ?_)
          refine lv_iinc (v := iI ((16 * h + ((j : Nat) : Int)) + 1)) (lv' := [(7, .int (iI ((16 * h + ((j : Nat) : Int)) + 1))), (6, .int (iI ((cI (sCnt S h (16 * h + ((i : Nat) : Int)) day) (sNum S h day i j) 0) + 0))), (0, .ref (mad 0)), (1, .int (iI h)), (2, .int (iI day)), (3, .int (iI (sEnd S h day 100000 i))), (4, .int (iI (16 * h + S 19 h))), (5, .int (iI (16 * h + ((i : Nat) : Int))))]) hx hb dX6_endedFrom_115 hl (k := 7) rfl (iI_add _ _) (by decide) rfl (fun ls hl => ?_)
          refine lv_goto (tgt := 38) hx hb dX6_endedFrom_118 (by decide) ?_
          have e0 : (cI (sCnt S h (16 * h + ((i : Nat) : Int)) day) (sNum S h day i (j + 1)) 0 : Int) = (cI (sCnt S h (16 * h + ((i : Nat) : Int)) day) (sNum S h day i j) 0) + 0 := by
            rw [cI_t c53, cI_t c53]
            first | exact cnt_1 ⟨by assumption, by omega, by omega⟩ | exact cnt_0 (fun z => by first | exact absurd z.1 (by assumption) | (have z2 := z.2; omega))
          have e1 : (16 * h + (((j + 1) : Nat) : Int) : Int) = (16 * h + ((j : Nat) : Int)) + 1 := by
            omega
          exact ihj (by omega) ls (lv_sub hl [2, 3, 4, 5, 6, 7, 1, 0] (by simp only [e0, e1]; rfl))
        · refine lv_aload_n hx hb dX6_endedFrom_69 rfl (lv_at hl 0 rfl) ?_
          refine q_get (v := .ref (mad 20)) (C := RX6) (T := TX6) (N := 32) hx hb hts inX6 hown hK hM.1 rfl 20 (by decide) (hts (.fieldLink RX6 59 "TavernBenchModel" "eventDay" "[I") (by decide +kernel)) (fun _ h9 => h9) rfl dX6_endedFrom_70 ?_
          refine lv_iload hx hb dX6_endedFrom_73 (lv_at hl 7 rfl) ?_
          refine q_mld hx hb hK hM 20 480 ⟨by decide, by decide, by decide⟩ rfl ⟨by omega, by omega⟩ dX6_endedFrom_75 ?_
          refine lv_aload_n hx hb dX6_endedFrom_76 rfl (lv_at hl 0 rfl) ?_
          refine q_get (v := .ref (mad 20)) (C := RX6) (T := TX6) (N := 32) hx hb hts inX6 hown hK hM.1 rfl 20 (by decide) (hts (.fieldLink RX6 59 "TavernBenchModel" "eventDay" "[I") (by decide +kernel)) (fun _ h9 => h9) rfl dX6_endedFrom_77 ?_
          refine lv_iload hx hb dX6_endedFrom_80 (lv_at hl 5 rfl) ?_
          refine q_mld hx hb hK hM 20 480 ⟨by decide, by decide, by decide⟩ rfl ⟨by omega, by omega⟩ dX6_endedFrom_82 ?_
          refine q_icmp_gt (tgt := 111) hx hb dX6_endedFrom_83 (by decide) (hI.R (by decide)) (hI.R (by decide)) (fun c83 => ?_) (fun c83 => ?_)
          · refine lv_iconst (v := iI 0) hx hb dX6_endedFrom_111 rfl ?_
            refine q_iadd hx hb dX6_endedFrom_112 ?_
            refine lv_istore (lv' := [(6, .int (iI ((cI (sCnt S h (16 * h + ((i : Nat) : Int)) day) (sNum S h day i j) 0) + 0))), (0, .ref (mad 0)), (1, .int (iI h)), (2, .int (iI day)), (3, .int (iI (sEnd S h day 100000 i))), (4, .int (iI (16 * h + S 19 h))), (5, .int (iI (16 * h + ((i : Nat) : Int)))), (7, .int (iI (16 * h + ((j : Nat) : Int))))]) hx hb dX6_endedFrom_113 hl (by decide) rfl (fun ls hl => ?_)
            refine lv_iinc (v := iI ((16 * h + ((j : Nat) : Int)) + 1)) (lv' := [(7, .int (iI ((16 * h + ((j : Nat) : Int)) + 1))), (6, .int (iI ((cI (sCnt S h (16 * h + ((i : Nat) : Int)) day) (sNum S h day i j) 0) + 0))), (0, .ref (mad 0)), (1, .int (iI h)), (2, .int (iI day)), (3, .int (iI (sEnd S h day 100000 i))), (4, .int (iI (16 * h + S 19 h))), (5, .int (iI (16 * h + ((i : Nat) : Int))))]) hx hb dX6_endedFrom_115 hl (k := 7) rfl (iI_add _ _) (by decide) rfl (fun ls hl => ?_)
            refine lv_goto (tgt := 38) hx hb dX6_endedFrom_118 (by decide) ?_
            have e0 : (cI (sCnt S h (16 * h + ((i : Nat) : Int)) day) (sNum S h day i (j + 1)) 0 : Int) = (cI (sCnt S h (16 * h + ((i : Nat) : Int)) day) (sNum S h day i j) 0) + 0 := by
              rw [cI_t c53, cI_t c53]
              first | exact cnt_1 ⟨by assumption, by omega, by omega⟩ | exact cnt_0 (fun z => by first | exact absurd z.1 (by assumption) | (have z2 := z.2; omega))
            have e1 : (16 * h + (((j + 1) : Nat) : Int) : Int) = (16 * h + ((j : Nat) : Int)) + 1 := by
              omega
            exact ihj (by omega) ls (lv_sub hl [2, 3, 4, 5, 6, 7, 1, 0] (by simp only [e0, e1]; rfl))
          · refine lv_aload_n hx hb dX6_endedFrom_86 rfl (lv_at hl 0 rfl) ?_
            refine q_get (v := .ref (mad 20)) (C := RX6) (T := TX6) (N := 32) hx hb hts inX6 hown hK hM.1 rfl 20 (by decide) (hts (.fieldLink RX6 59 "TavernBenchModel" "eventDay" "[I") (by decide +kernel)) (fun _ h9 => h9) rfl dX6_endedFrom_87 ?_
            refine lv_iload hx hb dX6_endedFrom_90 (lv_at hl 7 rfl) ?_
            refine q_mld hx hb hK hM 20 480 ⟨by decide, by decide, by decide⟩ rfl ⟨by omega, by omega⟩ dX6_endedFrom_92 ?_
            refine lv_aload_n hx hb dX6_endedFrom_93 rfl (lv_at hl 0 rfl) ?_
            refine q_get (v := .ref (mad 20)) (C := RX6) (T := TX6) (N := 32) hx hb hts inX6 hown hK hM.1 rfl 20 (by decide) (hts (.fieldLink RX6 59 "TavernBenchModel" "eventDay" "[I") (by decide +kernel)) (fun _ h9 => h9) rfl dX6_endedFrom_94 ?_
            refine lv_iload hx hb dX6_endedFrom_97 (lv_at hl 5 rfl) ?_
            refine q_mld hx hb hK hM 20 480 ⟨by decide, by decide, by decide⟩ rfl ⟨by omega, by omega⟩ dX6_endedFrom_99 ?_
            refine q_sipush hx hb 1825 dX6_endedFrom_100 (by decide +kernel) ?_
            refine q_isub hx hb dX6_endedFrom_103 ?_
            refine q_icmp_lt (tgt := 111) hx hb dX6_endedFrom_104 (by decide) (hI.R (by decide)) (by omega) (fun c104 => ?_) (fun c104 => ?_)
            · refine lv_iconst (v := iI 0) hx hb dX6_endedFrom_111 rfl ?_
              refine q_iadd hx hb dX6_endedFrom_112 ?_
              refine lv_istore (lv' := [(6, .int (iI ((cI (sCnt S h (16 * h + ((i : Nat) : Int)) day) (sNum S h day i j) 0) + 0))), (0, .ref (mad 0)), (1, .int (iI h)), (2, .int (iI day)), (3, .int (iI (sEnd S h day 100000 i))), (4, .int (iI (16 * h + S 19 h))), (5, .int (iI (16 * h + ((i : Nat) : Int)))), (7, .int (iI (16 * h + ((j : Nat) : Int))))]) hx hb dX6_endedFrom_113 hl (by decide) rfl (fun ls hl => ?_)
              refine lv_iinc (v := iI ((16 * h + ((j : Nat) : Int)) + 1)) (lv' := [(7, .int (iI ((16 * h + ((j : Nat) : Int)) + 1))), (6, .int (iI ((cI (sCnt S h (16 * h + ((i : Nat) : Int)) day) (sNum S h day i j) 0) + 0))), (0, .ref (mad 0)), (1, .int (iI h)), (2, .int (iI day)), (3, .int (iI (sEnd S h day 100000 i))), (4, .int (iI (16 * h + S 19 h))), (5, .int (iI (16 * h + ((i : Nat) : Int))))]) hx hb dX6_endedFrom_115 hl (k := 7) rfl (iI_add _ _) (by decide) rfl (fun ls hl => ?_)
              refine lv_goto (tgt := 38) hx hb dX6_endedFrom_118 (by decide) ?_
              have e0 : (cI (sCnt S h (16 * h + ((i : Nat) : Int)) day) (sNum S h day i (j + 1)) 0 : Int) = (cI (sCnt S h (16 * h + ((i : Nat) : Int)) day) (sNum S h day i j) 0) + 0 := by
                rw [cI_t c53, cI_t c53]
                first | exact cnt_1 ⟨by assumption, by omega, by omega⟩ | exact cnt_0 (fun z => by first | exact absurd z.1 (by assumption) | (have z2 := z.2; omega))
              have e1 : (16 * h + (((j + 1) : Nat) : Int) : Int) = (16 * h + ((j : Nat) : Int)) + 1 := by
                omega
              exact ihj (by omega) ls (lv_sub hl [2, 3, 4, 5, 6, 7, 1, 0] (by simp only [e0, e1]; rfl))
            · refine lv_iconst (v := iI 1) hx hb dX6_endedFrom_107 rfl ?_
              refine lv_goto (tgt := 112) hx hb dX6_endedFrom_108 (by decide) ?_
              refine q_iadd hx hb dX6_endedFrom_112 ?_
              refine lv_istore (lv' := [(6, .int (iI ((cI (sCnt S h (16 * h + ((i : Nat) : Int)) day) (sNum S h day i j) 0) + 1))), (0, .ref (mad 0)), (1, .int (iI h)), (2, .int (iI day)), (3, .int (iI (sEnd S h day 100000 i))), (4, .int (iI (16 * h + S 19 h))), (5, .int (iI (16 * h + ((i : Nat) : Int)))), (7, .int (iI (16 * h + ((j : Nat) : Int))))]) hx hb dX6_endedFrom_113 hl (by decide) rfl (fun ls hl => ?_)
              refine lv_iinc (v := iI ((16 * h + ((j : Nat) : Int)) + 1)) (lv' := [(7, .int (iI ((16 * h + ((j : Nat) : Int)) + 1))), (6, .int (iI ((cI (sCnt S h (16 * h + ((i : Nat) : Int)) day) (sNum S h day i j) 0) + 1))), (0, .ref (mad 0)), (1, .int (iI h)), (2, .int (iI day)), (3, .int (iI (sEnd S h day 100000 i))), (4, .int (iI (16 * h + S 19 h))), (5, .int (iI (16 * h + ((i : Nat) : Int))))]) hx hb dX6_endedFrom_115 hl (k := 7) rfl (iI_add _ _) (by decide) rfl (fun ls hl => ?_)
              refine lv_goto (tgt := 38) hx hb dX6_endedFrom_118 (by decide) ?_
              have e0 : (cI (sCnt S h (16 * h + ((i : Nat) : Int)) day) (sNum S h day i (j + 1)) 0 : Int) = (cI (sCnt S h (16 * h + ((i : Nat) : Int)) day) (sNum S h day i j) 0) + 1 := by
                rw [cI_t c53, cI_t c53]
                first | exact cnt_1 ⟨by assumption, by omega, by omega⟩ | exact cnt_0 (fun z => by first | exact absurd z.1 (by assumption) | (have z2 := z.2; omega))
              have e1 : (16 * h + (((j + 1) : Nat) : Int) : Int) = (16 * h + ((j : Nat) : Int)) + 1 := by
                omega
              exact ihj (by omega) ls (lv_sub hl [2, 3, 4, 5, 6, 7, 1, 0] (by simp only [e0, e1]; rfl))

set_option maxHeartbeats 4000000 in
set_option maxRecDepth 100000 in
theorem c6_lapsedFrom (l : Launch) (g : GG) (mad : Nat → Nat) (S : St) (hI : Inv S) (h : Int) (day : Int) (r_h : R32 h) (r_day : R32 day) (h0 : 0 ≤ h ∧ h < S 14 0) : MetI l yX6_lapsedFrom wsX6_lapsedFrom ({ frames := 1, cells := 0, slots := 0, locals := 22 }) g [.ref (mad 0), .int (iI h), .int (iI day)] (fun H => RepM g mad S H) (sLap S h day 100000 (S 19 h).toNat) := by
  refine Met.ofW (cc := cX6_lapsedFrom) (maxL := 8) (ret := (some .int)) (by decide) rfl ?_
  intro p e s m args below meth c s₁ B hml hv
  obtain ⟨rfl, hM, hK⟩ := hv
  have hx := B.exec
  have hb := B.bytes
  have hr := B.returns
  have hts := atoms_spec (ws := wsX6_lapsedFrom) B.pre
  have hown : s.vm.findClass RX6 = some m.cls := findClass_of_methodNamed B.named
  have hlocks := B.notSynchronized
  have inX6 : ∀ w ∈ wsX60, w ∈ wsX6_lapsedFrom := by decide +kernel
  have hl := lv_entry ([.ref (mad 0), .int (iI h), .int (iI day)]) (n := 8) (Nat.le_of_ble_eq_true rfl)
  rw [lg_entry_eq]
  generalize (lg_sl ([.ref (mad 0), .int (iI h), .int (iI day)]) ++ List.replicate (8 - (lg_sl ([.ref (mad 0), .int (iI h), .int (iI day)])).length) Slot.unset).toArray = ls at hl ⊢
  have hl : lv_has ls 8 [(0, .ref (mad 0)), (1, .int (iI h)), (2, .int (iI day))] := hl
  have hH := hI.house h0.1 h0.2
  have hN := hI.nums
  refine q_ldc hx hb 100000 hown (hts (.constant RX6 126 (100000)) (by decide +kernel)) (by decide +kernel) dX6_lapsedFrom_0 ?_
  refine lv_istore_n (lv' := [(3, .int (iI 100000)), (0, .ref (mad 0)), (1, .int (iI h)), (2, .int (iI day))]) hx hb dX6_lapsedFrom_2 rfl hl (by decide) rfl (fun ls hl => ?_)
  refine q_bipush hx hb 16 dX6_lapsedFrom_3 (by decide +kernel) ?_
  refine lv_iload_n hx hb dX6_lapsedFrom_5 rfl (lv_at hl 2 rfl) ?_
  refine q_imul hx hb dX6_lapsedFrom_6 ?_
  refine lv_aload_n hx hb dX6_lapsedFrom_7 rfl (lv_at hl 1 rfl) ?_
  refine q_get (v := .ref (mad 19)) (C := RX6) (T := TX6) (N := 32) hx hb hts inX6 hown hK hM.1 rfl 19 (by decide) (hts (.fieldLink RX6 56 "TavernBenchModel" "events" "[I") (by decide +kernel)) (fun _ h9 => h9) rfl dX6_lapsedFrom_8 ?_
  refine lv_iload_n hx hb dX6_lapsedFrom_11 rfl (lv_at hl 2 rfl) ?_
  refine q_mld hx hb hK hM 19 30 ⟨by decide, by decide, by decide⟩ rfl ⟨by omega, by omega⟩ dX6_lapsedFrom_12 ?_
  refine q_iadd hx hb dX6_lapsedFrom_13 ?_
  refine lv_istore (lv' := [(4, .int (iI ((16 * h) + (S 19 h)))), (3, .int (iI 100000)), (0, .ref (mad 0)), (1, .int (iI h)), (2, .int (iI day))]) hx hb dX6_lapsedFrom_14 hl (by decide) rfl (fun ls hl => ?_)
  refine q_bipush hx hb 16 dX6_lapsedFrom_16 (by decide +kernel) ?_
  refine lv_iload_n hx hb dX6_lapsedFrom_18 rfl (lv_at hl 3 rfl) ?_
  refine q_imul hx hb dX6_lapsedFrom_19 ?_
  refine lv_istore (lv' := [(5, .int (iI (16 * h))), (4, .int (iI ((16 * h) + (S 19 h)))), (3, .int (iI 100000)), (0, .ref (mad 0)), (1, .int (iI h)), (2, .int (iI day))]) hx hb dX6_lapsedFrom_20 hl (by decide) rfl (fun ls hl => ?_)
  have e0 : (sLap S h day 100000 0 : Int) = 100000 := by
    rfl
  have e1 : (16 * h + S 19 h : Int) = (16 * h) + (S 19 h) := by
    omega
  have e2 : (16 * h + ((0 : Nat) : Int) : Int) = 16 * h := by
    omega
  refine q_loopN (nL := 8) ((S 19 h).toNat) (fun (i : Nat) => [(0, .ref (mad 0)), (1, .int (iI h)), (2, .int (iI day)), (3, .int (iI (sLap S h day 100000 i))), (4, .int (iI (16 * h + S 19 h))), (5, .int (iI (16 * h + ((i : Nat) : Int))))]) (lv_sub hl [3, 4, 5, 2, 1, 0] (by simp only [e0, e1, e2]; rfl)) (fun i hi ihi ls hl => ?_)
  have hl : lv_has ls 8 [(0, .ref (mad 0)), (1, .int (iI h)), (2, .int (iI day)), (3, .int (iI (sLap S h day 100000 i))), (4, .int (iI (16 * h + S 19 h))), (5, .int (iI (16 * h + ((i : Nat) : Int))))] := hl
  have hE := hI.lapB h0 (a := 100000) (day := day) (by decide) (n := i) (by omega)
  refine lv_iload hx hb dX6_lapsedFrom_22 (lv_at hl 5 rfl) ?_
  refine lv_iload hx hb dX6_lapsedFrom_24 (lv_at hl 4 rfl) ?_
  refine q_icmp_ge (tgt := 161) hx hb dX6_lapsedFrom_26 (by decide) (by omega) (by omega) (fun c26 => ?_) (fun c26 => ?_)
  · refine lv_iload_n hx hb dX6_lapsedFrom_161 rfl (lv_at hl 3 rfl) ?_
    refine q_reti hx hb hr hlocks dX6_lapsedFrom_162 ?_
    have e : i = (S 19 h).toNat := by omega
    rw [e]
  · have hc := hI.ev h0.1 h0.2 (j := ((i : Nat) : Int)) (by omega) (by omega)
    refine q_join (nL := 8) 45 [.int (iI (bI (S 21 (16 * h + ((i : Nat) : Int)) = 2)))] [(0, .ref (mad 0)), (1, .int (iI h)), (2, .int (iI day)), (3, .int (iI (sLap S h day 100000 i))), (4, .int (iI (16 * h + S 19 h))), (5, .int (iI (16 * h + ((i : Nat) : Int))))] (fun ls hl => ?_) (fun J45 => ?_)
    · refine lv_istore (lv' := [(6, .int (iI (bI (S 21 (16 * h + ((i : Nat) : Int)) = 2)))), (0, .ref (mad 0)), (1, .int (iI h)), (2, .int (iI day)), (3, .int (iI (sLap S h day 100000 i))), (4, .int (iI (16 * h + S 19 h))), (5, .int (iI (16 * h + ((i : Nat) : Int))))]) hx hb dX6_lapsedFrom_45 hl (by decide) rfl (fun ls hl => ?_)
      refine q_bipush hx hb 16 dX6_lapsedFrom_47 (by decide +kernel) ?_
      refine lv_iload_n hx hb dX6_lapsedFrom_49 rfl (lv_at hl 2 rfl) ?_
      refine q_imul hx hb dX6_lapsedFrom_50 ?_
      refine lv_istore (lv' := [(7, .int (iI (16 * h))), (6, .int (iI (bI (S 21 (16 * h + ((i : Nat) : Int)) = 2)))), (0, .ref (mad 0)), (1, .int (iI h)), (2, .int (iI day)), (3, .int (iI (sLap S h day 100000 i))), (4, .int (iI (16 * h + S 19 h))), (5, .int (iI (16 * h + ((i : Nat) : Int))))]) hx hb dX6_lapsedFrom_51 hl (by decide) rfl (fun ls hl => ?_)
      have e0 : (bI (S 21 (16 * h + ((i : Nat) : Int)) = 2 ∧ ¬ exN (sTrans S h i) 0) : Int) = bI (S 21 (16 * h + ((i : Nat) : Int)) = 2) := by
        exact bI_iff ⟨fun z => z.1, fun z => ⟨z, exN_0⟩⟩
      have e1 : (16 * h + ((0 : Nat) : Int) : Int) = 16 * h := by
        omega
      refine q_loopN (nL := 8) ((S 19 h).toNat) (fun (j : Nat) => [(0, .ref (mad 0)), (1, .int (iI h)), (2, .int (iI day)), (3, .int (iI (sLap S h day 100000 i))), (4, .int (iI (16 * h + S 19 h))), (5, .int (iI (16 * h + ((i : Nat) : Int)))), (6, .int (iI (bI (S 21 (16 * h + ((i : Nat) : Int)) = 2 ∧ ¬ exN (sTrans S h i) j)))), (7, .int (iI (16 * h + ((j : Nat) : Int))))]) (lv_sub hl [2, 3, 4, 5, 6, 7, 1, 0] (by simp only [e0, e1]; rfl)) (fun j hj ihj ls hl => ?_)
      have hl : lv_has ls 8 [(0, .ref (mad 0)), (1, .int (iI h)), (2, .int (iI day)), (3, .int (iI (sLap S h day 100000 i))), (4, .int (iI (16 * h + S 19 h))), (5, .int (iI (16 * h + ((i : Nat) : Int)))), (6, .int (iI (bI (S 21 (16 * h + ((i : Nat) : Int)) = 2 ∧ ¬ exN (sTrans S h i) j)))), (7, .int (iI (16 * h + ((j : Nat) : Int))))] := hl
      refine lv_iload hx hb dX6_lapsedFrom_53 (lv_at hl 7 rfl) ?_
      refine lv_iload hx hb dX6_lapsedFrom_55 (lv_at hl 4 rfl) ?_
      refine q_icmp_ge (tgt := 119) hx hb dX6_lapsedFrom_57 (by decide) (by omega) (by omega) (fun c57 => ?_) (fun c57 => ?_)
      · have e0 : (bI (S 21 (16 * h + ((i : Nat) : Int)) = 2 ∧ ¬ exN (sTrans S h i) (S 19 h).toNat) : Int) = bI (S 21 (16 * h + ((i : Nat) : Int)) = 2 ∧ ¬ exN (sTrans S h i) j) := by
          have ej : j = (S 19 h).toNat := by omega
          rw [ej]
        have hl : lv_has ls 8 [(0, .ref (mad 0)), (1, .int (iI h)), (2, .int (iI day)), (3, .int (iI (sLap S h day 100000 i))), (4, .int (iI (16 * h + S 19 h))), (5, .int (iI (16 * h + ((i : Nat) : Int)))), (6, .int (iI (bI (S 21 (16 * h + ((i : Nat) : Int)) = 2 ∧ ¬ exN (sTrans S h i) (S 19 h).toNat)))), (7, .int (iI (16 * h + ((j : Nat) : Int))))] := (lv_sub hl [0, 1, 2, 3, 4, 5, 6, 7] (by simp only [e0]; rfl))
        refine lv_aload_n hx hb dX6_lapsedFrom_119 rfl (lv_at hl 0 rfl) ?_
        refine q_get (v := .ref (mad 20)) (C := RX6) (T := TX6) (N := 32) hx hb hts inX6 hown hK hM.1 rfl 20 (by decide) (hts (.fieldLink RX6 59 "TavernBenchModel" "eventDay" "[I") (by decide +kernel)) (fun _ h9 => h9) rfl dX6_lapsedFrom_120 ?_
        refine lv_iload hx hb dX6_lapsedFrom_123 (lv_at hl 5 rfl) ?_
        refine q_mld hx hb hK hM 20 480 ⟨by decide, by decide, by decide⟩ rfl ⟨by omega, by omega⟩ dX6_lapsedFrom_125 ?_
        refine q_bipush hx hb 28 dX6_lapsedFrom_126 (by decide +kernel) ?_
        refine q_iadd hx hb dX6_lapsedFrom_128 ?_
        refine lv_istore (lv' := [(7, .int (iI ((S 20 (16 * h + ((i : Nat) : Int))) + 28))), (0, .ref (mad 0)), (1, .int (iI h)), (2, .int (iI day)), (3, .int (iI (sLap S h day 100000 i))), (4, .int (iI (16 * h + S 19 h))), (5, .int (iI (16 * h + ((i : Nat) : Int)))), (6, .int (iI (bI (S 21 (16 * h + ((i : Nat) : Int)) = 2 ∧ ¬ exN (sTrans S h i) (S 19 h).toNat))))]) hx hb dX6_lapsedFrom_129 hl (by decide) rfl (fun ls hl => ?_)
        refine lv_iload hx hb dX6_lapsedFrom_131 (lv_at hl 7 rfl) ?_
        refine q_ifb_eq (tgt := 153) hx hb dX6_lapsedFrom_133 (by decide) (fun c133 => ?_) (fun c133 => ?_)
        · refine lv_iload_n hx hb dX6_lapsedFrom_153 rfl (lv_at hl 4 rfl) ?_
          refine lv_istore_n (lv' := [(3, .int (iI (sLap S h day 100000 i))), (7, .int (iI ((S 20 (16 * h + ((i : Nat) : Int))) + 28))), (0, .ref (mad 0)), (1, .int (iI h)), (2, .int (iI day)), (4, .int (iI (16 * h + S 19 h))), (5, .int (iI (16 * h + ((i : Nat) : Int)))), (6, .int (iI (bI (S 21 (16 * h + ((i : Nat) : Int)) = 2 ∧ ¬ exN (sTrans S h i) (S 19 h).toNat))))]) hx hb dX6_lapsedFrom_154 rfl hl (by decide) rfl (fun ls hl => ?_)
          refine lv_iinc (v := iI ((16 * h + ((i : Nat) : Int)) + 1)) (lv' := [(5, .int (iI ((16 * h + ((i : Nat) : Int)) + 1))), (3, .int (iI (sLap S h day 100000 i))), (7, .int (iI ((S 20 (16 * h + ((i : Nat) : Int))) + 28))), (0, .ref (mad 0)), (1, .int (iI h)), (2, .int (iI day)), (4, .int (iI (16 * h + S 19 h))), (6, .int (iI (bI (S 21 (16 * h + ((i : Nat) : Int)) = 2 ∧ ¬ exN (sTrans S h i) (S 19 h).toNat))))]) hx hb dX6_lapsedFrom_155 hl (k := 6) rfl (iI_add _ _) (by decide) rfl (fun ls hl => ?_)
          refine lv_goto (tgt := 22) hx hb dX6_lapsedFrom_158 (by decide) ?_
          have e0 : (sLap S h day 100000 (i + 1) : Int) = sLap S h day 100000 i := by
            first | exact sLap_t ⟨c133, c139⟩ c145 | exact sLap_f (fun z => absurd z.1.1 c133) | exact sLap_f (fun z => absurd z.1.2 (Int.not_le.mpr c139)) | exact sLap_f (fun z => absurd z.2 (Int.not_lt.mpr c145))
          have e1 : (16 * h + (((i + 1) : Nat) : Int) : Int) = (16 * h + ((i : Nat) : Int)) + 1 := by
            omega
          exact ihi (by omega) ls (lv_sub hl [3, 4, 5, 1, 6, 0] (by simp only [e0, e1]; rfl))
        · refine lv_iload hx hb dX6_lapsedFrom_136 (lv_at hl 0 rfl) ?_
          refine lv_iload_n hx hb dX6_lapsedFrom_138 rfl (lv_at hl 3 rfl) ?_
          refine q_icmp_gt (tgt := 153) hx hb dX6_lapsedFrom_139 (by decide) (by omega) r_day (fun c139 => ?_) (fun c139 => ?_)
          · refine lv_iload_n hx hb dX6_lapsedFrom_153 rfl (lv_at hl 4 rfl) ?_
            refine lv_istore_n (lv' := [(3, .int (iI (sLap S h day 100000 i))), (7, .int (iI ((S 20 (16 * h + ((i : Nat) : Int))) + 28))), (0, .ref (mad 0)), (1, .int (iI h)), (2, .int (iI day)), (4, .int (iI (16 * h + S 19 h))), (5, .int (iI (16 * h + ((i : Nat) : Int)))), (6, .int (iI (bI (S 21 (16 * h + ((i : Nat) : Int)) = 2 ∧ ¬ exN (sTrans S h i) (S 19 h).toNat))))]) hx hb dX6_lapsedFrom_154 rfl hl (by decide) rfl (fun ls hl => ?_)
            refine lv_iinc (v := iI ((16 * h + ((i : Nat) : Int)) + 1)) (lv' := [(5, .int (iI ((16 * h + ((i : Nat) : Int)) + 1))), (3, .int (iI (sLap S h day 100000 i))), (7, .int (iI ((S 20 (16 * h + ((i : Nat) : Int))) + 28))), (0, .ref (mad 0)), (1, .int (iI h)), (2, .int (iI day)), (4, .int (iI (16 * h + S 19 h))), (6, .int (iI (bI (S 21 (16 * h + ((i : Nat) : Int)) = 2 ∧ ¬ exN (sTrans S h i) (S 19 h).toNat))))]) hx hb dX6_lapsedFrom_155 hl (k := 6) rfl (iI_add _ _) (by decide) rfl (fun ls hl => ?_)
            refine lv_goto (tgt := 22) hx hb dX6_lapsedFrom_158 (by decide) ?_
            have e0 : (sLap S h day 100000 (i + 1) : Int) = sLap S h day 100000 i := by
              first | exact sLap_t ⟨c133, c139⟩ c145 | exact sLap_f (fun z => absurd z.1.1 c133) | exact sLap_f (fun z => absurd z.1.2 (Int.not_le.mpr c139)) | exact sLap_f (fun z => absurd z.2 (Int.not_lt.mpr c145))
            have e1 : (16 * h + (((i + 1) : Nat) : Int) : Int) = (16 * h + ((i : Nat) : Int)) + 1 := by
              omega
            exact ihi (by omega) ls (lv_sub hl [3, 4, 5, 1, 6, 0] (by simp only [e0, e1]; rfl))
          · refine lv_iload hx hb dX6_lapsedFrom_142 (lv_at hl 0 rfl) ?_
            refine lv_iload_n hx hb dX6_lapsedFrom_144 rfl (lv_at hl 4 rfl) ?_
            refine q_icmp_ge (tgt := 153) hx hb dX6_lapsedFrom_145 (by decide) (by omega) (by omega) (fun c145 => ?_) (fun c145 => ?_)
            · refine lv_iload_n hx hb dX6_lapsedFrom_153 rfl (lv_at hl 4 rfl) ?_
              refine lv_istore_n (lv' := [(3, .int (iI (sLap S h day 100000 i))), (7, .int (iI ((S 20 (16 * h + ((i : Nat) : Int))) + 28))), (0, .ref (mad 0)), (1, .int (iI h)), (2, .int (iI day)), (4, .int (iI (16 * h + S 19 h))), (5, .int (iI (16 * h + ((i : Nat) : Int)))), (6, .int (iI (bI (S 21 (16 * h + ((i : Nat) : Int)) = 2 ∧ ¬ exN (sTrans S h i) (S 19 h).toNat))))]) hx hb dX6_lapsedFrom_154 rfl hl (by decide) rfl (fun ls hl => ?_)
              refine lv_iinc (v := iI ((16 * h + ((i : Nat) : Int)) + 1)) (lv' := [(5, .int (iI ((16 * h + ((i : Nat) : Int)) + 1))), (3, .int (iI (sLap S h day 100000 i))), (7, .int (iI ((S 20 (16 * h + ((i : Nat) : Int))) + 28))), (0, .ref (mad 0)), (1, .int (iI h)), (2, .int (iI day)), (4, .int (iI (16 * h + S 19 h))), (6, .int (iI (bI (S 21 (16 * h + ((i : Nat) : Int)) = 2 ∧ ¬ exN (sTrans S h i) (S 19 h).toNat))))]) hx hb dX6_lapsedFrom_155 hl (k := 6) rfl (iI_add _ _) (by decide) rfl (fun ls hl => ?_)
              refine lv_goto (tgt := 22) hx hb dX6_lapsedFrom_158 (by decide) ?_
              have e0 : (sLap S h day 100000 (i + 1) : Int) = sLap S h day 100000 i := by
                first | exact sLap_t ⟨c133, c139⟩ c145 | exact sLap_f (fun z => absurd z.1.1 c133) | exact sLap_f (fun z => absurd z.1.2 (Int.not_le.mpr c139)) | exact sLap_f (fun z => absurd z.2 (Int.not_lt.mpr c145))
              have e1 : (16 * h + (((i + 1) : Nat) : Int) : Int) = (16 * h + ((i : Nat) : Int)) + 1 := by
                omega
              exact ihi (by omega) ls (lv_sub hl [3, 4, 5, 1, 6, 0] (by simp only [e0, e1]; rfl))
            · refine lv_iload hx hb dX6_lapsedFrom_148 (lv_at hl 0 rfl) ?_
              refine lv_goto (tgt := 154) hx hb dX6_lapsedFrom_150 (by decide) ?_
              refine lv_istore_n (lv' := [(3, .int (iI ((S 20 (16 * h + ((i : Nat) : Int))) + 28))), (7, .int (iI ((S 20 (16 * h + ((i : Nat) : Int))) + 28))), (0, .ref (mad 0)), (1, .int (iI h)), (2, .int (iI day)), (4, .int (iI (16 * h + S 19 h))), (5, .int (iI (16 * h + ((i : Nat) : Int)))), (6, .int (iI (bI (S 21 (16 * h + ((i : Nat) : Int)) = 2 ∧ ¬ exN (sTrans S h i) (S 19 h).toNat))))]) hx hb dX6_lapsedFrom_154 rfl hl (by decide) rfl (fun ls hl => ?_)
              refine lv_iinc (v := iI ((16 * h + ((i : Nat) : Int)) + 1)) (lv' := [(5, .int (iI ((16 * h + ((i : Nat) : Int)) + 1))), (3, .int (iI ((S 20 (16 * h + ((i : Nat) : Int))) + 28))), (7, .int (iI ((S 20 (16 * h + ((i : Nat) : Int))) + 28))), (0, .ref (mad 0)), (1, .int (iI h)), (2, .int (iI day)), (4, .int (iI (16 * h + S 19 h))), (6, .int (iI (bI (S 21 (16 * h + ((i : Nat) : Int)) = 2 ∧ ¬ exN (sTrans S h i) (S 19 h).toNat))))]) hx hb dX6_lapsedFrom_155 hl (k := 6) rfl (iI_add _ _) (by decide) rfl (fun ls hl => ?_)
              refine lv_goto (tgt := 22) hx hb dX6_lapsedFrom_158 (by decide) ?_
              have e0 : (sLap S h day 100000 (i + 1) : Int) = (S 20 (16 * h + ((i : Nat) : Int))) + 28 := by
                first | exact sLap_t ⟨c133, c139⟩ c145 | exact sLap_f (fun z => absurd z.1.1 c133) | exact sLap_f (fun z => absurd z.1.2 (Int.not_le.mpr c139)) | exact sLap_f (fun z => absurd z.2 (Int.not_lt.mpr c145))
              have e1 : (16 * h + (((i + 1) : Nat) : Int) : Int) = (16 * h + ((i : Nat) : Int)) + 1 := by
                omega
              exact ihi (by omega) ls (lv_sub hl [3, 4, 5, 1, 6, 0] (by simp only [e0, e1]; rfl))
      · refine lv_iload hx hb dX6_lapsedFrom_60 (lv_at hl 6 rfl) ?_
        refine q_ifb_eq (tgt := 110) hx hb dX6_lapsedFrom_62 (by decide) (fun c62 => ?_) (fun c62 => ?_)
        · refine lv_iconst (v := iI 0) hx hb dX6_lapsedFrom_110 rfl ?_
          refine lv_istore (lv' := [(6, .int (iI 0)), (0, .ref (mad 0)), (1, .int (iI h)), (2, .int (iI day)), (3, .int (iI (sLap S h day 100000 i))), (4, .int (iI (16 * h + S 19 h))), (5, .int (iI (16 * h + ((i : Nat) : Int)))), (7, .int (iI (16 * h + ((j : Nat) : Int))))]) hx hb dX6_lapsedFrom_111 hl (by decide) rfl (fun ls hl => ?_)
          refine lv_iinc (v := iI ((16 * h + ((j : Nat) : Int)) + 1)) (lv' := [(7, .int (iI ((16 * h + ((j : Nat) : Int)) + 1))), (6, .int (iI 0)), (0, .ref (mad 0)), (1, .int (iI h)), (2, .int (iI day)), (3, .int (iI (sLap S h day 100000 i))), (4, .int (iI (16 * h + S 19 h))), (5, .int (iI (16 * h + ((i : Nat) : Int))))]) hx hb dX6_lapsedFrom_113 hl (k := 7) rfl (iI_add _ _) (by decide) rfl (fun ls hl => ?_)
          refine lv_goto (tgt := 53) hx hb dX6_lapsedFrom_116 (by decide) ?_
          have e0 : (bI (S 21 (16 * h + ((i : Nat) : Int)) = 2 ∧ ¬ exN (sTrans S h i) (j + 1)) : Int) = 0 := by
            first | exact bI_f (fun z => c62 ⟨z.1, fun y => z.2 (exN_s.mpr (Or.inl y))⟩) | exact bI_f (fun z => z.2 (exN_s.mpr (Or.inr ⟨by assumption, by assumption⟩))) | exact bI_t ⟨c62.1, fun z => (exN_s.mp z).elim c62.2 (fun y => absurd y.1 (by assumption))⟩ | exact bI_t ⟨c62.1, fun z => (exN_s.mp z).elim c62.2 (fun y => absurd y.2 (by assumption))⟩
          have e1 : (16 * h + (((j + 1) : Nat) : Int) : Int) = (16 * h + ((j : Nat) : Int)) + 1 := by
            omega
          exact ihj (by omega) ls (lv_sub hl [2, 3, 4, 5, 6, 7, 1, 0] (by simp only [e0, e1]; rfl))
        · refine lv_aload_n hx hb dX6_lapsedFrom_65 rfl (lv_at hl 0 rfl) ?_
          refine q_get (v := .ref (mad 21)) (C := RX6) (T := TX6) (N := 32) hx hb hts inX6 hown hK hM.1 rfl 21 (by decide) (hts (.fieldLink RX6 62 "TavernBenchModel" "eventKind" "[I") (by decide +kernel)) (fun _ h9 => h9) rfl dX6_lapsedFrom_66 ?_
          refine lv_iload hx hb dX6_lapsedFrom_69 (lv_at hl 7 rfl) ?_
          refine q_mld hx hb hK hM 21 480 ⟨by decide, by decide, by decide⟩ rfl ⟨by omega, by omega⟩ dX6_lapsedFrom_71 ?_
          refine lv_iconst (v := iI 3) hx hb dX6_lapsedFrom_72 rfl ?_
          refine q_icmp_ne (tgt := 106) hx hb dX6_lapsedFrom_73 (by decide) (hI.R (by decide)) (by decide) (fun c73 => ?_) (fun c73 => ?_)
          · refine lv_iconst (v := iI 1) hx hb dX6_lapsedFrom_106 rfl ?_
            refine lv_goto (tgt := 111) hx hb dX6_lapsedFrom_107 (by decide) ?_
            refine lv_istore (lv' := [(6, .int (iI 1)), (0, .ref (mad 0)), (1, .int (iI h)), (2, .int (iI day)), (3, .int (iI (sLap S h day 100000 i))), (4, .int (iI (16 * h + S 19 h))), (5, .int (iI (16 * h + ((i : Nat) : Int)))), (7, .int (iI (16 * h + ((j : Nat) : Int))))]) hx hb dX6_lapsedFrom_111 hl (by decide) rfl (fun ls hl => ?_)
            refine lv_iinc (v := iI ((16 * h + ((j : Nat) : Int)) + 1)) (lv' := [(7, .int (iI ((16 * h + ((j : Nat) : Int)) + 1))), (6, .int (iI 1)), (0, .ref (mad 0)), (1, .int (iI h)), (2, .int (iI day)), (3, .int (iI (sLap S h day 100000 i))), (4, .int (iI (16 * h + S 19 h))), (5, .int (iI (16 * h + ((i : Nat) : Int))))]) hx hb dX6_lapsedFrom_113 hl (k := 7) rfl (iI_add _ _) (by decide) rfl (fun ls hl => ?_)
            refine lv_goto (tgt := 53) hx hb dX6_lapsedFrom_116 (by decide) ?_
            have e0 : (bI (S 21 (16 * h + ((i : Nat) : Int)) = 2 ∧ ¬ exN (sTrans S h i) (j + 1)) : Int) = 1 := by
              first | exact bI_f (fun z => c62 ⟨z.1, fun y => z.2 (exN_s.mpr (Or.inl y))⟩) | exact bI_f (fun z => z.2 (exN_s.mpr (Or.inr ⟨by assumption, by assumption⟩))) | exact bI_t ⟨c62.1, fun z => (exN_s.mp z).elim c62.2 (fun y => absurd y.1 (by assumption))⟩ | exact bI_t ⟨c62.1, fun z => (exN_s.mp z).elim c62.2 (fun y => absurd y.2 (by assumption))⟩
            have e1 : (16 * h + (((j + 1) : Nat) : Int) : Int) = (16 * h + ((j : Nat) : Int)) + 1 := by
              omega
            exact ihj (by omega) ls (lv_sub hl [2, 3, 4, 5, 6, 7, 1, 0] (by simp only [e0, e1]; rfl))
          · refine lv_aload_n hx hb dX6_lapsedFrom_76 rfl (lv_at hl 0 rfl) ?_
            refine q_get (v := .ref (mad 20)) (C := RX6) (T := TX6) (N := 32) hx hb hts inX6 hown hK hM.1 rfl 20 (by decide) (hts (.fieldLink RX6 59 "TavernBenchModel" "eventDay" "[I") (by decide +kernel)) (fun _ h9 => h9) rfl dX6_lapsedFrom_77 ?_
            refine lv_iload hx hb dX6_lapsedFrom_80 (lv_at hl 7 rfl) ?_
            refine q_mld hx hb hK hM 20 480 ⟨by decide, by decide, by decide⟩ rfl ⟨by omega, by omega⟩ dX6_lapsedFrom_82 ?_
            refine lv_aload_n hx hb dX6_lapsedFrom_83 rfl (lv_at hl 0 rfl) ?_
            refine q_get (v := .ref (mad 20)) (C := RX6) (T := TX6) (N := 32) hx hb hts inX6 hown hK hM.1 rfl 20 (by decide) (hts (.fieldLink RX6 59 "TavernBenchModel" "eventDay" "[I") (by decide +kernel)) (fun _ h9 => h9) rfl dX6_lapsedFrom_84 ?_
            refine lv_iload hx hb dX6_lapsedFrom_87 (lv_at hl 5 rfl) ?_
            refine q_mld hx hb hK hM 20 480 ⟨by decide, by decide, by decide⟩ rfl ⟨by omega, by omega⟩ dX6_lapsedFrom_89 ?_
            refine lv_aload_n hx hb dX6_lapsedFrom_90 rfl (lv_at hl 0 rfl) ?_
            refine q_get (v := .ref (mad 20)) (C := RX6) (T := TX6) (N := 32) hx hb hts inX6 hown hK hM.1 rfl 20 (by decide) (hts (.fieldLink RX6 59 "TavernBenchModel" "eventDay" "[I") (by decide +kernel)) (fun _ h9 => h9) rfl dX6_lapsedFrom_91 ?_
            refine lv_iload hx hb dX6_lapsedFrom_94 (lv_at hl 5 rfl) ?_
            refine q_mld hx hb hK hM 20 480 ⟨by decide, by decide, by decide⟩ rfl ⟨by omega, by omega⟩ dX6_lapsedFrom_96 ?_
            refine q_bipush hx hb 27 dX6_lapsedFrom_97 (by decide +kernel) ?_
            refine q_iadd hx hb dX6_lapsedFrom_99 ?_
            refine q_cSi (As := [.int (iI (S 20 (16 * h + ((j : Nat) : Int)))), .int (iI (S 20 (16 * h + ((i : Nat) : Int)))), .int (iI ((S 20 (16 * h + ((i : Nat) : Int))) + 27))]) (rest := []) ⟨hx, hb, hml, hown, hts⟩ (c6_in l g (S 20 (16 * h + ((j : Nat) : Int))) (S 20 (16 * h + ((i : Nat) : Int))) ((S 20 (16 * h + ((i : Nat) : Int))) + 27) (hI.R (by decide)) (hI.R (by decide)) (by omega) ) (va_cwS 3 hts gX6_lapsedFrom_X6_in rfl rfl rfl (by decide +kernel) ⟨Nat.le_of_ble_eq_true rfl, Nat.le_of_ble_eq_true rfl⟩) (q_pS hK trivial) rfl hl.1 rfl (Nat.le_of_ble_eq_true rfl) ⟨Nat.zero_le _, Nat.zero_le _⟩ dX6_lapsedFrom_100 ?_
            refine q_ifb_ne (tgt := 110) hx hb dX6_lapsedFrom_103 (by decide) (fun c103 => ?_) (fun c103 => ?_)
            · refine lv_iconst (v := iI 0) hx hb dX6_lapsedFrom_110 rfl ?_
              refine lv_istore (lv' := [(6, .int (iI 0)), (0, .ref (mad 0)), (1, .int (iI h)), (2, .int (iI day)), (3, .int (iI (sLap S h day 100000 i))), (4, .int (iI (16 * h + S 19 h))), (5, .int (iI (16 * h + ((i : Nat) : Int)))), (7, .int (iI (16 * h + ((j : Nat) : Int))))]) hx hb dX6_lapsedFrom_111 hl (by decide) rfl (fun ls hl => ?_)
              refine lv_iinc (v := iI ((16 * h + ((j : Nat) : Int)) + 1)) (lv' := [(7, .int (iI ((16 * h + ((j : Nat) : Int)) + 1))), (6, .int (iI 0)), (0, .ref (mad 0)), (1, .int (iI h)), (2, .int (iI day)), (3, .int (iI (sLap S h day 100000 i))), (4, .int (iI (16 * h + S 19 h))), (5, .int (iI (16 * h + ((i : Nat) : Int))))]) hx hb dX6_lapsedFrom_113 hl (k := 7) rfl (iI_add _ _) (by decide) rfl (fun ls hl => ?_)
              refine lv_goto (tgt := 53) hx hb dX6_lapsedFrom_116 (by decide) ?_
              have e0 : (bI (S 21 (16 * h + ((i : Nat) : Int)) = 2 ∧ ¬ exN (sTrans S h i) (j + 1)) : Int) = 0 := by
                first | exact bI_f (fun z => c62 ⟨z.1, fun y => z.2 (exN_s.mpr (Or.inl y))⟩) | exact bI_f (fun z => z.2 (exN_s.mpr (Or.inr ⟨by assumption, by assumption⟩))) | exact bI_t ⟨c62.1, fun z => (exN_s.mp z).elim c62.2 (fun y => absurd y.1 (by assumption))⟩ | exact bI_t ⟨c62.1, fun z => (exN_s.mp z).elim c62.2 (fun y => absurd y.2 (by assumption))⟩
              have e1 : (16 * h + (((j + 1) : Nat) : Int) : Int) = (16 * h + ((j : Nat) : Int)) + 1 := by
                omega
              exact ihj (by omega) ls (lv_sub hl [2, 3, 4, 5, 6, 7, 1, 0] (by simp only [e0, e1]; rfl))
            · refine lv_iconst (v := iI 1) hx hb dX6_lapsedFrom_106 rfl ?_
              refine lv_goto (tgt := 111) hx hb dX6_lapsedFrom_107 (by decide) ?_
              refine lv_istore (lv' := [(6, .int (iI 1)), (0, .ref (mad 0)), (1, .int (iI h)), (2, .int (iI day)), (3, .int (iI (sLap S h day 100000 i))), (4, .int (iI (16 * h + S 19 h))), (5, .int (iI (16 * h + ((i : Nat) : Int)))), (7, .int (iI (16 * h + ((j : Nat) : Int))))]) hx hb dX6_lapsedFrom_111 hl (by decide) rfl (fun ls hl => ?_)
              refine lv_iinc (v := iI ((16 * h + ((j : Nat) : Int)) + 1)) (lv' := [(7, .int (iI ((16 * h + ((j : Nat) : Int)) + 1))), (6, .int (iI 1)), (0, .ref (mad 0)), (1, .int (iI h)), (2, .int (iI day)), (3, .int (iI (sLap S h day 100000 i))), (4, .int (iI (16 * h + S 19 h))), (5, .int (iI (16 * h + ((i : Nat) : Int))))]) hx hb dX6_lapsedFrom_113 hl (k := 7) rfl (iI_add _ _) (by decide) rfl (fun ls hl => ?_)
              refine lv_goto (tgt := 53) hx hb dX6_lapsedFrom_116 (by decide) ?_
              have e0 : (bI (S 21 (16 * h + ((i : Nat) : Int)) = 2 ∧ ¬ exN (sTrans S h i) (j + 1)) : Int) = 1 := by
                first | exact bI_f (fun z => c62 ⟨z.1, fun y => z.2 (exN_s.mpr (Or.inl y))⟩) | exact bI_f (fun z => z.2 (exN_s.mpr (Or.inr ⟨by assumption, by assumption⟩))) | exact bI_t ⟨c62.1, fun z => (exN_s.mp z).elim c62.2 (fun y => absurd y.1 (by assumption))⟩ | exact bI_t ⟨c62.1, fun z => (exN_s.mp z).elim c62.2 (fun y => absurd y.2 (by assumption))⟩
              have e1 : (16 * h + (((j + 1) : Nat) : Int) : Int) = (16 * h + ((j : Nat) : Int)) + 1 := by
                omega
              exact ihj (by omega) ls (lv_sub hl [2, 3, 4, 5, 6, 7, 1, 0] (by simp only [e0, e1]; rfl))
    · refine lv_aload_n hx hb dX6_lapsedFrom_29 rfl (lv_at hl 0 rfl) ?_
      refine q_get (v := .ref (mad 21)) (C := RX6) (T := TX6) (N := 32) hx hb hts inX6 hown hK hM.1 rfl 21 (by decide) (hts (.fieldLink RX6 62 "TavernBenchModel" "eventKind" "[I") (by decide +kernel)) (fun _ h9 => h9) rfl dX6_lapsedFrom_30 ?_
      refine lv_iload hx hb dX6_lapsedFrom_33 (lv_at hl 5 rfl) ?_
      refine q_mld hx hb hK hM 21 480 ⟨by decide, by decide, by decide⟩ rfl ⟨by omega, by omega⟩ dX6_lapsedFrom_35 ?_
      refine lv_iconst (v := iI 2) hx hb dX6_lapsedFrom_36 rfl ?_
      refine q_icmp_ne (tgt := 44) hx hb dX6_lapsedFrom_37 (by decide) (hI.R (by decide)) (by decide) (fun c37 => ?_) (fun c37 => ?_)
      · refine lv_iconst (v := iI 0) hx hb dX6_lapsedFrom_44 rfl ?_
        refine q_top (z := bI (S 21 (16 * h + ((i : Nat) : Int)) = 2)) (by
          first | exact bI_e1 (by assumption) | exact bI_e0 (by assumption)) ?_
        exact J45 ls (lv_sub hl [0, 1, 2, 3, 4, 5] rfl)
      · refine lv_iconst (v := iI 1) hx hb dX6_lapsedFrom_40 rfl ?_
        refine lv_goto (tgt := 45) hx hb dX6_lapsedFrom_41 (by decide) ?_
        refine q_top (z := bI (S 21 (16 * h + ((i : Nat) : Int)) = 2)) (by
          first | exact bI_e1 (by assumption) | exact bI_e0 (by assumption)) ?_
        exact J45 ls (lv_sub hl [0, 1, 2, 3, 4, 5] rfl)

set_option maxHeartbeats 4000000 in
set_option maxRecDepth 100000 in
theorem c6_surplusFrom (l : Launch) (g : GG) (mad : Nat → Nat) (S : St) (hI : Inv S) (h : Int) (day : Int) (r_h : R32 h) (r_day : R32 day) (h0 : 0 ≤ h ∧ h < S 14 0) : MetI l yX6_surplusFrom wsX6_surplusFrom ({ frames := 0, cells := 0, slots := 0, locals := 0 }) g [.ref (mad 0), .int (iI h), .int (iI day)] (fun H => RepM g mad S H) (sSur S h day 100000 (S 19 h).toNat) := by
  refine Met.ofW (cc := cX6_surplusFrom) (maxL := 5) (ret := (some .int)) (by decide) rfl ?_
  intro p e s m args below meth c s₁ B hml hv
  obtain ⟨rfl, hM, hK⟩ := hv
  have hx := B.exec
  have hb := B.bytes
  have hr := B.returns
  have hts := atoms_spec (ws := wsX6_surplusFrom) B.pre
  have hown : s.vm.findClass RX6 = some m.cls := findClass_of_methodNamed B.named
  have hlocks := B.notSynchronized
  have inX6 : ∀ w ∈ wsX60, w ∈ wsX6_surplusFrom := by decide +kernel
  have hl := lv_entry ([.ref (mad 0), .int (iI h), .int (iI day)]) (n := 5) (Nat.le_of_ble_eq_true rfl)
  rw [lg_entry_eq]
  generalize (lg_sl ([.ref (mad 0), .int (iI h), .int (iI day)]) ++ List.replicate (5 - (lg_sl ([.ref (mad 0), .int (iI h), .int (iI day)])).length) Slot.unset).toArray = ls at hl ⊢
  have hl : lv_has ls 5 [(0, .ref (mad 0)), (1, .int (iI h)), (2, .int (iI day))] := hl
  have hH := hI.house h0.1 h0.2
  have hN := hI.nums
  refine q_ldc hx hb 100000 hown (hts (.constant RX6 126 (100000)) (by decide +kernel)) (by decide +kernel) dX6_surplusFrom_0 ?_
  refine lv_istore_n (lv' := [(3, .int (iI 100000)), (0, .ref (mad 0)), (1, .int (iI h)), (2, .int (iI day))]) hx hb dX6_surplusFrom_2 rfl hl (by decide) rfl (fun ls hl => ?_)
  refine q_bipush hx hb 16 dX6_surplusFrom_3 (by decide +kernel) ?_
  refine lv_iload_n hx hb dX6_surplusFrom_5 rfl (lv_at hl 2 rfl) ?_
  refine q_imul hx hb dX6_surplusFrom_6 ?_
  refine lv_istore (lv' := [(4, .int (iI (16 * h))), (3, .int (iI 100000)), (0, .ref (mad 0)), (1, .int (iI h)), (2, .int (iI day))]) hx hb dX6_surplusFrom_7 hl (by decide) rfl (fun ls hl => ?_)
  have e0 : (sSur S h day 100000 0 : Int) = 100000 := by
    rfl
  have e1 : (16 * h + ((0 : Nat) : Int) : Int) = 16 * h := by
    omega
  refine q_loopN (nL := 5) ((S 19 h).toNat) (fun (i : Nat) => [(0, .ref (mad 0)), (1, .int (iI h)), (2, .int (iI day)), (3, .int (iI (sSur S h day 100000 i))), (4, .int (iI (16 * h + ((i : Nat) : Int))))]) (lv_sub hl [2, 3, 4, 1, 0] (by simp only [e0, e1]; rfl)) (fun i hi ihi ls hl => ?_)
  have hl : lv_has ls 5 [(0, .ref (mad 0)), (1, .int (iI h)), (2, .int (iI day)), (3, .int (iI (sSur S h day 100000 i))), (4, .int (iI (16 * h + ((i : Nat) : Int))))] := hl
  have hE := hI.surB h0 (a := 100000) (day := day) (by decide) (n := i) (by omega)
  refine lv_iload hx hb dX6_surplusFrom_9 (lv_at hl 4 rfl) ?_
  refine q_bipush hx hb 16 dX6_surplusFrom_11 (by decide +kernel) ?_
  refine lv_iload_n hx hb dX6_surplusFrom_13 rfl (lv_at hl 1 rfl) ?_
  refine q_imul hx hb dX6_surplusFrom_14 ?_
  refine lv_aload_n hx hb dX6_surplusFrom_15 rfl (lv_at hl 0 rfl) ?_
  refine q_get (v := .ref (mad 19)) (C := RX6) (T := TX6) (N := 32) hx hb hts inX6 hown hK hM.1 rfl 19 (by decide) (hts (.fieldLink RX6 56 "TavernBenchModel" "events" "[I") (by decide +kernel)) (fun _ h9 => h9) rfl dX6_surplusFrom_16 ?_
  refine lv_iload_n hx hb dX6_surplusFrom_19 rfl (lv_at hl 1 rfl) ?_
  refine q_mld hx hb hK hM 19 30 ⟨by decide, by decide, by decide⟩ rfl ⟨by omega, by omega⟩ dX6_surplusFrom_20 ?_
  refine q_iadd hx hb dX6_surplusFrom_21 ?_
  refine q_icmp_ge (tgt := 77) hx hb dX6_surplusFrom_22 (by decide) (by omega) (by omega) (fun c22 => ?_) (fun c22 => ?_)
  · refine lv_iload_n hx hb dX6_surplusFrom_77 rfl (lv_at hl 3 rfl) ?_
    refine q_reti hx hb hr hlocks dX6_surplusFrom_78 ?_
    have e : i = (S 19 h).toNat := by omega
    rw [e]
  · have hc := hI.ev h0.1 h0.2 (j := ((i : Nat) : Int)) (by omega) (by omega)
    refine lv_aload_n hx hb dX6_surplusFrom_25 rfl (lv_at hl 0 rfl) ?_
    refine q_get (v := .ref (mad 21)) (C := RX6) (T := TX6) (N := 32) hx hb hts inX6 hown hK hM.1 rfl 21 (by decide) (hts (.fieldLink RX6 62 "TavernBenchModel" "eventKind" "[I") (by decide +kernel)) (fun _ h9 => h9) rfl dX6_surplusFrom_26 ?_
    refine lv_iload hx hb dX6_surplusFrom_29 (lv_at hl 4 rfl) ?_
    refine q_mld hx hb hK hM 21 480 ⟨by decide, by decide, by decide⟩ rfl ⟨by omega, by omega⟩ dX6_surplusFrom_31 ?_
    refine q_bipush hx hb 6 dX6_surplusFrom_32 (by decide +kernel) ?_
    refine q_icmp_ne (tgt := 69) hx hb dX6_surplusFrom_34 (by decide) (hI.R (by decide)) (by decide) (fun c34 => ?_) (fun c34 => ?_)
    · refine lv_iload_n hx hb dX6_surplusFrom_69 rfl (lv_at hl 3 rfl) ?_
      refine lv_istore_n (lv' := [(3, .int (iI (sSur S h day 100000 i))), (0, .ref (mad 0)), (1, .int (iI h)), (2, .int (iI day)), (4, .int (iI (16 * h + ((i : Nat) : Int))))]) hx hb dX6_surplusFrom_70 rfl hl (by decide) rfl (fun ls hl => ?_)
      refine lv_iinc (v := iI ((16 * h + ((i : Nat) : Int)) + 1)) (lv' := [(4, .int (iI ((16 * h + ((i : Nat) : Int)) + 1))), (3, .int (iI (sSur S h day 100000 i))), (0, .ref (mad 0)), (1, .int (iI h)), (2, .int (iI day))]) hx hb dX6_surplusFrom_71 hl (k := 4) rfl (iI_add _ _) (by decide) rfl (fun ls hl => ?_)
      refine lv_goto (tgt := 9) hx hb dX6_surplusFrom_74 (by decide) ?_
      have e0 : (sSur S h day 100000 (i + 1) : Int) = sSur S h day 100000 i := by
        first | exact mn_t ⟨c34, c45⟩ c56 | exact mn_f (fun z => absurd z.1.1 c34) | exact mn_f (fun z => absurd z.1.2 (Int.not_le.mpr c45)) | exact mn_f (fun z => absurd z.2 (Int.not_lt.mpr c56))
      have e1 : (16 * h + (((i + 1) : Nat) : Int) : Int) = (16 * h + ((i : Nat) : Int)) + 1 := by
        omega
      exact ihi (by omega) ls (lv_sub hl [2, 3, 4, 1, 0] (by simp only [e0, e1]; rfl))
    · refine lv_aload_n hx hb dX6_surplusFrom_37 rfl (lv_at hl 0 rfl) ?_
      refine q_get (v := .ref (mad 20)) (C := RX6) (T := TX6) (N := 32) hx hb hts inX6 hown hK hM.1 rfl 20 (by decide) (hts (.fieldLink RX6 59 "TavernBenchModel" "eventDay" "[I") (by decide +kernel)) (fun _ h9 => h9) rfl dX6_surplusFrom_38 ?_
      refine lv_iload hx hb dX6_surplusFrom_41 (lv_at hl 4 rfl) ?_
      refine q_mld hx hb hK hM 20 480 ⟨by decide, by decide, by decide⟩ rfl ⟨by omega, by omega⟩ dX6_surplusFrom_43 ?_
      refine lv_iload_n hx hb dX6_surplusFrom_44 rfl (lv_at hl 2 rfl) ?_
      refine q_icmp_gt (tgt := 69) hx hb dX6_surplusFrom_45 (by decide) (hI.R (by decide)) r_day (fun c45 => ?_) (fun c45 => ?_)
      · refine lv_iload_n hx hb dX6_surplusFrom_69 rfl (lv_at hl 3 rfl) ?_
        refine lv_istore_n (lv' := [(3, .int (iI (sSur S h day 100000 i))), (0, .ref (mad 0)), (1, .int (iI h)), (2, .int (iI day)), (4, .int (iI (16 * h + ((i : Nat) : Int))))]) hx hb dX6_surplusFrom_70 rfl hl (by decide) rfl (fun ls hl => ?_)
        refine lv_iinc (v := iI ((16 * h + ((i : Nat) : Int)) + 1)) (lv' := [(4, .int (iI ((16 * h + ((i : Nat) : Int)) + 1))), (3, .int (iI (sSur S h day 100000 i))), (0, .ref (mad 0)), (1, .int (iI h)), (2, .int (iI day))]) hx hb dX6_surplusFrom_71 hl (k := 4) rfl (iI_add _ _) (by decide) rfl (fun ls hl => ?_)
        refine lv_goto (tgt := 9) hx hb dX6_surplusFrom_74 (by decide) ?_
        have e0 : (sSur S h day 100000 (i + 1) : Int) = sSur S h day 100000 i := by
          first | exact mn_t ⟨c34, c45⟩ c56 | exact mn_f (fun z => absurd z.1.1 c34) | exact mn_f (fun z => absurd z.1.2 (Int.not_le.mpr c45)) | exact mn_f (fun z => absurd z.2 (Int.not_lt.mpr c56))
        have e1 : (16 * h + (((i + 1) : Nat) : Int) : Int) = (16 * h + ((i : Nat) : Int)) + 1 := by
          omega
        exact ihi (by omega) ls (lv_sub hl [2, 3, 4, 1, 0] (by simp only [e0, e1]; rfl))
      · refine lv_aload_n hx hb dX6_surplusFrom_48 rfl (lv_at hl 0 rfl) ?_
        refine q_get (v := .ref (mad 20)) (C := RX6) (T := TX6) (N := 32) hx hb hts inX6 hown hK hM.1 rfl 20 (by decide) (hts (.fieldLink RX6 59 "TavernBenchModel" "eventDay" "[I") (by decide +kernel)) (fun _ h9 => h9) rfl dX6_surplusFrom_49 ?_
        refine lv_iload hx hb dX6_surplusFrom_52 (lv_at hl 4 rfl) ?_
        refine q_mld hx hb hK hM 20 480 ⟨by decide, by decide, by decide⟩ rfl ⟨by omega, by omega⟩ dX6_surplusFrom_54 ?_
        refine lv_iload_n hx hb dX6_surplusFrom_55 rfl (lv_at hl 3 rfl) ?_
        refine q_icmp_ge (tgt := 69) hx hb dX6_surplusFrom_56 (by decide) (hI.R (by decide)) (by omega) (fun c56 => ?_) (fun c56 => ?_)
        · refine lv_iload_n hx hb dX6_surplusFrom_69 rfl (lv_at hl 3 rfl) ?_
          refine lv_istore_n (lv' := [(3, .int (iI (sSur S h day 100000 i))), (0, .ref (mad 0)), (1, .int (iI h)), (2, .int (iI day)), (4, .int (iI (16 * h + ((i : Nat) : Int))))]) hx hb dX6_surplusFrom_70 rfl hl (by decide) rfl (fun ls hl => ?_)
          refine lv_iinc (v := iI ((16 * h + ((i : Nat) : Int)) + 1)) (lv' := [(4, .int (iI ((16 * h + ((i : Nat) : Int)) + 1))), (3, .int (iI (sSur S h day 100000 i))), (0, .ref (mad 0)), (1, .int (iI h)), (2, .int (iI day))]) hx hb dX6_surplusFrom_71 hl (k := 4) rfl (iI_add _ _) (by decide) rfl (fun ls hl => ?_)
          refine lv_goto (tgt := 9) hx hb dX6_surplusFrom_74 (by decide) ?_
          have e0 : (sSur S h day 100000 (i + 1) : Int) = sSur S h day 100000 i := by
            first | exact mn_t ⟨c34, c45⟩ c56 | exact mn_f (fun z => absurd z.1.1 c34) | exact mn_f (fun z => absurd z.1.2 (Int.not_le.mpr c45)) | exact mn_f (fun z => absurd z.2 (Int.not_lt.mpr c56))
          have e1 : (16 * h + (((i + 1) : Nat) : Int) : Int) = (16 * h + ((i : Nat) : Int)) + 1 := by
            omega
          exact ihi (by omega) ls (lv_sub hl [2, 3, 4, 1, 0] (by simp only [e0, e1]; rfl))
        · refine lv_aload_n hx hb dX6_surplusFrom_59 rfl (lv_at hl 0 rfl) ?_
          refine q_get (v := .ref (mad 20)) (C := RX6) (T := TX6) (N := 32) hx hb hts inX6 hown hK hM.1 rfl 20 (by decide) (hts (.fieldLink RX6 59 "TavernBenchModel" "eventDay" "[I") (by decide +kernel)) (fun _ h9 => h9) rfl dX6_surplusFrom_60 ?_
          refine lv_iload hx hb dX6_surplusFrom_63 (lv_at hl 4 rfl) ?_
          refine q_mld hx hb hK hM 20 480 ⟨by decide, by decide, by decide⟩ rfl ⟨by omega, by omega⟩ dX6_surplusFrom_65 ?_
          refine lv_goto (tgt := 70) hx hb dX6_surplusFrom_66 (by decide) ?_
          refine lv_istore_n (lv' := [(3, .int (iI (S 20 (16 * h + ((i : Nat) : Int))))), (0, .ref (mad 0)), (1, .int (iI h)), (2, .int (iI day)), (4, .int (iI (16 * h + ((i : Nat) : Int))))]) hx hb dX6_surplusFrom_70 rfl hl (by decide) rfl (fun ls hl => ?_)
          refine lv_iinc (v := iI ((16 * h + ((i : Nat) : Int)) + 1)) (lv' := [(4, .int (iI ((16 * h + ((i : Nat) : Int)) + 1))), (3, .int (iI (S 20 (16 * h + ((i : Nat) : Int))))), (0, .ref (mad 0)), (1, .int (iI h)), (2, .int (iI day))]) hx hb dX6_surplusFrom_71 hl (k := 4) rfl (iI_add _ _) (by decide) rfl (fun ls hl => ?_)
          refine lv_goto (tgt := 9) hx hb dX6_surplusFrom_74 (by decide) ?_
          have e0 : (sSur S h day 100000 (i + 1) : Int) = S 20 (16 * h + ((i : Nat) : Int)) := by
            first | exact mn_t ⟨c34, c45⟩ c56 | exact mn_f (fun z => absurd z.1.1 c34) | exact mn_f (fun z => absurd z.1.2 (Int.not_le.mpr c45)) | exact mn_f (fun z => absurd z.2 (Int.not_lt.mpr c56))
          have e1 : (16 * h + (((i + 1) : Nat) : Int) : Int) = (16 * h + ((i : Nat) : Int)) + 1 := by
            omega
          exact ihi (by omega) ls (lv_sub hl [2, 3, 4, 1, 0] (by simp only [e0, e1]; rfl))

set_option maxHeartbeats 4000000 in
set_option maxRecDepth 100000 in
theorem c6_stateOn (l : Launch) (g : GG) (mad : Nat → Nat) (S : St) (hI : Inv S) (h : Int) (day : Int) (r_h : R32 h) (r_day : R32 day) (h0 : 0 ≤ h ∧ h < S 14 0) : MetI l yX6_stateOn wsX6_stateOn ({ frames := 2, cells := 0, slots := 0, locals := 52 }) g [.ref (mad 0), .int (iI h), .int (iI day)] (fun H => RepM g mad S H) (sState S h day 100000) := by
  refine Met.ofW (cc := cX6_stateOn) (maxL := 6) (ret := (some .int)) (by decide) rfl ?_
  intro p e s m args below meth c s₁ B hml hv
  obtain ⟨rfl, hM, hK⟩ := hv
  have hx := B.exec
  have hb := B.bytes
  have hr := B.returns
  have hts := atoms_spec (ws := wsX6_stateOn) B.pre
  have hown : s.vm.findClass RX6 = some m.cls := findClass_of_methodNamed B.named
  have hlocks := B.notSynchronized
  have inX6 : ∀ w ∈ wsX60, w ∈ wsX6_stateOn := by decide +kernel
  have hl := lv_entry ([.ref (mad 0), .int (iI h), .int (iI day)]) (n := 6) (Nat.le_of_ble_eq_true rfl)
  rw [lg_entry_eq]
  generalize (lg_sl ([.ref (mad 0), .int (iI h), .int (iI day)]) ++ List.replicate (6 - (lg_sl ([.ref (mad 0), .int (iI h), .int (iI day)])).length) Slot.unset).toArray = ls at hl ⊢
  have hl : lv_has ls 6 [(0, .ref (mad 0)), (1, .int (iI h)), (2, .int (iI day))] := hl
  have hH := hI.house h0.1 h0.2
  have hN := hI.nums
  have hE := hI.endB h0 (a := 100000) (day := day) (by decide) (n := (S 19 h).toNat) (by omega)
  have hL := hI.lapB h0 (a := 100000) (day := day) (by decide) (n := (S 19 h).toNat) (by omega)
  have hU := hI.surB h0 (a := 100000) (day := day) (by decide) (n := (S 19 h).toNat) (by omega)
  refine lv_iload_n hx hb dX6_stateOn_0 rfl (lv_at hl 2 rfl) ?_
  refine lv_aload_n hx hb dX6_stateOn_1 rfl (lv_at hl 0 rfl) ?_
  refine q_get (v := .ref (mad 18)) (C := RX6) (T := TX6) (N := 32) hx hb hts inX6 hown hK hM.1 rfl 18 (by decide) (hts (.fieldLink RX6 53 "TavernBenchModel" "granted" "[I") (by decide +kernel)) (fun _ h9 => h9) rfl dX6_stateOn_2 ?_
  refine lv_iload_n hx hb dX6_stateOn_5 rfl (lv_at hl 1 rfl) ?_
  refine q_mld hx hb hK hM 18 30 ⟨by decide, by decide, by decide⟩ rfl ⟨by omega, by omega⟩ dX6_stateOn_6 ?_
  refine q_icmp_ge (tgt := 12) hx hb dX6_stateOn_7 (by decide) r_day (hI.R (by decide)) (fun c7 => ?_) (fun c7 => ?_)
  · refine lv_aload_n hx hb dX6_stateOn_12 rfl (lv_at hl 0 rfl) ?_
    refine lv_iload_n hx hb dX6_stateOn_13 rfl (lv_at hl 1 rfl) ?_
    refine lv_iload_n hx hb dX6_stateOn_14 rfl (lv_at hl 2 rfl) ?_
    refine q_cVi (As := [.int (iI h), .int (iI day)]) (rest := []) ⟨hx, hb, hml, hown, hts⟩ (c6_endedFrom l g mad S hI h day r_h r_day h0) (cwV 2 hts gX6_stateOn_X6_endedFrom rfl rfl rfl (by decide +kernel) ⟨Nat.le_of_ble_eq_true rfl, Nat.le_of_ble_eq_true rfl⟩) (q_pV hK hM.1 rfl hM) rfl hl.1 rfl (Nat.le_of_ble_eq_true rfl) ⟨Nat.zero_le _, Nat.zero_le _⟩ dX6_stateOn_15 ?_
    refine lv_istore_n (lv' := [(3, .int (iI (sEnd S h day 100000 (S 19 h).toNat))), (0, .ref (mad 0)), (1, .int (iI h)), (2, .int (iI day))]) hx hb dX6_stateOn_18 rfl hl (by decide) rfl (fun ls hl => ?_)
    refine lv_aload_n hx hb dX6_stateOn_19 rfl (lv_at hl 1 rfl) ?_
    refine lv_iload_n hx hb dX6_stateOn_20 rfl (lv_at hl 2 rfl) ?_
    refine lv_iload_n hx hb dX6_stateOn_21 rfl (lv_at hl 3 rfl) ?_
    refine q_cVi (As := [.int (iI h), .int (iI day)]) (rest := []) ⟨hx, hb, hml, hown, hts⟩ (c6_lapsedFrom l g mad S hI h day r_h r_day h0) (cwV 2 hts gX6_stateOn_X6_lapsedFrom rfl rfl rfl (by decide +kernel) ⟨Nat.le_of_ble_eq_true rfl, Nat.le_of_ble_eq_true rfl⟩) (q_pV hK hM.1 rfl hM) rfl hl.1 rfl (Nat.le_of_ble_eq_true rfl) ⟨Nat.zero_le _, Nat.zero_le _⟩ dX6_stateOn_22 ?_
    refine lv_istore (lv' := [(4, .int (iI (sLap S h day 100000 (S 19 h).toNat))), (3, .int (iI (sEnd S h day 100000 (S 19 h).toNat))), (0, .ref (mad 0)), (1, .int (iI h)), (2, .int (iI day))]) hx hb dX6_stateOn_25 hl (by decide) rfl (fun ls hl => ?_)
    refine lv_aload_n hx hb dX6_stateOn_27 rfl (lv_at hl 2 rfl) ?_
    refine lv_iload_n hx hb dX6_stateOn_28 rfl (lv_at hl 3 rfl) ?_
    refine lv_iload_n hx hb dX6_stateOn_29 rfl (lv_at hl 4 rfl) ?_
    refine q_cVi (As := [.int (iI h), .int (iI day)]) (rest := []) ⟨hx, hb, hml, hown, hts⟩ (c6_surplusFrom l g mad S hI h day r_h r_day h0) (cwV 2 hts gX6_stateOn_X6_surplusFrom rfl rfl rfl (by decide +kernel) ⟨Nat.le_of_ble_eq_true rfl, Nat.le_of_ble_eq_true rfl⟩) (q_pV hK hM.1 rfl hM) rfl hl.1 rfl (Nat.le_of_ble_eq_true rfl) ⟨Nat.zero_le _, Nat.zero_le _⟩ dX6_stateOn_30 ?_
    refine lv_istore (lv' := [(5, .int (iI (sSur S h day 100000 (S 19 h).toNat))), (4, .int (iI (sLap S h day 100000 (S 19 h).toNat))), (3, .int (iI (sEnd S h day 100000 (S 19 h).toNat))), (0, .ref (mad 0)), (1, .int (iI h)), (2, .int (iI day))]) hx hb dX6_stateOn_33 hl (by decide) rfl (fun ls hl => ?_)
    refine lv_iload_n hx hb dX6_stateOn_35 rfl (lv_at hl 2 rfl) ?_
    refine q_ldc hx hb 100000 hown (hts (.constant RX6 126 (100000)) (by decide +kernel)) (by decide +kernel) dX6_stateOn_36 ?_
    refine q_icmp_ne (tgt := 57) hx hb dX6_stateOn_38 (by decide) (by omega) (by decide) (fun c38 => ?_) (fun c38 => ?_)
    · refine lv_iload_n hx hb dX6_stateOn_57 rfl (lv_at hl 2 rfl) ?_
      refine lv_iload hx hb dX6_stateOn_58 (lv_at hl 1 rfl) ?_
      refine q_icmp_gt (tgt := 73) hx hb dX6_stateOn_60 (by decide) (by omega) (by omega) (fun c60 => ?_) (fun c60 => ?_)
      · refine lv_iload hx hb dX6_stateOn_73 (lv_at hl 1 rfl) ?_
        refine lv_iload hx hb dX6_stateOn_75 (lv_at hl 0 rfl) ?_
        refine q_icmp_gt (tgt := 84) hx hb dX6_stateOn_77 (by decide) (by omega) (by omega) (fun c77 => ?_) (fun c77 => ?_)
        · refine lv_iconst (v := iI 4) hx hb dX6_stateOn_84 rfl ?_
          refine q_reti hx hb hr hlocks dX6_stateOn_85 ?_
          show _ = sState S h day 100000
          unfold sState
          rw [cI_f (by omega), cI_f (by omega), cI_f (by omega), cI_f (by omega)]
        · refine lv_iconst (v := iI 3) hx hb dX6_stateOn_80 rfl ?_
          refine lv_goto (tgt := 85) hx hb dX6_stateOn_81 (by decide) ?_
          refine q_reti hx hb hr hlocks dX6_stateOn_85 ?_
          show _ = sState S h day 100000
          unfold sState
          rw [cI_f (by omega), cI_f (by omega), cI_f (by omega), cI_t (by omega)]
      · refine lv_iload_n hx hb dX6_stateOn_63 rfl (lv_at hl 2 rfl) ?_
        refine lv_iload hx hb dX6_stateOn_64 (lv_at hl 0 rfl) ?_
        refine q_icmp_gt (tgt := 73) hx hb dX6_stateOn_66 (by decide) (by omega) (by omega) (fun c66 => ?_) (fun c66 => ?_)
        · refine lv_iload hx hb dX6_stateOn_73 (lv_at hl 1 rfl) ?_
          refine lv_iload hx hb dX6_stateOn_75 (lv_at hl 0 rfl) ?_
          refine q_icmp_gt (tgt := 84) hx hb dX6_stateOn_77 (by decide) (by omega) (by omega) (fun c77_1 => ?_) (fun c77_1 => ?_)
          · refine lv_iconst (v := iI 4) hx hb dX6_stateOn_84 rfl ?_
            refine q_reti hx hb hr hlocks dX6_stateOn_85 ?_
            show _ = sState S h day 100000
            unfold sState
            rw [cI_f (by omega), cI_f (by omega), cI_f (by omega), cI_f (by omega)]
          · refine lv_iconst (v := iI 3) hx hb dX6_stateOn_80 rfl ?_
            refine lv_goto (tgt := 85) hx hb dX6_stateOn_81 (by decide) ?_
            refine q_reti hx hb hr hlocks dX6_stateOn_85 ?_
            show _ = sState S h day 100000
            unfold sState
            rw [cI_f (by omega), cI_f (by omega), cI_f (by omega), cI_t (by omega)]
        · refine lv_iconst (v := iI 2) hx hb dX6_stateOn_69 rfl ?_
          refine lv_goto (tgt := 85) hx hb dX6_stateOn_70 (by decide) ?_
          refine q_reti hx hb hr hlocks dX6_stateOn_85 ?_
          show _ = sState S h day 100000
          unfold sState
          rw [cI_f (by omega), cI_f (by omega), cI_t (by omega)]
    · refine lv_iload hx hb dX6_stateOn_41 (lv_at hl 1 rfl) ?_
      refine q_ldc hx hb 100000 hown (hts (.constant RX6 126 (100000)) (by decide +kernel)) (by decide +kernel) dX6_stateOn_43 ?_
      refine q_icmp_ne (tgt := 57) hx hb dX6_stateOn_45 (by decide) (by omega) (by decide) (fun c45 => ?_) (fun c45 => ?_)
      · refine lv_iload_n hx hb dX6_stateOn_57 rfl (lv_at hl 2 rfl) ?_
        refine lv_iload hx hb dX6_stateOn_58 (lv_at hl 1 rfl) ?_
        refine q_icmp_gt (tgt := 73) hx hb dX6_stateOn_60 (by decide) (by omega) (by omega) (fun c60_1 => ?_) (fun c60_1 => ?_)
        · refine lv_iload hx hb dX6_stateOn_73 (lv_at hl 1 rfl) ?_
          refine lv_iload hx hb dX6_stateOn_75 (lv_at hl 0 rfl) ?_
          refine q_icmp_gt (tgt := 84) hx hb dX6_stateOn_77 (by decide) (by omega) (by omega) (fun c77_2 => ?_) (fun c77_2 => ?_)
          · refine lv_iconst (v := iI 4) hx hb dX6_stateOn_84 rfl ?_
            refine q_reti hx hb hr hlocks dX6_stateOn_85 ?_
            show _ = sState S h day 100000
            unfold sState
            rw [cI_f (by omega), cI_f (by omega), cI_f (by omega), cI_f (by omega)]
          · refine lv_iconst (v := iI 3) hx hb dX6_stateOn_80 rfl ?_
            refine lv_goto (tgt := 85) hx hb dX6_stateOn_81 (by decide) ?_
            refine q_reti hx hb hr hlocks dX6_stateOn_85 ?_
            show _ = sState S h day 100000
            unfold sState
            rw [cI_f (by omega), cI_f (by omega), cI_f (by omega), cI_t (by omega)]
        · refine lv_iload_n hx hb dX6_stateOn_63 rfl (lv_at hl 2 rfl) ?_
          refine lv_iload hx hb dX6_stateOn_64 (lv_at hl 0 rfl) ?_
          refine q_icmp_gt (tgt := 73) hx hb dX6_stateOn_66 (by decide) (by omega) (by omega) (fun c66_1 => ?_) (fun c66_1 => ?_)
          · refine lv_iload hx hb dX6_stateOn_73 (lv_at hl 1 rfl) ?_
            refine lv_iload hx hb dX6_stateOn_75 (lv_at hl 0 rfl) ?_
            refine q_icmp_gt (tgt := 84) hx hb dX6_stateOn_77 (by decide) (by omega) (by omega) (fun c77_3 => ?_) (fun c77_3 => ?_)
            · refine lv_iconst (v := iI 4) hx hb dX6_stateOn_84 rfl ?_
              refine q_reti hx hb hr hlocks dX6_stateOn_85 ?_
              show _ = sState S h day 100000
              unfold sState
              rw [cI_f (by omega), cI_f (by omega), cI_f (by omega), cI_f (by omega)]
            · refine lv_iconst (v := iI 3) hx hb dX6_stateOn_80 rfl ?_
              refine lv_goto (tgt := 85) hx hb dX6_stateOn_81 (by decide) ?_
              refine q_reti hx hb hr hlocks dX6_stateOn_85 ?_
              show _ = sState S h day 100000
              unfold sState
              rw [cI_f (by omega), cI_f (by omega), cI_f (by omega), cI_t (by omega)]
          · refine lv_iconst (v := iI 2) hx hb dX6_stateOn_69 rfl ?_
            refine lv_goto (tgt := 85) hx hb dX6_stateOn_70 (by decide) ?_
            refine q_reti hx hb hr hlocks dX6_stateOn_85 ?_
            show _ = sState S h day 100000
            unfold sState
            rw [cI_f (by omega), cI_f (by omega), cI_t (by omega)]
      · refine lv_iload hx hb dX6_stateOn_48 (lv_at hl 0 rfl) ?_
        refine q_ldc hx hb 100000 hown (hts (.constant RX6 126 (100000)) (by decide +kernel)) (by decide +kernel) dX6_stateOn_50 ?_
        refine q_icmp_ne (tgt := 57) hx hb dX6_stateOn_52 (by decide) (by omega) (by decide) (fun c52 => ?_) (fun c52 => ?_)
        · refine lv_iload_n hx hb dX6_stateOn_57 rfl (lv_at hl 2 rfl) ?_
          refine lv_iload hx hb dX6_stateOn_58 (lv_at hl 1 rfl) ?_
          refine q_icmp_gt (tgt := 73) hx hb dX6_stateOn_60 (by decide) (by omega) (by omega) (fun c60_2 => ?_) (fun c60_2 => ?_)
          · refine lv_iload hx hb dX6_stateOn_73 (lv_at hl 1 rfl) ?_
            refine lv_iload hx hb dX6_stateOn_75 (lv_at hl 0 rfl) ?_
            refine q_icmp_gt (tgt := 84) hx hb dX6_stateOn_77 (by decide) (by omega) (by omega) (fun c77_4 => ?_) (fun c77_4 => ?_)
            · refine lv_iconst (v := iI 4) hx hb dX6_stateOn_84 rfl ?_
              refine q_reti hx hb hr hlocks dX6_stateOn_85 ?_
              show _ = sState S h day 100000
              unfold sState
              rw [cI_f (by omega), cI_f (by omega), cI_f (by omega), cI_f (by omega)]
            · refine lv_iconst (v := iI 3) hx hb dX6_stateOn_80 rfl ?_
              refine lv_goto (tgt := 85) hx hb dX6_stateOn_81 (by decide) ?_
              refine q_reti hx hb hr hlocks dX6_stateOn_85 ?_
              show _ = sState S h day 100000
              unfold sState
              rw [cI_f (by omega), cI_f (by omega), cI_f (by omega), cI_t (by omega)]
          · refine lv_iload_n hx hb dX6_stateOn_63 rfl (lv_at hl 2 rfl) ?_
            refine lv_iload hx hb dX6_stateOn_64 (lv_at hl 0 rfl) ?_
            refine q_icmp_gt (tgt := 73) hx hb dX6_stateOn_66 (by decide) (by omega) (by omega) (fun c66_2 => ?_) (fun c66_2 => ?_)
            · refine lv_iload hx hb dX6_stateOn_73 (lv_at hl 1 rfl) ?_
              refine lv_iload hx hb dX6_stateOn_75 (lv_at hl 0 rfl) ?_
              refine q_icmp_gt (tgt := 84) hx hb dX6_stateOn_77 (by decide) (by omega) (by omega) (fun c77_5 => ?_) (fun c77_5 => ?_)
              · refine lv_iconst (v := iI 4) hx hb dX6_stateOn_84 rfl ?_
                refine q_reti hx hb hr hlocks dX6_stateOn_85 ?_
                show _ = sState S h day 100000
                unfold sState
                rw [cI_f (by omega), cI_f (by omega), cI_f (by omega), cI_f (by omega)]
              · refine lv_iconst (v := iI 3) hx hb dX6_stateOn_80 rfl ?_
                refine lv_goto (tgt := 85) hx hb dX6_stateOn_81 (by decide) ?_
                refine q_reti hx hb hr hlocks dX6_stateOn_85 ?_
                show _ = sState S h day 100000
                unfold sState
                rw [cI_f (by omega), cI_f (by omega), cI_f (by omega), cI_t (by omega)]
            · refine lv_iconst (v := iI 2) hx hb dX6_stateOn_69 rfl ?_
              refine lv_goto (tgt := 85) hx hb dX6_stateOn_70 (by decide) ?_
              refine q_reti hx hb hr hlocks dX6_stateOn_85 ?_
              show _ = sState S h day 100000
              unfold sState
              rw [cI_f (by omega), cI_f (by omega), cI_t (by omega)]
        · refine lv_iconst (v := iI 1) hx hb dX6_stateOn_55 rfl ?_
          refine q_reti hx hb hr hlocks dX6_stateOn_56 ?_
          show _ = sState S h day 100000
          unfold sState
          rw [cI_f (by omega), cI_t (by omega)]
  · refine lv_iconst (v := iI 0) hx hb dX6_stateOn_10 rfl ?_
    refine q_reti hx hb hr hlocks dX6_stateOn_11 ?_
    show _ = sState S h day 100000
    unfold sState
    rw [cI_t (by omega)]

theorem sState_b (S : St) (h day a : Int) : 0 ≤ sState S h day a ∧ sState S h day a ≤ 4 := by
  unfold sState
  by_cases h1 : day < S 18 h
  · rw [cI_t h1]; decide
  · rw [cI_f h1]
    by_cases h2 : sEnd S h day a (S 19 h).toNat = a ∧ sLap S h day a (S 19 h).toNat = a ∧ sSur S h day a (S 19 h).toNat = a
    · rw [cI_t h2]; decide
    · rw [cI_f h2]
      by_cases h3 : sEnd S h day a (S 19 h).toNat ≤ sLap S h day a (S 19 h).toNat ∧ sEnd S h day a (S 19 h).toNat ≤ sSur S h day a (S 19 h).toNat
      · rw [cI_t h3]; decide
      · rw [cI_f h3]
        by_cases h4 : sLap S h day a (S 19 h).toNat ≤ sSur S h day a (S 19 h).toNat
        · rw [cI_t h4]; decide
        · rw [cI_f h4]; decide

set_option maxHeartbeats 4000000 in
set_option maxRecDepth 100000 in
theorem c6_has (l : Launch) (g : GG) (mad : Nat → Nat) (S : St) (hI : Inv S) (h : Int) (day : Int) (r_h : R32 h) (r_day : R32 day) (h0 : 0 ≤ h ∧ h < S 14 0) : MetI l yX6_has wsX6_has ({ frames := 3, cells := 0, slots := 0, locals := 77 }) g [.ref (mad 0), .int (iI h), .int (iI day)] (fun H => RepM g mad S H) (bI (sHas S h day)) := by
  refine Met.ofW (cc := cX6_has) (maxL := 3) (ret := (some .boolean)) (by decide) rfl ?_
  intro p e s m args below meth c s₁ B hml hv
  obtain ⟨rfl, hM, hK⟩ := hv
  have hx := B.exec
  have hb := B.bytes
  have hr := B.returns
  have hts := atoms_spec (ws := wsX6_has) B.pre
  have hown : s.vm.findClass RX6 = some m.cls := findClass_of_methodNamed B.named
  have hlocks := B.notSynchronized
  have hl := lv_entry ([.ref (mad 0), .int (iI h), .int (iI day)]) (n := 3) (Nat.le_of_ble_eq_true rfl)
  rw [lg_entry_eq]
  generalize (lg_sl ([.ref (mad 0), .int (iI h), .int (iI day)]) ++ List.replicate (3 - (lg_sl ([.ref (mad 0), .int (iI h), .int (iI day)])).length) Slot.unset).toArray = ls at hl ⊢
  have hl : lv_has ls 3 [(0, .ref (mad 0)), (1, .int (iI h)), (2, .int (iI day))] := hl
  have hb0 := sState_b S h day 100000
  refine lv_aload_n hx hb dX6_has_0 rfl (lv_at hl 0 rfl) ?_
  refine lv_iload_n hx hb dX6_has_1 rfl (lv_at hl 1 rfl) ?_
  refine lv_iload_n hx hb dX6_has_2 rfl (lv_at hl 2 rfl) ?_
  refine q_cVi (As := [.int (iI h), .int (iI day)]) (rest := []) ⟨hx, hb, hml, hown, hts⟩ (c6_stateOn l g mad S hI h day r_h r_day h0) (cwV 2 hts gX6_has_X6_stateOn rfl rfl rfl (by decide +kernel) ⟨Nat.le_of_ble_eq_true rfl, Nat.le_of_ble_eq_true rfl⟩) (q_pV hK hM.1 rfl hM) rfl hl.1 rfl (Nat.le_of_ble_eq_true rfl) ⟨Nat.zero_le _, Nat.zero_le _⟩ dX6_has_3 ?_
  refine lv_iconst (v := iI 1) hx hb dX6_has_6 rfl ?_
  refine q_icmp_ne (tgt := 14) hx hb dX6_has_7 (by decide) (by omega) (by decide) (fun c7 => ?_) (fun c7 => ?_)
  · refine lv_iconst (v := iI 0) hx hb dX6_has_14 rfl ?_
    refine q_retz hx hb hr hlocks (Or.inl rfl) dX6_has_15 ?_
    first | rfl | exact bI_e1 (by omega) | exact bI_e0 (by omega) | exact bI_iff (by omega) | omega
  · refine lv_iconst (v := iI 1) hx hb dX6_has_10 rfl ?_
    refine lv_goto (tgt := 15) hx hb dX6_has_11 (by decide) ?_
    refine q_retz hx hb hr hlocks (Or.inr rfl) dX6_has_15 ?_
    first | rfl | exact bI_e1 (by omega) | exact bI_e0 (by omega) | exact bI_iff (by omega) | omega

set_option maxHeartbeats 4000000 in
set_option maxRecDepth 100000 in
theorem c6_condition (l : Launch) (g : GG) (mad : Nat → Nat) (S : St) (hI : Inv S) (h : Int) (day : Int) (r_h : R32 h) (r_day : R32 day) (h0 : 0 ≤ h ∧ h < S 14 0) : MetI l yX6_condition wsX6_condition ({ frames := 1, cells := 0, slots := 0, locals := 22 }) g [.ref (mad 0), .int (iI h), .int (iI day)] (fun H => RepM g mad S H) (sCond S h day) := by
  refine Met.ofW (cc := cX6_condition) (maxL := 6) (ret := (some .int)) (by decide) rfl ?_
  intro p e s m args below meth c s₁ B hml hv
  obtain ⟨rfl, hM, hK⟩ := hv
  have hx := B.exec
  have hb := B.bytes
  have hr := B.returns
  have hts := atoms_spec (ws := wsX6_condition) B.pre
  have hown : s.vm.findClass RX6 = some m.cls := findClass_of_methodNamed B.named
  have hlocks := B.notSynchronized
  have inX6 : ∀ w ∈ wsX60, w ∈ wsX6_condition := by decide +kernel
  have hl := lv_entry ([.ref (mad 0), .int (iI h), .int (iI day)]) (n := 6) (Nat.le_of_ble_eq_true rfl)
  rw [lg_entry_eq]
  generalize (lg_sl ([.ref (mad 0), .int (iI h), .int (iI day)]) ++ List.replicate (6 - (lg_sl ([.ref (mad 0), .int (iI h), .int (iI day)])).length) Slot.unset).toArray = ls at hl ⊢
  have hl : lv_has ls 6 [(0, .ref (mad 0)), (1, .int (iI h)), (2, .int (iI day))] := hl
  have hH := hI.house h0.1 h0.2
  have hN := hI.nums
  refine lv_iconst (v := iI (-1)) hx hb dX6_condition_0 rfl ?_
  refine lv_istore_n (lv' := [(3, .int (iI (-1))), (0, .ref (mad 0)), (1, .int (iI h)), (2, .int (iI day))]) hx hb dX6_condition_1 rfl hl (by decide) rfl (fun ls hl => ?_)
  refine q_bipush hx hb 16 dX6_condition_2 (by decide +kernel) ?_
  refine lv_iload_n hx hb dX6_condition_4 rfl (lv_at hl 2 rfl) ?_
  refine q_imul hx hb dX6_condition_5 ?_
  refine lv_istore (lv' := [(4, .int (iI (16 * h))), (3, .int (iI (-1))), (0, .ref (mad 0)), (1, .int (iI h)), (2, .int (iI day))]) hx hb dX6_condition_6 hl (by decide) rfl (fun ls hl => ?_)
  have e0 : (sCat S h day 0 : Int) = (-1) := by
    rfl
  have e1 : (16 * h + ((0 : Nat) : Int) : Int) = 16 * h := by
    omega
  refine q_loopN (nL := 6) ((S 19 h).toNat) (fun (i : Nat) => [(0, .ref (mad 0)), (1, .int (iI h)), (2, .int (iI day)), (3, .int (iI (sCat S h day i))), (4, .int (iI (16 * h + ((i : Nat) : Int))))]) (lv_sub hl [2, 3, 4, 1, 0] (by simp only [e0, e1]; rfl)) (fun i hi ihi ls hl => ?_)
  have hl : lv_has ls 6 [(0, .ref (mad 0)), (1, .int (iI h)), (2, .int (iI day)), (3, .int (iI (sCat S h day i))), (4, .int (iI (16 * h + ((i : Nat) : Int))))] := hl
  have hcb := sCat_b S day i h0.1
  refine lv_iload hx hb dX6_condition_8 (lv_at hl 4 rfl) ?_
  refine q_bipush hx hb 16 dX6_condition_10 (by decide +kernel) ?_
  refine lv_iload_n hx hb dX6_condition_12 rfl (lv_at hl 1 rfl) ?_
  refine q_imul hx hb dX6_condition_13 ?_
  refine lv_aload_n hx hb dX6_condition_14 rfl (lv_at hl 0 rfl) ?_
  refine q_get (v := .ref (mad 19)) (C := RX6) (T := TX6) (N := 32) hx hb hts inX6 hown hK hM.1 rfl 19 (by decide) (hts (.fieldLink RX6 56 "TavernBenchModel" "events" "[I") (by decide +kernel)) (fun _ h9 => h9) rfl dX6_condition_15 ?_
  refine lv_iload_n hx hb dX6_condition_18 rfl (lv_at hl 1 rfl) ?_
  refine q_mld hx hb hK hM 19 30 ⟨by decide, by decide, by decide⟩ rfl ⟨by omega, by omega⟩ dX6_condition_19 ?_
  refine q_iadd hx hb dX6_condition_20 ?_
  refine q_icmp_ge (tgt := 95) hx hb dX6_condition_21 (by decide) (by omega) (by omega) (fun c21 => ?_) (fun c21 => ?_)
  · have e0 : (sCat S h day (S 19 h).toNat : Int) = sCat S h day i := by
      have ej : i = (S 19 h).toNat := by omega
      rw [ej]
    have hl : lv_has ls 6 [(0, .ref (mad 0)), (1, .int (iI h)), (2, .int (iI day)), (3, .int (iI (sCat S h day (S 19 h).toNat))), (4, .int (iI (16 * h + ((i : Nat) : Int))))] := (lv_sub hl [0, 1, 2, 3, 4] (by simp only [e0]; rfl))
    have hcb := sCat_b S day (S 19 h).toNat h0.1
    refine lv_iload_n hx hb dX6_condition_95 rfl (lv_at hl 3 rfl) ?_
    refine q_if_lt (tgt := 109) hx hb dX6_condition_96 (by decide) (by omega) (fun c96 => ?_) (fun c96 => ?_)
    · refine q_bipush hx hb (-4) dX6_condition_109 (by decide +kernel) ?_
      refine lv_goto (tgt := 120) hx hb dX6_condition_111 (by decide) ?_
      refine q_reti hx hb hr hlocks dX6_condition_120 ?_
      show _ = sCond S h day
      unfold sCond
      first | rw [cI_t (Or.inl (by omega))] | rw [cI_t (Or.inr (by assumption))] | rw [cI_f (by omega)]
    · refine lv_aload_n hx hb dX6_condition_99 rfl (lv_at hl 0 rfl) ?_
      refine q_get (v := .ref (mad 21)) (C := RX6) (T := TX6) (N := 32) hx hb hts inX6 hown hK hM.1 rfl 21 (by decide) (hts (.fieldLink RX6 62 "TavernBenchModel" "eventKind" "[I") (by decide +kernel)) (fun _ h9 => h9) rfl dX6_condition_100 ?_
      refine lv_iload_n hx hb dX6_condition_103 rfl (lv_at hl 3 rfl) ?_
      refine q_mld hx hb hK hM 21 480 ⟨by decide, by decide, by decide⟩ rfl ⟨by omega, by omega⟩ dX6_condition_104 ?_
      refine lv_iconst (v := iI 5) hx hb dX6_condition_105 rfl ?_
      refine q_icmp_ne (tgt := 114) hx hb dX6_condition_106 (by decide) (hI.R (by decide)) (by decide) (fun c106 => ?_) (fun c106 => ?_)
      · refine lv_aload_n hx hb dX6_condition_114 rfl (lv_at hl 0 rfl) ?_
        refine q_get (v := .ref (mad 22)) (C := RX6) (T := TX6) (N := 32) hx hb hts inX6 hown hK hM.1 rfl 22 (by decide) (hts (.fieldLink RX6 65 "TavernBenchModel" "eventValue" "[I") (by decide +kernel)) (fun _ h9 => h9) rfl dX6_condition_115 ?_
        refine lv_iload_n hx hb dX6_condition_118 rfl (lv_at hl 3 rfl) ?_
        refine q_mld hx hb hK hM 22 480 ⟨by decide, by decide, by decide⟩ rfl ⟨by omega, by omega⟩ dX6_condition_119 ?_
        refine q_reti hx hb hr hlocks dX6_condition_120 ?_
        show _ = sCond S h day
        unfold sCond
        first | rw [cI_t (Or.inl (by omega))] | rw [cI_t (Or.inr (by assumption))] | rw [cI_f (by omega)]
      · refine q_bipush hx hb (-4) dX6_condition_109 (by decide +kernel) ?_
        refine lv_goto (tgt := 120) hx hb dX6_condition_111 (by decide) ?_
        refine q_reti hx hb hr hlocks dX6_condition_120 ?_
        show _ = sCond S h day
        unfold sCond
        first | rw [cI_t (Or.inl (by omega))] | rw [cI_t (Or.inr (by assumption))] | rw [cI_f (by omega)]
  · refine lv_aload_n hx hb dX6_condition_24 rfl (lv_at hl 0 rfl) ?_
    refine q_get (v := .ref (mad 21)) (C := RX6) (T := TX6) (N := 32) hx hb hts inX6 hown hK hM.1 rfl 21 (by decide) (hts (.fieldLink RX6 62 "TavernBenchModel" "eventKind" "[I") (by decide +kernel)) (fun _ h9 => h9) rfl dX6_condition_25 ?_
    refine lv_iload hx hb dX6_condition_28 (lv_at hl 4 rfl) ?_
    refine q_mld hx hb hK hM 21 480 ⟨by decide, by decide, by decide⟩ rfl ⟨by omega, by omega⟩ dX6_condition_30 ?_
    refine lv_iconst (v := iI 4) hx hb dX6_condition_31 rfl ?_
    refine lv_iconst (v := iI 5) hx hb dX6_condition_32 rfl ?_
    refine q_cSi (As := [.int (iI (S 21 (16 * h + ((i : Nat) : Int)))), .int (iI 4), .int (iI 5)]) (rest := []) ⟨hx, hb, hml, hown, hts⟩ (c6_in l g (S 21 (16 * h + ((i : Nat) : Int))) 4 5 (hI.R (by decide)) (by decide) (by decide) ) (va_cwS 3 hts gX6_condition_X6_in rfl rfl rfl (by decide +kernel) ⟨Nat.le_of_ble_eq_true rfl, Nat.le_of_ble_eq_true rfl⟩) (q_pS hK trivial) rfl hl.1 rfl (Nat.le_of_ble_eq_true rfl) ⟨Nat.zero_le _, Nat.zero_le _⟩ dX6_condition_33 ?_
    refine q_ifb_eq (tgt := 54) hx hb dX6_condition_36 (by decide) (fun c36 => ?_) (fun c36 => ?_)
    · refine lv_iconst (v := iI 0) hx hb dX6_condition_54 rfl ?_
      refine lv_istore (lv' := [(5, .int (iI 0)), (0, .ref (mad 0)), (1, .int (iI h)), (2, .int (iI day)), (3, .int (iI (sCat S h day i))), (4, .int (iI (16 * h + ((i : Nat) : Int))))]) hx hb dX6_condition_55 hl (by decide) rfl (fun ls hl => ?_)
      refine lv_iload hx hb dX6_condition_57 (lv_at hl 0 rfl) ?_
      refine q_if_eq (tgt := 87) hx hb dX6_condition_59 (by decide) (by decide) (fun c59 => ?_) (fun c59 => ?_)
      rotate_left
      · exact absurd c59 (by decide)
      refine lv_iload_n hx hb dX6_condition_87 rfl (lv_at hl 4 rfl) ?_
      refine lv_istore_n (lv' := [(3, .int (iI (sCat S h day i))), (5, .int (iI 0)), (0, .ref (mad 0)), (1, .int (iI h)), (2, .int (iI day)), (4, .int (iI (16 * h + ((i : Nat) : Int))))]) hx hb dX6_condition_88 rfl hl (by decide) rfl (fun ls hl => ?_)
      refine lv_iinc (v := iI ((16 * h + ((i : Nat) : Int)) + 1)) (lv' := [(4, .int (iI ((16 * h + ((i : Nat) : Int)) + 1))), (3, .int (iI (sCat S h day i))), (5, .int (iI 0)), (0, .ref (mad 0)), (1, .int (iI h)), (2, .int (iI day))]) hx hb dX6_condition_89 hl (k := 5) rfl (iI_add _ _) (by decide) rfl (fun ls hl => ?_)
      refine lv_goto (tgt := 8) hx hb dX6_condition_92 (by decide) ?_
      have e0 : (sCat S h day (i + 1) : Int) = sCat S h day i := by
        first | exact lastN_t ⟨c36, c47⟩ (Or.inl c63) | exact lastN_t ⟨c36, c47⟩ (Or.inr c79) | exact lastN_f (fun z => absurd z.1.1 c36) | exact lastN_f (fun z => absurd z.1.2 (Int.not_le.mpr c47)) | exact lastN_f (fun z => z.2.elim (Int.not_lt.mpr c63) (Int.not_le.mpr c79))
      have e1 : (16 * h + (((i + 1) : Nat) : Int) : Int) = (16 * h + ((i : Nat) : Int)) + 1 := by
        omega
      exact ihi (by omega) ls (lv_sub hl [3, 4, 5, 1, 0] (by simp only [e0, e1]; rfl))
    · refine lv_aload_n hx hb dX6_condition_39 rfl (lv_at hl 0 rfl) ?_
      refine q_get (v := .ref (mad 20)) (C := RX6) (T := TX6) (N := 32) hx hb hts inX6 hown hK hM.1 rfl 20 (by decide) (hts (.fieldLink RX6 59 "TavernBenchModel" "eventDay" "[I") (by decide +kernel)) (fun _ h9 => h9) rfl dX6_condition_40 ?_
      refine lv_iload hx hb dX6_condition_43 (lv_at hl 4 rfl) ?_
      refine q_mld hx hb hK hM 20 480 ⟨by decide, by decide, by decide⟩ rfl ⟨by omega, by omega⟩ dX6_condition_45 ?_
      refine lv_iload_n hx hb dX6_condition_46 rfl (lv_at hl 2 rfl) ?_
      refine q_icmp_gt (tgt := 54) hx hb dX6_condition_47 (by decide) (hI.R (by decide)) r_day (fun c47 => ?_) (fun c47 => ?_)
      · refine lv_iconst (v := iI 0) hx hb dX6_condition_54 rfl ?_
        refine lv_istore (lv' := [(5, .int (iI 0)), (0, .ref (mad 0)), (1, .int (iI h)), (2, .int (iI day)), (3, .int (iI (sCat S h day i))), (4, .int (iI (16 * h + ((i : Nat) : Int))))]) hx hb dX6_condition_55 hl (by decide) rfl (fun ls hl => ?_)
        refine lv_iload hx hb dX6_condition_57 (lv_at hl 0 rfl) ?_
        refine q_if_eq (tgt := 87) hx hb dX6_condition_59 (by decide) (by decide) (fun c59_1 => ?_) (fun c59_1 => ?_)
        rotate_left
        · exact absurd c59_1 (by decide)
        refine lv_iload_n hx hb dX6_condition_87 rfl (lv_at hl 4 rfl) ?_
        refine lv_istore_n (lv' := [(3, .int (iI (sCat S h day i))), (5, .int (iI 0)), (0, .ref (mad 0)), (1, .int (iI h)), (2, .int (iI day)), (4, .int (iI (16 * h + ((i : Nat) : Int))))]) hx hb dX6_condition_88 rfl hl (by decide) rfl (fun ls hl => ?_)
        refine lv_iinc (v := iI ((16 * h + ((i : Nat) : Int)) + 1)) (lv' := [(4, .int (iI ((16 * h + ((i : Nat) : Int)) + 1))), (3, .int (iI (sCat S h day i))), (5, .int (iI 0)), (0, .ref (mad 0)), (1, .int (iI h)), (2, .int (iI day))]) hx hb dX6_condition_89 hl (k := 5) rfl (iI_add _ _) (by decide) rfl (fun ls hl => ?_)
        refine lv_goto (tgt := 8) hx hb dX6_condition_92 (by decide) ?_
        have e0 : (sCat S h day (i + 1) : Int) = sCat S h day i := by
          first | exact lastN_t ⟨c36, c47⟩ (Or.inl c63) | exact lastN_t ⟨c36, c47⟩ (Or.inr c79) | exact lastN_f (fun z => absurd z.1.1 c36) | exact lastN_f (fun z => absurd z.1.2 (Int.not_le.mpr c47)) | exact lastN_f (fun z => z.2.elim (Int.not_lt.mpr c63) (Int.not_le.mpr c79))
        have e1 : (16 * h + (((i + 1) : Nat) : Int) : Int) = (16 * h + ((i : Nat) : Int)) + 1 := by
          omega
        exact ihi (by omega) ls (lv_sub hl [3, 4, 5, 1, 0] (by simp only [e0, e1]; rfl))
      · refine lv_iconst (v := iI 1) hx hb dX6_condition_50 rfl ?_
        refine lv_goto (tgt := 55) hx hb dX6_condition_51 (by decide) ?_
        refine lv_istore (lv' := [(5, .int (iI 1)), (0, .ref (mad 0)), (1, .int (iI h)), (2, .int (iI day)), (3, .int (iI (sCat S h day i))), (4, .int (iI (16 * h + ((i : Nat) : Int))))]) hx hb dX6_condition_55 hl (by decide) rfl (fun ls hl => ?_)
        refine lv_iload hx hb dX6_condition_57 (lv_at hl 0 rfl) ?_
        refine q_if_eq (tgt := 87) hx hb dX6_condition_59 (by decide) (by decide) (fun c59_2 => ?_) (fun c59_2 => ?_)
        · exact absurd c59_2 (by decide)
        refine lv_iload_n hx hb dX6_condition_62 rfl (lv_at hl 4 rfl) ?_
        refine q_if_lt (tgt := 82) hx hb dX6_condition_63 (by decide) (by omega) (fun c63 => ?_) (fun c63 => ?_)
        · refine lv_iload hx hb dX6_condition_82 (lv_at hl 5 rfl) ?_
          refine lv_goto (tgt := 88) hx hb dX6_condition_84 (by decide) ?_
          refine lv_istore_n (lv' := [(3, .int (iI (16 * h + ((i : Nat) : Int)))), (5, .int (iI 1)), (0, .ref (mad 0)), (1, .int (iI h)), (2, .int (iI day)), (4, .int (iI (16 * h + ((i : Nat) : Int))))]) hx hb dX6_condition_88 rfl hl (by decide) rfl (fun ls hl => ?_)
          refine lv_iinc (v := iI ((16 * h + ((i : Nat) : Int)) + 1)) (lv' := [(4, .int (iI ((16 * h + ((i : Nat) : Int)) + 1))), (3, .int (iI (16 * h + ((i : Nat) : Int)))), (5, .int (iI 1)), (0, .ref (mad 0)), (1, .int (iI h)), (2, .int (iI day))]) hx hb dX6_condition_89 hl (k := 5) rfl (iI_add _ _) (by decide) rfl (fun ls hl => ?_)
          refine lv_goto (tgt := 8) hx hb dX6_condition_92 (by decide) ?_
          have e0 : (sCat S h day (i + 1) : Int) = 16 * h + ((i : Nat) : Int) := by
            first | exact lastN_t ⟨c36, c47⟩ (Or.inl c63) | exact lastN_t ⟨c36, c47⟩ (Or.inr c79) | exact lastN_f (fun z => absurd z.1.1 c36) | exact lastN_f (fun z => absurd z.1.2 (Int.not_le.mpr c47)) | exact lastN_f (fun z => z.2.elim (Int.not_lt.mpr c63) (Int.not_le.mpr c79))
          have e1 : (16 * h + (((i + 1) : Nat) : Int) : Int) = (16 * h + ((i : Nat) : Int)) + 1 := by
            omega
          exact ihi (by omega) ls (lv_sub hl [3, 4, 5, 1, 0] (by simp only [e0, e1]; rfl))
        · refine lv_aload_n hx hb dX6_condition_66 rfl (lv_at hl 1 rfl) ?_
          refine q_get (v := .ref (mad 20)) (C := RX6) (T := TX6) (N := 32) hx hb hts inX6 hown hK hM.1 rfl 20 (by decide) (hts (.fieldLink RX6 59 "TavernBenchModel" "eventDay" "[I") (by decide +kernel)) (fun _ h9 => h9) rfl dX6_condition_67 ?_
          refine lv_iload hx hb dX6_condition_70 (lv_at hl 5 rfl) ?_
          refine q_mld hx hb hK hM 20 480 ⟨by decide, by decide, by decide⟩ rfl ⟨by omega, by omega⟩ dX6_condition_72 ?_
          refine lv_aload_n hx hb dX6_condition_73 rfl (lv_at hl 1 rfl) ?_
          refine q_get (v := .ref (mad 20)) (C := RX6) (T := TX6) (N := 32) hx hb hts inX6 hown hK hM.1 rfl 20 (by decide) (hts (.fieldLink RX6 59 "TavernBenchModel" "eventDay" "[I") (by decide +kernel)) (fun _ h9 => h9) rfl dX6_condition_74 ?_
          refine lv_iload_n hx hb dX6_condition_77 rfl (lv_at hl 4 rfl) ?_
          refine q_mld hx hb hK hM 20 480 ⟨by decide, by decide, by decide⟩ rfl ⟨by omega, by omega⟩ dX6_condition_78 ?_
          refine q_icmp_lt (tgt := 87) hx hb dX6_condition_79 (by decide) (hI.R (by decide)) (hI.R (by decide)) (fun c79 => ?_) (fun c79 => ?_)
          · refine lv_iload_n hx hb dX6_condition_87 rfl (lv_at hl 4 rfl) ?_
            refine lv_istore_n (lv' := [(3, .int (iI (sCat S h day i))), (5, .int (iI 1)), (0, .ref (mad 0)), (1, .int (iI h)), (2, .int (iI day)), (4, .int (iI (16 * h + ((i : Nat) : Int))))]) hx hb dX6_condition_88 rfl hl (by decide) rfl (fun ls hl => ?_)
            refine lv_iinc (v := iI ((16 * h + ((i : Nat) : Int)) + 1)) (lv' := [(4, .int (iI ((16 * h + ((i : Nat) : Int)) + 1))), (3, .int (iI (sCat S h day i))), (5, .int (iI 1)), (0, .ref (mad 0)), (1, .int (iI h)), (2, .int (iI day))]) hx hb dX6_condition_89 hl (k := 5) rfl (iI_add _ _) (by decide) rfl (fun ls hl => ?_)
            refine lv_goto (tgt := 8) hx hb dX6_condition_92 (by decide) ?_
            have e0 : (sCat S h day (i + 1) : Int) = sCat S h day i := by
              first | exact lastN_t ⟨c36, c47⟩ (Or.inl c63) | exact lastN_t ⟨c36, c47⟩ (Or.inr c79) | exact lastN_f (fun z => absurd z.1.1 c36) | exact lastN_f (fun z => absurd z.1.2 (Int.not_le.mpr c47)) | exact lastN_f (fun z => z.2.elim (Int.not_lt.mpr c63) (Int.not_le.mpr c79))
            have e1 : (16 * h + (((i + 1) : Nat) : Int) : Int) = (16 * h + ((i : Nat) : Int)) + 1 := by
              omega
            exact ihi (by omega) ls (lv_sub hl [3, 4, 5, 1, 0] (by simp only [e0, e1]; rfl))
          · refine lv_iload hx hb dX6_condition_82 (lv_at hl 5 rfl) ?_
            refine lv_goto (tgt := 88) hx hb dX6_condition_84 (by decide) ?_
            refine lv_istore_n (lv' := [(3, .int (iI (16 * h + ((i : Nat) : Int)))), (5, .int (iI 1)), (0, .ref (mad 0)), (1, .int (iI h)), (2, .int (iI day)), (4, .int (iI (16 * h + ((i : Nat) : Int))))]) hx hb dX6_condition_88 rfl hl (by decide) rfl (fun ls hl => ?_)
            refine lv_iinc (v := iI ((16 * h + ((i : Nat) : Int)) + 1)) (lv' := [(4, .int (iI ((16 * h + ((i : Nat) : Int)) + 1))), (3, .int (iI (16 * h + ((i : Nat) : Int)))), (5, .int (iI 1)), (0, .ref (mad 0)), (1, .int (iI h)), (2, .int (iI day))]) hx hb dX6_condition_89 hl (k := 5) rfl (iI_add _ _) (by decide) rfl (fun ls hl => ?_)
            refine lv_goto (tgt := 8) hx hb dX6_condition_92 (by decide) ?_
            have e0 : (sCat S h day (i + 1) : Int) = 16 * h + ((i : Nat) : Int) := by
              first | exact lastN_t ⟨c36, c47⟩ (Or.inl c63) | exact lastN_t ⟨c36, c47⟩ (Or.inr c79) | exact lastN_f (fun z => absurd z.1.1 c36) | exact lastN_f (fun z => absurd z.1.2 (Int.not_le.mpr c47)) | exact lastN_f (fun z => z.2.elim (Int.not_lt.mpr c63) (Int.not_le.mpr c79))
            have e1 : (16 * h + (((i + 1) : Nat) : Int) : Int) = (16 * h + ((i : Nat) : Int)) + 1 := by
              omega
            exact ihi (by omega) ls (lv_sub hl [3, 4, 5, 1, 0] (by simp only [e0, e1]; rfl))

set_option maxHeartbeats 4000000 in
set_option maxRecDepth 100000 in
theorem c6_worthOn (l : Launch) (g : GG) (mad : Nat → Nat) (S : St) (hI : Inv S) (h : Int) (day : Int) (r_h : R32 h) (r_day : R32 day) (h0 : 0 ≤ h ∧ h < S 14 0) : MetI l yX6_worthOn wsX6_worthOn ({ frames := 0, cells := 0, slots := 0, locals := 0 }) g [.ref (mad 0), .int (iI h), .int (iI day)] (fun H => RepM g mad S H) (sWorth S h day) := by
  refine Met.ofW (cc := cX6_worthOn) (maxL := 5) (ret := (some .int)) (by decide) rfl ?_
  intro p e s m args below meth c s₁ B hml hv
  obtain ⟨rfl, hM, hK⟩ := hv
  have hx := B.exec
  have hb := B.bytes
  have hr := B.returns
  have hts := atoms_spec (ws := wsX6_worthOn) B.pre
  have hown : s.vm.findClass RX6 = some m.cls := findClass_of_methodNamed B.named
  have hlocks := B.notSynchronized
  have inX6 : ∀ w ∈ wsX60, w ∈ wsX6_worthOn := by decide +kernel
  have hl := lv_entry ([.ref (mad 0), .int (iI h), .int (iI day)]) (n := 5) (Nat.le_of_ble_eq_true rfl)
  rw [lg_entry_eq]
  generalize (lg_sl ([.ref (mad 0), .int (iI h), .int (iI day)]) ++ List.replicate (5 - (lg_sl ([.ref (mad 0), .int (iI h), .int (iI day)])).length) Slot.unset).toArray = ls at hl ⊢
  have hl : lv_has ls 5 [(0, .ref (mad 0)), (1, .int (iI h)), (2, .int (iI day))] := hl
  have hH := hI.house h0.1 h0.2
  have hN := hI.nums
  refine q_bipush hx hb 8 dX6_worthOn_0 (by decide +kernel) ?_
  refine lv_iload_n hx hb dX6_worthOn_2 rfl (lv_at hl 1 rfl) ?_
  refine q_imul hx hb dX6_worthOn_3 ?_
  refine lv_istore_n (lv' := [(3, .int (iI (8 * h))), (0, .ref (mad 0)), (1, .int (iI h)), (2, .int (iI day))]) hx hb dX6_worthOn_4 rfl hl (by decide) rfl (fun ls hl => ?_)
  refine q_bipush hx hb 8 dX6_worthOn_5 (by decide +kernel) ?_
  refine lv_iload_n hx hb dX6_worthOn_7 rfl (lv_at hl 2 rfl) ?_
  refine q_imul hx hb dX6_worthOn_8 ?_
  refine lv_istore (lv' := [(4, .int (iI (8 * h))), (3, .int (iI (8 * h))), (0, .ref (mad 0)), (1, .int (iI h)), (2, .int (iI day))]) hx hb dX6_worthOn_9 hl (by decide) rfl (fun ls hl => ?_)
  have e0 : (sWat S h day 0 : Int) = 8 * h := by
    rfl
  have e1 : (8 * h + ((0 : Nat) : Int) : Int) = 8 * h := by
    omega
  refine q_loopN (nL := 5) ((S 23 h).toNat) (fun (i : Nat) => [(0, .ref (mad 0)), (1, .int (iI h)), (2, .int (iI day)), (3, .int (iI (sWat S h day i))), (4, .int (iI (8 * h + ((i : Nat) : Int))))]) (lv_sub hl [2, 3, 4, 1, 0] (by simp only [e0, e1]; rfl)) (fun i hi ihi ls hl => ?_)
  have hl : lv_has ls 5 [(0, .ref (mad 0)), (1, .int (iI h)), (2, .int (iI day)), (3, .int (iI (sWat S h day i))), (4, .int (iI (8 * h + ((i : Nat) : Int))))] := hl
  have hwb : 8 * h ≤ sWat S h day i ∧ sWat S h day i < 8 * h + 8 := by
    rcases sWat_le S h day i with e | ⟨k, h1, h2⟩ <;> omega
  refine lv_iload hx hb dX6_worthOn_11 (lv_at hl 4 rfl) ?_
  refine q_bipush hx hb 8 dX6_worthOn_13 (by decide +kernel) ?_
  refine lv_iload_n hx hb dX6_worthOn_15 rfl (lv_at hl 1 rfl) ?_
  refine q_imul hx hb dX6_worthOn_16 ?_
  refine lv_aload_n hx hb dX6_worthOn_17 rfl (lv_at hl 0 rfl) ?_
  refine q_get (v := .ref (mad 23)) (C := RX6) (T := TX6) (N := 32) hx hb hts inX6 hown hK hM.1 rfl 23 (by decide) (hts (.fieldLink RX6 68 "TavernBenchModel" "worths" "[I") (by decide +kernel)) (fun _ h9 => h9) rfl dX6_worthOn_18 ?_
  refine lv_iload_n hx hb dX6_worthOn_21 rfl (lv_at hl 1 rfl) ?_
  refine q_mld hx hb hK hM 23 30 ⟨by decide, by decide, by decide⟩ rfl ⟨by omega, by omega⟩ dX6_worthOn_22 ?_
  refine q_iadd hx hb dX6_worthOn_23 ?_
  refine q_icmp_ge (tgt := 67) hx hb dX6_worthOn_24 (by decide) (by omega) (by omega) (fun c24 => ?_) (fun c24 => ?_)
  · refine lv_aload_n hx hb dX6_worthOn_67 rfl (lv_at hl 0 rfl) ?_
    refine q_get (v := .ref (mad 25)) (C := RX6) (T := TX6) (N := 32) hx hb hts inX6 hown hK hM.1 rfl 25 (by decide) (hts (.fieldLink RX6 74 "TavernBenchModel" "worth" "[I") (by decide +kernel)) (fun _ h9 => h9) rfl dX6_worthOn_68 ?_
    refine lv_iload_n hx hb dX6_worthOn_71 rfl (lv_at hl 3 rfl) ?_
    refine q_mld hx hb hK hM 25 240 ⟨by decide, by decide, by decide⟩ rfl ⟨by omega, by omega⟩ dX6_worthOn_72 ?_
    refine q_reti hx hb hr hlocks dX6_worthOn_73 ?_
    have e : i = (S 23 h).toNat := by omega
    rw [e]
    rfl
  · refine lv_aload_n hx hb dX6_worthOn_27 rfl (lv_at hl 0 rfl) ?_
    refine q_get (v := .ref (mad 24)) (C := RX6) (T := TX6) (N := 32) hx hb hts inX6 hown hK hM.1 rfl 24 (by decide) (hts (.fieldLink RX6 71 "TavernBenchModel" "worthDay" "[I") (by decide +kernel)) (fun _ h9 => h9) rfl dX6_worthOn_28 ?_
    refine lv_iload hx hb dX6_worthOn_31 (lv_at hl 4 rfl) ?_
    refine q_mld hx hb hK hM 24 240 ⟨by decide, by decide, by decide⟩ rfl ⟨by omega, by omega⟩ dX6_worthOn_33 ?_
    refine lv_iload_n hx hb dX6_worthOn_34 rfl (lv_at hl 2 rfl) ?_
    refine q_icmp_gt (tgt := 59) hx hb dX6_worthOn_35 (by decide) (hI.R (by decide)) r_day (fun c35 => ?_) (fun c35 => ?_)
    · refine lv_iload_n hx hb dX6_worthOn_59 rfl (lv_at hl 3 rfl) ?_
      refine lv_istore_n (lv' := [(3, .int (iI (sWat S h day i))), (0, .ref (mad 0)), (1, .int (iI h)), (2, .int (iI day)), (4, .int (iI (8 * h + ((i : Nat) : Int))))]) hx hb dX6_worthOn_60 rfl hl (by decide) rfl (fun ls hl => ?_)
      refine lv_iinc (v := iI ((8 * h + ((i : Nat) : Int)) + 1)) (lv' := [(4, .int (iI ((8 * h + ((i : Nat) : Int)) + 1))), (3, .int (iI (sWat S h day i))), (0, .ref (mad 0)), (1, .int (iI h)), (2, .int (iI day))]) hx hb dX6_worthOn_61 hl (k := 4) rfl (iI_add _ _) (by decide) rfl (fun ls hl => ?_)
      refine lv_goto (tgt := 11) hx hb dX6_worthOn_64 (by decide) ?_
      have e0 : (sWat S h day (i + 1) : Int) = sWat S h day i := by
        rw [sWat_s]
        first | exact cI_t ⟨c35, c51⟩ | exact cI_f (fun z => absurd z.1 (Int.not_le.mpr c35)) | exact cI_f (fun z => absurd z.2 (Int.not_le.mpr c51))
      have e1 : (8 * h + (((i + 1) : Nat) : Int) : Int) = (8 * h + ((i : Nat) : Int)) + 1 := by
        omega
      exact ihi (by omega) ls (lv_sub hl [2, 3, 4, 1, 0] (by simp only [e0, e1]; rfl))
    · refine lv_aload_n hx hb dX6_worthOn_38 rfl (lv_at hl 0 rfl) ?_
      refine q_get (v := .ref (mad 24)) (C := RX6) (T := TX6) (N := 32) hx hb hts inX6 hown hK hM.1 rfl 24 (by decide) (hts (.fieldLink RX6 71 "TavernBenchModel" "worthDay" "[I") (by decide +kernel)) (fun _ h9 => h9) rfl dX6_worthOn_39 ?_
      refine lv_iload hx hb dX6_worthOn_42 (lv_at hl 4 rfl) ?_
      refine q_mld hx hb hK hM 24 240 ⟨by decide, by decide, by decide⟩ rfl ⟨by omega, by omega⟩ dX6_worthOn_44 ?_
      refine lv_aload_n hx hb dX6_worthOn_45 rfl (lv_at hl 0 rfl) ?_
      refine q_get (v := .ref (mad 24)) (C := RX6) (T := TX6) (N := 32) hx hb hts inX6 hown hK hM.1 rfl 24 (by decide) (hts (.fieldLink RX6 71 "TavernBenchModel" "worthDay" "[I") (by decide +kernel)) (fun _ h9 => h9) rfl dX6_worthOn_46 ?_
      refine lv_iload_n hx hb dX6_worthOn_49 rfl (lv_at hl 3 rfl) ?_
      refine q_mld hx hb hK hM 24 240 ⟨by decide, by decide, by decide⟩ rfl ⟨by omega, by omega⟩ dX6_worthOn_50 ?_
      refine q_icmp_lt (tgt := 59) hx hb dX6_worthOn_51 (by decide) (hI.R (by decide)) (hI.R (by decide)) (fun c51 => ?_) (fun c51 => ?_)
      · refine lv_iload_n hx hb dX6_worthOn_59 rfl (lv_at hl 3 rfl) ?_
        refine lv_istore_n (lv' := [(3, .int (iI (sWat S h day i))), (0, .ref (mad 0)), (1, .int (iI h)), (2, .int (iI day)), (4, .int (iI (8 * h + ((i : Nat) : Int))))]) hx hb dX6_worthOn_60 rfl hl (by decide) rfl (fun ls hl => ?_)
        refine lv_iinc (v := iI ((8 * h + ((i : Nat) : Int)) + 1)) (lv' := [(4, .int (iI ((8 * h + ((i : Nat) : Int)) + 1))), (3, .int (iI (sWat S h day i))), (0, .ref (mad 0)), (1, .int (iI h)), (2, .int (iI day))]) hx hb dX6_worthOn_61 hl (k := 4) rfl (iI_add _ _) (by decide) rfl (fun ls hl => ?_)
        refine lv_goto (tgt := 11) hx hb dX6_worthOn_64 (by decide) ?_
        have e0 : (sWat S h day (i + 1) : Int) = sWat S h day i := by
          rw [sWat_s]
          first | exact cI_t ⟨c35, c51⟩ | exact cI_f (fun z => absurd z.1 (Int.not_le.mpr c35)) | exact cI_f (fun z => absurd z.2 (Int.not_le.mpr c51))
        have e1 : (8 * h + (((i + 1) : Nat) : Int) : Int) = (8 * h + ((i : Nat) : Int)) + 1 := by
          omega
        exact ihi (by omega) ls (lv_sub hl [2, 3, 4, 1, 0] (by simp only [e0, e1]; rfl))
      · refine lv_iload hx hb dX6_worthOn_54 (lv_at hl 4 rfl) ?_
        refine lv_goto (tgt := 60) hx hb dX6_worthOn_56 (by decide) ?_
        refine lv_istore_n (lv' := [(3, .int (iI (8 * h + ((i : Nat) : Int)))), (0, .ref (mad 0)), (1, .int (iI h)), (2, .int (iI day)), (4, .int (iI (8 * h + ((i : Nat) : Int))))]) hx hb dX6_worthOn_60 rfl hl (by decide) rfl (fun ls hl => ?_)
        refine lv_iinc (v := iI ((8 * h + ((i : Nat) : Int)) + 1)) (lv' := [(4, .int (iI ((8 * h + ((i : Nat) : Int)) + 1))), (3, .int (iI (8 * h + ((i : Nat) : Int)))), (0, .ref (mad 0)), (1, .int (iI h)), (2, .int (iI day))]) hx hb dX6_worthOn_61 hl (k := 4) rfl (iI_add _ _) (by decide) rfl (fun ls hl => ?_)
        refine lv_goto (tgt := 11) hx hb dX6_worthOn_64 (by decide) ?_
        have e0 : (sWat S h day (i + 1) : Int) = 8 * h + ((i : Nat) : Int) := by
          rw [sWat_s]
          first | exact cI_t ⟨c35, c51⟩ | exact cI_f (fun z => absurd z.1 (Int.not_le.mpr c35)) | exact cI_f (fun z => absurd z.2 (Int.not_le.mpr c51))
        have e1 : (8 * h + (((i + 1) : Nat) : Int) : Int) = (8 * h + ((i : Nat) : Int)) + 1 := by
          omega
        exact ihi (by omega) ls (lv_sub hl [2, 3, 4, 1, 0] (by simp only [e0, e1]; rfl))

set_option maxHeartbeats 4000000 in
set_option maxRecDepth 100000 in
theorem c6_lawOf (l : Launch) (g : GG) (mad : Nat → Nat) (S : St) (hI : Inv S) (k : Int) (day : Int) (r_k : R32 k) (r_day : R32 day) (hd : isD day) : MetI l yX6_lawOf wsX6_lawOf ({ frames := 1, cells := 0, slots := 0, locals := 23 }) g [.ref (mad 0), .int (iI k), .int (iI day)] (fun H => RepM g mad S H) (sLawOf S k day) := by
  refine Met.ofW (cc := cX6_lawOf) (maxL := 7) (ret := (some .int)) (by decide) rfl ?_
  intro p e s m args below meth c s₁ B hml hv
  obtain ⟨rfl, hM, hK⟩ := hv
  have hx := B.exec
  have hb := B.bytes
  have hr := B.returns
  have hts := atoms_spec (ws := wsX6_lawOf) B.pre
  have hown : s.vm.findClass RX6 = some m.cls := findClass_of_methodNamed B.named
  have hlocks := B.notSynchronized
  have inX6 : ∀ w ∈ wsX60, w ∈ wsX6_lawOf := by decide +kernel
  have hl := lv_entry ([.ref (mad 0), .int (iI k), .int (iI day)]) (n := 7) (Nat.le_of_ble_eq_true rfl)
  rw [lg_entry_eq]
  generalize (lg_sl ([.ref (mad 0), .int (iI k), .int (iI day)]) ++ List.replicate (7 - (lg_sl ([.ref (mad 0), .int (iI k), .int (iI day)])).length) Slot.unset).toArray = ls at hl ⊢
  have hl : lv_has ls 7 [(0, .ref (mad 0)), (1, .int (iI k)), (2, .int (iI day))] := hl
  have hN := hI.nums
  refine lv_aload_n hx hb dX6_lawOf_0 rfl (lv_at hl 0 rfl) ?_
  refine lv_iload_n hx hb dX6_lawOf_1 rfl (lv_at hl 2 rfl) ?_
  refine q_cVi (As := [.int (iI day)]) (rest := []) ⟨hx, hb, hml, hown, hts⟩ (c6_isFeast l g mad S hI day r_day ) (cwV 1 hts gX6_lawOf_X6_isFeast rfl rfl rfl (by decide +kernel) ⟨Nat.le_of_ble_eq_true rfl, Nat.le_of_ble_eq_true rfl⟩) (q_pV hK hM.1 rfl hM) rfl hl.1 rfl (Nat.le_of_ble_eq_true rfl) ⟨Nat.zero_le _, Nat.zero_le _⟩ dX6_lawOf_2 ?_
  refine q_join (nL := 7) 17 [.int (iI (sWeek S day))] [(0, .ref (mad 0)), (1, .int (iI k)), (2, .int (iI day))] (fun ls hl => ?_) (fun J17 => ?_)
  · have hwk : 0 ≤ sWeek S day ∧ sWeek S day ≤ 7 := by
      unfold sWeek
      by_cases z : sFeast S day
      · rw [cI_t z]; decide
      · rw [cI_f z]; omega
    refine lv_istore_n (lv' := [(3, .int (iI (sWeek S day))), (0, .ref (mad 0)), (1, .int (iI k)), (2, .int (iI day))]) hx hb dX6_lawOf_17 rfl hl (by decide) rfl (fun ls hl => ?_)
    refine lv_iconst (v := iI (-1)) hx hb dX6_lawOf_18 rfl ?_
    refine lv_istore (lv' := [(4, .int (iI (-1))), (3, .int (iI (sWeek S day))), (0, .ref (mad 0)), (1, .int (iI k)), (2, .int (iI day))]) hx hb dX6_lawOf_19 hl (by decide) rfl (fun ls hl => ?_)
    refine lv_iconst (v := iI 0) hx hb dX6_lawOf_21 rfl ?_
    refine lv_istore (lv' := [(5, .int (iI 0)), (4, .int (iI (-1))), (3, .int (iI (sWeek S day))), (0, .ref (mad 0)), (1, .int (iI k)), (2, .int (iI day))]) hx hb dX6_lawOf_22 hl (by decide) rfl (fun ls hl => ?_)
    have e0 : (sLaw S k day 0 : Int) = (-1) := by
      rfl
    have e1 : (((0 : Nat) : Int) : Int) = 0 := by
      omega
    refine q_loopN (nL := 7) ((S 2 0).toNat) (fun (i : Nat) => [(0, .ref (mad 0)), (1, .int (iI k)), (2, .int (iI day)), (3, .int (iI (sWeek S day))), (4, .int (iI (sLaw S k day i))), (5, .int (iI ((i : Nat) : Int)))]) (lv_sub hl [3, 4, 5, 2, 1, 0] (by simp only [e0, e1]; rfl)) (fun i hi ihi ls hl => ?_)
    have hl : lv_has ls 7 [(0, .ref (mad 0)), (1, .int (iI k)), (2, .int (iI day)), (3, .int (iI (sWeek S day))), (4, .int (iI (sLaw S k day i))), (5, .int (iI ((i : Nat) : Int)))] := hl
    have hlb := sLaw_b S k day i
    refine lv_iload hx hb dX6_lawOf_24 (lv_at hl 5 rfl) ?_
    refine lv_aload_n hx hb dX6_lawOf_26 rfl (lv_at hl 0 rfl) ?_
    refine q_get (v := .int (iI (S 2 0))) (C := RX6) (T := TX6) (N := 32) hx hb hts inX6 hown hK hM.1 rfl 2 (by decide) (hts (.fieldLink RX6 106 "TavernBenchModel" "laws" "I") (by decide +kernel)) (fun _ h9 => h9) rfl dX6_lawOf_27 ?_
    refine q_icmp_ge (tgt := 115) hx hb dX6_lawOf_30 (by decide) (by omega) (hI.R (by decide)) (fun c30 => ?_) (fun c30 => ?_)
    · refine lv_iload hx hb dX6_lawOf_115 (lv_at hl 4 rfl) ?_
      refine q_reti hx hb hr hlocks dX6_lawOf_117 ?_
      have e : i = (S 2 0).toNat := by omega
      rw [e]
      rfl
    · refine lv_aload_n hx hb dX6_lawOf_33 rfl (lv_at hl 0 rfl) ?_
      refine q_get (v := .ref (mad 4)) (C := RX6) (T := TX6) (N := 32) hx hb hts inX6 hown hK hM.1 rfl 4 (by decide) (hts (.fieldLink RX6 16 "TavernBenchModel" "lawKind" "[I") (by decide +kernel)) (fun _ h9 => h9) rfl dX6_lawOf_34 ?_
      refine lv_iload hx hb dX6_lawOf_37 (lv_at hl 5 rfl) ?_
      refine q_mld hx hb hK hM 4 40 ⟨by decide, by decide, by decide⟩ rfl ⟨by omega, by omega⟩ dX6_lawOf_39 ?_
      refine lv_iload_n hx hb dX6_lawOf_40 rfl (lv_at hl 1 rfl) ?_
      refine q_icmp_ne (tgt := 70) hx hb dX6_lawOf_41 (by decide) (hI.R (by decide)) r_k (fun c41 => ?_) (fun c41 => ?_)
      · refine lv_iconst (v := iI 0) hx hb dX6_lawOf_70 rfl ?_
        refine lv_istore (lv' := [(6, .int (iI 0)), (0, .ref (mad 0)), (1, .int (iI k)), (2, .int (iI day)), (3, .int (iI (sWeek S day))), (4, .int (iI (sLaw S k day i))), (5, .int (iI ((i : Nat) : Int)))]) hx hb dX6_lawOf_71 hl (by decide) rfl (fun ls hl => ?_)
        refine lv_iload hx hb dX6_lawOf_73 (lv_at hl 0 rfl) ?_
        refine q_if_eq (tgt := 105) hx hb dX6_lawOf_75 (by decide) (by decide) (fun c75 => ?_) (fun c75 => ?_)
        rotate_left
        · exact absurd c75 (by decide)
        refine lv_iload hx hb dX6_lawOf_105 (lv_at hl 5 rfl) ?_
        refine lv_istore (lv' := [(4, .int (iI (sLaw S k day i))), (6, .int (iI 0)), (0, .ref (mad 0)), (1, .int (iI k)), (2, .int (iI day)), (3, .int (iI (sWeek S day))), (5, .int (iI ((i : Nat) : Int)))]) hx hb dX6_lawOf_107 hl (by decide) rfl (fun ls hl => ?_)
        refine lv_iinc (v := iI (((i : Nat) : Int) + 1)) (lv' := [(5, .int (iI (((i : Nat) : Int) + 1))), (4, .int (iI (sLaw S k day i))), (6, .int (iI 0)), (0, .ref (mad 0)), (1, .int (iI k)), (2, .int (iI day)), (3, .int (iI (sWeek S day)))]) hx hb dX6_lawOf_109 hl (k := 6) rfl (iI_add _ _) (by decide) rfl (fun ls hl => ?_)
        refine lv_goto (tgt := 24) hx hb dX6_lawOf_112 (by decide) ?_
        have e0 : (sLaw S k day (i + 1) : Int) = sLaw S k day i := by
          first | exact lastN_t ⟨⟨c41, c52⟩, c63⟩ (Or.inl c80) | exact lastN_t ⟨⟨c41, c52⟩, c63⟩ (Or.inr c97) | exact lastN_f (fun z => absurd z.1.1.1 c41) | exact lastN_f (fun z => absurd z.1.1.2 c52) | exact lastN_f (fun z => absurd z.1.2 (Int.not_le.mpr c63)) | exact lastN_f (fun z => z.2.elim (Int.not_lt.mpr c80) (Int.not_le.mpr c97))
        have e1 : ((((i + 1) : Nat) : Int) : Int) = ((i : Nat) : Int) + 1 := by
          omega
        exact ihi (by omega) ls (lv_sub hl [3, 4, 5, 6, 1, 0] (by simp only [e0, e1]; rfl))
      · refine lv_aload_n hx hb dX6_lawOf_44 rfl (lv_at hl 0 rfl) ?_
        refine q_get (v := .ref (mad 5)) (C := RX6) (T := TX6) (N := 32) hx hb hts inX6 hown hK hM.1 rfl 5 (by decide) (hts (.fieldLink RX6 19 "TavernBenchModel" "lawWeek" "[I") (by decide +kernel)) (fun _ h9 => h9) rfl dX6_lawOf_45 ?_
        refine lv_iload hx hb dX6_lawOf_48 (lv_at hl 5 rfl) ?_
        refine q_mld hx hb hK hM 5 40 ⟨by decide, by decide, by decide⟩ rfl ⟨by omega, by omega⟩ dX6_lawOf_50 ?_
        refine lv_iload_n hx hb dX6_lawOf_51 rfl (lv_at hl 3 rfl) ?_
        refine q_icmp_ne (tgt := 70) hx hb dX6_lawOf_52 (by decide) (hI.R (by decide)) (by omega) (fun c52 => ?_) (fun c52 => ?_)
        · refine lv_iconst (v := iI 0) hx hb dX6_lawOf_70 rfl ?_
          refine lv_istore (lv' := [(6, .int (iI 0)), (0, .ref (mad 0)), (1, .int (iI k)), (2, .int (iI day)), (3, .int (iI (sWeek S day))), (4, .int (iI (sLaw S k day i))), (5, .int (iI ((i : Nat) : Int)))]) hx hb dX6_lawOf_71 hl (by decide) rfl (fun ls hl => ?_)
          refine lv_iload hx hb dX6_lawOf_73 (lv_at hl 0 rfl) ?_
          refine q_if_eq (tgt := 105) hx hb dX6_lawOf_75 (by decide) (by decide) (fun c75_1 => ?_) (fun c75_1 => ?_)
          rotate_left
          · exact absurd c75_1 (by decide)
          refine lv_iload hx hb dX6_lawOf_105 (lv_at hl 5 rfl) ?_
          refine lv_istore (lv' := [(4, .int (iI (sLaw S k day i))), (6, .int (iI 0)), (0, .ref (mad 0)), (1, .int (iI k)), (2, .int (iI day)), (3, .int (iI (sWeek S day))), (5, .int (iI ((i : Nat) : Int)))]) hx hb dX6_lawOf_107 hl (by decide) rfl (fun ls hl => ?_)
          refine lv_iinc (v := iI (((i : Nat) : Int) + 1)) (lv' := [(5, .int (iI (((i : Nat) : Int) + 1))), (4, .int (iI (sLaw S k day i))), (6, .int (iI 0)), (0, .ref (mad 0)), (1, .int (iI k)), (2, .int (iI day)), (3, .int (iI (sWeek S day)))]) hx hb dX6_lawOf_109 hl (k := 6) rfl (iI_add _ _) (by decide) rfl (fun ls hl => ?_)
          refine lv_goto (tgt := 24) hx hb dX6_lawOf_112 (by decide) ?_
          have e0 : (sLaw S k day (i + 1) : Int) = sLaw S k day i := by
            first | exact lastN_t ⟨⟨c41, c52⟩, c63⟩ (Or.inl c80) | exact lastN_t ⟨⟨c41, c52⟩, c63⟩ (Or.inr c97) | exact lastN_f (fun z => absurd z.1.1.1 c41) | exact lastN_f (fun z => absurd z.1.1.2 c52) | exact lastN_f (fun z => absurd z.1.2 (Int.not_le.mpr c63)) | exact lastN_f (fun z => z.2.elim (Int.not_lt.mpr c80) (Int.not_le.mpr c97))
          have e1 : ((((i + 1) : Nat) : Int) : Int) = ((i : Nat) : Int) + 1 := by
            omega
          exact ihi (by omega) ls (lv_sub hl [3, 4, 5, 6, 1, 0] (by simp only [e0, e1]; rfl))
        · refine lv_aload_n hx hb dX6_lawOf_55 rfl (lv_at hl 0 rfl) ?_
          refine q_get (v := .ref (mad 3)) (C := RX6) (T := TX6) (N := 32) hx hb hts inX6 hown hK hM.1 rfl 3 (by decide) (hts (.fieldLink RX6 13 "TavernBenchModel" "lawDay" "[I") (by decide +kernel)) (fun _ h9 => h9) rfl dX6_lawOf_56 ?_
          refine lv_iload hx hb dX6_lawOf_59 (lv_at hl 5 rfl) ?_
          refine q_mld hx hb hK hM 3 40 ⟨by decide, by decide, by decide⟩ rfl ⟨by omega, by omega⟩ dX6_lawOf_61 ?_
          refine lv_iload_n hx hb dX6_lawOf_62 rfl (lv_at hl 2 rfl) ?_
          refine q_icmp_gt (tgt := 70) hx hb dX6_lawOf_63 (by decide) (hI.R (by decide)) r_day (fun c63 => ?_) (fun c63 => ?_)
          · refine lv_iconst (v := iI 0) hx hb dX6_lawOf_70 rfl ?_
            refine lv_istore (lv' := [(6, .int (iI 0)), (0, .ref (mad 0)), (1, .int (iI k)), (2, .int (iI day)), (3, .int (iI (sWeek S day))), (4, .int (iI (sLaw S k day i))), (5, .int (iI ((i : Nat) : Int)))]) hx hb dX6_lawOf_71 hl (by decide) rfl (fun ls hl => ?_)
            refine lv_iload hx hb dX6_lawOf_73 (lv_at hl 0 rfl) ?_
            refine q_if_eq (tgt := 105) hx hb dX6_lawOf_75 (by decide) (by decide) (fun c75_2 => ?_) (fun c75_2 => ?_)
            rotate_left
            · exact absurd c75_2 (by decide)
            refine lv_iload hx hb dX6_lawOf_105 (lv_at hl 5 rfl) ?_
            refine lv_istore (lv' := [(4, .int (iI (sLaw S k day i))), (6, .int (iI 0)), (0, .ref (mad 0)), (1, .int (iI k)), (2, .int (iI day)), (3, .int (iI (sWeek S day))), (5, .int (iI ((i : Nat) : Int)))]) hx hb dX6_lawOf_107 hl (by decide) rfl (fun ls hl => ?_)
            refine lv_iinc (v := iI (((i : Nat) : Int) + 1)) (lv' := [(5, .int (iI (((i : Nat) : Int) + 1))), (4, .int (iI (sLaw S k day i))), (6, .int (iI 0)), (0, .ref (mad 0)), (1, .int (iI k)), (2, .int (iI day)), (3, .int (iI (sWeek S day)))]) hx hb dX6_lawOf_109 hl (k := 6) rfl (iI_add _ _) (by decide) rfl (fun ls hl => ?_)
            refine lv_goto (tgt := 24) hx hb dX6_lawOf_112 (by decide) ?_
            have e0 : (sLaw S k day (i + 1) : Int) = sLaw S k day i := by
              first | exact lastN_t ⟨⟨c41, c52⟩, c63⟩ (Or.inl c80) | exact lastN_t ⟨⟨c41, c52⟩, c63⟩ (Or.inr c97) | exact lastN_f (fun z => absurd z.1.1.1 c41) | exact lastN_f (fun z => absurd z.1.1.2 c52) | exact lastN_f (fun z => absurd z.1.2 (Int.not_le.mpr c63)) | exact lastN_f (fun z => z.2.elim (Int.not_lt.mpr c80) (Int.not_le.mpr c97))
            have e1 : ((((i + 1) : Nat) : Int) : Int) = ((i : Nat) : Int) + 1 := by
              omega
            exact ihi (by omega) ls (lv_sub hl [3, 4, 5, 6, 1, 0] (by simp only [e0, e1]; rfl))
          · refine lv_iconst (v := iI 1) hx hb dX6_lawOf_66 rfl ?_
            refine lv_goto (tgt := 71) hx hb dX6_lawOf_67 (by decide) ?_
            refine lv_istore (lv' := [(6, .int (iI 1)), (0, .ref (mad 0)), (1, .int (iI k)), (2, .int (iI day)), (3, .int (iI (sWeek S day))), (4, .int (iI (sLaw S k day i))), (5, .int (iI ((i : Nat) : Int)))]) hx hb dX6_lawOf_71 hl (by decide) rfl (fun ls hl => ?_)
            refine lv_iload hx hb dX6_lawOf_73 (lv_at hl 0 rfl) ?_
            refine q_if_eq (tgt := 105) hx hb dX6_lawOf_75 (by decide) (by decide) (fun c75_3 => ?_) (fun c75_3 => ?_)
            · exact absurd c75_3 (by decide)
            refine lv_iload hx hb dX6_lawOf_78 (lv_at hl 5 rfl) ?_
            refine q_if_lt (tgt := 100) hx hb dX6_lawOf_80 (by decide) (by omega) (fun c80 => ?_) (fun c80 => ?_)
            · refine lv_iload hx hb dX6_lawOf_100 (lv_at hl 6 rfl) ?_
              refine lv_goto (tgt := 107) hx hb dX6_lawOf_102 (by decide) ?_
              refine lv_istore (lv' := [(4, .int (iI ((i : Nat) : Int))), (6, .int (iI 1)), (0, .ref (mad 0)), (1, .int (iI k)), (2, .int (iI day)), (3, .int (iI (sWeek S day))), (5, .int (iI ((i : Nat) : Int)))]) hx hb dX6_lawOf_107 hl (by decide) rfl (fun ls hl => ?_)
              refine lv_iinc (v := iI (((i : Nat) : Int) + 1)) (lv' := [(5, .int (iI (((i : Nat) : Int) + 1))), (4, .int (iI ((i : Nat) : Int))), (6, .int (iI 1)), (0, .ref (mad 0)), (1, .int (iI k)), (2, .int (iI day)), (3, .int (iI (sWeek S day)))]) hx hb dX6_lawOf_109 hl (k := 6) rfl (iI_add _ _) (by decide) rfl (fun ls hl => ?_)
              refine lv_goto (tgt := 24) hx hb dX6_lawOf_112 (by decide) ?_
              have e0 : (sLaw S k day (i + 1) : Int) = ((i : Nat) : Int) := by
                first | exact lastN_t ⟨⟨c41, c52⟩, c63⟩ (Or.inl c80) | exact lastN_t ⟨⟨c41, c52⟩, c63⟩ (Or.inr c97) | exact lastN_f (fun z => absurd z.1.1.1 c41) | exact lastN_f (fun z => absurd z.1.1.2 c52) | exact lastN_f (fun z => absurd z.1.2 (Int.not_le.mpr c63)) | exact lastN_f (fun z => z.2.elim (Int.not_lt.mpr c80) (Int.not_le.mpr c97))
              have e1 : ((((i + 1) : Nat) : Int) : Int) = ((i : Nat) : Int) + 1 := by
                omega
              exact ihi (by omega) ls (lv_sub hl [3, 4, 5, 6, 1, 0] (by simp only [e0, e1]; rfl))
            · refine lv_aload_n hx hb dX6_lawOf_83 rfl (lv_at hl 1 rfl) ?_
              refine q_get (v := .ref (mad 3)) (C := RX6) (T := TX6) (N := 32) hx hb hts inX6 hown hK hM.1 rfl 3 (by decide) (hts (.fieldLink RX6 13 "TavernBenchModel" "lawDay" "[I") (by decide +kernel)) (fun _ h9 => h9) rfl dX6_lawOf_84 ?_
              refine lv_iload hx hb dX6_lawOf_87 (lv_at hl 6 rfl) ?_
              refine q_mld hx hb hK hM 3 40 ⟨by decide, by decide, by decide⟩ rfl ⟨by omega, by omega⟩ dX6_lawOf_89 ?_
              refine lv_aload_n hx hb dX6_lawOf_90 rfl (lv_at hl 1 rfl) ?_
              refine q_get (v := .ref (mad 3)) (C := RX6) (T := TX6) (N := 32) hx hb hts inX6 hown hK hM.1 rfl 3 (by decide) (hts (.fieldLink RX6 13 "TavernBenchModel" "lawDay" "[I") (by decide +kernel)) (fun _ h9 => h9) rfl dX6_lawOf_91 ?_
              refine lv_iload hx hb dX6_lawOf_94 (lv_at hl 5 rfl) ?_
              refine q_mld hx hb hK hM 3 40 ⟨by decide, by decide, by decide⟩ rfl ⟨by omega, by omega⟩ dX6_lawOf_96 ?_
              refine q_icmp_lt (tgt := 105) hx hb dX6_lawOf_97 (by decide) (hI.R (by decide)) (hI.R (by decide)) (fun c97 => ?_) (fun c97 => ?_)
              · refine lv_iload hx hb dX6_lawOf_105 (lv_at hl 5 rfl) ?_
                refine lv_istore (lv' := [(4, .int (iI (sLaw S k day i))), (6, .int (iI 1)), (0, .ref (mad 0)), (1, .int (iI k)), (2, .int (iI day)), (3, .int (iI (sWeek S day))), (5, .int (iI ((i : Nat) : Int)))]) hx hb dX6_lawOf_107 hl (by decide) rfl (fun ls hl => ?_)
                refine lv_iinc (v := iI (((i : Nat) : Int) + 1)) (lv' := [(5, .int (iI (((i : Nat) : Int) + 1))), (4, .int (iI (sLaw S k day i))), (6, .int (iI 1)), (0, .ref (mad 0)), (1, .int (iI k)), (2, .int (iI day)), (3, .int (iI (sWeek S day)))]) hx hb dX6_lawOf_109 hl (k := 6) rfl (iI_add _ _) (by decide) rfl (fun ls hl => ?_)
                refine lv_goto (tgt := 24) hx hb dX6_lawOf_112 (by decide) ?_
                have e0 : (sLaw S k day (i + 1) : Int) = sLaw S k day i := by
                  first | exact lastN_t ⟨⟨c41, c52⟩, c63⟩ (Or.inl c80) | exact lastN_t ⟨⟨c41, c52⟩, c63⟩ (Or.inr c97) | exact lastN_f (fun z => absurd z.1.1.1 c41) | exact lastN_f (fun z => absurd z.1.1.2 c52) | exact lastN_f (fun z => absurd z.1.2 (Int.not_le.mpr c63)) | exact lastN_f (fun z => z.2.elim (Int.not_lt.mpr c80) (Int.not_le.mpr c97))
                have e1 : ((((i + 1) : Nat) : Int) : Int) = ((i : Nat) : Int) + 1 := by
                  omega
                exact ihi (by omega) ls (lv_sub hl [3, 4, 5, 6, 1, 0] (by simp only [e0, e1]; rfl))
              · refine lv_iload hx hb dX6_lawOf_100 (lv_at hl 6 rfl) ?_
                refine lv_goto (tgt := 107) hx hb dX6_lawOf_102 (by decide) ?_
                refine lv_istore (lv' := [(4, .int (iI ((i : Nat) : Int))), (6, .int (iI 1)), (0, .ref (mad 0)), (1, .int (iI k)), (2, .int (iI day)), (3, .int (iI (sWeek S day))), (5, .int (iI ((i : Nat) : Int)))]) hx hb dX6_lawOf_107 hl (by decide) rfl (fun ls hl => ?_)
                refine lv_iinc (v := iI (((i : Nat) : Int) + 1)) (lv' := [(5, .int (iI (((i : Nat) : Int) + 1))), (4, .int (iI ((i : Nat) : Int))), (6, .int (iI 1)), (0, .ref (mad 0)), (1, .int (iI k)), (2, .int (iI day)), (3, .int (iI (sWeek S day)))]) hx hb dX6_lawOf_109 hl (k := 6) rfl (iI_add _ _) (by decide) rfl (fun ls hl => ?_)
                refine lv_goto (tgt := 24) hx hb dX6_lawOf_112 (by decide) ?_
                have e0 : (sLaw S k day (i + 1) : Int) = ((i : Nat) : Int) := by
                  first | exact lastN_t ⟨⟨c41, c52⟩, c63⟩ (Or.inl c80) | exact lastN_t ⟨⟨c41, c52⟩, c63⟩ (Or.inr c97) | exact lastN_f (fun z => absurd z.1.1.1 c41) | exact lastN_f (fun z => absurd z.1.1.2 c52) | exact lastN_f (fun z => absurd z.1.2 (Int.not_le.mpr c63)) | exact lastN_f (fun z => z.2.elim (Int.not_lt.mpr c80) (Int.not_le.mpr c97))
                have e1 : ((((i + 1) : Nat) : Int) : Int) = ((i : Nat) : Int) + 1 := by
                  omega
                exact ihi (by omega) ls (lv_sub hl [3, 4, 5, 6, 1, 0] (by simp only [e0, e1]; rfl))
  · refine q_ifb_eq (tgt := 13) hx hb dX6_lawOf_5 (by decide) (fun c5 => ?_) (fun c5 => ?_)
    · refine lv_iload_n hx hb dX6_lawOf_13 rfl (lv_at hl 2 rfl) ?_
      refine q_bipush hx hb 7 dX6_lawOf_14 (by decide +kernel) ?_
      refine q_irem hx hb ⟨by omega, by omega⟩ ⟨by decide, by decide⟩ dX6_lawOf_16 ?_
      refine q_top (z := sWeek S day) (by
        unfold sWeek
        first | rw [cI_t (by assumption)] | rw [cI_f (by assumption)]) ?_
      exact J17 ls (lv_sub hl [0, 1, 2] rfl)
    · refine q_bipush hx hb 7 dX6_lawOf_8 (by decide +kernel) ?_
      refine lv_goto (tgt := 17) hx hb dX6_lawOf_10 (by decide) ?_
      refine q_top (z := sWeek S day) (by
        unfold sWeek
        first | rw [cI_t (by assumption)] | rw [cI_f (by assumption)]) ?_
      exact J17 ls (lv_sub hl [0, 1, 2] rfl)

theorem sLawOf_b (S : St) (k day : Int) : sLawOf S k day = -1 ∨ (0 ≤ sLawOf S k day ∧ sLawOf S k day < (S 2 0).toNat) := sLaw_b S k day _
/-- what the law tells of a kind on a day -/
noncomputable def aLawOn (S : St) (k day what : Int) : Int := cI ((0 ≤ k ∧ k ≤ 2) ∧ isD day ∧ 0 ≤ what ∧ what ≤ 1) (cI (sLawOf S k day < 0) 0 (cI (what = 0) (S 6 (sLawOf S k day)) (S 7 (sLawOf S k day)))) (-1)

set_option maxHeartbeats 4000000 in
set_option maxRecDepth 100000 in
theorem c6_lawOn (l : Launch) (g : GG) (mad : Nat → Nat) (S : St) (hI : Inv S) (k : Int) (day : Int) (what : Int) (r_k : R32 k) (r_day : R32 day) (r_what : R32 what)  : MetI l yX6_lawOn wsX6_lawOn ({ frames := 2, cells := 0, slots := 0, locals := 49 }) g [.ref (mad 0), .int (iI k), .int (iI day), .int (iI what)] (fun H => RepM g mad S H) (aLawOn S k day what) := by
  refine Met.ofW (cc := cX6_lawOn) (maxL := 5) (ret := (some .int)) (by decide) rfl ?_
  intro p e s m args below meth c s₁ B hml hv
  obtain ⟨rfl, hM, hK⟩ := hv
  have hx := B.exec
  have hb := B.bytes
  have hr := B.returns
  have hts := atoms_spec (ws := wsX6_lawOn) B.pre
  have hown : s.vm.findClass RX6 = some m.cls := findClass_of_methodNamed B.named
  have hlocks := B.notSynchronized
  have inX6 : ∀ w ∈ wsX60, w ∈ wsX6_lawOn := by decide +kernel
  have hl := lv_entry ([.ref (mad 0), .int (iI k), .int (iI day), .int (iI what)]) (n := 5) (Nat.le_of_ble_eq_true rfl)
  rw [lg_entry_eq]
  generalize (lg_sl ([.ref (mad 0), .int (iI k), .int (iI day), .int (iI what)]) ++ List.replicate (5 - (lg_sl ([.ref (mad 0), .int (iI k), .int (iI day), .int (iI what)])).length) Slot.unset).toArray = ls at hl ⊢
  have hl : lv_has ls 5 [(0, .ref (mad 0)), (1, .int (iI k)), (2, .int (iI day)), (3, .int (iI what))] := hl
  have hN := hI.nums
  have hlb := sLawOf_b S k day
  refine lv_iload_n hx hb dX6_lawOn_0 rfl (lv_at hl 1 rfl) ?_
  refine lv_iconst (v := iI 0) hx hb dX6_lawOn_1 rfl ?_
  refine lv_iconst (v := iI 2) hx hb dX6_lawOn_2 rfl ?_
  refine q_cSi (As := [.int (iI k), .int (iI 0), .int (iI 2)]) (rest := []) ⟨hx, hb, hml, hown, hts⟩ (c6_in l g k 0 2 r_k (by decide) (by decide) ) (va_cwS 3 hts gX6_lawOn_X6_in rfl rfl rfl (by decide +kernel) ⟨Nat.le_of_ble_eq_true rfl, Nat.le_of_ble_eq_true rfl⟩) (q_pS hK trivial) rfl hl.1 rfl (Nat.le_of_ble_eq_true rfl) ⟨Nat.zero_le _, Nat.zero_le _⟩ dX6_lawOn_3 ?_
  refine q_ifb_eq (tgt := 25) hx hb dX6_lawOn_6 (by decide) (fun c6 => ?_) (fun c6 => ?_)
  · refine lv_iconst (v := iI (-1)) hx hb dX6_lawOn_25 rfl ?_
    refine q_reti hx hb hr hlocks dX6_lawOn_26 ?_
    show _ = aLawOn S k day what
    unfold aLawOn
    rw [cI_f (by omega)]
  · refine lv_iload_n hx hb dX6_lawOn_9 rfl (lv_at hl 2 rfl) ?_
    refine q_cSi (As := [.int (iI day)]) (rest := []) ⟨hx, hb, hml, hown, hts⟩ (c6_isDay l g day r_day ) (va_cwS 1 hts gX6_lawOn_X6_isDay rfl rfl rfl (by decide +kernel) ⟨Nat.le_of_ble_eq_true rfl, Nat.le_of_ble_eq_true rfl⟩) (q_pS hK trivial) rfl hl.1 rfl (Nat.le_of_ble_eq_true rfl) ⟨Nat.zero_le _, Nat.zero_le _⟩ dX6_lawOn_10 ?_
    refine q_ifb_eq (tgt := 25) hx hb dX6_lawOn_13 (by decide) (fun c13 => ?_) (fun c13 => ?_)
    · refine lv_iconst (v := iI (-1)) hx hb dX6_lawOn_25 rfl ?_
      refine q_reti hx hb hr hlocks dX6_lawOn_26 ?_
      show _ = aLawOn S k day what
      unfold aLawOn
      rw [cI_f (by omega)]
    · refine lv_iload_n hx hb dX6_lawOn_16 rfl (lv_at hl 3 rfl) ?_
      refine lv_iconst (v := iI 0) hx hb dX6_lawOn_17 rfl ?_
      refine lv_iconst (v := iI 1) hx hb dX6_lawOn_18 rfl ?_
      refine q_cSi (As := [.int (iI what), .int (iI 0), .int (iI 1)]) (rest := []) ⟨hx, hb, hml, hown, hts⟩ (c6_in l g what 0 1 r_what (by decide) (by decide) ) (va_cwS 3 hts gX6_lawOn_X6_in rfl rfl rfl (by decide +kernel) ⟨Nat.le_of_ble_eq_true rfl, Nat.le_of_ble_eq_true rfl⟩) (q_pS hK trivial) rfl hl.1 rfl (Nat.le_of_ble_eq_true rfl) ⟨Nat.zero_le _, Nat.zero_le _⟩ dX6_lawOn_19 ?_
      refine q_ifb_ne (tgt := 27) hx hb dX6_lawOn_22 (by decide) (fun c22 => ?_) (fun c22 => ?_)
      · refine lv_aload_n hx hb dX6_lawOn_27 rfl (lv_at hl 0 rfl) ?_
        refine lv_iload_n hx hb dX6_lawOn_28 rfl (lv_at hl 1 rfl) ?_
        refine lv_iload_n hx hb dX6_lawOn_29 rfl (lv_at hl 2 rfl) ?_
        refine q_cVi (As := [.int (iI k), .int (iI day)]) (rest := []) ⟨hx, hb, hml, hown, hts⟩ (c6_lawOf l g mad S hI k day r_k r_day (by omega)) (cwV 2 hts gX6_lawOn_X6_lawOf rfl rfl rfl (by decide +kernel) ⟨Nat.le_of_ble_eq_true rfl, Nat.le_of_ble_eq_true rfl⟩) (q_pV hK hM.1 rfl hM) rfl hl.1 rfl (Nat.le_of_ble_eq_true rfl) ⟨Nat.zero_le _, Nat.zero_le _⟩ dX6_lawOn_30 ?_
        refine lv_istore (lv' := [(4, .int (iI (sLawOf S k day))), (0, .ref (mad 0)), (1, .int (iI k)), (2, .int (iI day)), (3, .int (iI what))]) hx hb dX6_lawOn_33 hl (by decide) rfl (fun ls hl => ?_)
        refine lv_iload hx hb dX6_lawOn_35 (lv_at hl 0 rfl) ?_
        refine q_if_ge (tgt := 44) hx hb dX6_lawOn_37 (by decide) (by omega) (fun c37 => ?_) (fun c37 => ?_)
        · refine lv_iload_n hx hb dX6_lawOn_44 rfl (lv_at hl 4 rfl) ?_
          refine q_if_ne (tgt := 58) hx hb dX6_lawOn_45 (by decide) r_what (fun c45 => ?_) (fun c45 => ?_)
          · refine lv_aload_n hx hb dX6_lawOn_58 rfl (lv_at hl 1 rfl) ?_
            refine q_get (v := .ref (mad 7)) (C := RX6) (T := TX6) (N := 32) hx hb hts inX6 hown hK hM.1 rfl 7 (by decide) (hts (.fieldLink RX6 25 "TavernBenchModel" "lawTo" "[I") (by decide +kernel)) (fun _ h9 => h9) rfl dX6_lawOn_59 ?_
            refine lv_iload hx hb dX6_lawOn_62 (lv_at hl 0 rfl) ?_
            refine q_mld hx hb hK hM 7 40 ⟨by decide, by decide, by decide⟩ rfl ⟨by omega, by omega⟩ dX6_lawOn_64 ?_
            refine q_reti hx hb hr hlocks dX6_lawOn_65 ?_
            show _ = aLawOn S k day what
            unfold aLawOn
            rw [cI_t (by omega)]
            first | rw [cI_t (by omega)] | rw [cI_f (by omega), cI_t (by omega)] | rw [cI_f (by omega), cI_f (by omega)]
          · refine lv_aload_n hx hb dX6_lawOn_48 rfl (lv_at hl 1 rfl) ?_
            refine q_get (v := .ref (mad 6)) (C := RX6) (T := TX6) (N := 32) hx hb hts inX6 hown hK hM.1 rfl 6 (by decide) (hts (.fieldLink RX6 22 "TavernBenchModel" "lawFrom" "[I") (by decide +kernel)) (fun _ h9 => h9) rfl dX6_lawOn_49 ?_
            refine lv_iload hx hb dX6_lawOn_52 (lv_at hl 0 rfl) ?_
            refine q_mld hx hb hK hM 6 40 ⟨by decide, by decide, by decide⟩ rfl ⟨by omega, by omega⟩ dX6_lawOn_54 ?_
            refine lv_goto (tgt := 65) hx hb dX6_lawOn_55 (by decide) ?_
            refine q_reti hx hb hr hlocks dX6_lawOn_65 ?_
            show _ = aLawOn S k day what
            unfold aLawOn
            rw [cI_t (by omega)]
            first | rw [cI_t (by omega)] | rw [cI_f (by omega), cI_t (by omega)] | rw [cI_f (by omega), cI_f (by omega)]
        · refine lv_iconst (v := iI 0) hx hb dX6_lawOn_40 rfl ?_
          refine lv_goto (tgt := 65) hx hb dX6_lawOn_41 (by decide) ?_
          refine q_reti hx hb hr hlocks dX6_lawOn_65 ?_
          show _ = aLawOn S k day what
          unfold aLawOn
          rw [cI_t (by omega)]
          first | rw [cI_t (by omega)] | rw [cI_f (by omega), cI_t (by omega)] | rw [cI_f (by omega), cI_f (by omega)]
      · refine lv_iconst (v := iI (-1)) hx hb dX6_lawOn_25 rfl ?_
        refine q_reti hx hb hr hlocks dX6_lawOn_26 ?_
        show _ = aLawOn S k day what
        unfold aLawOn
        rw [cI_f (by omega)]

set_option maxHeartbeats 4000000 in
set_option maxRecDepth 100000 in
theorem c6_isOpen (l : Launch) (g : GG) (mad : Nat → Nat) (S : St) (hI : Inv S) (a : Int) (minute : Int) (r_a : R32 a) (r_minute : R32 minute) (ha : a < 40) : MetI l yX6_isOpen wsX6_isOpen ({ frames := 0, cells := 0, slots := 0, locals := 0 }) g [.ref (mad 0), .int (iI a), .int (iI minute)] (fun H => RepM g mad S H) (bI (sOpen S a minute)) := by
  refine Met.ofW (cc := cX6_isOpen) (maxL := 3) (ret := (some .boolean)) (by decide) rfl ?_
  intro p e s m args below meth c s₁ B hml hv
  obtain ⟨rfl, hM, hK⟩ := hv
  have hx := B.exec
  have hb := B.bytes
  have hr := B.returns
  have hts := atoms_spec (ws := wsX6_isOpen) B.pre
  have hown : s.vm.findClass RX6 = some m.cls := findClass_of_methodNamed B.named
  have hlocks := B.notSynchronized
  have inX6 : ∀ w ∈ wsX60, w ∈ wsX6_isOpen := by decide +kernel
  have hl := lv_entry ([.ref (mad 0), .int (iI a), .int (iI minute)]) (n := 3) (Nat.le_of_ble_eq_true rfl)
  rw [lg_entry_eq]
  generalize (lg_sl ([.ref (mad 0), .int (iI a), .int (iI minute)]) ++ List.replicate (3 - (lg_sl ([.ref (mad 0), .int (iI a), .int (iI minute)])).length) Slot.unset).toArray = ls at hl ⊢
  have hl : lv_has ls 3 [(0, .ref (mad 0)), (1, .int (iI a)), (2, .int (iI minute))] := hl
  have hN := hI.nums
  refine lv_iload_n hx hb dX6_isOpen_0 rfl (lv_at hl 1 rfl) ?_
  refine q_if_lt (tgt := 28) hx hb dX6_isOpen_1 (by decide) r_a (fun c1 => ?_) (fun c1 => ?_)
  · refine lv_iconst (v := iI 0) hx hb dX6_isOpen_28 rfl ?_
    refine q_retz hx hb hr hlocks (Or.inl rfl) dX6_isOpen_29 ?_
    first | rfl | exact bI_e1 (by omega) | exact bI_e0 (by omega) | exact bI_iff (by omega) | omega
  · refine lv_iload_n hx hb dX6_isOpen_4 rfl (lv_at hl 2 rfl) ?_
    refine lv_aload_n hx hb dX6_isOpen_5 rfl (lv_at hl 0 rfl) ?_
    refine q_get (v := .ref (mad 6)) (C := RX6) (T := TX6) (N := 32) hx hb hts inX6 hown hK hM.1 rfl 6 (by decide) (hts (.fieldLink RX6 22 "TavernBenchModel" "lawFrom" "[I") (by decide +kernel)) (fun _ h9 => h9) rfl dX6_isOpen_6 ?_
    refine lv_iload_n hx hb dX6_isOpen_9 rfl (lv_at hl 1 rfl) ?_
    refine q_mld hx hb hK hM 6 40 ⟨by decide, by decide, by decide⟩ rfl ⟨by omega, by omega⟩ dX6_isOpen_10 ?_
    refine q_icmp_lt (tgt := 28) hx hb dX6_isOpen_11 (by decide) r_minute (hI.R (by decide)) (fun c11 => ?_) (fun c11 => ?_)
    · refine lv_iconst (v := iI 0) hx hb dX6_isOpen_28 rfl ?_
      refine q_retz hx hb hr hlocks (Or.inl rfl) dX6_isOpen_29 ?_
      first | rfl | exact bI_e1 (by omega) | exact bI_e0 (by omega) | exact bI_iff (by omega) | omega
    · refine lv_iload_n hx hb dX6_isOpen_14 rfl (lv_at hl 2 rfl) ?_
      refine lv_aload_n hx hb dX6_isOpen_15 rfl (lv_at hl 0 rfl) ?_
      refine q_get (v := .ref (mad 7)) (C := RX6) (T := TX6) (N := 32) hx hb hts inX6 hown hK hM.1 rfl 7 (by decide) (hts (.fieldLink RX6 25 "TavernBenchModel" "lawTo" "[I") (by decide +kernel)) (fun _ h9 => h9) rfl dX6_isOpen_16 ?_
      refine lv_iload_n hx hb dX6_isOpen_19 rfl (lv_at hl 1 rfl) ?_
      refine q_mld hx hb hK hM 7 40 ⟨by decide, by decide, by decide⟩ rfl ⟨by omega, by omega⟩ dX6_isOpen_20 ?_
      refine q_icmp_ge (tgt := 28) hx hb dX6_isOpen_21 (by decide) r_minute (hI.R (by decide)) (fun c21 => ?_) (fun c21 => ?_)
      · refine lv_iconst (v := iI 0) hx hb dX6_isOpen_28 rfl ?_
        refine q_retz hx hb hr hlocks (Or.inl rfl) dX6_isOpen_29 ?_
        first | rfl | exact bI_e1 (by omega) | exact bI_e0 (by omega) | exact bI_iff (by omega) | omega
      · refine lv_iconst (v := iI 1) hx hb dX6_isOpen_24 rfl ?_
        refine lv_goto (tgt := 29) hx hb dX6_isOpen_25 (by decide) ?_
        refine q_retz hx hb hr hlocks (Or.inr rfl) dX6_isOpen_29 ?_
        first | rfl | exact bI_e1 (by omega) | exact bI_e0 (by omega) | exact bI_iff (by omega) | omega

set_option maxHeartbeats 4000000 in
set_option maxRecDepth 100000 in
theorem c6_may (l : Launch) (g : GG) (mad : Nat → Nat) (S : St) (hI : Inv S) (minute : Int) (shut : Int) (law : Int) (before : Int) (r_minute : R32 minute) (r_shut : R32 shut) (r_law : R32 law) (r_before : R32 before) (now ahead : Prop) (hm : 0 ≤ minute ∧ minute ≤ 1439) (hla : law < 40) (hbe : before < 40) : MetI l yX6_may wsX6_may ({ frames := 1, cells := 0, slots := 0, locals := 22 }) g [.ref (mad 0), .int (iI minute), .int (iI (bI now)), .int (iI (bI ahead)), .int (iI shut), .int (iI law), .int (iI before)] (fun H => RepM g mad S H) (bI (sMay S minute now ahead shut law before)) := by
  refine Met.ofW (cc := cX6_may) (maxL := 8) (ret := (some .boolean)) (by decide) rfl ?_
  intro p e s m args below meth c s₁ B hml hv
  obtain ⟨rfl, hM, hK⟩ := hv
  have hx := B.exec
  have hb := B.bytes
  have hr := B.returns
  have hts := atoms_spec (ws := wsX6_may) B.pre
  have hown : s.vm.findClass RX6 = some m.cls := findClass_of_methodNamed B.named
  have hlocks := B.notSynchronized
  have hl := lv_entry ([.ref (mad 0), .int (iI minute), .int (iI (bI now)), .int (iI (bI ahead)), .int (iI shut), .int (iI law), .int (iI before)]) (n := 8) (Nat.le_of_ble_eq_true rfl)
  rw [lg_entry_eq]
  generalize (lg_sl ([.ref (mad 0), .int (iI minute), .int (iI (bI now)), .int (iI (bI ahead)), .int (iI shut), .int (iI law), .int (iI before)]) ++ List.replicate (8 - (lg_sl ([.ref (mad 0), .int (iI minute), .int (iI (bI now)), .int (iI (bI ahead)), .int (iI shut), .int (iI law), .int (iI before)])).length) Slot.unset).toArray = ls at hl ⊢
  have hl : lv_has ls 8 [(0, .ref (mad 0)), (1, .int (iI minute)), (2, .int (iI (bI now))), (3, .int (iI (bI ahead))), (4, .int (iI shut)), (5, .int (iI law)), (6, .int (iI before))] := hl
  have hN := hI.nums
  refine q_join (nL := 8) 30 [.int (iI (bI ((now ∧ sOpen S law minute) ∧ (shut < 0 ∨ minute < shut))))] [(0, .ref (mad 0)), (1, .int (iI minute)), (2, .int (iI (bI now))), (3, .int (iI (bI ahead))), (4, .int (iI shut)), (5, .int (iI law)), (6, .int (iI before))] (fun ls hl => ?_) (fun J30 => ?_)
  · refine lv_istore (lv' := [(7, .int (iI (bI ((now ∧ sOpen S law minute) ∧ (shut < 0 ∨ minute < shut))))), (0, .ref (mad 0)), (1, .int (iI minute)), (2, .int (iI (bI now))), (3, .int (iI (bI ahead))), (4, .int (iI shut)), (5, .int (iI law)), (6, .int (iI before))]) hx hb dX6_may_30 hl (by decide) rfl (fun ls hl => ?_)
    refine lv_iload hx hb dX6_may_32 (lv_at hl 0 rfl) ?_
    refine q_ifb_ne (tgt := 64) hx hb dX6_may_34 (by decide) (fun c34 => ?_) (fun c34 => ?_)
    · refine lv_iconst (v := iI 1) hx hb dX6_may_64 rfl ?_
      refine lv_goto (tgt := 69) hx hb dX6_may_65 (by decide) ?_
      refine q_retz hx hb hr hlocks (Or.inr rfl) dX6_may_69 ?_
      first | exact bI_e1 (Or.inl (by assumption)) | exact bI_e1 (Or.inr ⟨⟨⟨by assumption, by assumption⟩, by assumption⟩, by assumption⟩) | exact bI_e0 (fun z => z.elim (by assumption) (fun y => absurd y.1.1.1 (by assumption))) | exact bI_e0 (fun z => z.elim (by assumption) (fun y => absurd y.1.1.2 (by assumption))) | exact bI_e0 (fun z => z.elim (by assumption) (fun y => by have y2 := y.1.2; omega)) | exact bI_e0 (fun z => z.elim (by assumption) (fun y => absurd y.2 (by assumption)))
    · refine lv_iload_n hx hb dX6_may_37 rfl (lv_at hl 3 rfl) ?_
      refine q_ifb_eq (tgt := 68) hx hb dX6_may_38 (by decide) (fun c38 => ?_) (fun c38 => ?_)
      · refine lv_iconst (v := iI 0) hx hb dX6_may_68 rfl ?_
        refine q_retz hx hb hr hlocks (Or.inl rfl) dX6_may_69 ?_
        first | exact bI_e1 (Or.inl (by assumption)) | exact bI_e1 (Or.inr ⟨⟨⟨by assumption, by assumption⟩, by assumption⟩, by assumption⟩) | exact bI_e0 (fun z => z.elim (by assumption) (fun y => absurd y.1.1.1 (by assumption))) | exact bI_e0 (fun z => z.elim (by assumption) (fun y => absurd y.1.1.2 (by assumption))) | exact bI_e0 (fun z => z.elim (by assumption) (fun y => by have y2 := y.1.2; omega)) | exact bI_e0 (fun z => z.elim (by assumption) (fun y => absurd y.2 (by assumption)))
      · refine lv_iload_n hx hb dX6_may_41 rfl (lv_at hl 4 rfl) ?_
        refine q_ifb_eq (tgt := 68) hx hb dX6_may_42 (by decide) (fun c42 => ?_) (fun c42 => ?_)
        · refine lv_iconst (v := iI 0) hx hb dX6_may_68 rfl ?_
          refine q_retz hx hb hr hlocks (Or.inl rfl) dX6_may_69 ?_
          first | exact bI_e1 (Or.inl (by assumption)) | exact bI_e1 (Or.inr ⟨⟨⟨by assumption, by assumption⟩, by assumption⟩, by assumption⟩) | exact bI_e0 (fun z => z.elim (by assumption) (fun y => absurd y.1.1.1 (by assumption))) | exact bI_e0 (fun z => z.elim (by assumption) (fun y => absurd y.1.1.2 (by assumption))) | exact bI_e0 (fun z => z.elim (by assumption) (fun y => by have y2 := y.1.2; omega)) | exact bI_e0 (fun z => z.elim (by assumption) (fun y => absurd y.2 (by assumption)))
        · refine lv_iload hx hb dX6_may_45 (lv_at hl 5 rfl) ?_
          refine q_if_ge (tgt := 68) hx hb dX6_may_47 (by decide) r_shut (fun c47 => ?_) (fun c47 => ?_)
          · refine lv_iconst (v := iI 0) hx hb dX6_may_68 rfl ?_
            refine q_retz hx hb hr hlocks (Or.inl rfl) dX6_may_69 ?_
            first | exact bI_e1 (Or.inl (by assumption)) | exact bI_e1 (Or.inr ⟨⟨⟨by assumption, by assumption⟩, by assumption⟩, by assumption⟩) | exact bI_e0 (fun z => z.elim (by assumption) (fun y => absurd y.1.1.1 (by assumption))) | exact bI_e0 (fun z => z.elim (by assumption) (fun y => absurd y.1.1.2 (by assumption))) | exact bI_e0 (fun z => z.elim (by assumption) (fun y => by have y2 := y.1.2; omega)) | exact bI_e0 (fun z => z.elim (by assumption) (fun y => absurd y.2 (by assumption)))
          · refine lv_aload_n hx hb dX6_may_50 rfl (lv_at hl 1 rfl) ?_
            refine lv_iload hx hb dX6_may_51 (lv_at hl 7 rfl) ?_
            refine lv_iload_n hx hb dX6_may_53 rfl (lv_at hl 2 rfl) ?_
            refine q_sipush hx hb 1440 dX6_may_54 (by decide +kernel) ?_
            refine q_iadd hx hb dX6_may_57 ?_
            refine q_cVi (As := [.int (iI before), .int (iI (minute + 1440))]) (rest := []) ⟨hx, hb, hml, hown, hts⟩ (c6_isOpen l g mad S hI before (minute + 1440) r_before (by omega) (by omega)) (cwV 2 hts gX6_may_X6_isOpen rfl rfl rfl (by decide +kernel) ⟨Nat.le_of_ble_eq_true rfl, Nat.le_of_ble_eq_true rfl⟩) (q_pV hK hM.1 rfl hM) rfl hl.1 rfl (Nat.le_of_ble_eq_true rfl) ⟨Nat.zero_le _, Nat.zero_le _⟩ dX6_may_58 ?_
            refine q_ifb_eq (tgt := 68) hx hb dX6_may_61 (by decide) (fun c61 => ?_) (fun c61 => ?_)
            · refine lv_iconst (v := iI 0) hx hb dX6_may_68 rfl ?_
              refine q_retz hx hb hr hlocks (Or.inl rfl) dX6_may_69 ?_
              first | exact bI_e1 (Or.inl (by assumption)) | exact bI_e1 (Or.inr ⟨⟨⟨by assumption, by assumption⟩, by assumption⟩, by assumption⟩) | exact bI_e0 (fun z => z.elim (by assumption) (fun y => absurd y.1.1.1 (by assumption))) | exact bI_e0 (fun z => z.elim (by assumption) (fun y => absurd y.1.1.2 (by assumption))) | exact bI_e0 (fun z => z.elim (by assumption) (fun y => by have y2 := y.1.2; omega)) | exact bI_e0 (fun z => z.elim (by assumption) (fun y => absurd y.2 (by assumption)))
            · refine lv_iconst (v := iI 1) hx hb dX6_may_64 rfl ?_
              refine lv_goto (tgt := 69) hx hb dX6_may_65 (by decide) ?_
              refine q_retz hx hb hr hlocks (Or.inr rfl) dX6_may_69 ?_
              first | exact bI_e1 (Or.inl (by assumption)) | exact bI_e1 (Or.inr ⟨⟨⟨by assumption, by assumption⟩, by assumption⟩, by assumption⟩) | exact bI_e0 (fun z => z.elim (by assumption) (fun y => absurd y.1.1.1 (by assumption))) | exact bI_e0 (fun z => z.elim (by assumption) (fun y => absurd y.1.1.2 (by assumption))) | exact bI_e0 (fun z => z.elim (by assumption) (fun y => by have y2 := y.1.2; omega)) | exact bI_e0 (fun z => z.elim (by assumption) (fun y => absurd y.2 (by assumption)))
  · refine lv_iload_n hx hb dX6_may_0 rfl (lv_at hl 2 rfl) ?_
    refine q_ifb_eq (tgt := 29) hx hb dX6_may_1 (by decide) (fun c1 => ?_) (fun c1 => ?_)
    · refine lv_iconst (v := iI 0) hx hb dX6_may_29 rfl ?_
      refine q_top (z := bI ((now ∧ sOpen S law minute) ∧ (shut < 0 ∨ minute < shut))) (by
        first | exact bI_e1 ⟨⟨by assumption, by assumption⟩, by omega⟩ | exact bI_e0 (fun z => absurd z.1.1 (by assumption)) | exact bI_e0 (fun z => absurd z.1.2 (by assumption)) | exact bI_e0 (fun z => by have z2 := z.2; omega)) ?_
      exact J30 ls (lv_sub hl [0, 1, 2, 3, 4, 5, 6] rfl)
    · refine lv_aload_n hx hb dX6_may_4 rfl (lv_at hl 0 rfl) ?_
      refine lv_iload hx hb dX6_may_5 (lv_at hl 5 rfl) ?_
      refine lv_iload_n hx hb dX6_may_7 rfl (lv_at hl 1 rfl) ?_
      refine q_cVi (As := [.int (iI law), .int (iI minute)]) (rest := []) ⟨hx, hb, hml, hown, hts⟩ (c6_isOpen l g mad S hI law minute r_law r_minute (by omega)) (cwV 2 hts gX6_may_X6_isOpen rfl rfl rfl (by decide +kernel) ⟨Nat.le_of_ble_eq_true rfl, Nat.le_of_ble_eq_true rfl⟩) (q_pV hK hM.1 rfl hM) rfl hl.1 rfl (Nat.le_of_ble_eq_true rfl) ⟨Nat.zero_le _, Nat.zero_le _⟩ dX6_may_8 ?_
      refine q_ifb_eq (tgt := 29) hx hb dX6_may_11 (by decide) (fun c11 => ?_) (fun c11 => ?_)
      · refine lv_iconst (v := iI 0) hx hb dX6_may_29 rfl ?_
        refine q_top (z := bI ((now ∧ sOpen S law minute) ∧ (shut < 0 ∨ minute < shut))) (by
          first | exact bI_e1 ⟨⟨by assumption, by assumption⟩, by omega⟩ | exact bI_e0 (fun z => absurd z.1.1 (by assumption)) | exact bI_e0 (fun z => absurd z.1.2 (by assumption)) | exact bI_e0 (fun z => by have z2 := z.2; omega)) ?_
        exact J30 ls (lv_sub hl [0, 1, 2, 3, 4, 5, 6] rfl)
      · refine lv_iload hx hb dX6_may_14 (lv_at hl 4 rfl) ?_
        refine q_if_lt (tgt := 25) hx hb dX6_may_16 (by decide) r_shut (fun c16 => ?_) (fun c16 => ?_)
        · refine lv_iconst (v := iI 1) hx hb dX6_may_25 rfl ?_
          refine lv_goto (tgt := 30) hx hb dX6_may_26 (by decide) ?_
          refine q_top (z := bI ((now ∧ sOpen S law minute) ∧ (shut < 0 ∨ minute < shut))) (by
            first | exact bI_e1 ⟨⟨by assumption, by assumption⟩, by omega⟩ | exact bI_e0 (fun z => absurd z.1.1 (by assumption)) | exact bI_e0 (fun z => absurd z.1.2 (by assumption)) | exact bI_e0 (fun z => by have z2 := z.2; omega)) ?_
          exact J30 ls (lv_sub hl [0, 1, 2, 3, 4, 5, 6] rfl)
        · refine lv_iload_n hx hb dX6_may_19 rfl (lv_at hl 1 rfl) ?_
          refine lv_iload hx hb dX6_may_20 (lv_at hl 4 rfl) ?_
          refine q_icmp_ge (tgt := 29) hx hb dX6_may_22 (by decide) r_minute r_shut (fun c22 => ?_) (fun c22 => ?_)
          · refine lv_iconst (v := iI 0) hx hb dX6_may_29 rfl ?_
            refine q_top (z := bI ((now ∧ sOpen S law minute) ∧ (shut < 0 ∨ minute < shut))) (by
              first | exact bI_e1 ⟨⟨by assumption, by assumption⟩, by omega⟩ | exact bI_e0 (fun z => absurd z.1.1 (by assumption)) | exact bI_e0 (fun z => absurd z.1.2 (by assumption)) | exact bI_e0 (fun z => by have z2 := z.2; omega)) ?_
            exact J30 ls (lv_sub hl [0, 1, 2, 3, 4, 5, 6] rfl)
          · refine lv_iconst (v := iI 1) hx hb dX6_may_25 rfl ?_
            refine lv_goto (tgt := 30) hx hb dX6_may_26 (by decide) ?_
            refine q_top (z := bI ((now ∧ sOpen S law minute) ∧ (shut < 0 ∨ minute < shut))) (by
              first | exact bI_e1 ⟨⟨by assumption, by assumption⟩, by omega⟩ | exact bI_e0 (fun z => absurd z.1.1 (by assumption)) | exact bI_e0 (fun z => absurd z.1.2 (by assumption)) | exact bI_e0 (fun z => by have z2 := z.2; omega)) ?_
            exact J30 ls (lv_sub hl [0, 1, 2, 3, 4, 5, 6] rfl)

theorem sCond_b {S : St} (hI : Inv S) {h : Int} (h0 : 0 ≤ h ∧ h < S 14 0) (day : Int) : sCond S h day = -4 ∨ (0 ≤ sCond S h day ∧ sCond S h day ≤ 1439) := by
  have hH := hI.house h0.1 h0.2
  unfold sCond
  by_cases c : sCat S h day (S 19 h).toNat < 0 ∨ S 21 (sCat S h day (S 19 h).toNat) = 5
  · rw [cI_t c]; exact Or.inl rfl
  · rw [cI_f c]
    rcases lastN_q (fun j => 16 * h + j) (qCat S h day) (S 20) (S 19 h).toNat with e | ⟨k, h1, h2, h3⟩
    · exact absurd (Or.inl (by show lastN _ _ _ _ < 0; rw [e]; decide)) c
    · have e2 : sCat S h day (S 19 h).toNat = 16 * h + (k : Nat) := h2
      rw [e2] at c ⊢
      have hv := hI.ev h0.1 h0.2 (j := (k : Int)) (by omega) (by omega)
      have h4 := h3.1
      exact Or.inr (hv.2.2 (by omega))
theorem sBefore_b (S : St) (h day : Int) : sBefore S h day = -1 ∨ (0 ≤ sBefore S h day ∧ sBefore S h day < (S 2 0).toNat) := by
  unfold sBefore
  by_cases c : 0 < day
  · rw [cI_t c]; exact sLawOf_b S _ _
  · rw [cI_f c]; exact Or.inl rfl

set_option maxHeartbeats 4000000 in
set_option maxRecDepth 100000 in
theorem c6_opens (l : Launch) (g : GG) (mad : Nat → Nat) (S : St) (hI : Inv S) (h : Int) (day : Int) (fr : Int) (to : Int) (r_h : R32 h) (r_day : R32 day) (r_fr : R32 fr) (r_to : R32 to) (h0 : 0 ≤ h ∧ h < S 14 0) (hd : isD day) (hf : 0 ≤ fr ∧ fr ≤ to ∧ to ≤ 1439) : MetI l yX6_opens wsX6_opens ({ frames := 4, cells := 0, slots := 0, locals := 99 }) g [.ref (mad 0), .int (iI h), .int (iI day), .int (iI fr), .int (iI to)] (fun H => RepM g mad S H) (sOpens S h day fr (to + 1 - fr).toNat) := by
  refine Met.ofW (cc := cX6_opens) (maxL := 12) (ret := (some .int)) (by decide) rfl ?_
  intro p e s m args below meth c s₁ B hml hv
  obtain ⟨rfl, hM, hK⟩ := hv
  have hx := B.exec
  have hb := B.bytes
  have hr := B.returns
  have hts := atoms_spec (ws := wsX6_opens) B.pre
  have hown : s.vm.findClass RX6 = some m.cls := findClass_of_methodNamed B.named
  have hlocks := B.notSynchronized
  have inX6 : ∀ w ∈ wsX60, w ∈ wsX6_opens := by decide +kernel
  have hl := lv_entry ([.ref (mad 0), .int (iI h), .int (iI day), .int (iI fr), .int (iI to)]) (n := 12) (Nat.le_of_ble_eq_true rfl)
  rw [lg_entry_eq]
  generalize (lg_sl ([.ref (mad 0), .int (iI h), .int (iI day), .int (iI fr), .int (iI to)]) ++ List.replicate (12 - (lg_sl ([.ref (mad 0), .int (iI h), .int (iI day), .int (iI fr), .int (iI to)])).length) Slot.unset).toArray = ls at hl ⊢
  have hl : lv_has ls 12 [(0, .ref (mad 0)), (1, .int (iI h)), (2, .int (iI day)), (3, .int (iI fr)), (4, .int (iI to))] := hl
  have hH := hI.house h0.1 h0.2
  have hN := hI.nums
  have hsc := sCond_b hI h0 day
  have hla := sLawOf_b S (S 17 h) day
  have hbe := sBefore_b S h day
  refine lv_aload_n hx hb dX6_opens_0 rfl (lv_at hl 0 rfl) ?_
  refine lv_iload_n hx hb dX6_opens_1 rfl (lv_at hl 1 rfl) ?_
  refine lv_iload_n hx hb dX6_opens_2 rfl (lv_at hl 2 rfl) ?_
  refine q_cVi (As := [.int (iI h), .int (iI day)]) (rest := []) ⟨hx, hb, hml, hown, hts⟩ (c6_has l g mad S hI h day r_h r_day h0) (cwV 2 hts gX6_opens_X6_has rfl rfl rfl (by decide +kernel) ⟨Nat.le_of_ble_eq_true rfl, Nat.le_of_ble_eq_true rfl⟩) (q_pV hK hM.1 rfl hM) rfl hl.1 rfl (Nat.le_of_ble_eq_true rfl) ⟨Nat.zero_le _, Nat.zero_le _⟩ dX6_opens_3 ?_
  refine lv_istore (lv' := [(5, .int (iI (bI (sHas S h day)))), (0, .ref (mad 0)), (1, .int (iI h)), (2, .int (iI day)), (3, .int (iI fr)), (4, .int (iI to))]) hx hb dX6_opens_6 hl (by decide) rfl (fun ls hl => ?_)
  refine q_join (nL := 12) 28 [.int (iI (bI (0 < day ∧ sHas S h (day - 1))))] [(5, .int (iI (bI (sHas S h day)))), (0, .ref (mad 0)), (1, .int (iI h)), (2, .int (iI day)), (3, .int (iI fr)), (4, .int (iI to))] (fun ls hl => ?_) (fun J28 => ?_)
  · refine lv_istore (lv' := [(6, .int (iI (bI (0 < day ∧ sHas S h (day - 1))))), (5, .int (iI (bI (sHas S h day)))), (0, .ref (mad 0)), (1, .int (iI h)), (2, .int (iI day)), (3, .int (iI fr)), (4, .int (iI to))]) hx hb dX6_opens_28 hl (by decide) rfl (fun ls hl => ?_)
    refine lv_aload_n hx hb dX6_opens_30 rfl (lv_at hl 2 rfl) ?_
    refine lv_iload_n hx hb dX6_opens_31 rfl (lv_at hl 3 rfl) ?_
    refine lv_iload_n hx hb dX6_opens_32 rfl (lv_at hl 4 rfl) ?_
    refine q_cVi (As := [.int (iI h), .int (iI day)]) (rest := []) ⟨hx, hb, hml, hown, hts⟩ (c6_condition l g mad S hI h day r_h r_day h0) (cwV 2 hts gX6_opens_X6_condition rfl rfl rfl (by decide +kernel) ⟨Nat.le_of_ble_eq_true rfl, Nat.le_of_ble_eq_true rfl⟩) (q_pV hK hM.1 rfl hM) rfl hl.1 rfl (Nat.le_of_ble_eq_true rfl) ⟨Nat.zero_le _, Nat.zero_le _⟩ dX6_opens_33 ?_
    refine lv_istore (lv' := [(7, .int (iI (sCond S h day))), (6, .int (iI (bI (0 < day ∧ sHas S h (day - 1))))), (5, .int (iI (bI (sHas S h day)))), (0, .ref (mad 0)), (1, .int (iI h)), (2, .int (iI day)), (3, .int (iI fr)), (4, .int (iI to))]) hx hb dX6_opens_36 hl (by decide) rfl (fun ls hl => ?_)
    refine lv_aload_n hx hb dX6_opens_38 rfl (lv_at hl 3 rfl) ?_
    refine lv_aload_n hx hb dX6_opens_39 rfl (lv_at hl 3 rfl) ?_
    refine q_get (v := .ref (mad 17)) (C := RX6) (T := TX6) (N := 32) hx hb hts inX6 hown hK hM.1 rfl 17 (by decide) (hts (.fieldLink RX6 50 "TavernBenchModel" "kind" "[I") (by decide +kernel)) (fun _ h9 => h9) rfl dX6_opens_40 ?_
    refine lv_iload_n hx hb dX6_opens_43 rfl (lv_at hl 4 rfl) ?_
    refine q_mld hx hb hK hM 17 30 ⟨by decide, by decide, by decide⟩ rfl ⟨by omega, by omega⟩ dX6_opens_44 ?_
    refine lv_iload_n hx hb dX6_opens_45 rfl (lv_at hl 5 rfl) ?_
    refine q_cVi (As := [.int (iI (S 17 h)), .int (iI day)]) (rest := []) ⟨hx, hb, hml, hown, hts⟩ (c6_lawOf l g mad S hI (S 17 h) day (hI.R (by decide)) r_day (by omega)) (cwV 2 hts gX6_opens_X6_lawOf rfl rfl rfl (by decide +kernel) ⟨Nat.le_of_ble_eq_true rfl, Nat.le_of_ble_eq_true rfl⟩) (q_pV hK hM.1 rfl hM) rfl hl.1 rfl (Nat.le_of_ble_eq_true rfl) ⟨Nat.zero_le _, Nat.zero_le _⟩ dX6_opens_46 ?_
    refine lv_istore (lv' := [(8, .int (iI (sLawOf S (S 17 h) day))), (7, .int (iI (sCond S h day))), (6, .int (iI (bI (0 < day ∧ sHas S h (day - 1))))), (5, .int (iI (bI (sHas S h day)))), (0, .ref (mad 0)), (1, .int (iI h)), (2, .int (iI day)), (3, .int (iI fr)), (4, .int (iI to))]) hx hb dX6_opens_49 hl (by decide) rfl (fun ls hl => ?_)
    refine q_join (nL := 12) 72 [.int (iI (sBefore S h day))] [(8, .int (iI (sLawOf S (S 17 h) day))), (7, .int (iI (sCond S h day))), (6, .int (iI (bI (0 < day ∧ sHas S h (day - 1))))), (5, .int (iI (bI (sHas S h day)))), (0, .ref (mad 0)), (1, .int (iI h)), (2, .int (iI day)), (3, .int (iI fr)), (4, .int (iI to))] (fun ls hl => ?_) (fun J72 => ?_)
    · refine lv_istore (lv' := [(9, .int (iI (sBefore S h day))), (8, .int (iI (sLawOf S (S 17 h) day))), (7, .int (iI (sCond S h day))), (6, .int (iI (bI (0 < day ∧ sHas S h (day - 1))))), (5, .int (iI (bI (sHas S h day)))), (0, .ref (mad 0)), (1, .int (iI h)), (2, .int (iI day)), (3, .int (iI fr)), (4, .int (iI to))]) hx hb dX6_opens_72 hl (by decide) rfl (fun ls hl => ?_)
      refine lv_iconst (v := iI 0) hx hb dX6_opens_74 rfl ?_
      refine lv_istore (lv' := [(10, .int (iI 0)), (9, .int (iI (sBefore S h day))), (8, .int (iI (sLawOf S (S 17 h) day))), (7, .int (iI (sCond S h day))), (6, .int (iI (bI (0 < day ∧ sHas S h (day - 1))))), (5, .int (iI (bI (sHas S h day)))), (0, .ref (mad 0)), (1, .int (iI h)), (2, .int (iI day)), (3, .int (iI fr)), (4, .int (iI to))]) hx hb dX6_opens_75 hl (by decide) rfl (fun ls hl => ?_)
      refine lv_iload_n hx hb dX6_opens_77 rfl (lv_at hl 9 rfl) ?_
      refine lv_istore (lv' := [(11, .int (iI fr)), (10, .int (iI 0)), (9, .int (iI (sBefore S h day))), (8, .int (iI (sLawOf S (S 17 h) day))), (7, .int (iI (sCond S h day))), (6, .int (iI (bI (0 < day ∧ sHas S h (day - 1))))), (5, .int (iI (bI (sHas S h day)))), (0, .ref (mad 0)), (1, .int (iI h)), (2, .int (iI day)), (3, .int (iI fr)), (4, .int (iI to))]) hx hb dX6_opens_78 hl (by decide) rfl (fun ls hl => ?_)
      have e0 : (sOpens S h day fr 0 : Int) = 0 := by
        rfl
      have e1 : (fr + ((0 : Nat) : Int) : Int) = fr := by
        omega
      refine q_loopN (nL := 12) ((to + 1 - fr).toNat) (fun (i : Nat) => [(0, .ref (mad 0)), (1, .int (iI h)), (2, .int (iI day)), (3, .int (iI fr)), (4, .int (iI to)), (5, .int (iI (bI (sHas S h day)))), (6, .int (iI (bI (0 < day ∧ sHas S h (day - 1))))), (7, .int (iI (sCond S h day))), (8, .int (iI (sLawOf S (S 17 h) day))), (9, .int (iI (sBefore S h day))), (10, .int (iI (sOpens S h day fr i))), (11, .int (iI (fr + ((i : Nat) : Int))))]) (lv_sub hl [7, 8, 9, 10, 11, 6, 5, 4, 3, 2, 1, 0] (by simp only [e0, e1]; rfl)) (fun i hi ihi ls hl => ?_)
      have hl : lv_has ls 12 [(0, .ref (mad 0)), (1, .int (iI h)), (2, .int (iI day)), (3, .int (iI fr)), (4, .int (iI to)), (5, .int (iI (bI (sHas S h day)))), (6, .int (iI (bI (0 < day ∧ sHas S h (day - 1))))), (7, .int (iI (sCond S h day))), (8, .int (iI (sLawOf S (S 17 h) day))), (9, .int (iI (sBefore S h day))), (10, .int (iI (sOpens S h day fr i))), (11, .int (iI (fr + ((i : Nat) : Int))))] := hl
      refine lv_iload hx hb dX6_opens_80 (lv_at hl 11 rfl) ?_
      refine lv_iload hx hb dX6_opens_82 (lv_at hl 4 rfl) ?_
      refine q_icmp_gt (tgt := 122) hx hb dX6_opens_84 (by decide) (by omega) r_to (fun c84 => ?_) (fun c84 => ?_)
      · refine lv_iload hx hb dX6_opens_122 (lv_at hl 10 rfl) ?_
        refine q_reti hx hb hr hlocks dX6_opens_124 ?_
        have e : i = (to + 1 - fr).toNat := by omega
        rw [e]
      · refine lv_iload hx hb dX6_opens_87 (lv_at hl 10 rfl) ?_
        refine lv_aload_n hx hb dX6_opens_89 rfl (lv_at hl 0 rfl) ?_
        refine lv_iload hx hb dX6_opens_90 (lv_at hl 11 rfl) ?_
        refine lv_iload hx hb dX6_opens_92 (lv_at hl 5 rfl) ?_
        refine lv_iload hx hb dX6_opens_94 (lv_at hl 6 rfl) ?_
        refine lv_iload hx hb dX6_opens_96 (lv_at hl 7 rfl) ?_
        refine lv_iload hx hb dX6_opens_98 (lv_at hl 8 rfl) ?_
        refine lv_iload hx hb dX6_opens_100 (lv_at hl 9 rfl) ?_
        refine q_cVi (As := [.int (iI (fr + ((i : Nat) : Int))), .int (iI (bI (sHas S h day))), .int (iI (bI (0 < day ∧ sHas S h (day - 1)))), .int (iI (sCond S h day)), .int (iI (sLawOf S (S 17 h) day)), .int (iI (sBefore S h day))]) (rest := [.int (iI (sOpens S h day fr i))]) ⟨hx, hb, hml, hown, hts⟩ (c6_may l g mad S hI (fr + ((i : Nat) : Int)) (sCond S h day) (sLawOf S (S 17 h) day) (sBefore S h day) (by omega) (by omega) (by omega) (by omega) (sHas S h day) (0 < day ∧ sHas S h (day - 1)) (by omega) (by omega) (by omega)) (cwV 6 hts gX6_opens_X6_may rfl rfl rfl (by decide +kernel) ⟨Nat.le_of_ble_eq_true rfl, Nat.le_of_ble_eq_true rfl⟩) (q_pV hK hM.1 rfl hM) rfl hl.1 rfl (Nat.le_of_ble_eq_true rfl) ⟨Nat.zero_le _, Nat.zero_le _⟩ dX6_opens_102 ?_
        refine q_ifb_eq (tgt := 112) hx hb dX6_opens_105 (by decide) (fun c105 => ?_) (fun c105 => ?_)
        · refine lv_iconst (v := iI 0) hx hb dX6_opens_112 rfl ?_
          refine q_iadd hx hb dX6_opens_113 ?_
          refine lv_istore (lv' := [(10, .int (iI ((sOpens S h day fr i) + 0))), (0, .ref (mad 0)), (1, .int (iI h)), (2, .int (iI day)), (3, .int (iI fr)), (4, .int (iI to)), (5, .int (iI (bI (sHas S h day)))), (6, .int (iI (bI (0 < day ∧ sHas S h (day - 1))))), (7, .int (iI (sCond S h day))), (8, .int (iI (sLawOf S (S 17 h) day))), (9, .int (iI (sBefore S h day))), (11, .int (iI (fr + ((i : Nat) : Int))))]) hx hb dX6_opens_114 hl (by decide) rfl (fun ls hl => ?_)
          refine lv_iinc (v := iI ((fr + ((i : Nat) : Int)) + 1)) (lv' := [(11, .int (iI ((fr + ((i : Nat) : Int)) + 1))), (10, .int (iI ((sOpens S h day fr i) + 0))), (0, .ref (mad 0)), (1, .int (iI h)), (2, .int (iI day)), (3, .int (iI fr)), (4, .int (iI to)), (5, .int (iI (bI (sHas S h day)))), (6, .int (iI (bI (0 < day ∧ sHas S h (day - 1))))), (7, .int (iI (sCond S h day))), (8, .int (iI (sLawOf S (S 17 h) day))), (9, .int (iI (sBefore S h day)))]) hx hb dX6_opens_116 hl (k := 11) rfl (iI_add _ _) (by decide) rfl (fun ls hl => ?_)
          refine lv_goto (tgt := 80) hx hb dX6_opens_119 (by decide) ?_
          have e0 : (sOpens S h day fr (i + 1) : Int) = (sOpens S h day fr i) + 0 := by
            first | exact cnt_1 (by assumption) | exact cnt_0 (by assumption)
          have e1 : (fr + (((i + 1) : Nat) : Int) : Int) = (fr + ((i : Nat) : Int)) + 1 := by
            omega
          exact ihi (by omega) ls (lv_sub hl [2, 3, 4, 5, 6, 7, 8, 9, 10, 11, 1, 0] (by simp only [e0, e1]; rfl))
        · refine lv_iconst (v := iI 1) hx hb dX6_opens_108 rfl ?_
          refine lv_goto (tgt := 113) hx hb dX6_opens_109 (by decide) ?_
          refine q_iadd hx hb dX6_opens_113 ?_
          refine lv_istore (lv' := [(10, .int (iI ((sOpens S h day fr i) + 1))), (0, .ref (mad 0)), (1, .int (iI h)), (2, .int (iI day)), (3, .int (iI fr)), (4, .int (iI to)), (5, .int (iI (bI (sHas S h day)))), (6, .int (iI (bI (0 < day ∧ sHas S h (day - 1))))), (7, .int (iI (sCond S h day))), (8, .int (iI (sLawOf S (S 17 h) day))), (9, .int (iI (sBefore S h day))), (11, .int (iI (fr + ((i : Nat) : Int))))]) hx hb dX6_opens_114 hl (by decide) rfl (fun ls hl => ?_)
          refine lv_iinc (v := iI ((fr + ((i : Nat) : Int)) + 1)) (lv' := [(11, .int (iI ((fr + ((i : Nat) : Int)) + 1))), (10, .int (iI ((sOpens S h day fr i) + 1))), (0, .ref (mad 0)), (1, .int (iI h)), (2, .int (iI day)), (3, .int (iI fr)), (4, .int (iI to)), (5, .int (iI (bI (sHas S h day)))), (6, .int (iI (bI (0 < day ∧ sHas S h (day - 1))))), (7, .int (iI (sCond S h day))), (8, .int (iI (sLawOf S (S 17 h) day))), (9, .int (iI (sBefore S h day)))]) hx hb dX6_opens_116 hl (k := 11) rfl (iI_add _ _) (by decide) rfl (fun ls hl => ?_)
          refine lv_goto (tgt := 80) hx hb dX6_opens_119 (by decide) ?_
          have e0 : (sOpens S h day fr (i + 1) : Int) = (sOpens S h day fr i) + 1 := by
            first | exact cnt_1 (by assumption) | exact cnt_0 (by assumption)
          have e1 : (fr + (((i + 1) : Nat) : Int) : Int) = (fr + ((i : Nat) : Int)) + 1 := by
            omega
          exact ihi (by omega) ls (lv_sub hl [2, 3, 4, 5, 6, 7, 8, 9, 10, 11, 1, 0] (by simp only [e0, e1]; rfl))
    · refine lv_iload_n hx hb dX6_opens_51 rfl (lv_at hl 6 rfl) ?_
      refine q_if_le (tgt := 71) hx hb dX6_opens_52 (by decide) r_day (fun c52 => ?_) (fun c52 => ?_)
      · refine lv_iconst (v := iI (-1)) hx hb dX6_opens_71 rfl ?_
        refine q_top (z := sBefore S h day) (by
          unfold sBefore
          first | rw [cI_t (by omega)] | rw [cI_f (by omega)]) ?_
        exact J72 ls (lv_sub hl [0, 1, 2, 3, 4, 5, 6, 7, 8] rfl)
      · refine lv_aload_n hx hb dX6_opens_55 rfl (lv_at hl 4 rfl) ?_
        refine lv_aload_n hx hb dX6_opens_56 rfl (lv_at hl 4 rfl) ?_
        refine q_get (v := .ref (mad 17)) (C := RX6) (T := TX6) (N := 32) hx hb hts inX6 hown hK hM.1 rfl 17 (by decide) (hts (.fieldLink RX6 50 "TavernBenchModel" "kind" "[I") (by decide +kernel)) (fun _ h9 => h9) rfl dX6_opens_57 ?_
        refine lv_iload_n hx hb dX6_opens_60 rfl (lv_at hl 5 rfl) ?_
        refine q_mld hx hb hK hM 17 30 ⟨by decide, by decide, by decide⟩ rfl ⟨by omega, by omega⟩ dX6_opens_61 ?_
        refine lv_iload_n hx hb dX6_opens_62 rfl (lv_at hl 6 rfl) ?_
        refine lv_iconst (v := iI 1) hx hb dX6_opens_63 rfl ?_
        refine q_isub hx hb dX6_opens_64 ?_
        refine q_cVi (As := [.int (iI (S 17 h)), .int (iI (day - 1))]) (rest := []) ⟨hx, hb, hml, hown, hts⟩ (c6_lawOf l g mad S hI (S 17 h) (day - 1) (hI.R (by decide)) (by omega) (by omega)) (cwV 2 hts gX6_opens_X6_lawOf rfl rfl rfl (by decide +kernel) ⟨Nat.le_of_ble_eq_true rfl, Nat.le_of_ble_eq_true rfl⟩) (q_pV hK hM.1 rfl hM) rfl hl.1 rfl (Nat.le_of_ble_eq_true rfl) ⟨Nat.zero_le _, Nat.zero_le _⟩ dX6_opens_65 ?_
        refine lv_goto (tgt := 72) hx hb dX6_opens_68 (by decide) ?_
        refine q_top (z := sBefore S h day) (by
          unfold sBefore
          first | rw [cI_t (by omega)] | rw [cI_f (by omega)]) ?_
        exact J72 ls (lv_sub hl [0, 1, 2, 3, 4, 5, 6, 7, 8] rfl)
  · refine lv_iload_n hx hb dX6_opens_8 rfl (lv_at hl 3 rfl) ?_
    refine q_if_le (tgt := 27) hx hb dX6_opens_9 (by decide) r_day (fun c9 => ?_) (fun c9 => ?_)
    · refine lv_iconst (v := iI 0) hx hb dX6_opens_27 rfl ?_
      refine q_top (z := bI (0 < day ∧ sHas S h (day - 1))) (by
        first | exact bI_e1 ⟨by assumption, by assumption⟩ | exact bI_e0 (fun z => absurd z.2 (by assumption)) | exact bI_e0 (fun z => by have := z.1; omega)) ?_
      exact J28 ls (lv_sub hl [0, 1, 2, 3, 4, 5] rfl)
    · refine lv_aload_n hx hb dX6_opens_12 rfl (lv_at hl 1 rfl) ?_
      refine lv_iload_n hx hb dX6_opens_13 rfl (lv_at hl 2 rfl) ?_
      refine lv_iload_n hx hb dX6_opens_14 rfl (lv_at hl 3 rfl) ?_
      refine lv_iconst (v := iI 1) hx hb dX6_opens_15 rfl ?_
      refine q_isub hx hb dX6_opens_16 ?_
      refine q_cVi (As := [.int (iI h), .int (iI (day - 1))]) (rest := []) ⟨hx, hb, hml, hown, hts⟩ (c6_has l g mad S hI h (day - 1) r_h (by omega) h0) (cwV 2 hts gX6_opens_X6_has rfl rfl rfl (by decide +kernel) ⟨Nat.le_of_ble_eq_true rfl, Nat.le_of_ble_eq_true rfl⟩) (q_pV hK hM.1 rfl hM) rfl hl.1 rfl (Nat.le_of_ble_eq_true rfl) ⟨Nat.zero_le _, Nat.zero_le _⟩ dX6_opens_17 ?_
      refine q_ifb_eq (tgt := 27) hx hb dX6_opens_20 (by decide) (fun c20 => ?_) (fun c20 => ?_)
      · refine lv_iconst (v := iI 0) hx hb dX6_opens_27 rfl ?_
        refine q_top (z := bI (0 < day ∧ sHas S h (day - 1))) (by
          first | exact bI_e1 ⟨by assumption, by assumption⟩ | exact bI_e0 (fun z => absurd z.2 (by assumption)) | exact bI_e0 (fun z => by have := z.1; omega)) ?_
        exact J28 ls (lv_sub hl [0, 1, 2, 3, 4, 5] rfl)
      · refine lv_iconst (v := iI 1) hx hb dX6_opens_23 rfl ?_
        refine lv_goto (tgt := 28) hx hb dX6_opens_24 (by decide) ?_
        refine q_top (z := bI (0 < day ∧ sHas S h (day - 1))) (by
          first | exact bI_e1 ⟨by assumption, by assumption⟩ | exact bI_e0 (fun z => absurd z.2 (by assumption)) | exact bI_e0 (fun z => by have := z.1; omega)) ?_
        exact J28 ls (lv_sub hl [0, 1, 2, 3, 4, 5] rfl)

noncomputable def aOpen (S : St) (h day minute : Int) : Int := cI ((0 ≤ h ∧ h < S 14 0) ∧ isD day ∧ 0 ≤ minute ∧ minute ≤ 1439) (sOpens S h day minute 1) (-1)
noncomputable def aMinutes (S : St) (h day : Int) : Int := cI ((0 ≤ h ∧ h < S 14 0) ∧ isD day) (sOpens S h day 0 1440) (-1)

set_option maxHeartbeats 4000000 in
set_option maxRecDepth 100000 in
theorem c6_open (l : Launch) (g : GG) (mad : Nat → Nat) (S : St) (hI : Inv S) (h : Int) (day : Int) (minute : Int) (r_h : R32 h) (r_day : R32 day) (r_minute : R32 minute)  : MetI l yX6_open wsX6_open ({ frames := 5, cells := 0, slots := 0, locals := 130 }) g [.ref (mad 0), .int (iI h), .int (iI day), .int (iI minute)] (fun H => RepM g mad S H) (aOpen S h day minute) := by
  refine Met.ofW (cc := cX6_open) (maxL := 4) (ret := (some .int)) (by decide) rfl ?_
  intro p e s m args below meth c s₁ B hml hv
  obtain ⟨rfl, hM, hK⟩ := hv
  have hx := B.exec
  have hb := B.bytes
  have hr := B.returns
  have hts := atoms_spec (ws := wsX6_open) B.pre
  have hown : s.vm.findClass RX6 = some m.cls := findClass_of_methodNamed B.named
  have hlocks := B.notSynchronized
  have hl := lv_entry ([.ref (mad 0), .int (iI h), .int (iI day), .int (iI minute)]) (n := 4) (Nat.le_of_ble_eq_true rfl)
  rw [lg_entry_eq]
  generalize (lg_sl ([.ref (mad 0), .int (iI h), .int (iI day), .int (iI minute)]) ++ List.replicate (4 - (lg_sl ([.ref (mad 0), .int (iI h), .int (iI day), .int (iI minute)])).length) Slot.unset).toArray = ls at hl ⊢
  have hl : lv_has ls 4 [(0, .ref (mad 0)), (1, .int (iI h)), (2, .int (iI day)), (3, .int (iI minute))] := hl
  have hN := hI.nums
  refine lv_aload_n hx hb dX6_open_0 rfl (lv_at hl 0 rfl) ?_
  refine lv_iload_n hx hb dX6_open_1 rfl (lv_at hl 1 rfl) ?_
  refine q_cVi (As := [.int (iI h)]) (rest := []) ⟨hx, hb, hml, hown, hts⟩ (c6_isHouse l g mad S hI h r_h ) (cwV 1 hts gX6_open_X6_isHouse rfl rfl rfl (by decide +kernel) ⟨Nat.le_of_ble_eq_true rfl, Nat.le_of_ble_eq_true rfl⟩) (q_pV hK hM.1 rfl hM) rfl hl.1 rfl (Nat.le_of_ble_eq_true rfl) ⟨Nat.zero_le _, Nat.zero_le _⟩ dX6_open_2 ?_
  refine q_ifb_eq (tgt := 37) hx hb dX6_open_5 (by decide) (fun c5 => ?_) (fun c5 => ?_)
  · refine lv_iconst (v := iI (-1)) hx hb dX6_open_37 rfl ?_
    refine q_reti hx hb hr hlocks dX6_open_38 ?_
    show _ = aOpen S h day minute
    unfold aOpen
    first | (rw [cI_t (by omega)]; congr 1; omega) | rw [cI_f (by omega)]
  · refine lv_iload_n hx hb dX6_open_8 rfl (lv_at hl 2 rfl) ?_
    refine q_cSi (As := [.int (iI day)]) (rest := []) ⟨hx, hb, hml, hown, hts⟩ (c6_isDay l g day r_day ) (va_cwS 1 hts gX6_open_X6_isDay rfl rfl rfl (by decide +kernel) ⟨Nat.le_of_ble_eq_true rfl, Nat.le_of_ble_eq_true rfl⟩) (q_pS hK trivial) rfl hl.1 rfl (Nat.le_of_ble_eq_true rfl) ⟨Nat.zero_le _, Nat.zero_le _⟩ dX6_open_9 ?_
    refine q_ifb_eq (tgt := 37) hx hb dX6_open_12 (by decide) (fun c12 => ?_) (fun c12 => ?_)
    · refine lv_iconst (v := iI (-1)) hx hb dX6_open_37 rfl ?_
      refine q_reti hx hb hr hlocks dX6_open_38 ?_
      show _ = aOpen S h day minute
      unfold aOpen
      first | (rw [cI_t (by omega)]; congr 1; omega) | rw [cI_f (by omega)]
    · refine lv_iload_n hx hb dX6_open_15 rfl (lv_at hl 3 rfl) ?_
      refine lv_iconst (v := iI 0) hx hb dX6_open_16 rfl ?_
      refine q_sipush hx hb 1439 dX6_open_17 (by decide +kernel) ?_
      refine q_cSi (As := [.int (iI minute), .int (iI 0), .int (iI 1439)]) (rest := []) ⟨hx, hb, hml, hown, hts⟩ (c6_in l g minute 0 1439 r_minute (by decide) (by decide) ) (va_cwS 3 hts gX6_open_X6_in rfl rfl rfl (by decide +kernel) ⟨Nat.le_of_ble_eq_true rfl, Nat.le_of_ble_eq_true rfl⟩) (q_pS hK trivial) rfl hl.1 rfl (Nat.le_of_ble_eq_true rfl) ⟨Nat.zero_le _, Nat.zero_le _⟩ dX6_open_20 ?_
      refine q_ifb_eq (tgt := 37) hx hb dX6_open_23 (by decide) (fun c23 => ?_) (fun c23 => ?_)
      · refine lv_iconst (v := iI (-1)) hx hb dX6_open_37 rfl ?_
        refine q_reti hx hb hr hlocks dX6_open_38 ?_
        show _ = aOpen S h day minute
        unfold aOpen
        first | (rw [cI_t (by omega)]; congr 1; omega) | rw [cI_f (by omega)]
      · refine lv_aload_n hx hb dX6_open_26 rfl (lv_at hl 0 rfl) ?_
        refine lv_iload_n hx hb dX6_open_27 rfl (lv_at hl 1 rfl) ?_
        refine lv_iload_n hx hb dX6_open_28 rfl (lv_at hl 2 rfl) ?_
        refine lv_iload_n hx hb dX6_open_29 rfl (lv_at hl 3 rfl) ?_
        refine lv_iload_n hx hb dX6_open_30 rfl (lv_at hl 3 rfl) ?_
        refine q_cVi (As := [.int (iI h), .int (iI day), .int (iI minute), .int (iI minute)]) (rest := []) ⟨hx, hb, hml, hown, hts⟩ (c6_opens l g mad S hI h day minute minute r_h r_day r_minute r_minute (by omega) (by omega) (by omega)) (cwV 4 hts gX6_open_X6_opens rfl rfl rfl (by decide +kernel) ⟨Nat.le_of_ble_eq_true rfl, Nat.le_of_ble_eq_true rfl⟩) (q_pV hK hM.1 rfl hM) rfl hl.1 rfl (Nat.le_of_ble_eq_true rfl) ⟨Nat.zero_le _, Nat.zero_le _⟩ dX6_open_31 ?_
        refine lv_goto (tgt := 38) hx hb dX6_open_34 (by decide) ?_
        refine q_reti hx hb hr hlocks dX6_open_38 ?_
        show _ = aOpen S h day minute
        unfold aOpen
        first | (rw [cI_t (by omega)]; congr 1; omega) | rw [cI_f (by omega)]

set_option maxHeartbeats 4000000 in
set_option maxRecDepth 100000 in
theorem c6_minutes (l : Launch) (g : GG) (mad : Nat → Nat) (S : St) (hI : Inv S) (h : Int) (day : Int) (r_h : R32 h) (r_day : R32 day)  : MetI l yX6_minutes wsX6_minutes ({ frames := 5, cells := 0, slots := 0, locals := 130 }) g [.ref (mad 0), .int (iI h), .int (iI day)] (fun H => RepM g mad S H) (aMinutes S h day) := by
  refine Met.ofW (cc := cX6_minutes) (maxL := 3) (ret := (some .int)) (by decide) rfl ?_
  intro p e s m args below meth c s₁ B hml hv
  obtain ⟨rfl, hM, hK⟩ := hv
  have hx := B.exec
  have hb := B.bytes
  have hr := B.returns
  have hts := atoms_spec (ws := wsX6_minutes) B.pre
  have hown : s.vm.findClass RX6 = some m.cls := findClass_of_methodNamed B.named
  have hlocks := B.notSynchronized
  have hl := lv_entry ([.ref (mad 0), .int (iI h), .int (iI day)]) (n := 3) (Nat.le_of_ble_eq_true rfl)
  rw [lg_entry_eq]
  generalize (lg_sl ([.ref (mad 0), .int (iI h), .int (iI day)]) ++ List.replicate (3 - (lg_sl ([.ref (mad 0), .int (iI h), .int (iI day)])).length) Slot.unset).toArray = ls at hl ⊢
  have hl : lv_has ls 3 [(0, .ref (mad 0)), (1, .int (iI h)), (2, .int (iI day))] := hl
  have hN := hI.nums
  refine lv_aload_n hx hb dX6_minutes_0 rfl (lv_at hl 0 rfl) ?_
  refine lv_iload_n hx hb dX6_minutes_1 rfl (lv_at hl 1 rfl) ?_
  refine q_cVi (As := [.int (iI h)]) (rest := []) ⟨hx, hb, hml, hown, hts⟩ (c6_isHouse l g mad S hI h r_h ) (cwV 1 hts gX6_minutes_X6_isHouse rfl rfl rfl (by decide +kernel) ⟨Nat.le_of_ble_eq_true rfl, Nat.le_of_ble_eq_true rfl⟩) (q_pV hK hM.1 rfl hM) rfl hl.1 rfl (Nat.le_of_ble_eq_true rfl) ⟨Nat.zero_le _, Nat.zero_le _⟩ dX6_minutes_2 ?_
  refine q_ifb_eq (tgt := 28) hx hb dX6_minutes_5 (by decide) (fun c5 => ?_) (fun c5 => ?_)
  · refine lv_iconst (v := iI (-1)) hx hb dX6_minutes_28 rfl ?_
    refine q_reti hx hb hr hlocks dX6_minutes_29 ?_
    show _ = aMinutes S h day
    unfold aMinutes
    first | (rw [cI_t (by omega)]; rfl) | rw [cI_f (by omega)]
  · refine lv_iload_n hx hb dX6_minutes_8 rfl (lv_at hl 2 rfl) ?_
    refine q_cSi (As := [.int (iI day)]) (rest := []) ⟨hx, hb, hml, hown, hts⟩ (c6_isDay l g day r_day ) (va_cwS 1 hts gX6_minutes_X6_isDay rfl rfl rfl (by decide +kernel) ⟨Nat.le_of_ble_eq_true rfl, Nat.le_of_ble_eq_true rfl⟩) (q_pS hK trivial) rfl hl.1 rfl (Nat.le_of_ble_eq_true rfl) ⟨Nat.zero_le _, Nat.zero_le _⟩ dX6_minutes_9 ?_
    refine q_ifb_eq (tgt := 28) hx hb dX6_minutes_12 (by decide) (fun c12 => ?_) (fun c12 => ?_)
    · refine lv_iconst (v := iI (-1)) hx hb dX6_minutes_28 rfl ?_
      refine q_reti hx hb hr hlocks dX6_minutes_29 ?_
      show _ = aMinutes S h day
      unfold aMinutes
      first | (rw [cI_t (by omega)]; rfl) | rw [cI_f (by omega)]
    · refine lv_aload_n hx hb dX6_minutes_15 rfl (lv_at hl 0 rfl) ?_
      refine lv_iload_n hx hb dX6_minutes_16 rfl (lv_at hl 1 rfl) ?_
      refine lv_iload_n hx hb dX6_minutes_17 rfl (lv_at hl 2 rfl) ?_
      refine lv_iconst (v := iI 0) hx hb dX6_minutes_18 rfl ?_
      refine q_sipush hx hb 1439 dX6_minutes_19 (by decide +kernel) ?_
      refine q_cVi (As := [.int (iI h), .int (iI day), .int (iI 0), .int (iI 1439)]) (rest := []) ⟨hx, hb, hml, hown, hts⟩ (c6_opens l g mad S hI h day 0 1439 r_h r_day (by decide) (by decide) (by omega) (by omega) (by omega)) (cwV 4 hts gX6_minutes_X6_opens rfl rfl rfl (by decide +kernel) ⟨Nat.le_of_ble_eq_true rfl, Nat.le_of_ble_eq_true rfl⟩) (q_pV hK hM.1 rfl hM) rfl hl.1 rfl (Nat.le_of_ble_eq_true rfl) ⟨Nat.zero_le _, Nat.zero_le _⟩ dX6_minutes_22 ?_
      refine lv_goto (tgt := 29) hx hb dX6_minutes_25 (by decide) ?_
      refine q_reti hx hb hr hlocks dX6_minutes_29 ?_
      show _ = aMinutes S h day
      unfold aMinutes
      first | (rw [cI_t (by omega)]; rfl) | rw [cI_f (by omega)]
