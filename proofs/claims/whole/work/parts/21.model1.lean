set_option maxHeartbeats 4000000 in
set_option maxRecDepth 100000 in
theorem c6_in (l : Launch) (g : GG) (v : Int) (lo : Int) (hi : Int) (r_v : R32 v) (r_lo : R32 lo) (r_hi : R32 hi)  : MetI l yX6_in wsX6_in ({ frames := 0, cells := 0, slots := 0, locals := 0 }) g [.int (iI v), .int (iI lo), .int (iI hi)] (fun _ => True) (bI (lo ≤ v ∧ v ≤ hi)) := by
  refine Met.ofW (cc := cX6_in) (maxL := 3) (ret := (some .boolean)) (by decide) rfl ?_
  intro p e s m args below meth c s₁ B hml hv
  obtain ⟨rfl, _, hK⟩ := hv
  have hx := B.exec
  have hb := B.bytes
  have hr := B.returns
  have hts := atoms_spec (ws := wsX6_in) B.pre
  have hown : s.vm.findClass RX6 = some m.cls := findClass_of_methodNamed B.named
  have hlocks := B.notSynchronized
  have hl := lv_entry ([.int (iI v), .int (iI lo), .int (iI hi)]) (n := 3) (Nat.le_of_ble_eq_true rfl)
  rw [lg_entry_eq]
  generalize (lg_sl ([.int (iI v), .int (iI lo), .int (iI hi)]) ++ List.replicate (3 - (lg_sl ([.int (iI v), .int (iI lo), .int (iI hi)])).length) Slot.unset).toArray = ls at hl ⊢
  have hl : lv_has ls 3 [(0, .int (iI v)), (1, .int (iI lo)), (2, .int (iI hi))] := hl
  refine lv_iload_n hx hb dX6_in_0 rfl (lv_at hl 0 rfl) ?_
  refine lv_iload_n hx hb dX6_in_1 rfl (lv_at hl 1 rfl) ?_
  refine q_icmp_lt (tgt := 14) hx hb dX6_in_2 (by decide) r_v r_lo (fun c2 => ?_) (fun c2 => ?_)
  · refine lv_iconst (v := iI 0) hx hb dX6_in_14 rfl ?_
    refine q_retz hx hb hr hlocks (Or.inl rfl) dX6_in_15 ?_
    first | rfl | exact bI_e1 (by omega) | exact bI_e0 (by omega) | omega
  · refine lv_iload_n hx hb dX6_in_5 rfl (lv_at hl 0 rfl) ?_
    refine lv_iload_n hx hb dX6_in_6 rfl (lv_at hl 2 rfl) ?_
    refine q_icmp_gt (tgt := 14) hx hb dX6_in_7 (by decide) r_v r_hi (fun c7 => ?_) (fun c7 => ?_)
    · refine lv_iconst (v := iI 0) hx hb dX6_in_14 rfl ?_
      refine q_retz hx hb hr hlocks (Or.inl rfl) dX6_in_15 ?_
      first | rfl | exact bI_e1 (by omega) | exact bI_e0 (by omega) | omega
    · refine lv_iconst (v := iI 1) hx hb dX6_in_10 rfl ?_
      refine lv_goto (tgt := 15) hx hb dX6_in_11 (by decide) ?_
      refine q_retz hx hb hr hlocks (Or.inr rfl) dX6_in_15 ?_
      first | rfl | exact bI_e1 (by omega) | exact bI_e0 (by omega) | omega

set_option maxHeartbeats 4000000 in
set_option maxRecDepth 100000 in
theorem c6_isDay (l : Launch) (g : GG) (d : Int) (r_d : R32 d)  : MetI l yX6_isDay wsX6_isDay ({ frames := 1, cells := 0, slots := 0, locals := 22 }) g [.int (iI d)] (fun _ => True) (bI (isD d)) := by
  refine Met.ofW (cc := cX6_isDay) (maxL := 1) (ret := (some .boolean)) (by decide) rfl ?_
  intro p e s m args below meth c s₁ B hml hv
  obtain ⟨rfl, _, hK⟩ := hv
  have hx := B.exec
  have hb := B.bytes
  have hr := B.returns
  have hts := atoms_spec (ws := wsX6_isDay) B.pre
  have hown : s.vm.findClass RX6 = some m.cls := findClass_of_methodNamed B.named
  have hlocks := B.notSynchronized
  have hl := lv_entry ([.int (iI d)]) (n := 1) (Nat.le_of_ble_eq_true rfl)
  rw [lg_entry_eq]
  generalize (lg_sl ([.int (iI d)]) ++ List.replicate (1 - (lg_sl ([.int (iI d)])).length) Slot.unset).toArray = ls at hl ⊢
  have hl : lv_has ls 1 [(0, .int (iI d))] := hl
  refine lv_iload_n hx hb dX6_isDay_0 rfl (lv_at hl 0 rfl) ?_
  refine lv_iconst (v := iI 0) hx hb dX6_isDay_1 rfl ?_
  refine q_sipush hx hb 3999 dX6_isDay_2 (by decide +kernel) ?_
  refine q_cSi (As := [.int (iI d), .int (iI 0), .int (iI 3999)]) (rest := []) ⟨hx, hb, hml, hown, hts⟩ (c6_in l g d 0 3999 r_d (by decide) (by decide) ) (va_cwS 3 hts gX6_isDay_X6_in rfl rfl rfl (by decide +kernel) ⟨Nat.le_of_ble_eq_true rfl, Nat.le_of_ble_eq_true rfl⟩) (q_pS hK trivial) rfl hl.1 rfl (Nat.le_of_ble_eq_true rfl) ⟨Nat.zero_le _, Nat.zero_le _⟩ dX6_isDay_5 ?_
  refine q_retz hx hb hr hlocks (bI_01 _) dX6_isDay_8 ?_
  first | rfl | exact bI_e1 (by omega) | exact bI_e0 (by omega) | omega

set_option maxHeartbeats 4000000 in
set_option maxRecDepth 100000 in
theorem c6_isPlace (l : Launch) (g : GG) (x : Int) (y : Int) (r_x : R32 x) (r_y : R32 y)  : MetI l yX6_isPlace wsX6_isPlace ({ frames := 1, cells := 0, slots := 0, locals := 22 }) g [.int (iI x), .int (iI y)] (fun _ => True) (bI (isP x y)) := by
  refine Met.ofW (cc := cX6_isPlace) (maxL := 2) (ret := (some .boolean)) (by decide) rfl ?_
  intro p e s m args below meth c s₁ B hml hv
  obtain ⟨rfl, _, hK⟩ := hv
  have hx := B.exec
  have hb := B.bytes
  have hr := B.returns
  have hts := atoms_spec (ws := wsX6_isPlace) B.pre
  have hown : s.vm.findClass RX6 = some m.cls := findClass_of_methodNamed B.named
  have hlocks := B.notSynchronized
  have hl := lv_entry ([.int (iI x), .int (iI y)]) (n := 2) (Nat.le_of_ble_eq_true rfl)
  rw [lg_entry_eq]
  generalize (lg_sl ([.int (iI x), .int (iI y)]) ++ List.replicate (2 - (lg_sl ([.int (iI x), .int (iI y)])).length) Slot.unset).toArray = ls at hl ⊢
  have hl : lv_has ls 2 [(0, .int (iI x)), (1, .int (iI y))] := hl
  refine lv_iload_n hx hb dX6_isPlace_0 rfl (lv_at hl 0 rfl) ?_
  refine lv_iconst (v := iI 0) hx hb dX6_isPlace_1 rfl ?_
  refine q_sipush hx hb 999 dX6_isPlace_2 (by decide +kernel) ?_
  refine q_cSi (As := [.int (iI x), .int (iI 0), .int (iI 999)]) (rest := []) ⟨hx, hb, hml, hown, hts⟩ (c6_in l g x 0 999 r_x (by decide) (by decide) ) (va_cwS 3 hts gX6_isPlace_X6_in rfl rfl rfl (by decide +kernel) ⟨Nat.le_of_ble_eq_true rfl, Nat.le_of_ble_eq_true rfl⟩) (q_pS hK trivial) rfl hl.1 rfl (Nat.le_of_ble_eq_true rfl) ⟨Nat.zero_le _, Nat.zero_le _⟩ dX6_isPlace_5 ?_
  refine q_ifb_eq (tgt := 26) hx hb dX6_isPlace_8 (by decide) (fun c8 => ?_) (fun c8 => ?_)
  · refine lv_iconst (v := iI 0) hx hb dX6_isPlace_26 rfl ?_
    refine q_retz hx hb hr hlocks (Or.inl rfl) dX6_isPlace_27 ?_
    first | exact bI_e1 (by omega) | exact bI_e0 (by omega)
  · refine lv_iload_n hx hb dX6_isPlace_11 rfl (lv_at hl 1 rfl) ?_
    refine lv_iconst (v := iI 0) hx hb dX6_isPlace_12 rfl ?_
    refine q_sipush hx hb 999 dX6_isPlace_13 (by decide +kernel) ?_
    refine q_cSi (As := [.int (iI y), .int (iI 0), .int (iI 999)]) (rest := []) ⟨hx, hb, hml, hown, hts⟩ (c6_in l g y 0 999 r_y (by decide) (by decide) ) (va_cwS 3 hts gX6_isPlace_X6_in rfl rfl rfl (by decide +kernel) ⟨Nat.le_of_ble_eq_true rfl, Nat.le_of_ble_eq_true rfl⟩) (q_pS hK trivial) rfl hl.1 rfl (Nat.le_of_ble_eq_true rfl) ⟨Nat.zero_le _, Nat.zero_le _⟩ dX6_isPlace_16 ?_
    refine q_ifb_eq (tgt := 26) hx hb dX6_isPlace_19 (by decide) (fun c19 => ?_) (fun c19 => ?_)
    · refine lv_iconst (v := iI 0) hx hb dX6_isPlace_26 rfl ?_
      refine q_retz hx hb hr hlocks (Or.inl rfl) dX6_isPlace_27 ?_
      first | exact bI_e1 (by omega) | exact bI_e0 (by omega)
    · refine lv_iconst (v := iI 1) hx hb dX6_isPlace_22 rfl ?_
      refine lv_goto (tgt := 27) hx hb dX6_isPlace_23 (by decide) ?_
      refine q_retz hx hb hr hlocks (Or.inr rfl) dX6_isPlace_27 ?_
      first | exact bI_e1 (by omega) | exact bI_e0 (by omega)

set_option maxHeartbeats 4000000 in
set_option maxRecDepth 100000 in
theorem c6_off (l : Launch) (g : GG) (x : Int) (y : Int) (x2 : Int) (y2 : Int) (r_x : R32 x) (r_y : R32 y) (r_x2 : R32 x2) (r_y2 : R32 y2)  : MetI l yX6_off wsX6_off ({ frames := 0, cells := 0, slots := 0, locals := 0 }) g [.int (iI x), .int (iI y), .int (iI x2), .int (iI y2)] (fun _ => True) (off2 x y x2 y2) := by
  refine Met.ofW (cc := cX6_off) (maxL := 4) (ret := (some .int)) (by decide) rfl ?_
  intro p e s m args below meth c s₁ B hml hv
  obtain ⟨rfl, _, hK⟩ := hv
  have hx := B.exec
  have hb := B.bytes
  have hr := B.returns
  have hts := atoms_spec (ws := wsX6_off) B.pre
  have hown : s.vm.findClass RX6 = some m.cls := findClass_of_methodNamed B.named
  have hlocks := B.notSynchronized
  have hl := lv_entry ([.int (iI x), .int (iI y), .int (iI x2), .int (iI y2)]) (n := 4) (Nat.le_of_ble_eq_true rfl)
  rw [lg_entry_eq]
  generalize (lg_sl ([.int (iI x), .int (iI y), .int (iI x2), .int (iI y2)]) ++ List.replicate (4 - (lg_sl ([.int (iI x), .int (iI y), .int (iI x2), .int (iI y2)])).length) Slot.unset).toArray = ls at hl ⊢
  have hl : lv_has ls 4 [(0, .int (iI x)), (1, .int (iI y)), (2, .int (iI x2)), (3, .int (iI y2))] := hl
  refine lv_iload_n hx hb dX6_off_0 rfl (lv_at hl 0 rfl) ?_
  refine lv_iload_n hx hb dX6_off_1 rfl (lv_at hl 2 rfl) ?_
  refine q_isub hx hb dX6_off_2 ?_
  refine lv_iload_n hx hb dX6_off_3 rfl (lv_at hl 0 rfl) ?_
  refine lv_iload_n hx hb dX6_off_4 rfl (lv_at hl 2 rfl) ?_
  refine q_isub hx hb dX6_off_5 ?_
  refine q_imul hx hb dX6_off_6 ?_
  refine lv_iload_n hx hb dX6_off_7 rfl (lv_at hl 1 rfl) ?_
  refine lv_iload_n hx hb dX6_off_8 rfl (lv_at hl 3 rfl) ?_
  refine q_isub hx hb dX6_off_9 ?_
  refine lv_iload_n hx hb dX6_off_10 rfl (lv_at hl 1 rfl) ?_
  refine lv_iload_n hx hb dX6_off_11 rfl (lv_at hl 3 rfl) ?_
  refine q_isub hx hb dX6_off_12 ?_
  refine q_imul hx hb dX6_off_13 ?_
  refine q_iadd hx hb dX6_off_14 ?_
  refine q_reti hx hb hr hlocks dX6_off_15 ?_
  first | rfl | exact bI_e1 (by omega) | exact bI_e0 (by omega) | omega

set_option maxHeartbeats 4000000 in
set_option maxRecDepth 100000 in
theorem c6_isFeast (l : Launch) (g : GG) (mad : Nat → Nat) (S : St) (hI : Inv S) (d : Int) (r_d : R32 d)  : MetI l yX6_isFeast wsX6_isFeast ({ frames := 0, cells := 0, slots := 0, locals := 0 }) g [.ref (mad 0), .int (iI d)] (fun H => RepM g mad S H) (bI (sFeast S d)) := by
  refine Met.ofW (cc := cX6_isFeast) (maxL := 4) (ret := (some .boolean)) (by decide) rfl ?_
  intro p e s m args below meth c s₁ B hml hv
  obtain ⟨rfl, hM, hK⟩ := hv
  have hx := B.exec
  have hb := B.bytes
  have hr := B.returns
  have hts := atoms_spec (ws := wsX6_isFeast) B.pre
  have hown : s.vm.findClass RX6 = some m.cls := findClass_of_methodNamed B.named
  have hlocks := B.notSynchronized
  have inX6 : ∀ w ∈ wsX60, w ∈ wsX6_isFeast := by decide +kernel
  have hl := lv_entry ([.ref (mad 0), .int (iI d)]) (n := 4) (Nat.le_of_ble_eq_true rfl)
  rw [lg_entry_eq]
  generalize (lg_sl ([.ref (mad 0), .int (iI d)]) ++ List.replicate (4 - (lg_sl ([.ref (mad 0), .int (iI d)])).length) Slot.unset).toArray = ls at hl ⊢
  have hl : lv_has ls 4 [(0, .ref (mad 0)), (1, .int (iI d))] := hl
  refine lv_iconst (v := iI 0) hx hb dX6_isFeast_0 rfl ?_
  refine lv_istore_n (lv' := [(2, .int (iI 0)), (0, .ref (mad 0)), (1, .int (iI d))]) hx hb dX6_isFeast_1 rfl hl (by decide) rfl (fun ls hl => ?_)
  refine lv_iconst (v := iI 0) hx hb dX6_isFeast_2 rfl ?_
  refine lv_istore_n (lv' := [(3, .int (iI 0)), (2, .int (iI 0)), (0, .ref (mad 0)), (1, .int (iI d))]) hx hb dX6_isFeast_3 rfl hl (by decide) rfl (fun ls hl => ?_)
  have e0 : (bI (exN (fun k => S 1 (k : Int) = d) 0) : Int) = 0 := by
    exact bI_f exN_0
  have e1 : (((0 : Nat) : Int) : Int) = 0 := by
    rfl
  refine q_loopN (nL := 4) ((S 0 0).toNat) (fun (i : Nat) => [(0, .ref (mad 0)), (1, .int (iI d)), (2, .int (iI (bI (exN (fun k => S 1 (k : Int) = d) i)))), (3, .int (iI ((i : Nat) : Int)))]) (lv_sub hl [2, 3, 1, 0] (by simp only [e0, e1]; rfl)) (fun i hi ihi ls hl => ?_)
  have hl : lv_has ls 4 [(0, .ref (mad 0)), (1, .int (iI d)), (2, .int (iI (bI (exN (fun k => S 1 (k : Int) = d) i)))), (3, .int (iI ((i : Nat) : Int)))] := hl
  have hN := hI.nums
  refine lv_iload_n hx hb dX6_isFeast_4 rfl (lv_at hl 3 rfl) ?_
  refine lv_aload_n hx hb dX6_isFeast_5 rfl (lv_at hl 0 rfl) ?_
  refine q_get (v := .int (iI (S 0 0))) (C := RX6) (T := TX6) (N := 32) hx hb hts inX6 hown hK hM.1 rfl 0 (by decide) (hts (.fieldLink RX6 96 "TavernBenchModel" "feasts" "I") (by decide +kernel)) (fun _ h9 => h9) rfl dX6_isFeast_6 ?_
  refine q_icmp_ge (tgt := 38) hx hb dX6_isFeast_9 (by decide) (by omega) (hI.R (by decide)) (fun c9 => ?_) (fun c9 => ?_)
  · refine lv_iload_n hx hb dX6_isFeast_38 rfl (lv_at hl 2 rfl) ?_
    refine q_retz hx hb hr hlocks (bI_01 _) dX6_isFeast_39 ?_
    have e : i = (S 0 0).toNat := by omega
    rw [e]
  · refine lv_iload_n hx hb dX6_isFeast_12 rfl (lv_at hl 2 rfl) ?_
    refine q_ifb_ne (tgt := 26) hx hb dX6_isFeast_13 (by decide) (fun c13 => ?_) (fun c13 => ?_)
    · refine lv_iconst (v := iI 1) hx hb dX6_isFeast_26 rfl ?_
      refine lv_goto (tgt := 31) hx hb dX6_isFeast_27 (by decide) ?_
      refine lv_istore_n (lv' := [(2, .int (iI 1)), (0, .ref (mad 0)), (1, .int (iI d)), (3, .int (iI ((i : Nat) : Int)))]) hx hb dX6_isFeast_31 rfl hl (by decide) rfl (fun ls hl => ?_)
      refine lv_iinc (v := iI (((i : Nat) : Int) + 1)) (lv' := [(3, .int (iI (((i : Nat) : Int) + 1))), (2, .int (iI 1)), (0, .ref (mad 0)), (1, .int (iI d))]) hx hb dX6_isFeast_32 hl (k := 3) rfl (iI_add _ _) (by decide) rfl (fun ls hl => ?_)
      refine lv_goto (tgt := 4) hx hb dX6_isFeast_35 (by decide) ?_
      have e0 : (bI (exN (fun k => S 1 (k : Int) = d) (i + 1)) : Int) = 1 := by
        first | exact (bI_t (exN_s.mpr (Or.inl (by assumption)))) | exact (bI_t (exN_s.mpr (Or.inr (by assumption)))) | exact (bI_f (fun z => (exN_s.mp z).elim (by assumption) (by assumption)))
      have e1 : ((((i + 1) : Nat) : Int) : Int) = ((i : Nat) : Int) + 1 := by
        omega
      exact ihi (by omega) ls (lv_sub hl [2, 3, 1, 0] (by simp only [e0, e1]; rfl))
    · refine lv_aload_n hx hb dX6_isFeast_16 rfl (lv_at hl 0 rfl) ?_
      refine q_get (v := .ref (mad 1)) (C := RX6) (T := TX6) (N := 32) hx hb hts inX6 hown hK hM.1 rfl 1 (by decide) (hts (.fieldLink RX6 7 "TavernBenchModel" "feast" "[I") (by decide +kernel)) (fun _ h9 => h9) rfl dX6_isFeast_17 ?_
      refine lv_iload_n hx hb dX6_isFeast_20 rfl (lv_at hl 3 rfl) ?_
      refine q_mld hx hb hK hM 1 20 ⟨by decide, by decide, by decide⟩ rfl ⟨by omega, by omega⟩ dX6_isFeast_21 ?_
      refine lv_iload_n hx hb dX6_isFeast_22 rfl (lv_at hl 1 rfl) ?_
      refine q_icmp_ne (tgt := 30) hx hb dX6_isFeast_23 (by decide) (hI.R (by decide)) r_d (fun c23 => ?_) (fun c23 => ?_)
      · refine lv_iconst (v := iI 0) hx hb dX6_isFeast_30 rfl ?_
        refine lv_istore_n (lv' := [(2, .int (iI 0)), (0, .ref (mad 0)), (1, .int (iI d)), (3, .int (iI ((i : Nat) : Int)))]) hx hb dX6_isFeast_31 rfl hl (by decide) rfl (fun ls hl => ?_)
        refine lv_iinc (v := iI (((i : Nat) : Int) + 1)) (lv' := [(3, .int (iI (((i : Nat) : Int) + 1))), (2, .int (iI 0)), (0, .ref (mad 0)), (1, .int (iI d))]) hx hb dX6_isFeast_32 hl (k := 3) rfl (iI_add _ _) (by decide) rfl (fun ls hl => ?_)
        refine lv_goto (tgt := 4) hx hb dX6_isFeast_35 (by decide) ?_
        have e0 : (bI (exN (fun k => S 1 (k : Int) = d) (i + 1)) : Int) = 0 := by
          first | exact (bI_t (exN_s.mpr (Or.inl (by assumption)))) | exact (bI_t (exN_s.mpr (Or.inr (by assumption)))) | exact (bI_f (fun z => (exN_s.mp z).elim (by assumption) (by assumption)))
        have e1 : ((((i + 1) : Nat) : Int) : Int) = ((i : Nat) : Int) + 1 := by
          omega
        exact ihi (by omega) ls (lv_sub hl [2, 3, 1, 0] (by simp only [e0, e1]; rfl))
      · refine lv_iconst (v := iI 1) hx hb dX6_isFeast_26 rfl ?_
        refine lv_goto (tgt := 31) hx hb dX6_isFeast_27 (by decide) ?_
        refine lv_istore_n (lv' := [(2, .int (iI 1)), (0, .ref (mad 0)), (1, .int (iI d)), (3, .int (iI ((i : Nat) : Int)))]) hx hb dX6_isFeast_31 rfl hl (by decide) rfl (fun ls hl => ?_)
        refine lv_iinc (v := iI (((i : Nat) : Int) + 1)) (lv' := [(3, .int (iI (((i : Nat) : Int) + 1))), (2, .int (iI 1)), (0, .ref (mad 0)), (1, .int (iI d))]) hx hb dX6_isFeast_32 hl (k := 3) rfl (iI_add _ _) (by decide) rfl (fun ls hl => ?_)
        refine lv_goto (tgt := 4) hx hb dX6_isFeast_35 (by decide) ?_
        have e0 : (bI (exN (fun k => S 1 (k : Int) = d) (i + 1)) : Int) = 1 := by
          first | exact (bI_t (exN_s.mpr (Or.inl (by assumption)))) | exact (bI_t (exN_s.mpr (Or.inr (by assumption)))) | exact (bI_f (fun z => (exN_s.mp z).elim (by assumption) (by assumption)))
        have e1 : ((((i + 1) : Nat) : Int) : Int) = ((i : Nat) : Int) + 1 := by
          omega
        exact ihi (by omega) ls (lv_sub hl [2, 3, 1, 0] (by simp only [e0, e1]; rfl))
