set_option maxHeartbeats 4000000 in
set_option maxRecDepth 100000 in
theorem c1_stateOn (l : Launch) (g : GG) (eA : Nat) (P : Nat → Prop) (ad : AD) (S : St) (hI : Inv S) (hQ : InvC S) (h : Int) (h0 : 0 ≤ h ∧ h < S 14 0) (asked : Int) (r_asked : R32 asked) (hd : isD asked) : MetI l yX1_stateOn wsX1_stateOn ({ frames := 5, cells := 0, slots := 0, locals := 115 }) g [.ref (ad 7 h 0), .int (iI asked)] (fun H => RepC g eA P ad S H) (sState S h asked 100000) := by
  refine Met.ofW (cc := cX1_stateOn) (maxL := 6) (ret := (some .int)) (by decide) rfl ?_
  intro p e s m args below meth c s₁ B hml hv
  obtain ⟨rfl, hC, hK⟩ := hv
  have hx := B.exec
  have hb := B.bytes
  have hr := B.returns
  have hts := atoms_spec (ws := wsX1_stateOn) B.pre
  have hown : s.vm.findClass RX1 = some m.cls := findClass_of_methodNamed B.named
  have hlocks := B.notSynchronized
  have inX1 : ∀ w ∈ wsX10, w ∈ wsX1_stateOn := by decide +kernel
  have hl := lv_entry ([.ref (ad 7 h 0), .int (iI asked)]) (n := 6) (Nat.le_of_ble_eq_true rfl)
  rw [lg_entry_eq]
  generalize (lg_sl ([.ref (ad 7 h 0), .int (iI asked)]) ++ List.replicate (6 - (lg_sl ([.ref (ad 7 h 0), .int (iI asked)])).length) Slot.unset).toArray = ls at hl ⊢
  have hl : lv_has ls 6 [(0, .ref (ad 7 h 0)), (1, .int (iI asked))] := hl
  have hH := hI.house h0.1 h0.2
  have hN := hI.nums
  have hst := sState_eq hI h0 (day := asked)
  have hse := sEndC_eq hQ h0 (asked := asked) hd
  have hE := hI.endB h0 (a := 1000000) (day := asked) (by decide) (n := (S 19 h).toNat) (by omega)
  rw [← hse] at hE
  have hL := hI.lapB h0 (a := 1000000) (day := asked) (by decide) (n := (S 19 h).toNat) (by omega)
  have hU := hI.surB h0 (a := 1000000) (day := asked) (by decide) (n := (S 19 h).toNat) (by omega)
  refine lv_iload_n hx hb dX1_stateOn_0 rfl (lv_at hl 1 rfl) ?_
  refine lv_aload_n hx hb dX1_stateOn_1 rfl (lv_at hl 0 rfl) ?_
  refine q_get (v := .int (iI (S 18 h))) (C := RX1) (T := TX1) (N := 7) hx hb hts inX1 hown hK (hC.house (k := h) h0) rfl 3 (by decide) (hts (.fieldLink RX1 21 "TavernBench$House" "granted" "I") (by decide +kernel)) (fun _ h9 => h9) rfl dX1_stateOn_2 ?_
  refine q_icmp_ge (tgt := 10) hx hb dX1_stateOn_5 (by decide) r_asked (hI.R (by decide)) (fun c5 => ?_) (fun c5 => ?_)
  · refine lv_aload_n hx hb dX1_stateOn_10 rfl (lv_at hl 0 rfl) ?_
    refine lv_iload_n hx hb dX1_stateOn_11 rfl (lv_at hl 1 rfl) ?_
    refine q_cVi (As := [.int (iI asked)]) (rest := []) ⟨hx, hb, hml, hown, hts⟩ (c1_endedFrom l g eA P ad S hI hQ h h0 asked r_asked (by omega)) (cwV 1 hts gX1_stateOn_X1_endedFrom rfl rfl rfl (by decide +kernel) ⟨Nat.le_of_ble_eq_true rfl, Nat.le_of_ble_eq_true rfl⟩) (q_pV hK (hC.house (k := h) h0) rfl hC) rfl hl.1 rfl (Nat.le_of_ble_eq_true rfl) ⟨Nat.zero_le _, Nat.zero_le _⟩ dX1_stateOn_12 ?_
    refine lv_istore_n (lv' := [(2, .int (iI (sEndC S h asked (S 19 h).toNat))), (0, .ref (ad 7 h 0)), (1, .int (iI asked))]) hx hb dX1_stateOn_15 rfl hl (by decide) rfl (fun ls hl => ?_)
    refine lv_aload_n hx hb dX1_stateOn_16 rfl (lv_at hl 1 rfl) ?_
    refine lv_iload_n hx hb dX1_stateOn_17 rfl (lv_at hl 2 rfl) ?_
    refine q_cVi (As := [.int (iI asked)]) (rest := []) ⟨hx, hb, hml, hown, hts⟩ (c1_lapsedFrom l g eA P ad S hI hQ h h0 asked r_asked (by omega)) (cwV 1 hts gX1_stateOn_X1_lapsedFrom rfl rfl rfl (by decide +kernel) ⟨Nat.le_of_ble_eq_true rfl, Nat.le_of_ble_eq_true rfl⟩) (q_pV hK (hC.house (k := h) h0) rfl hC) rfl hl.1 rfl (Nat.le_of_ble_eq_true rfl) ⟨Nat.zero_le _, Nat.zero_le _⟩ dX1_stateOn_18 ?_
    refine lv_istore_n (lv' := [(3, .int (iI (sLap S h asked 1000000 (S 19 h).toNat))), (2, .int (iI (sEndC S h asked (S 19 h).toNat))), (0, .ref (ad 7 h 0)), (1, .int (iI asked))]) hx hb dX1_stateOn_21 rfl hl (by decide) rfl (fun ls hl => ?_)
    refine lv_aload_n hx hb dX1_stateOn_22 rfl (lv_at hl 2 rfl) ?_
    refine lv_iload_n hx hb dX1_stateOn_23 rfl (lv_at hl 3 rfl) ?_
    refine q_cVi (As := [.int (iI asked)]) (rest := []) ⟨hx, hb, hml, hown, hts⟩ (c1_surplusFrom l g eA P ad S hI hQ h h0 asked r_asked ) (cwV 1 hts gX1_stateOn_X1_surplusFrom rfl rfl rfl (by decide +kernel) ⟨Nat.le_of_ble_eq_true rfl, Nat.le_of_ble_eq_true rfl⟩) (q_pV hK (hC.house (k := h) h0) rfl hC) rfl hl.1 rfl (Nat.le_of_ble_eq_true rfl) ⟨Nat.zero_le _, Nat.zero_le _⟩ dX1_stateOn_24 ?_
    refine lv_istore (lv' := [(4, .int (iI (sSur S h asked 1000000 (S 19 h).toNat))), (3, .int (iI (sLap S h asked 1000000 (S 19 h).toNat))), (2, .int (iI (sEndC S h asked (S 19 h).toNat))), (0, .ref (ad 7 h 0)), (1, .int (iI asked))]) hx hb dX1_stateOn_27 hl (by decide) rfl (fun ls hl => ?_)
    refine lv_iload_n hx hb dX1_stateOn_29 rfl (lv_at hl 2 rfl) ?_
    refine lv_iload_n hx hb dX1_stateOn_30 rfl (lv_at hl 1 rfl) ?_
    refine lv_iload hx hb dX1_stateOn_31 (lv_at hl 0 rfl) ?_
    refine q_mmin hx hb (hml.trans hl.1.symm) hown (hts (.methodLink RX1 55 Lib.Math.min.name) (by decide +kernel)) (hts (.static Lib.Math.min.name) (by decide +kernel)) (hts (.initialized "java/lang/Math") (by decide +kernel)) (hts (.code Lib.Math.min.name Lib.Math.min.code 2 (some .int)) (by decide +kernel)) (Nat.le_of_ble_eq_true rfl) (Nat.le_of_ble_eq_true rfl) (Nat.zero_le _) (Nat.zero_le _) dX1_stateOn_33 (by omega) (by omega) ?_
    refine q_mmin hx hb (hml.trans hl.1.symm) hown (hts (.methodLink RX1 55 Lib.Math.min.name) (by decide +kernel)) (hts (.static Lib.Math.min.name) (by decide +kernel)) (hts (.initialized "java/lang/Math") (by decide +kernel)) (hts (.code Lib.Math.min.name Lib.Math.min.code 2 (some .int)) (by decide +kernel)) (Nat.le_of_ble_eq_true rfl) (Nat.le_of_ble_eq_true rfl) (Nat.zero_le _) (Nat.zero_le _) dX1_stateOn_36 (by omega) (by omega) ?_
    refine lv_istore (lv' := [(5, .int (iI (min (sEndC S h asked (S 19 h).toNat) (min (sLap S h asked 1000000 (S 19 h).toNat) (sSur S h asked 1000000 (S 19 h).toNat))))), (4, .int (iI (sSur S h asked 1000000 (S 19 h).toNat))), (3, .int (iI (sLap S h asked 1000000 (S 19 h).toNat))), (2, .int (iI (sEndC S h asked (S 19 h).toNat))), (0, .ref (ad 7 h 0)), (1, .int (iI asked))]) hx hb dX1_stateOn_39 hl (by decide) rfl (fun ls hl => ?_)
    refine lv_iload hx hb dX1_stateOn_41 (lv_at hl 0 rfl) ?_
    refine q_ldc hx hb 1000000 hown (hts (.constant RX1 86 (1000000)) (by decide +kernel)) (by decide +kernel) dX1_stateOn_43 ?_
    refine q_icmp_ne (tgt := 50) hx hb dX1_stateOn_45 (by decide) (by omega) (by decide) (fun c45 => ?_) (fun c45 => ?_)
    · refine lv_iload_n hx hb dX1_stateOn_50 rfl (lv_at hl 3 rfl) ?_
      refine lv_iload hx hb dX1_stateOn_51 (lv_at hl 0 rfl) ?_
      refine q_icmp_ne (tgt := 58) hx hb dX1_stateOn_53 (by decide) (by omega) (by omega) (fun c53 => ?_) (fun c53 => ?_)
      · refine lv_iload_n hx hb dX1_stateOn_58 rfl (lv_at hl 2 rfl) ?_
        refine lv_iload hx hb dX1_stateOn_59 (lv_at hl 0 rfl) ?_
        refine q_icmp_ne (tgt := 68) hx hb dX1_stateOn_61 (by decide) (by omega) (by omega) (fun c61 => ?_) (fun c61 => ?_)
        · refine lv_iconst (v := iI 4) hx hb dX1_stateOn_68 rfl ?_
          refine q_reti hx hb hr hlocks dX1_stateOn_69 ?_
          show _ = sState S h asked 100000
          rw [← hst]
          unfold sState
          rw [← hse]
          rw [cI_f (by omega), cI_f (by omega), cI_f (by omega), cI_f (by omega)]
        · refine lv_iconst (v := iI 3) hx hb dX1_stateOn_64 rfl ?_
          refine lv_goto (tgt := 69) hx hb dX1_stateOn_65 (by decide) ?_
          refine q_reti hx hb hr hlocks dX1_stateOn_69 ?_
          show _ = sState S h asked 100000
          rw [← hst]
          unfold sState
          rw [← hse]
          rw [cI_f (by omega), cI_f (by omega), cI_f (by omega), cI_t (by omega)]
      · refine lv_iconst (v := iI 2) hx hb dX1_stateOn_56 rfl ?_
        refine q_reti hx hb hr hlocks dX1_stateOn_57 ?_
        show _ = sState S h asked 100000
        rw [← hst]
        unfold sState
        rw [← hse]
        rw [cI_f (by omega), cI_f (by omega), cI_t (by omega)]
    · refine lv_iconst (v := iI 1) hx hb dX1_stateOn_48 rfl ?_
      refine q_reti hx hb hr hlocks dX1_stateOn_49 ?_
      show _ = sState S h asked 100000
      rw [← hst]
      unfold sState
      rw [← hse]
      rw [cI_f (by omega), cI_t (by omega)]
  · refine lv_iconst (v := iI 0) hx hb dX1_stateOn_8 rfl ?_
    refine q_reti hx hb hr hlocks dX1_stateOn_9 ?_
    show _ = sState S h asked 100000
    rw [← hst]
    unfold sState
    rw [← hse]
    rw [cI_t (by omega)]

set_option maxHeartbeats 4000000 in
set_option maxRecDepth 100000 in
theorem c1_hasLicence (l : Launch) (g : GG) (eA : Nat) (P : Nat → Prop) (ad : AD) (S : St) (hI : Inv S) (hQ : InvC S) (h : Int) (h0 : 0 ≤ h ∧ h < S 14 0) (asked : Int) (r_asked : R32 asked) (hd : isD asked) : MetI l yX1_hasLicence wsX1_hasLicence ({ frames := 6, cells := 0, slots := 0, locals := 140 }) g [.ref (ad 7 h 0), .int (iI asked)] (fun H => RepC g eA P ad S H) (bI (sHas S h asked)) := by
  refine Met.ofW (cc := cX1_hasLicence) (maxL := 2) (ret := (some .boolean)) (by decide) rfl ?_
  intro p e s m args below meth c s₁ B hml hv
  obtain ⟨rfl, hC, hK⟩ := hv
  have hx := B.exec
  have hb := B.bytes
  have hr := B.returns
  have hts := atoms_spec (ws := wsX1_hasLicence) B.pre
  have hown : s.vm.findClass RX1 = some m.cls := findClass_of_methodNamed B.named
  have hlocks := B.notSynchronized
  have hl := lv_entry ([.ref (ad 7 h 0), .int (iI asked)]) (n := 2) (Nat.le_of_ble_eq_true rfl)
  rw [lg_entry_eq]
  generalize (lg_sl ([.ref (ad 7 h 0), .int (iI asked)]) ++ List.replicate (2 - (lg_sl ([.ref (ad 7 h 0), .int (iI asked)])).length) Slot.unset).toArray = ls at hl ⊢
  have hl : lv_has ls 2 [(0, .ref (ad 7 h 0)), (1, .int (iI asked))] := hl
  have hb0 := sState_b S h asked 100000
  refine lv_aload_n hx hb dX1_hasLicence_0 rfl (lv_at hl 0 rfl) ?_
  refine lv_iload_n hx hb dX1_hasLicence_1 rfl (lv_at hl 1 rfl) ?_
  refine q_cVi (As := [.int (iI asked)]) (rest := []) ⟨hx, hb, hml, hown, hts⟩ (c1_stateOn l g eA P ad S hI hQ h h0 asked r_asked (by omega)) (cwV 1 hts gX1_hasLicence_X1_stateOn rfl rfl rfl (by decide +kernel) ⟨Nat.le_of_ble_eq_true rfl, Nat.le_of_ble_eq_true rfl⟩) (q_pV hK (hC.house (k := h) h0) rfl hC) rfl hl.1 rfl (Nat.le_of_ble_eq_true rfl) ⟨Nat.zero_le _, Nat.zero_le _⟩ dX1_hasLicence_2 ?_
  refine lv_iconst (v := iI 1) hx hb dX1_hasLicence_5 rfl ?_
  refine q_icmp_ne (tgt := 13) hx hb dX1_hasLicence_6 (by decide) (by omega) (by decide) (fun c6 => ?_) (fun c6 => ?_)
  · refine lv_iconst (v := iI 0) hx hb dX1_hasLicence_13 rfl ?_
    refine q_retz hx hb hr hlocks (Or.inl rfl) dX1_hasLicence_14 ?_
    first | rfl | exact bI_e1 (by omega) | exact bI_e0 (by omega) | exact bI_iff (by omega) | omega
  · refine lv_iconst (v := iI 1) hx hb dX1_hasLicence_9 rfl ?_
    refine lv_goto (tgt := 14) hx hb dX1_hasLicence_10 (by decide) ?_
    refine q_retz hx hb hr hlocks (Or.inr rfl) dX1_hasLicence_14 ?_
    first | rfl | exact bI_e1 (by omega) | exact bI_e0 (by omega) | exact bI_iff (by omega) | omega

set_option maxHeartbeats 4000000 in
set_option maxRecDepth 100000 in
theorem c1_conditionOn (l : Launch) (g : GG) (eA : Nat) (P : Nat → Prop) (ad : AD) (S : St) (hI : Inv S) (hQ : InvC S) (h : Int) (h0 : 0 ≤ h ∧ h < S 14 0) (asked : Int) (r_asked : R32 asked)  : MetI l yX1_conditionOn wsX1_conditionOn ({ frames := 3, cells := 0, slots := 0, locals := 64 }) g [.ref (ad 7 h 0), .int (iI asked)] (fun H => RepC g eA P ad S H) (sCond S h asked) := by
  refine Met.ofW (cc := cX1_conditionOn) (maxL := 7) (ret := (some .int)) (by decide) rfl ?_
  intro p e s m args below meth c s₁ B hml hv
  obtain ⟨rfl, hC, hK⟩ := hv
  have hx := B.exec
  have hb := B.bytes
  have hr := B.returns
  have hts := atoms_spec (ws := wsX1_conditionOn) B.pre
  have hown : s.vm.findClass RX1 = some m.cls := findClass_of_methodNamed B.named
  have hlocks := B.notSynchronized
  have inX0 : ∀ w ∈ wsX00, w ∈ wsX1_conditionOn := by decide +kernel
  have inX1 : ∀ w ∈ wsX10, w ∈ wsX1_conditionOn := by decide +kernel
  have hl := lv_entry ([.ref (ad 7 h 0), .int (iI asked)]) (n := 7) (Nat.le_of_ble_eq_true rfl)
  rw [lg_entry_eq]
  generalize (lg_sl ([.ref (ad 7 h 0), .int (iI asked)]) ++ List.replicate (7 - (lg_sl ([.ref (ad 7 h 0), .int (iI asked)])).length) Slot.unset).toArray = ls at hl ⊢
  have hl : lv_has ls 7 [(0, .ref (ad 7 h 0)), (1, .int (iI asked))] := hl
  have hH := hI.house h0.1 h0.2
  have hN := hI.nums
  refine lv_iconst (v := iI 0) hx hb dX1_conditionOn_0 rfl ?_
  refine lv_istore_n (lv' := [(2, .int (iI 0)), (0, .ref (ad 7 h 0)), (1, .int (iI asked))]) hx hb dX1_conditionOn_1 rfl hl (by decide) rfl (fun ls hl => ?_)
  refine q_bipush hx hb (-4) dX1_conditionOn_2 (by decide +kernel) ?_
  refine lv_istore_n (lv' := [(3, .int (iI (-4))), (2, .int (iI 0)), (0, .ref (ad 7 h 0)), (1, .int (iI asked))]) hx hb dX1_conditionOn_4 rfl hl (by decide) rfl (fun ls hl => ?_)
  refine lv_iconst (v := iI 0) hx hb dX1_conditionOn_5 rfl ?_
  refine lv_istore (lv' := [(4, .int (iI 0)), (3, .int (iI (-4))), (2, .int (iI 0)), (0, .ref (ad 7 h 0)), (1, .int (iI asked))]) hx hb dX1_conditionOn_6 hl (by decide) rfl (fun ls hl => ?_)
  have e0 : (latD S h asked 0 : Int) = 0 := by
    exact cI_t (show (-1 : Int) < 0 by decide)
  have e1 : (conD S h asked 0 : Int) = (-4) := by
    exact cI_t (Or.inl (show (-1 : Int) < 0 by decide))
  have e2 : (((0 : Nat) : Int) : Int) = 0 := by
    rfl
  refine q_loopN (nL := 7) ((S 19 h).toNat) (fun (u : Nat) => [(0, .ref (ad 7 h 0)), (1, .int (iI asked)), (2, .int (iI (latD S h asked u))), (3, .int (iI (conD S h asked u))), (4, .int (iI ((u : Nat) : Int)))]) (lv_sub hl [3, 4, 2, 1, 0] (by simp only [e0, e1, e2]; rfl)) (fun u hu ihu ls hl => ?_)
  have hl : lv_has ls 7 [(0, .ref (ad 7 h 0)), (1, .int (iI asked)), (2, .int (iI (latD S h asked u))), (3, .int (iI (conD S h asked u))), (4, .int (iI ((u : Nat) : Int)))] := hl
  have hlat := latD_b hI h0 asked (n := u) (by omega)
  refine lv_iload hx hb dX1_conditionOn_8 (lv_at hl 4 rfl) ?_
  refine lv_aload_n hx hb dX1_conditionOn_10 rfl (lv_at hl 0 rfl) ?_
  refine q_get (v := .ref (ad 8 h 0)) (C := RX1) (T := TX1) (N := 7) hx hb hts inX1 hown hK (hC.house (k := h) h0) rfl 4 (by decide) (hts (.fieldLink RX1 27 "TavernBench$House" "events" "Ljava/util/ArrayList;") (by decide +kernel)) (fun _ h9 => h9) rfl dX1_conditionOn_11 ?_
  refine q_cVi (As := []) (rest := [.int (iI ((u : Nat) : Int))]) ⟨hx, hb, hml, hown, hts⟩ (c0_size l g eA (ad 8 h 0) (ad 9 h 0) (S 19 h)) (cwV 0 hts gX1_conditionOn_Jx4a65c_size_8abf5 rfl rfl rfl (by decide +kernel) ⟨Nat.le_of_ble_eq_true rfl, Nat.le_of_ble_eq_true rfl⟩) (q_pV hK (hC.hlst (k := h) (j := 0) h0 (by decide)) rfl (hC.hlst (k := h) (j := 0) h0 (by decide))) rfl hl.1 rfl (Nat.le_of_ble_eq_true rfl) ⟨Nat.zero_le _, Nat.zero_le _⟩ dX1_conditionOn_14 ?_
  refine q_icmp_ge (tgt := 109) hx hb dX1_conditionOn_17 (by decide) (by omega) (hI.R (by decide)) (fun c17 => ?_) (fun c17 => ?_)
  · refine lv_iload_n hx hb dX1_conditionOn_109 rfl (lv_at hl 3 rfl) ?_
    refine q_reti hx hb hr hlocks dX1_conditionOn_110 ?_
    have e : u = (S 19 h).toNat := by omega
    rw [e]
    rfl
  · refine lv_aload_n hx hb dX1_conditionOn_20 rfl (lv_at hl 0 rfl) ?_
    refine q_get (v := .ref (ad 8 h 0)) (C := RX1) (T := TX1) (N := 7) hx hb hts inX1 hown hK (hC.house (k := h) h0) rfl 4 (by decide) (hts (.fieldLink RX1 27 "TavernBench$House" "events" "Ljava/util/ArrayList;") (by decide +kernel)) (fun _ h9 => h9) rfl dX1_conditionOn_21 ?_
    refine lv_iload hx hb dX1_conditionOn_24 (lv_at hl 4 rfl) ?_
    refine q_cVr (As := [.int (iI ((u : Nat) : Int))]) (rest := []) ⟨hx, hb, hml, hown, hts⟩ (c0_get l g eA (ad 8 h 0) (ad 9 h 0) (S 19 h) (fun q => ad 10 h q) ((u : Nat) : Int) (by omega) ⟨by omega, by omega⟩ (by omega)) (cwV 1 hts gX1_conditionOn_Jx4a65c_get_915e3 rfl rfl rfl (by decide +kernel) ⟨Nat.le_of_ble_eq_true rfl, Nat.le_of_ble_eq_true rfl⟩) (q_pV hK (hC.hlst (k := h) (j := 0) h0 (by decide)) rfl ⟨(hC.hlst (k := h) (j := 0) h0 (by decide)), (hC.harr (k := h) (j := 0) h0 (by decide) (by show 0 < S 19 h; omega))⟩) rfl hl.1 rfl (Nat.le_of_ble_eq_true rfl) ⟨Nat.zero_le _, Nat.zero_le _⟩ dX1_conditionOn_26 ?_
    refine q_cast (C := RX0) (T := TX0) (N := 4) hx hb hown (hts (.classLink RX1 47 RX0) (by decide +kernel)) hK (hC.event (k := h) (j := ((u : Nat) : Int)) h0 ⟨by omega, by omega⟩) rfl dX1_conditionOn_29 ?_
    refine lv_astore (lv' := [(5, .ref (ad 10 h ((u : Nat) : Int))), (0, .ref (ad 7 h 0)), (1, .int (iI asked)), (2, .int (iI (latD S h asked u))), (3, .int (iI (conD S h asked u))), (4, .int (iI ((u : Nat) : Int)))]) hx hb dX1_conditionOn_32 hl (by decide) rfl (fun ls hl => ?_)
    have hv := hI.ev h0.1 h0.2 (j := ((u : Nat) : Int)) (by omega) (by omega)
    have hq := hQ h h0.1 h0.2 u (by omega)
    refine q_aload hx hb dX1_conditionOn_34 (lv_at hl 0 rfl) ?_
    refine q_get (v := .int (iI (S 21 (16 * h + ((u : Nat) : Int))))) (C := RX0) (T := TX0) (N := 4) hx hb hts inX0 hown hK (hC.event (k := h) (j := ((u : Nat) : Int)) h0 ⟨by omega, by omega⟩) rfl 1 (by decide) (hts (.fieldLink RX1 69 "TavernBench$Event" "kind" "I") (by decide +kernel)) (fun _ h9 => h9) rfl dX1_conditionOn_36 ?_
    refine lv_iconst (v := iI 4) hx hb dX1_conditionOn_39 rfl ?_
    refine q_icmp_eq (tgt := 52) hx hb dX1_conditionOn_40 (by decide) (hI.R (by decide)) (by decide) (fun c40 => ?_) (fun c40 => ?_)
    · refine lv_iconst (v := iI 1) hx hb dX1_conditionOn_52 rfl ?_
      refine lv_goto (tgt := 57) hx hb dX1_conditionOn_53 (by decide) ?_
      refine lv_istore (lv' := [(6, .int (iI 1)), (5, .ref (ad 10 h ((u : Nat) : Int))), (0, .ref (ad 7 h 0)), (1, .int (iI asked)), (2, .int (iI (latD S h asked u))), (3, .int (iI (conD S h asked u))), (4, .int (iI ((u : Nat) : Int)))]) hx hb dX1_conditionOn_57 hl (by decide) rfl (fun ls hl => ?_)
      refine lv_iload hx hb dX1_conditionOn_59 (lv_at hl 0 rfl) ?_
      refine q_if_eq (tgt := 103) hx hb dX1_conditionOn_61 (by decide) (by decide) (fun c61 => ?_) (fun c61 => ?_)
      · exact absurd c61 (by decide)
      refine q_aload hx hb dX1_conditionOn_64 (lv_at hl 1 rfl) ?_
      refine q_get (v := .int (iI (S 20 (16 * h + ((u : Nat) : Int))))) (C := RX0) (T := TX0) (N := 4) hx hb hts inX0 hown hK (hC.event (k := h) (j := ((u : Nat) : Int)) h0 ⟨by omega, by omega⟩) rfl 0 (by decide) (hts (.fieldLink RX1 87 "TavernBench$Event" "day" "I") (by decide +kernel)) (fun _ h9 => h9) rfl dX1_conditionOn_66 ?_
      refine lv_iload_n hx hb dX1_conditionOn_69 rfl (lv_at hl 4 rfl) ?_
      refine lv_iload_n hx hb dX1_conditionOn_70 rfl (lv_at hl 3 rfl) ?_
      refine q_cNi (As := [.int (iI (S 20 (16 * h + ((u : Nat) : Int)))), .int (iI (latD S h asked u)), .int (iI asked)]) (rest := []) ⟨hx, hb, hml, hown, hts⟩ (c5_isIn l g (S 20 (16 * h + ((u : Nat) : Int))) (latD S h asked u) asked (hI.R (by decide)) (by omega) r_asked ) ⟨va_cnB 3 hts gX1_conditionOn_X5_isIn_n97 rfl rfl rfl hK.2 (hts (.initialized RX5) (by decide +kernel)) (by decide +kernel) ⟨Nat.le_of_ble_eq_true rfl, Nat.le_of_ble_eq_true rfl⟩, hts (.static yX5_isIn) (by decide +kernel), trivial⟩ (q_pS hK trivial) rfl hl.1 rfl (Nat.le_of_ble_eq_true rfl) ⟨Nat.zero_le _, Nat.zero_le _⟩ dX1_conditionOn_71 ?_
      refine q_ifb_eq (tgt := 103) hx hb dX1_conditionOn_74 (by decide) (fun c74 => ?_) (fun c74 => ?_)
      · refine lv_iinc (v := iI (((u : Nat) : Int) + 1)) (lv' := [(4, .int (iI (((u : Nat) : Int) + 1))), (6, .int (iI 1)), (5, .ref (ad 10 h ((u : Nat) : Int))), (0, .ref (ad 7 h 0)), (1, .int (iI asked)), (2, .int (iI (latD S h asked u))), (3, .int (iI (conD S h asked u)))]) hx hb dX1_conditionOn_103 hl (k := 6) rfl (iI_add _ _) (by decide) rfl (fun ls hl => ?_)
        refine lv_goto (tgt := 8) hx hb dX1_conditionOn_106 (by decide) ?_
        have e0 : (latD S h asked (u + 1) : Int) = latD S h asked u := by
          first | exact (latD_t h0.1 (by omega) (by omega)).1 | exact (latD_f (by omega) (by omega)).1
        have e1 : (conD S h asked (u + 1) : Int) = conD S h asked u := by
          first | (rw [(latD_t h0.1 (by omega) (by omega)).2]; first | exact cI_t (by omega) | exact cI_f (by omega)) | exact (latD_f (by omega) (by omega)).2
        have e2 : ((((u + 1) : Nat) : Int) : Int) = ((u : Nat) : Int) + 1 := by
          omega
        exact ihu (by omega) ls (lv_sub hl [3, 4, 5, 6, 0] (by simp only [e0, e1, e2]; rfl))
      · refine q_aload hx hb dX1_conditionOn_77 (lv_at hl 1 rfl) ?_
        refine q_get (v := .int (iI (S 20 (16 * h + ((u : Nat) : Int))))) (C := RX0) (T := TX0) (N := 4) hx hb hts inX0 hown hK (hC.event (k := h) (j := ((u : Nat) : Int)) h0 ⟨by omega, by omega⟩) rfl 0 (by decide) (hts (.fieldLink RX1 87 "TavernBench$Event" "day" "I") (by decide +kernel)) (fun _ h9 => h9) rfl dX1_conditionOn_79 ?_
        refine lv_istore_n (lv' := [(2, .int (iI (S 20 (16 * h + ((u : Nat) : Int))))), (6, .int (iI 1)), (5, .ref (ad 10 h ((u : Nat) : Int))), (0, .ref (ad 7 h 0)), (1, .int (iI asked)), (3, .int (iI (conD S h asked u))), (4, .int (iI ((u : Nat) : Int)))]) hx hb dX1_conditionOn_82 rfl hl (by decide) rfl (fun ls hl => ?_)
        refine q_aload hx hb dX1_conditionOn_83 (lv_at hl 2 rfl) ?_
        refine q_get (v := .int (iI (S 21 (16 * h + ((u : Nat) : Int))))) (C := RX0) (T := TX0) (N := 4) hx hb hts inX0 hown hK (hC.event (k := h) (j := ((u : Nat) : Int)) h0 ⟨by omega, by omega⟩) rfl 1 (by decide) (hts (.fieldLink RX1 69 "TavernBench$Event" "kind" "I") (by decide +kernel)) (fun _ h9 => h9) rfl dX1_conditionOn_85 ?_
        refine lv_iconst (v := iI 4) hx hb dX1_conditionOn_88 rfl ?_
        refine q_icmp_ne (tgt := 100) hx hb dX1_conditionOn_89 (by decide) (hI.R (by decide)) (by decide) (fun c89 => ?_) (fun c89 => ?_)
        · refine q_bipush hx hb (-4) dX1_conditionOn_100 (by decide +kernel) ?_
          refine lv_istore_n (lv' := [(3, .int (iI (-4))), (2, .int (iI (S 20 (16 * h + ((u : Nat) : Int))))), (6, .int (iI 1)), (5, .ref (ad 10 h ((u : Nat) : Int))), (0, .ref (ad 7 h 0)), (1, .int (iI asked)), (4, .int (iI ((u : Nat) : Int)))]) hx hb dX1_conditionOn_102 rfl hl (by decide) rfl (fun ls hl => ?_)
          refine lv_iinc (v := iI (((u : Nat) : Int) + 1)) (lv' := [(4, .int (iI (((u : Nat) : Int) + 1))), (3, .int (iI (-4))), (2, .int (iI (S 20 (16 * h + ((u : Nat) : Int))))), (6, .int (iI 1)), (5, .ref (ad 10 h ((u : Nat) : Int))), (0, .ref (ad 7 h 0)), (1, .int (iI asked))]) hx hb dX1_conditionOn_103 hl (k := 6) rfl (iI_add _ _) (by decide) rfl (fun ls hl => ?_)
          refine lv_goto (tgt := 8) hx hb dX1_conditionOn_106 (by decide) ?_
          have e0 : (latD S h asked (u + 1) : Int) = S 20 (16 * h + ((u : Nat) : Int)) := by
            first | exact (latD_t h0.1 (by omega) (by omega)).1 | exact (latD_f (by omega) (by omega)).1
          have e1 : (conD S h asked (u + 1) : Int) = (-4) := by
            first | (rw [(latD_t h0.1 (by omega) (by omega)).2]; first | exact cI_t (by omega) | exact cI_f (by omega)) | exact (latD_f (by omega) (by omega)).2
          have e2 : ((((u + 1) : Nat) : Int) : Int) = ((u : Nat) : Int) + 1 := by
            omega
          exact ihu (by omega) ls (lv_sub hl [5, 6, 2, 1, 0] (by simp only [e0, e1, e2]; rfl))
        · refine q_aload hx hb dX1_conditionOn_92 (lv_at hl 2 rfl) ?_
          refine q_get (v := .int (iI (S 22 (16 * h + ((u : Nat) : Int))))) (C := RX0) (T := TX0) (N := 4) hx hb hts inX0 hown hK (hC.event (k := h) (j := ((u : Nat) : Int)) h0 ⟨by omega, by omega⟩) rfl 2 (by decide) (hts (.fieldLink RX1 70 "TavernBench$Event" "v" "I") (by decide +kernel)) (fun _ h9 => h9) rfl dX1_conditionOn_94 ?_
          refine lv_goto (tgt := 102) hx hb dX1_conditionOn_97 (by decide) ?_
          refine lv_istore_n (lv' := [(3, .int (iI (S 22 (16 * h + ((u : Nat) : Int))))), (2, .int (iI (S 20 (16 * h + ((u : Nat) : Int))))), (6, .int (iI 1)), (5, .ref (ad 10 h ((u : Nat) : Int))), (0, .ref (ad 7 h 0)), (1, .int (iI asked)), (4, .int (iI ((u : Nat) : Int)))]) hx hb dX1_conditionOn_102 rfl hl (by decide) rfl (fun ls hl => ?_)
          refine lv_iinc (v := iI (((u : Nat) : Int) + 1)) (lv' := [(4, .int (iI (((u : Nat) : Int) + 1))), (3, .int (iI (S 22 (16 * h + ((u : Nat) : Int))))), (2, .int (iI (S 20 (16 * h + ((u : Nat) : Int))))), (6, .int (iI 1)), (5, .ref (ad 10 h ((u : Nat) : Int))), (0, .ref (ad 7 h 0)), (1, .int (iI asked))]) hx hb dX1_conditionOn_103 hl (k := 6) rfl (iI_add _ _) (by decide) rfl (fun ls hl => ?_)
          refine lv_goto (tgt := 8) hx hb dX1_conditionOn_106 (by decide) ?_
          have e0 : (latD S h asked (u + 1) : Int) = S 20 (16 * h + ((u : Nat) : Int)) := by
            first | exact (latD_t h0.1 (by omega) (by omega)).1 | exact (latD_f (by omega) (by omega)).1
          have e1 : (conD S h asked (u + 1) : Int) = S 22 (16 * h + ((u : Nat) : Int)) := by
            first | (rw [(latD_t h0.1 (by omega) (by omega)).2]; first | exact cI_t (by omega) | exact cI_f (by omega)) | exact (latD_f (by omega) (by omega)).2
          have e2 : ((((u + 1) : Nat) : Int) : Int) = ((u : Nat) : Int) + 1 := by
            omega
          exact ihu (by omega) ls (lv_sub hl [5, 6, 2, 1, 0] (by simp only [e0, e1, e2]; rfl))
    · refine q_aload hx hb dX1_conditionOn_43 (lv_at hl 0 rfl) ?_
      refine q_get (v := .int (iI (S 21 (16 * h + ((u : Nat) : Int))))) (C := RX0) (T := TX0) (N := 4) hx hb hts inX0 hown hK (hC.event (k := h) (j := ((u : Nat) : Int)) h0 ⟨by omega, by omega⟩) rfl 1 (by decide) (hts (.fieldLink RX1 69 "TavernBench$Event" "kind" "I") (by decide +kernel)) (fun _ h9 => h9) rfl dX1_conditionOn_45 ?_
      refine lv_iconst (v := iI 5) hx hb dX1_conditionOn_48 rfl ?_
      refine q_icmp_ne (tgt := 56) hx hb dX1_conditionOn_49 (by decide) (hI.R (by decide)) (by decide) (fun c49 => ?_) (fun c49 => ?_)
      · refine lv_iconst (v := iI 0) hx hb dX1_conditionOn_56 rfl ?_
        refine lv_istore (lv' := [(6, .int (iI 0)), (5, .ref (ad 10 h ((u : Nat) : Int))), (0, .ref (ad 7 h 0)), (1, .int (iI asked)), (2, .int (iI (latD S h asked u))), (3, .int (iI (conD S h asked u))), (4, .int (iI ((u : Nat) : Int)))]) hx hb dX1_conditionOn_57 hl (by decide) rfl (fun ls hl => ?_)
        refine lv_iload hx hb dX1_conditionOn_59 (lv_at hl 0 rfl) ?_
        refine q_if_eq (tgt := 103) hx hb dX1_conditionOn_61 (by decide) (by decide) (fun c61_1 => ?_) (fun c61_1 => ?_)
        rotate_left
        · exact absurd c61_1 (by decide)
        refine lv_iinc (v := iI (((u : Nat) : Int) + 1)) (lv' := [(4, .int (iI (((u : Nat) : Int) + 1))), (6, .int (iI 0)), (5, .ref (ad 10 h ((u : Nat) : Int))), (0, .ref (ad 7 h 0)), (1, .int (iI asked)), (2, .int (iI (latD S h asked u))), (3, .int (iI (conD S h asked u)))]) hx hb dX1_conditionOn_103 hl (k := 6) rfl (iI_add _ _) (by decide) rfl (fun ls hl => ?_)
        refine lv_goto (tgt := 8) hx hb dX1_conditionOn_106 (by decide) ?_
        have e0 : (latD S h asked (u + 1) : Int) = latD S h asked u := by
          first | exact (latD_t h0.1 (by omega) (by omega)).1 | exact (latD_f (by omega) (by omega)).1
        have e1 : (conD S h asked (u + 1) : Int) = conD S h asked u := by
          first | (rw [(latD_t h0.1 (by omega) (by omega)).2]; first | exact cI_t (by omega) | exact cI_f (by omega)) | exact (latD_f (by omega) (by omega)).2
        have e2 : ((((u + 1) : Nat) : Int) : Int) = ((u : Nat) : Int) + 1 := by
          omega
        exact ihu (by omega) ls (lv_sub hl [3, 4, 5, 6, 0] (by simp only [e0, e1, e2]; rfl))
      · refine lv_iconst (v := iI 1) hx hb dX1_conditionOn_52 rfl ?_
        refine lv_goto (tgt := 57) hx hb dX1_conditionOn_53 (by decide) ?_
        refine lv_istore (lv' := [(6, .int (iI 1)), (5, .ref (ad 10 h ((u : Nat) : Int))), (0, .ref (ad 7 h 0)), (1, .int (iI asked)), (2, .int (iI (latD S h asked u))), (3, .int (iI (conD S h asked u))), (4, .int (iI ((u : Nat) : Int)))]) hx hb dX1_conditionOn_57 hl (by decide) rfl (fun ls hl => ?_)
        refine lv_iload hx hb dX1_conditionOn_59 (lv_at hl 0 rfl) ?_
        refine q_if_eq (tgt := 103) hx hb dX1_conditionOn_61 (by decide) (by decide) (fun c61_2 => ?_) (fun c61_2 => ?_)
        · exact absurd c61_2 (by decide)
        refine q_aload hx hb dX1_conditionOn_64 (lv_at hl 1 rfl) ?_
        refine q_get (v := .int (iI (S 20 (16 * h + ((u : Nat) : Int))))) (C := RX0) (T := TX0) (N := 4) hx hb hts inX0 hown hK (hC.event (k := h) (j := ((u : Nat) : Int)) h0 ⟨by omega, by omega⟩) rfl 0 (by decide) (hts (.fieldLink RX1 87 "TavernBench$Event" "day" "I") (by decide +kernel)) (fun _ h9 => h9) rfl dX1_conditionOn_66 ?_
        refine lv_iload_n hx hb dX1_conditionOn_69 rfl (lv_at hl 4 rfl) ?_
        refine lv_iload_n hx hb dX1_conditionOn_70 rfl (lv_at hl 3 rfl) ?_
        refine q_cNi (As := [.int (iI (S 20 (16 * h + ((u : Nat) : Int)))), .int (iI (latD S h asked u)), .int (iI asked)]) (rest := []) ⟨hx, hb, hml, hown, hts⟩ (c5_isIn l g (S 20 (16 * h + ((u : Nat) : Int))) (latD S h asked u) asked (hI.R (by decide)) (by omega) r_asked ) ⟨va_cnB 3 hts gX1_conditionOn_X5_isIn_n97 rfl rfl rfl hK.2 (hts (.initialized RX5) (by decide +kernel)) (by decide +kernel) ⟨Nat.le_of_ble_eq_true rfl, Nat.le_of_ble_eq_true rfl⟩, hts (.static yX5_isIn) (by decide +kernel), trivial⟩ (q_pS hK trivial) rfl hl.1 rfl (Nat.le_of_ble_eq_true rfl) ⟨Nat.zero_le _, Nat.zero_le _⟩ dX1_conditionOn_71 ?_
        refine q_ifb_eq (tgt := 103) hx hb dX1_conditionOn_74 (by decide) (fun c74_1 => ?_) (fun c74_1 => ?_)
        · refine lv_iinc (v := iI (((u : Nat) : Int) + 1)) (lv' := [(4, .int (iI (((u : Nat) : Int) + 1))), (6, .int (iI 1)), (5, .ref (ad 10 h ((u : Nat) : Int))), (0, .ref (ad 7 h 0)), (1, .int (iI asked)), (2, .int (iI (latD S h asked u))), (3, .int (iI (conD S h asked u)))]) hx hb dX1_conditionOn_103 hl (k := 6) rfl (iI_add _ _) (by decide) rfl (fun ls hl => ?_)
          refine lv_goto (tgt := 8) hx hb dX1_conditionOn_106 (by decide) ?_
          have e0 : (latD S h asked (u + 1) : Int) = latD S h asked u := by
            first | exact (latD_t h0.1 (by omega) (by omega)).1 | exact (latD_f (by omega) (by omega)).1
          have e1 : (conD S h asked (u + 1) : Int) = conD S h asked u := by
            first | (rw [(latD_t h0.1 (by omega) (by omega)).2]; first | exact cI_t (by omega) | exact cI_f (by omega)) | exact (latD_f (by omega) (by omega)).2
          have e2 : ((((u + 1) : Nat) : Int) : Int) = ((u : Nat) : Int) + 1 := by
            omega
          exact ihu (by omega) ls (lv_sub hl [3, 4, 5, 6, 0] (by simp only [e0, e1, e2]; rfl))
        · refine q_aload hx hb dX1_conditionOn_77 (lv_at hl 1 rfl) ?_
          refine q_get (v := .int (iI (S 20 (16 * h + ((u : Nat) : Int))))) (C := RX0) (T := TX0) (N := 4) hx hb hts inX0 hown hK (hC.event (k := h) (j := ((u : Nat) : Int)) h0 ⟨by omega, by omega⟩) rfl 0 (by decide) (hts (.fieldLink RX1 87 "TavernBench$Event" "day" "I") (by decide +kernel)) (fun _ h9 => h9) rfl dX1_conditionOn_79 ?_
          refine lv_istore_n (lv' := [(2, .int (iI (S 20 (16 * h + ((u : Nat) : Int))))), (6, .int (iI 1)), (5, .ref (ad 10 h ((u : Nat) : Int))), (0, .ref (ad 7 h 0)), (1, .int (iI asked)), (3, .int (iI (conD S h asked u))), (4, .int (iI ((u : Nat) : Int)))]) hx hb dX1_conditionOn_82 rfl hl (by decide) rfl (fun ls hl => ?_)
          refine q_aload hx hb dX1_conditionOn_83 (lv_at hl 2 rfl) ?_
          refine q_get (v := .int (iI (S 21 (16 * h + ((u : Nat) : Int))))) (C := RX0) (T := TX0) (N := 4) hx hb hts inX0 hown hK (hC.event (k := h) (j := ((u : Nat) : Int)) h0 ⟨by omega, by omega⟩) rfl 1 (by decide) (hts (.fieldLink RX1 69 "TavernBench$Event" "kind" "I") (by decide +kernel)) (fun _ h9 => h9) rfl dX1_conditionOn_85 ?_
          refine lv_iconst (v := iI 4) hx hb dX1_conditionOn_88 rfl ?_
          refine q_icmp_ne (tgt := 100) hx hb dX1_conditionOn_89 (by decide) (hI.R (by decide)) (by decide) (fun c89_1 => ?_) (fun c89_1 => ?_)
          · refine q_bipush hx hb (-4) dX1_conditionOn_100 (by decide +kernel) ?_
            refine lv_istore_n (lv' := [(3, .int (iI (-4))), (2, .int (iI (S 20 (16 * h + ((u : Nat) : Int))))), (6, .int (iI 1)), (5, .ref (ad 10 h ((u : Nat) : Int))), (0, .ref (ad 7 h 0)), (1, .int (iI asked)), (4, .int (iI ((u : Nat) : Int)))]) hx hb dX1_conditionOn_102 rfl hl (by decide) rfl (fun ls hl => ?_)
            refine lv_iinc (v := iI (((u : Nat) : Int) + 1)) (lv' := [(4, .int (iI (((u : Nat) : Int) + 1))), (3, .int (iI (-4))), (2, .int (iI (S 20 (16 * h + ((u : Nat) : Int))))), (6, .int (iI 1)), (5, .ref (ad 10 h ((u : Nat) : Int))), (0, .ref (ad 7 h 0)), (1, .int (iI asked))]) hx hb dX1_conditionOn_103 hl (k := 6) rfl (iI_add _ _) (by decide) rfl (fun ls hl => ?_)
            refine lv_goto (tgt := 8) hx hb dX1_conditionOn_106 (by decide) ?_
            have e0 : (latD S h asked (u + 1) : Int) = S 20 (16 * h + ((u : Nat) : Int)) := by
              first | exact (latD_t h0.1 (by omega) (by omega)).1 | exact (latD_f (by omega) (by omega)).1
            have e1 : (conD S h asked (u + 1) : Int) = (-4) := by
              first | (rw [(latD_t h0.1 (by omega) (by omega)).2]; first | exact cI_t (by omega) | exact cI_f (by omega)) | exact (latD_f (by omega) (by omega)).2
            have e2 : ((((u + 1) : Nat) : Int) : Int) = ((u : Nat) : Int) + 1 := by
              omega
            exact ihu (by omega) ls (lv_sub hl [5, 6, 2, 1, 0] (by simp only [e0, e1, e2]; rfl))
          · refine q_aload hx hb dX1_conditionOn_92 (lv_at hl 2 rfl) ?_
            refine q_get (v := .int (iI (S 22 (16 * h + ((u : Nat) : Int))))) (C := RX0) (T := TX0) (N := 4) hx hb hts inX0 hown hK (hC.event (k := h) (j := ((u : Nat) : Int)) h0 ⟨by omega, by omega⟩) rfl 2 (by decide) (hts (.fieldLink RX1 70 "TavernBench$Event" "v" "I") (by decide +kernel)) (fun _ h9 => h9) rfl dX1_conditionOn_94 ?_
            refine lv_goto (tgt := 102) hx hb dX1_conditionOn_97 (by decide) ?_
            refine lv_istore_n (lv' := [(3, .int (iI (S 22 (16 * h + ((u : Nat) : Int))))), (2, .int (iI (S 20 (16 * h + ((u : Nat) : Int))))), (6, .int (iI 1)), (5, .ref (ad 10 h ((u : Nat) : Int))), (0, .ref (ad 7 h 0)), (1, .int (iI asked)), (4, .int (iI ((u : Nat) : Int)))]) hx hb dX1_conditionOn_102 rfl hl (by decide) rfl (fun ls hl => ?_)
            refine lv_iinc (v := iI (((u : Nat) : Int) + 1)) (lv' := [(4, .int (iI (((u : Nat) : Int) + 1))), (3, .int (iI (S 22 (16 * h + ((u : Nat) : Int))))), (2, .int (iI (S 20 (16 * h + ((u : Nat) : Int))))), (6, .int (iI 1)), (5, .ref (ad 10 h ((u : Nat) : Int))), (0, .ref (ad 7 h 0)), (1, .int (iI asked))]) hx hb dX1_conditionOn_103 hl (k := 6) rfl (iI_add _ _) (by decide) rfl (fun ls hl => ?_)
            refine lv_goto (tgt := 8) hx hb dX1_conditionOn_106 (by decide) ?_
            have e0 : (latD S h asked (u + 1) : Int) = S 20 (16 * h + ((u : Nat) : Int)) := by
              first | exact (latD_t h0.1 (by omega) (by omega)).1 | exact (latD_f (by omega) (by omega)).1
            have e1 : (conD S h asked (u + 1) : Int) = S 22 (16 * h + ((u : Nat) : Int)) := by
              first | (rw [(latD_t h0.1 (by omega) (by omega)).2]; first | exact cI_t (by omega) | exact cI_f (by omega)) | exact (latD_f (by omega) (by omega)).2
            have e2 : ((((u + 1) : Nat) : Int) : Int) = ((u : Nat) : Int) + 1 := by
              omega
            exact ihu (by omega) ls (lv_sub hl [5, 6, 2, 1, 0] (by simp only [e0, e1, e2]; rfl))

set_option maxHeartbeats 4000000 in
set_option maxRecDepth 100000 in
theorem c1_worthOn (l : Launch) (g : GG) (eA : Nat) (P : Nat → Prop) (ad : AD) (S : St) (hI : Inv S) (hQ : InvC S) (h : Int) (h0 : 0 ≤ h ∧ h < S 14 0) (asked : Int) (r_asked : R32 asked)  : MetI l yX1_worthOn wsX1_worthOn ({ frames := 3, cells := 0, slots := 0, locals := 64 }) g [.ref (ad 7 h 0), .int (iI asked)] (fun H => RepC g eA P ad S H) (sWorth S h asked) := by
  refine Met.ofW (cc := cX1_worthOn) (maxL := 6) (ret := (some .int)) (by decide) rfl ?_
  intro p e s m args below meth c s₁ B hml hv
  obtain ⟨rfl, hC, hK⟩ := hv
  have hx := B.exec
  have hb := B.bytes
  have hr := B.returns
  have hts := atoms_spec (ws := wsX1_worthOn) B.pre
  have hown : s.vm.findClass RX1 = some m.cls := findClass_of_methodNamed B.named
  have hlocks := B.notSynchronized
  have inX1 : ∀ w ∈ wsX10, w ∈ wsX1_worthOn := by decide +kernel
  have inX4 : ∀ w ∈ wsX40, w ∈ wsX1_worthOn := by decide +kernel
  have hl := lv_entry ([.ref (ad 7 h 0), .int (iI asked)]) (n := 6) (Nat.le_of_ble_eq_true rfl)
  rw [lg_entry_eq]
  generalize (lg_sl ([.ref (ad 7 h 0), .int (iI asked)]) ++ List.replicate (6 - (lg_sl ([.ref (ad 7 h 0), .int (iI asked)])).length) Slot.unset).toArray = ls at hl ⊢
  have hl : lv_has ls 6 [(0, .ref (ad 7 h 0)), (1, .int (iI asked))] := hl
  have hH := hI.house h0.1 h0.2
  have hN := hI.nums
  refine lv_iconst (v := iI 0) hx hb dX1_worthOn_0 rfl ?_
  refine lv_istore_n (lv' := [(2, .int (iI 0)), (0, .ref (ad 7 h 0)), (1, .int (iI asked))]) hx hb dX1_worthOn_1 rfl hl (by decide) rfl (fun ls hl => ?_)
  refine q_join (nL := 6) 30 [.int (iI (S 25 (8 * h + 0)))] [(2, .int (iI 0)), (0, .ref (ad 7 h 0)), (1, .int (iI asked))] (fun ls hl => ?_) (fun J30 => ?_)
  · refine lv_istore_n (lv' := [(3, .int (iI (S 25 (8 * h + 0)))), (2, .int (iI 0)), (0, .ref (ad 7 h 0)), (1, .int (iI asked))]) hx hb dX1_worthOn_30 rfl hl (by decide) rfl (fun ls hl => ?_)
    refine lv_iconst (v := iI 0) hx hb dX1_worthOn_31 rfl ?_
    refine lv_istore (lv' := [(4, .int (iI 0)), (3, .int (iI (S 25 (8 * h + 0)))), (2, .int (iI 0)), (0, .ref (ad 7 h 0)), (1, .int (iI asked))]) hx hb dX1_worthOn_32 hl (by decide) rfl (fun ls hl => ?_)
    have e0 : (wLat S h asked 0 : Int) = 0 := by
      exact cI_t (Or.inl rfl)
    have e1 : (S 25 (sWat S h asked 0) : Int) = S 25 (8 * h + 0) := by
      show S 25 (8 * h) = S 25 (8 * h + 0)
      rw [Int.add_zero]
    have e2 : (((0 : Nat) : Int) : Int) = 0 := by
      rfl
    refine q_loopN (nL := 6) ((S 23 h).toNat) (fun (u : Nat) => [(0, .ref (ad 7 h 0)), (1, .int (iI asked)), (2, .int (iI (wLat S h asked u))), (3, .int (iI (S 25 (sWat S h asked u)))), (4, .int (iI ((u : Nat) : Int)))]) (lv_sub hl [3, 4, 2, 1, 0] (by simp only [e0, e1, e2]; rfl)) (fun u hu ihu ls hl => ?_)
    have hl : lv_has ls 6 [(0, .ref (ad 7 h 0)), (1, .int (iI asked)), (2, .int (iI (wLat S h asked u))), (3, .int (iI (S 25 (sWat S h asked u)))), (4, .int (iI ((u : Nat) : Int)))] := hl
    have hlat := wLat_b hI h0 (day := asked) (n := u) (by omega)
    refine lv_iload hx hb dX1_worthOn_34 (lv_at hl 4 rfl) ?_
    refine lv_aload_n hx hb dX1_worthOn_36 rfl (lv_at hl 0 rfl) ?_
    refine q_get (v := .ref (ad 8 h 1)) (C := RX1) (T := TX1) (N := 7) hx hb hts inX1 hown hK (hC.house (k := h) h0) rfl 5 (by decide) (hts (.fieldLink RX1 31 "TavernBench$House" "worths" "Ljava/util/ArrayList;") (by decide +kernel)) (fun _ h9 => h9) rfl dX1_worthOn_37 ?_
    refine q_cVi (As := []) (rest := [.int (iI ((u : Nat) : Int))]) ⟨hx, hb, hml, hown, hts⟩ (c0_size l g eA (ad 8 h 1) (ad 9 h 1) (S 23 h)) (cwV 0 hts gX1_worthOn_Jx4a65c_size_8abf5 rfl rfl rfl (by decide +kernel) ⟨Nat.le_of_ble_eq_true rfl, Nat.le_of_ble_eq_true rfl⟩) (q_pV hK (hC.hlst (k := h) (j := 1) h0 (by decide)) rfl (hC.hlst (k := h) (j := 1) h0 (by decide))) rfl hl.1 rfl (Nat.le_of_ble_eq_true rfl) ⟨Nat.zero_le _, Nat.zero_le _⟩ dX1_worthOn_40 ?_
    refine q_icmp_ge (tgt := 91) hx hb dX1_worthOn_43 (by decide) (by omega) (hI.R (by decide)) (fun c43 => ?_) (fun c43 => ?_)
    · refine lv_iload_n hx hb dX1_worthOn_91 rfl (lv_at hl 3 rfl) ?_
      refine q_reti hx hb hr hlocks dX1_worthOn_92 ?_
      have e : u = (S 23 h).toNat := by omega
      rw [e]
      rfl
    · refine lv_aload_n hx hb dX1_worthOn_46 rfl (lv_at hl 0 rfl) ?_
      refine q_get (v := .ref (ad 8 h 1)) (C := RX1) (T := TX1) (N := 7) hx hb hts inX1 hown hK (hC.house (k := h) h0) rfl 5 (by decide) (hts (.fieldLink RX1 31 "TavernBench$House" "worths" "Ljava/util/ArrayList;") (by decide +kernel)) (fun _ h9 => h9) rfl dX1_worthOn_47 ?_
      refine lv_iload hx hb dX1_worthOn_50 (lv_at hl 4 rfl) ?_
      refine q_cVr (As := [.int (iI ((u : Nat) : Int))]) (rest := []) ⟨hx, hb, hml, hown, hts⟩ (c0_get l g eA (ad 8 h 1) (ad 9 h 1) (S 23 h) (fun q => ad 11 h q) ((u : Nat) : Int) (by omega) ⟨by omega, by omega⟩ (by omega)) (cwV 1 hts gX1_worthOn_Jx4a65c_get_915e3 rfl rfl rfl (by decide +kernel) ⟨Nat.le_of_ble_eq_true rfl, Nat.le_of_ble_eq_true rfl⟩) (q_pV hK (hC.hlst (k := h) (j := 1) h0 (by decide)) rfl ⟨(hC.hlst (k := h) (j := 1) h0 (by decide)), (hC.harr (k := h) (j := 1) h0 (by decide) (by show 0 < S 23 h; omega))⟩) rfl hl.1 rfl (Nat.le_of_ble_eq_true rfl) ⟨Nat.zero_le _, Nat.zero_le _⟩ dX1_worthOn_52 ?_
      refine q_cast (C := RX4) (T := TX4) (N := 2) hx hb hown (hts (.classLink RX1 34 RX4) (by decide +kernel)) hK (hC.worth (k := h) (j := ((u : Nat) : Int)) h0 ⟨by omega, by omega⟩) rfl dX1_worthOn_55 ?_
      refine lv_astore (lv' := [(5, .ref (ad 11 h ((u : Nat) : Int))), (0, .ref (ad 7 h 0)), (1, .int (iI asked)), (2, .int (iI (wLat S h asked u))), (3, .int (iI (S 25 (sWat S h asked u)))), (4, .int (iI ((u : Nat) : Int)))]) hx hb dX1_worthOn_58 hl (by decide) rfl (fun ls hl => ?_)
      have hv := hI.wo h0.1 h0.2 (j := ((u : Nat) : Int)) (by omega) (by omega)
      refine q_aload hx hb dX1_worthOn_60 (lv_at hl 0 rfl) ?_
      refine q_get (v := .int (iI (S 24 (8 * h + ((u : Nat) : Int))))) (C := RX4) (T := TX4) (N := 2) hx hb hts inX4 hown hK (hC.worth (k := h) (j := ((u : Nat) : Int)) h0 ⟨by omega, by omega⟩) rfl 0 (by decide) (hts (.fieldLink RX1 108 "TavernBench$Worth" "day" "I") (by decide +kernel)) (fun _ h9 => h9) rfl dX1_worthOn_62 ?_
      refine lv_iload_n hx hb dX1_worthOn_65 rfl (lv_at hl 3 rfl) ?_
      refine lv_iload_n hx hb dX1_worthOn_66 rfl (lv_at hl 2 rfl) ?_
      refine q_cNi (As := [.int (iI (S 24 (8 * h + ((u : Nat) : Int)))), .int (iI (wLat S h asked u)), .int (iI asked)]) (rest := []) ⟨hx, hb, hml, hown, hts⟩ (c5_isIn l g (S 24 (8 * h + ((u : Nat) : Int))) (wLat S h asked u) asked (hI.R (by decide)) (by omega) r_asked ) ⟨va_cnB 3 hts gX1_worthOn_X5_isIn_n97 rfl rfl rfl hK.2 (hts (.initialized RX5) (by decide +kernel)) (by decide +kernel) ⟨Nat.le_of_ble_eq_true rfl, Nat.le_of_ble_eq_true rfl⟩, hts (.static yX5_isIn) (by decide +kernel), trivial⟩ (q_pS hK trivial) rfl hl.1 rfl (Nat.le_of_ble_eq_true rfl) ⟨Nat.zero_le _, Nat.zero_le _⟩ dX1_worthOn_67 ?_
      refine q_ifb_eq (tgt := 85) hx hb dX1_worthOn_70 (by decide) (fun c70 => ?_) (fun c70 => ?_)
      · refine lv_iinc (v := iI (((u : Nat) : Int) + 1)) (lv' := [(4, .int (iI (((u : Nat) : Int) + 1))), (5, .ref (ad 11 h ((u : Nat) : Int))), (0, .ref (ad 7 h 0)), (1, .int (iI asked)), (2, .int (iI (wLat S h asked u))), (3, .int (iI (S 25 (sWat S h asked u))))]) hx hb dX1_worthOn_85 hl (k := 5) rfl (iI_add _ _) (by decide) rfl (fun ls hl => ?_)
        refine lv_goto (tgt := 34) hx hb dX1_worthOn_88 (by decide) ?_
        have e0 : (wLat S h asked (u + 1) : Int) = wLat S h asked u := by
          first | exact (wLat_t hI h0 (by omega) (by omega)).1 | exact (wLat_f hI h0 (by omega) (by omega)).1
        have e1 : (S 25 (sWat S h asked (u + 1)) : Int) = S 25 (sWat S h asked u) := by
          first | rw [(wLat_t hI h0 (by omega) (by omega)).2] | rw [(wLat_f hI h0 (by omega) (by omega)).2]
        have e2 : ((((u + 1) : Nat) : Int) : Int) = ((u : Nat) : Int) + 1 := by
          omega
        exact ihu (by omega) ls (lv_sub hl [2, 3, 4, 5, 0] (by simp only [e0, e1, e2]; rfl))
      · refine q_aload hx hb dX1_worthOn_73 (lv_at hl 0 rfl) ?_
        refine q_get (v := .int (iI (S 24 (8 * h + ((u : Nat) : Int))))) (C := RX4) (T := TX4) (N := 2) hx hb hts inX4 hown hK (hC.worth (k := h) (j := ((u : Nat) : Int)) h0 ⟨by omega, by omega⟩) rfl 0 (by decide) (hts (.fieldLink RX1 108 "TavernBench$Worth" "day" "I") (by decide +kernel)) (fun _ h9 => h9) rfl dX1_worthOn_75 ?_
        refine lv_istore_n (lv' := [(2, .int (iI (S 24 (8 * h + ((u : Nat) : Int))))), (5, .ref (ad 11 h ((u : Nat) : Int))), (0, .ref (ad 7 h 0)), (1, .int (iI asked)), (3, .int (iI (S 25 (sWat S h asked u)))), (4, .int (iI ((u : Nat) : Int)))]) hx hb dX1_worthOn_78 rfl hl (by decide) rfl (fun ls hl => ?_)
        refine q_aload hx hb dX1_worthOn_79 (lv_at hl 1 rfl) ?_
        refine q_get (v := .int (iI (S 25 (8 * h + ((u : Nat) : Int))))) (C := RX4) (T := TX4) (N := 2) hx hb hts inX4 hown hK (hC.worth (k := h) (j := ((u : Nat) : Int)) h0 ⟨by omega, by omega⟩) rfl 1 (by decide) (hts (.fieldLink RX1 105 "TavernBench$Worth" "amount" "I") (by decide +kernel)) (fun _ h9 => h9) rfl dX1_worthOn_81 ?_
        refine lv_istore_n (lv' := [(3, .int (iI (S 25 (8 * h + ((u : Nat) : Int))))), (2, .int (iI (S 24 (8 * h + ((u : Nat) : Int))))), (5, .ref (ad 11 h ((u : Nat) : Int))), (0, .ref (ad 7 h 0)), (1, .int (iI asked)), (4, .int (iI ((u : Nat) : Int)))]) hx hb dX1_worthOn_84 rfl hl (by decide) rfl (fun ls hl => ?_)
        refine lv_iinc (v := iI (((u : Nat) : Int) + 1)) (lv' := [(4, .int (iI (((u : Nat) : Int) + 1))), (3, .int (iI (S 25 (8 * h + ((u : Nat) : Int))))), (2, .int (iI (S 24 (8 * h + ((u : Nat) : Int))))), (5, .ref (ad 11 h ((u : Nat) : Int))), (0, .ref (ad 7 h 0)), (1, .int (iI asked))]) hx hb dX1_worthOn_85 hl (k := 5) rfl (iI_add _ _) (by decide) rfl (fun ls hl => ?_)
        refine lv_goto (tgt := 34) hx hb dX1_worthOn_88 (by decide) ?_
        have e0 : (wLat S h asked (u + 1) : Int) = S 24 (8 * h + ((u : Nat) : Int)) := by
          first | exact (wLat_t hI h0 (by omega) (by omega)).1 | exact (wLat_f hI h0 (by omega) (by omega)).1
        have e1 : (S 25 (sWat S h asked (u + 1)) : Int) = S 25 (8 * h + ((u : Nat) : Int)) := by
          first | rw [(wLat_t hI h0 (by omega) (by omega)).2] | rw [(wLat_f hI h0 (by omega) (by omega)).2]
        have e2 : ((((u + 1) : Nat) : Int) : Int) = ((u : Nat) : Int) + 1 := by
          omega
        exact ihu (by omega) ls (lv_sub hl [4, 5, 2, 1, 0] (by simp only [e0, e1, e2]; rfl))
  · refine lv_aload_n hx hb dX1_worthOn_2 rfl (lv_at hl 1 rfl) ?_
    refine q_get (v := .ref (ad 8 h 1)) (C := RX1) (T := TX1) (N := 7) hx hb hts inX1 hown hK (hC.house (k := h) h0) rfl 5 (by decide) (hts (.fieldLink RX1 31 "TavernBench$House" "worths" "Ljava/util/ArrayList;") (by decide +kernel)) (fun _ h9 => h9) rfl dX1_worthOn_3 ?_
    refine q_cVi (As := []) (rest := []) ⟨hx, hb, hml, hown, hts⟩ (c0_isEmpty l g eA (ad 8 h 1) (ad 9 h 1) (S 23 h) (by omega)) (cwV 0 hts gX1_worthOn_Jx4a65c_isEmpty_aae02 rfl rfl rfl (by decide +kernel) ⟨Nat.le_of_ble_eq_true rfl, Nat.le_of_ble_eq_true rfl⟩) (q_pV hK (hC.hlst (k := h) (j := 1) h0 (by decide)) rfl (hC.hlst (k := h) (j := 1) h0 (by decide))) rfl hl.1 rfl (Nat.le_of_ble_eq_true rfl) ⟨Nat.zero_le _, Nat.zero_le _⟩ dX1_worthOn_6 ?_
    refine q_ifb_eq (tgt := 16) hx hb dX1_worthOn_9 (by decide) (fun c9 => ?_) (fun c9 => ?_)
    · refine lv_aload_n hx hb dX1_worthOn_16 rfl (lv_at hl 1 rfl) ?_
      refine q_get (v := .ref (ad 8 h 1)) (C := RX1) (T := TX1) (N := 7) hx hb hts inX1 hown hK (hC.house (k := h) h0) rfl 5 (by decide) (hts (.fieldLink RX1 31 "TavernBench$House" "worths" "Ljava/util/ArrayList;") (by decide +kernel)) (fun _ h9 => h9) rfl dX1_worthOn_17 ?_
      refine lv_iconst (v := iI 0) hx hb dX1_worthOn_20 rfl ?_
      refine q_cVr (As := [.int (iI 0)]) (rest := []) ⟨hx, hb, hml, hown, hts⟩ (c0_get l g eA (ad 8 h 1) (ad 9 h 1) (S 23 h) (fun q => ad 11 h q) 0 (by omega) ⟨by omega, by omega⟩ (by omega)) (cwV 1 hts gX1_worthOn_Jx4a65c_get_915e3 rfl rfl rfl (by decide +kernel) ⟨Nat.le_of_ble_eq_true rfl, Nat.le_of_ble_eq_true rfl⟩) (q_pV hK (hC.hlst (k := h) (j := 1) h0 (by decide)) rfl ⟨(hC.hlst (k := h) (j := 1) h0 (by decide)), (hC.harr (k := h) (j := 1) h0 (by decide) (by show 0 < S 23 h; omega))⟩) rfl hl.1 rfl (Nat.le_of_ble_eq_true rfl) ⟨Nat.zero_le _, Nat.zero_le _⟩ dX1_worthOn_21 ?_
      refine q_cast (C := RX4) (T := TX4) (N := 2) hx hb hown (hts (.classLink RX1 34 RX4) (by decide +kernel)) hK (hC.worth (k := h) (j := 0) h0 ⟨by omega, by omega⟩) rfl dX1_worthOn_24 ?_
      refine q_get (v := .int (iI (S 25 (8 * h + 0)))) (C := RX4) (T := TX4) (N := 2) hx hb hts inX4 hown hK (hC.worth (k := h) (j := 0) h0 ⟨by omega, by omega⟩) rfl 1 (by decide) (hts (.fieldLink RX1 105 "TavernBench$Worth" "amount" "I") (by decide +kernel)) (fun _ h9 => h9) rfl dX1_worthOn_27 ?_
      exact J30 ls (lv_sub hl [0, 1, 2] rfl)
    · refine lv_iconst (v := iI 0) hx hb dX1_worthOn_12 rfl ?_
      refine lv_goto (tgt := 30) hx hb dX1_worthOn_13 (by decide) ?_
      refine q_top (z := S 25 (8 * h + 0)) (by
        first | rfl | (exfalso; omega)) ?_
      exact J30 ls (lv_sub hl [0, 1, 2] rfl)

theorem evA_t {ad : AD} {S : St} {h v : Int} (ht : sTold S h v) : evA ad h (sNumb S h v (S 19 h).toNat) = some (ad 10 h (sNumb S h v (S 19 h).toNat)) ∧ 0 ≤ sNumb S h v (S 19 h).toNat ∧ sNumb S h v (S 19 h).toNat < (S 19 h).toNat ∧ qTold S h v (sNumb S h v (S 19 h).toNat).toNat := by
  rcases sNumb_b S h v (S 19 h).toNat with ⟨a, b⟩ | ⟨a, b, c⟩
  · exact absurd ht b
  · refine ⟨?_, a, b, c⟩
    unfold evA
    rw [if_neg (by omega)]
theorem evA_f {ad : AD} {S : St} {h v : Int} (ht : ¬ sTold S h v) : evA ad h (sNumb S h v (S 19 h).toNat) = none := by
  rw [sNumb_0 ht]
  rfl

set_option maxHeartbeats 4000000 in
set_option maxRecDepth 100000 in
theorem c1_mayBeTold (l : Launch) (g : GG) (eA : Nat) (P : Nat → Prop) (ad : AD) (S : St) (hI : Inv S) (hQ : InvC S) (h : Int) (h0 : 0 ≤ h ∧ h < S 14 0) (k : Int) (v : Int) (r_k : R32 k) (r_v : R32 v)  : MetI l yX1_mayBeTold wsX1_mayBeTold ({ frames := 4, cells := 0, slots := 0, locals := 87 }) g [.ref (ad 7 h 0), .int (iI k), .int (iI v)] (fun H => RepC g eA P ad S H) (bI ((k = 0 ∧ ¬ sTold S h v) ∨ (k ≠ 0 ∧ (k ≠ 1 ∨ sTold S h v)))) := by
  refine Met.ofW (cc := cX1_mayBeTold) (maxL := 3) (ret := (some .boolean)) (by decide) rfl ?_
  intro p e s m args below meth c s₁ B hml hv
  obtain ⟨rfl, hC, hK⟩ := hv
  have hx := B.exec
  have hb := B.bytes
  have hr := B.returns
  have hts := atoms_spec (ws := wsX1_mayBeTold) B.pre
  have hown : s.vm.findClass RX1 = some m.cls := findClass_of_methodNamed B.named
  have hlocks := B.notSynchronized
  have hl := lv_entry ([.ref (ad 7 h 0), .int (iI k), .int (iI v)]) (n := 3) (Nat.le_of_ble_eq_true rfl)
  rw [lg_entry_eq]
  generalize (lg_sl ([.ref (ad 7 h 0), .int (iI k), .int (iI v)]) ++ List.replicate (3 - (lg_sl ([.ref (ad 7 h 0), .int (iI k), .int (iI v)])).length) Slot.unset).toArray = ls at hl ⊢
  have hl : lv_has ls 3 [(0, .ref (ad 7 h 0)), (1, .int (iI k)), (2, .int (iI v))] := hl
  have hH := hI.house h0.1 h0.2
  have hN := hI.nums
  refine lv_iload_n hx hb dX1_mayBeTold_0 rfl (lv_at hl 1 rfl) ?_
  refine q_if_ne (tgt := 18) hx hb dX1_mayBeTold_1 (by decide) r_k (fun c1 => ?_) (fun c1 => ?_)
  · refine lv_iload_n hx hb dX1_mayBeTold_18 rfl (lv_at hl 1 rfl) ?_
    refine lv_iconst (v := iI 1) hx hb dX1_mayBeTold_19 rfl ?_
    refine q_icmp_ne (tgt := 31) hx hb dX1_mayBeTold_20 (by decide) r_k (by decide) (fun c20 => ?_) (fun c20 => ?_)
    · refine lv_iconst (v := iI 1) hx hb dX1_mayBeTold_31 rfl ?_
      refine lv_goto (tgt := 36) hx hb dX1_mayBeTold_32 (by decide) ?_
      refine q_retz hx hb hr hlocks (Or.inr rfl) dX1_mayBeTold_36 ?_
      first | exact bI_e1 (Or.inl ⟨by assumption, by assumption⟩) | exact bI_e1 (Or.inr ⟨by assumption, Or.inl (by assumption)⟩) | exact bI_e1 (Or.inr ⟨by assumption, Or.inr (by assumption)⟩) | exact bI_e0 (fun z => z.elim (fun y => y.2 (by assumption)) (fun y => absurd (by assumption) y.1)) | exact bI_e0 (fun z => z.elim (fun y => absurd y.1 (by assumption)) (fun y => y.2.elim (fun w => w (by assumption)) (by assumption)))
    · refine lv_aload_n hx hb dX1_mayBeTold_23 rfl (lv_at hl 0 rfl) ?_
      refine lv_iload_n hx hb dX1_mayBeTold_24 rfl (lv_at hl 2 rfl) ?_
      refine q_cVq (As := [.int (iI v)]) (rest := []) ⟨hx, hb, hml, hown, hts⟩ (c1_offenceNumbered l g eA P ad S (fun k z hk => hI.R hk) h h0 v r_v (by omega)) (cwV 1 hts gX1_mayBeTold_X1_offenceNumbered rfl rfl rfl (by decide +kernel) ⟨Nat.le_of_ble_eq_true rfl, Nat.le_of_ble_eq_true rfl⟩) (q_pV hK (hC.house h0) rfl hC) rfl hl.1 rfl (Nat.le_of_ble_eq_true rfl) ⟨Nat.zero_le _, Nat.zero_le _⟩ dX1_mayBeTold_25 ?_
      by_cases ht : sTold S h v
      · rw [(evA_t ht).1]
        refine lv_ifnull hx hb dX1_mayBeTold_28 ?_
        refine lv_iconst (v := iI 1) hx hb dX1_mayBeTold_31 rfl ?_
        refine lv_goto (tgt := 36) hx hb dX1_mayBeTold_32 (by decide) ?_
        refine q_retz hx hb hr hlocks (Or.inr rfl) dX1_mayBeTold_36 ?_
        first | exact bI_e1 (Or.inl ⟨by assumption, by assumption⟩) | exact bI_e1 (Or.inr ⟨by assumption, Or.inl (by assumption)⟩) | exact bI_e1 (Or.inr ⟨by assumption, Or.inr (by assumption)⟩) | exact bI_e0 (fun z => z.elim (fun y => y.2 (by assumption)) (fun y => absurd (by assumption) y.1)) | exact bI_e0 (fun z => z.elim (fun y => absurd y.1 (by assumption)) (fun y => y.2.elim (fun w => w (by assumption)) (by assumption)))
      · rw [evA_f ht]
        refine lv_ifnullN (tgt := 35) hx hb dX1_mayBeTold_28 (by decide) ?_
        refine lv_iconst (v := iI 0) hx hb dX1_mayBeTold_35 rfl ?_
        refine q_retz hx hb hr hlocks (Or.inl rfl) dX1_mayBeTold_36 ?_
        first | exact bI_e1 (Or.inl ⟨by assumption, by assumption⟩) | exact bI_e1 (Or.inr ⟨by assumption, Or.inl (by assumption)⟩) | exact bI_e1 (Or.inr ⟨by assumption, Or.inr (by assumption)⟩) | exact bI_e0 (fun z => z.elim (fun y => y.2 (by assumption)) (fun y => absurd (by assumption) y.1)) | exact bI_e0 (fun z => z.elim (fun y => absurd y.1 (by assumption)) (fun y => y.2.elim (fun w => w (by assumption)) (by assumption)))
  · refine lv_aload_n hx hb dX1_mayBeTold_4 rfl (lv_at hl 0 rfl) ?_
    refine lv_iload_n hx hb dX1_mayBeTold_5 rfl (lv_at hl 2 rfl) ?_
    refine q_cVq (As := [.int (iI v)]) (rest := []) ⟨hx, hb, hml, hown, hts⟩ (c1_offenceNumbered l g eA P ad S (fun k z hk => hI.R hk) h h0 v r_v (by omega)) (cwV 1 hts gX1_mayBeTold_X1_offenceNumbered rfl rfl rfl (by decide +kernel) ⟨Nat.le_of_ble_eq_true rfl, Nat.le_of_ble_eq_true rfl⟩) (q_pV hK (hC.house h0) rfl hC) rfl hl.1 rfl (Nat.le_of_ble_eq_true rfl) ⟨Nat.zero_le _, Nat.zero_le _⟩ dX1_mayBeTold_6 ?_
    by_cases ht : sTold S h v
    · rw [(evA_t ht).1]
      refine lv_ifnonnull (tgt := 16) hx hb dX1_mayBeTold_9 (by decide) ?_
      refine lv_iconst (v := iI 0) hx hb dX1_mayBeTold_16 rfl ?_
      refine q_retz hx hb hr hlocks (Or.inl rfl) dX1_mayBeTold_17 ?_
      first | exact bI_e1 (Or.inl ⟨by assumption, by assumption⟩) | exact bI_e1 (Or.inr ⟨by assumption, Or.inl (by assumption)⟩) | exact bI_e1 (Or.inr ⟨by assumption, Or.inr (by assumption)⟩) | exact bI_e0 (fun z => z.elim (fun y => y.2 (by assumption)) (fun y => absurd (by assumption) y.1)) | exact bI_e0 (fun z => z.elim (fun y => absurd y.1 (by assumption)) (fun y => y.2.elim (fun w => w (by assumption)) (by assumption)))
    · rw [evA_f ht]
      refine lv_ifnonnullN hx hb dX1_mayBeTold_9 ?_
      refine lv_iconst (v := iI 1) hx hb dX1_mayBeTold_12 rfl ?_
      refine lv_goto (tgt := 17) hx hb dX1_mayBeTold_13 (by decide) ?_
      refine q_retz hx hb hr hlocks (Or.inr rfl) dX1_mayBeTold_17 ?_
      first | exact bI_e1 (Or.inl ⟨by assumption, by assumption⟩) | exact bI_e1 (Or.inr ⟨by assumption, Or.inl (by assumption)⟩) | exact bI_e1 (Or.inr ⟨by assumption, Or.inr (by assumption)⟩) | exact bI_e0 (fun z => z.elim (fun y => y.2 (by assumption)) (fun y => absurd (by assumption) y.1)) | exact bI_e0 (fun z => z.elim (fun y => absurd y.1 (by assumption)) (fun y => y.2.elim (fun w => w (by assumption)) (by assumption)))

def hOpt (ad : AD) (S : St) (h : Int) : Option Nat := if 0 ≤ h ∧ h < S 14 0 then some (ad 7 h 0) else none

set_option maxHeartbeats 4000000 in
set_option maxRecDepth 100000 in
theorem c5_houseAt (l : Launch) (g : GG) (eA : Nat) (P : Nat → Prop) (ad : AD) (S : St) (hI : Inv S) (hQ : InvC S) (h : Int) (r_h : R32 h)  : MetQ l yX5_houseAt wsX5_houseAt ({ frames := 3, cells := 0, slots := 0, locals := 64 }) g [.ref (ad 0 0 0), .int (iI h)] (fun H => RepC g eA P ad S H) (hOpt ad S h) := by
  refine Met.ofW (cc := cX5_houseAt) (maxL := 2) (ret := (some (.object "TavernBench$House"))) (by decide) rfl ?_
  intro p e s m args below meth c s₁ B hml hv
  obtain ⟨rfl, hC, hK⟩ := hv
  have hx := B.exec
  have hb := B.bytes
  have hr := B.returns
  have hts := atoms_spec (ws := wsX5_houseAt) B.pre
  have hown : s.vm.findClass RX5 = some m.cls := findClass_of_methodNamed B.named
  have hlocks := B.notSynchronized
  have inX5 : ∀ w ∈ wsX50, w ∈ wsX5_houseAt := by decide +kernel
  have hl := lv_entry ([.ref (ad 0 0 0), .int (iI h)]) (n := 2) (Nat.le_of_ble_eq_true rfl)
  rw [lg_entry_eq]
  generalize (lg_sl ([.ref (ad 0 0 0), .int (iI h)]) ++ List.replicate (2 - (lg_sl ([.ref (ad 0 0 0), .int (iI h)])).length) Slot.unset).toArray = ls at hl ⊢
  have hl : lv_has ls 2 [(0, .ref (ad 0 0 0)), (1, .int (iI h))] := hl
  have hN := hI.nums
  refine lv_iload_n hx hb dX5_houseAt_0 rfl (lv_at hl 1 rfl) ?_
  refine q_if_lt (tgt := 29) hx hb dX5_houseAt_1 (by decide) r_h (fun c1 => ?_) (fun c1 => ?_)
  · refine lv_null hx hb dX5_houseAt_29 ?_
    refine q_retq (v := none) hx hb hr (Or.inl ⟨_, rfl⟩) hlocks dX5_houseAt_30 ?_
    exact (if_neg (by omega)).symm
  · refine lv_iload_n hx hb dX5_houseAt_4 rfl (lv_at hl 1 rfl) ?_
    refine lv_aload_n hx hb dX5_houseAt_5 rfl (lv_at hl 0 rfl) ?_
    refine q_get (v := .ref (ad 3 2 0)) (C := RX5) (T := TX5) (N := 11) hx hb hts inX5 hown hK hC.obj rfl 2 (by decide) (hts (.fieldLink RX5 19 "TavernBench" "houses" "Ljava/util/ArrayList;") (by decide +kernel)) (fun _ h9 => h9) rfl dX5_houseAt_6 ?_
    refine q_cVi (As := []) (rest := [.int (iI h)]) ⟨hx, hb, hml, hown, hts⟩ (c0_size l g eA (ad 3 2 0) (ad 4 2 0) (S 14 0)) (cwV 0 hts gX5_houseAt_Jx4a65c_size_8abf5 rfl rfl rfl (by decide +kernel) ⟨Nat.le_of_ble_eq_true rfl, Nat.le_of_ble_eq_true rfl⟩) (q_pV hK (hC.lst (k := 2) (by decide)) rfl (hC.lst (k := 2) (by decide))) rfl hl.1 rfl (Nat.le_of_ble_eq_true rfl) ⟨Nat.zero_le _, Nat.zero_le _⟩ dX5_houseAt_9 ?_
    refine q_icmp_ge (tgt := 29) hx hb dX5_houseAt_12 (by decide) r_h (hI.R (by decide)) (fun c12 => ?_) (fun c12 => ?_)
    · refine lv_null hx hb dX5_houseAt_29 ?_
      refine q_retq (v := none) hx hb hr (Or.inl ⟨_, rfl⟩) hlocks dX5_houseAt_30 ?_
      exact (if_neg (by omega)).symm
    · refine lv_aload_n hx hb dX5_houseAt_15 rfl (lv_at hl 0 rfl) ?_
      refine q_get (v := .ref (ad 3 2 0)) (C := RX5) (T := TX5) (N := 11) hx hb hts inX5 hown hK hC.obj rfl 2 (by decide) (hts (.fieldLink RX5 19 "TavernBench" "houses" "Ljava/util/ArrayList;") (by decide +kernel)) (fun _ h9 => h9) rfl dX5_houseAt_16 ?_
      refine lv_iload_n hx hb dX5_houseAt_19 rfl (lv_at hl 1 rfl) ?_
      refine q_cVr (As := [.int (iI h)]) (rest := []) ⟨hx, hb, hml, hown, hts⟩ (c0_get l g eA (ad 3 2 0) (ad 4 2 0) (S 14 0) (fun q => ad 7 q 0) h (by omega) ⟨by omega, by omega⟩ (by omega)) (cwV 1 hts gX5_houseAt_Jx4a65c_get_915e3 rfl rfl rfl (by decide +kernel) ⟨Nat.le_of_ble_eq_true rfl, Nat.le_of_ble_eq_true rfl⟩) (q_pV hK (hC.lst (k := 2) (by decide)) rfl ⟨(hC.lst (k := 2) (by decide)), (hC.arr (k := 2) (by decide) (by show 0 < S 14 0; omega))⟩) rfl hl.1 rfl (Nat.le_of_ble_eq_true rfl) ⟨Nat.zero_le _, Nat.zero_le _⟩ dX5_houseAt_20 ?_
      refine q_cast (C := RX1) (T := TX1) (N := 7) hx hb hown (hts (.classLink RX5 93 RX1) (by decide +kernel)) hK (hC.house (k := h) ⟨by omega, by omega⟩) rfl dX5_houseAt_23 ?_
      refine lv_goto (tgt := 30) hx hb dX5_houseAt_26 (by decide) ?_
      refine q_retq (v := (some (ad 7 h 0))) hx hb hr (Or.inl ⟨_, rfl⟩) hlocks dX5_houseAt_30 ?_
      exact (if_pos (by omega)).symm

set_option maxHeartbeats 4000000 in
set_option maxRecDepth 100000 in
theorem c5_isFeast (l : Launch) (g : GG) (eA : Nat) (P : Nat → Prop) (ad : AD) (S : St) (hI : Inv S) (hQ : InvC S) (d : Int) (r_d : R32 d)  : MetI l yX5_isFeast wsX5_isFeast ({ frames := 0, cells := 0, slots := 0, locals := 0 }) g [.ref (ad 0 0 0), .int (iI d)] (fun H => RepC g eA P ad S H) (bI (sFeast S d)) := by
  refine Met.ofW (cc := cX5_isFeast) (maxL := 3) (ret := (some .boolean)) (by decide) rfl ?_
  intro p e s m args below meth c s₁ B hml hv
  obtain ⟨rfl, hC, hK⟩ := hv
  have hx := B.exec
  have hb := B.bytes
  have hr := B.returns
  have hts := atoms_spec (ws := wsX5_isFeast) B.pre
  have hown : s.vm.findClass RX5 = some m.cls := findClass_of_methodNamed B.named
  have hlocks := B.notSynchronized
  have inX5 : ∀ w ∈ wsX50, w ∈ wsX5_isFeast := by decide +kernel
  have hl := lv_entry ([.ref (ad 0 0 0), .int (iI d)]) (n := 3) (Nat.le_of_ble_eq_true rfl)
  rw [lg_entry_eq]
  generalize (lg_sl ([.ref (ad 0 0 0), .int (iI d)]) ++ List.replicate (3 - (lg_sl ([.ref (ad 0 0 0), .int (iI d)])).length) Slot.unset).toArray = ls at hl ⊢
  have hl : lv_has ls 3 [(0, .ref (ad 0 0 0)), (1, .int (iI d))] := hl
  have hN := hI.nums
  refine lv_iconst (v := iI 0) hx hb dX5_isFeast_0 rfl ?_
  refine lv_istore_n (lv' := [(2, .int (iI 0)), (0, .ref (ad 0 0 0)), (1, .int (iI d))]) hx hb dX5_isFeast_1 rfl hl (by decide) rfl (fun ls hl => ?_)
  have e0 : (((0 : Nat) : Int) : Int) = 0 := by
    rfl
  refine q_loop (nL := 3) (fun (u : Nat) => u ≤ (S 0 0).toNat ∧ ¬ exN (fun k => S 1 (k : Int) = d) u) (fun u => (S 0 0).toNat - u) (fun (u : Nat) => [(0, .ref (ad 0 0 0)), (1, .int (iI d)), (2, .int (iI ((u : Nat) : Int)))]) 0 ⟨Nat.zero_le _, exN_0⟩ (lv_sub hl [1, 2, 0] (by simp only [e0]; rfl)) (fun u hu2 ihu ls hl => ?_)
  have hl : lv_has ls 3 [(0, .ref (ad 0 0 0)), (1, .int (iI d)), (2, .int (iI ((u : Nat) : Int)))] := hl
  have hu1 : u ≤ (S 0 0).toNat := hu2.1
  refine lv_iload_n hx hb dX5_isFeast_2 rfl (lv_at hl 2 rfl) ?_
  refine lv_aload_n hx hb dX5_isFeast_3 rfl (lv_at hl 0 rfl) ?_
  refine q_get (v := .int (iI (S 0 0))) (C := RX5) (T := TX5) (N := 11) hx hb hts inX5 hown hK hC.obj rfl 5 (by decide) (hts (.fieldLink RX5 53 "TavernBench" "feasts" "I") (by decide +kernel)) (fun _ h9 => h9) rfl dX5_isFeast_4 ?_
  refine q_icmp_ge (tgt := 37) hx hb dX5_isFeast_7 (by decide) (by omega) (hI.R (by decide)) (fun c7 => ?_) (fun c7 => ?_)
  · refine lv_iconst (v := iI 0) hx hb dX5_isFeast_37 rfl ?_
    refine q_retz hx hb hr hlocks (Or.inl rfl) dX5_isFeast_38 ?_
    have eu : u = (S 0 0).toNat := by omega
    rw [eu] at hu2
    exact bI_e0 hu2.2
  · refine lv_iload_n hx hb dX5_isFeast_10 rfl (lv_at hl 2 rfl) ?_
    refine lv_aload_n hx hb dX5_isFeast_11 rfl (lv_at hl 0 rfl) ?_
    refine q_get (v := .ref (ad 1 0 0)) (C := RX5) (T := TX5) (N := 11) hx hb hts inX5 hown hK hC.obj rfl 3 (by decide) (hts (.fieldLink RX5 22 "TavernBench" "feastDays" "[I") (by decide +kernel)) (fun _ h9 => h9) rfl dX5_isFeast_12 ?_
    refine q_alen (t0 := 0) (z := 20) hx hb hK hC.feasts rfl rfl dX5_isFeast_15 ?_
    refine q_icmp_ge (tgt := 37) hx hb dX5_isFeast_16 (by decide) (by omega) (by decide) (fun c16 => ?_) (fun c16 => ?_)
    · refine lv_iconst (v := iI 0) hx hb dX5_isFeast_37 rfl ?_
      refine q_retz hx hb hr hlocks (Or.inl rfl) dX5_isFeast_38 ?_
      have eu : u = (S 0 0).toNat := by omega
      rw [eu] at hu2
      exact bI_e0 hu2.2
    · refine lv_aload_n hx hb dX5_isFeast_19 rfl (lv_at hl 0 rfl) ?_
      refine q_get (v := .ref (ad 1 0 0)) (C := RX5) (T := TX5) (N := 11) hx hb hts inX5 hown hK hC.obj rfl 3 (by decide) (hts (.fieldLink RX5 22 "TavernBench" "feastDays" "[I") (by decide +kernel)) (fun _ h9 => h9) rfl dX5_isFeast_20 ?_
      refine lv_iload_n hx hb dX5_isFeast_23 rfl (lv_at hl 2 rfl) ?_
      refine q_iald (f := S 1) hx hb hK hC.feasts (by decide) ⟨by omega, by omega⟩ dX5_isFeast_24 ?_
      refine lv_iload_n hx hb dX5_isFeast_25 rfl (lv_at hl 1 rfl) ?_
      refine q_icmp_ne (tgt := 31) hx hb dX5_isFeast_26 (by decide) (hI.R (by decide)) r_d (fun c26 => ?_) (fun c26 => ?_)
      · refine lv_iinc (v := iI (((u : Nat) : Int) + 1)) (lv' := [(2, .int (iI (((u : Nat) : Int) + 1))), (0, .ref (ad 0 0 0)), (1, .int (iI d))]) hx hb dX5_isFeast_31 hl (k := 2) rfl (iI_add _ _) (by decide) rfl (fun ls hl => ?_)
        refine lv_goto (tgt := 2) hx hb dX5_isFeast_34 (by decide) ?_
        have e0 : ((((u + 1) : Nat) : Int) : Int) = ((u : Nat) : Int) + 1 := by
          omega
        exact ihu (u + 1) ⟨by omega, fun z => (exN_s.mp z).elim hu2.2 (by assumption)⟩ (by show (S 0 0).toNat - (u + 1) < (S 0 0).toNat - u; omega) ls (lv_sub hl [1, 2, 0] (by simp only [e0]; rfl))
      · refine lv_iconst (v := iI 1) hx hb dX5_isFeast_29 rfl ?_
        refine q_retz hx hb hr hlocks (Or.inr rfl) dX5_isFeast_30 ?_
        exact bI_e1 ⟨u, by omega, by assumption⟩

set_option maxHeartbeats 4000000 in
set_option maxRecDepth 100000 in
theorem c5_lawOf (l : Launch) (g : GG) (eA : Nat) (P : Nat → Prop) (ad : AD) (S : St) (hI : Inv S) (hQ : InvC S) (k : Int) (day : Int) (r_k : R32 k) (r_day : R32 day) (hd : isD day) : MetQ l yX5_lawOf wsX5_lawOf ({ frames := 3, cells := 0, slots := 0, locals := 64 }) g [.ref (ad 0 0 0), .int (iI k), .int (iI day)] (fun H => RepC g eA P ad S H) (some (lawA ad (sLawOf S k day))) := by
  refine Met.ofW (cc := cX5_lawOf) (maxL := 8) (ret := (some (.object "TavernBench$Law"))) (by decide) rfl ?_
  intro p e s m args below meth c s₁ B hml hv
  obtain ⟨rfl, hC, hK⟩ := hv
  have hx := B.exec
  have hb := B.bytes
  have hr := B.returns
  have hts := atoms_spec (ws := wsX5_lawOf) B.pre
  have hown : s.vm.findClass RX5 = some m.cls := findClass_of_methodNamed B.named
  have hlocks := B.notSynchronized
  have inX2 : ∀ w ∈ wsX20, w ∈ wsX5_lawOf := by decide +kernel
  have inX5 : ∀ w ∈ wsX50, w ∈ wsX5_lawOf := by decide +kernel
  have hl := lv_entry ([.ref (ad 0 0 0), .int (iI k), .int (iI day)]) (n := 8) (Nat.le_of_ble_eq_true rfl)
  rw [lg_entry_eq]
  generalize (lg_sl ([.ref (ad 0 0 0), .int (iI k), .int (iI day)]) ++ List.replicate (8 - (lg_sl ([.ref (ad 0 0 0), .int (iI k), .int (iI day)])).length) Slot.unset).toArray = ls at hl ⊢
  have hl : lv_has ls 8 [(0, .ref (ad 0 0 0)), (1, .int (iI k)), (2, .int (iI day))] := hl
  have hN := hI.nums
  refine lv_aload_n hx hb dX5_lawOf_0 rfl (lv_at hl 0 rfl) ?_
  refine lv_iload_n hx hb dX5_lawOf_1 rfl (lv_at hl 2 rfl) ?_
  refine q_cVi (As := [.int (iI day)]) (rest := []) ⟨hx, hb, hml, hown, hts⟩ (c5_isFeast l g eA P ad S hI hQ day r_day ) (cwV 1 hts gX5_lawOf_X5_isFeast rfl rfl rfl (by decide +kernel) ⟨Nat.le_of_ble_eq_true rfl, Nat.le_of_ble_eq_true rfl⟩) (q_pV hK hC.obj rfl hC) rfl hl.1 rfl (Nat.le_of_ble_eq_true rfl) ⟨Nat.zero_le _, Nat.zero_le _⟩ dX5_lawOf_2 ?_
  refine q_join (nL := 8) 17 [.int (iI (sWeek S day))] [(0, .ref (ad 0 0 0)), (1, .int (iI k)), (2, .int (iI day))] (fun ls hl => ?_) (fun J17 => ?_)
  · have hwk : 0 ≤ sWeek S day ∧ sWeek S day ≤ 7 := by
      unfold sWeek
      by_cases z : sFeast S day
      · rw [cI_t z]; decide
      · rw [cI_f z]; omega
    refine lv_istore_n (lv' := [(3, .int (iI (sWeek S day))), (0, .ref (ad 0 0 0)), (1, .int (iI k)), (2, .int (iI day))]) hx hb dX5_lawOf_17 rfl hl (by decide) rfl (fun ls hl => ?_)
    refine lv_aload_n hx hb dX5_lawOf_18 rfl (lv_at hl 1 rfl) ?_
    refine q_get (v := .ref (lawA ad (-1))) (C := RX5) (T := TX5) (N := 11) hx hb hts inX5 hown hK hC.obj rfl 4 (by decide) (hts (.fieldLink RX5 31 "TavernBench" "shutLaw" "LTavernBench$Law;") (by decide +kernel)) (fun _ h9 => h9) rfl dX5_lawOf_19 ?_
    refine lv_astore (lv' := [(4, .ref (lawA ad (-1))), (3, .int (iI (sWeek S day))), (0, .ref (ad 0 0 0)), (1, .int (iI k)), (2, .int (iI day))]) hx hb dX5_lawOf_22 hl (by decide) rfl (fun ls hl => ?_)
    refine lv_iconst (v := iI 0) hx hb dX5_lawOf_24 rfl ?_
    refine lv_istore (lv' := [(5, .int (iI 0)), (4, .ref (lawA ad (-1))), (3, .int (iI (sWeek S day))), (0, .ref (ad 0 0 0)), (1, .int (iI k)), (2, .int (iI day))]) hx hb dX5_lawOf_25 hl (by decide) rfl (fun ls hl => ?_)
    have e0 : (.ref (lawA ad (sLaw S k day 0)) : Value) = .ref (lawA ad (-1)) := by
      rfl
    have e1 : (((0 : Nat) : Int) : Int) = 0 := by
      rfl
    refine q_loopN (nL := 8) ((S 2 0).toNat) (fun (u : Nat) => [(0, .ref (ad 0 0 0)), (1, .int (iI k)), (2, .int (iI day)), (3, .int (iI (sWeek S day))), (4, .ref (lawA ad (sLaw S k day u))), (5, .int (iI ((u : Nat) : Int)))]) (lv_sub hl [3, 4, 5, 2, 1, 0] (by simp only [e0, e1]; rfl)) (fun u hu ihu ls hl => ?_)
    have hl : lv_has ls 8 [(0, .ref (ad 0 0 0)), (1, .int (iI k)), (2, .int (iI day)), (3, .int (iI (sWeek S day))), (4, .ref (lawA ad (sLaw S k day u))), (5, .int (iI ((u : Nat) : Int)))] := hl
    have hlb := sLaw_b S k day u
    refine lv_iload hx hb dX5_lawOf_27 (lv_at hl 5 rfl) ?_
    refine lv_aload_n hx hb dX5_lawOf_29 rfl (lv_at hl 0 rfl) ?_
    refine q_get (v := .ref (ad 3 0 0)) (C := RX5) (T := TX5) (N := 11) hx hb hts inX5 hown hK hC.obj rfl 0 (by decide) (hts (.fieldLink RX5 10 "TavernBench" "laws" "Ljava/util/ArrayList;") (by decide +kernel)) (fun _ h9 => h9) rfl dX5_lawOf_30 ?_
    refine q_cVi (As := []) (rest := [.int (iI ((u : Nat) : Int))]) ⟨hx, hb, hml, hown, hts⟩ (c0_size l g eA (ad 3 0 0) (ad 4 0 0) (S 2 0)) (cwV 0 hts gX5_lawOf_Jx4a65c_size_8abf5 rfl rfl rfl (by decide +kernel) ⟨Nat.le_of_ble_eq_true rfl, Nat.le_of_ble_eq_true rfl⟩) (q_pV hK (hC.lst (k := 0) (by decide)) rfl (hC.lst (k := 0) (by decide))) rfl hl.1 rfl (Nat.le_of_ble_eq_true rfl) ⟨Nat.zero_le _, Nat.zero_le _⟩ dX5_lawOf_33 ?_
    refine q_icmp_ge (tgt := 115) hx hb dX5_lawOf_36 (by decide) (by omega) (hI.R (by decide)) (fun c36 => ?_) (fun c36 => ?_)
    · refine q_aload hx hb dX5_lawOf_115 (lv_at hl 4 rfl) ?_
      refine q_retq (v := (some (lawA ad (sLaw S k day u)))) hx hb hr (Or.inl ⟨_, rfl⟩) hlocks dX5_lawOf_117 ?_
      have e : u = (S 2 0).toNat := by omega
      rw [e]
      rfl
    · refine lv_aload_n hx hb dX5_lawOf_39 rfl (lv_at hl 0 rfl) ?_
      refine q_get (v := .ref (ad 3 0 0)) (C := RX5) (T := TX5) (N := 11) hx hb hts inX5 hown hK hC.obj rfl 0 (by decide) (hts (.fieldLink RX5 10 "TavernBench" "laws" "Ljava/util/ArrayList;") (by decide +kernel)) (fun _ h9 => h9) rfl dX5_lawOf_40 ?_
      refine lv_iload hx hb dX5_lawOf_43 (lv_at hl 5 rfl) ?_
      refine q_cVr (As := [.int (iI ((u : Nat) : Int))]) (rest := []) ⟨hx, hb, hml, hown, hts⟩ (c0_get l g eA (ad 3 0 0) (ad 4 0 0) (S 2 0) (fun q => ad 5 q 0) ((u : Nat) : Int) (by omega) ⟨by omega, by omega⟩ (by omega)) (cwV 1 hts gX5_lawOf_Jx4a65c_get_915e3 rfl rfl rfl (by decide +kernel) ⟨Nat.le_of_ble_eq_true rfl, Nat.le_of_ble_eq_true rfl⟩) (q_pV hK (hC.lst (k := 0) (by decide)) rfl ⟨(hC.lst (k := 0) (by decide)), (hC.arr (k := 0) (by decide) (by show 0 < S 2 0; omega))⟩) rfl hl.1 rfl (Nat.le_of_ble_eq_true rfl) ⟨Nat.zero_le _, Nat.zero_le _⟩ dX5_lawOf_45 ?_
      refine q_cast (C := RX2) (T := TX2) (N := 5) hx hb hown (hts (.classLink RX5 26 RX2) (by decide +kernel)) hK (hC.law (k := ((u : Nat) : Int)) ⟨by omega, by omega⟩) rfl dX5_lawOf_48 ?_
      refine lv_astore (lv' := [(6, .ref (ad 5 ((u : Nat) : Int) 0)), (0, .ref (ad 0 0 0)), (1, .int (iI k)), (2, .int (iI day)), (3, .int (iI (sWeek S day))), (4, .ref (lawA ad (sLaw S k day u))), (5, .int (iI ((u : Nat) : Int)))]) hx hb dX5_lawOf_51 hl (by decide) rfl (fun ls hl => ?_)
      have hv := hI.law (j := ((u : Nat) : Int)) (by omega) (by omega)
      refine q_aload hx hb dX5_lawOf_53 (lv_at hl 0 rfl) ?_
      refine q_get (v := .int (iI (S 4 ((u : Nat) : Int)))) (C := RX2) (T := TX2) (N := 5) hx hb hts inX2 hown hK (hC.law (k := ((u : Nat) : Int)) ⟨by omega, by omega⟩) rfl 1 (by decide) (hts (.fieldLink RX5 199 "TavernBench$Law" "kind" "I") (by decide +kernel)) (fun _ h9 => h9) rfl dX5_lawOf_55 ?_
      refine lv_iload_n hx hb dX5_lawOf_58 rfl (lv_at hl 2 rfl) ?_
      refine q_icmp_ne (tgt := 84) hx hb dX5_lawOf_59 (by decide) (hI.R (by decide)) r_k (fun c59 => ?_) (fun c59 => ?_)
      · refine lv_iconst (v := iI 0) hx hb dX5_lawOf_84 rfl ?_
        refine lv_istore (lv' := [(7, .int (iI 0)), (6, .ref (ad 5 ((u : Nat) : Int) 0)), (0, .ref (ad 0 0 0)), (1, .int (iI k)), (2, .int (iI day)), (3, .int (iI (sWeek S day))), (4, .ref (lawA ad (sLaw S k day u))), (5, .int (iI ((u : Nat) : Int)))]) hx hb dX5_lawOf_85 hl (by decide) rfl (fun ls hl => ?_)
        refine lv_iload hx hb dX5_lawOf_87 (lv_at hl 0 rfl) ?_
        refine q_if_eq (tgt := 109) hx hb dX5_lawOf_89 (by decide) (by decide) (fun c89 => ?_) (fun c89 => ?_)
        rotate_left
        · exact absurd c89 (by decide)
        refine lv_iinc (v := iI (((u : Nat) : Int) + 1)) (lv' := [(5, .int (iI (((u : Nat) : Int) + 1))), (7, .int (iI 0)), (6, .ref (ad 5 ((u : Nat) : Int) 0)), (0, .ref (ad 0 0 0)), (1, .int (iI k)), (2, .int (iI day)), (3, .int (iI (sWeek S day))), (4, .ref (lawA ad (sLaw S k day u)))]) hx hb dX5_lawOf_109 hl (k := 7) rfl (iI_add _ _) (by decide) rfl (fun ls hl => ?_)
        refine lv_goto (tgt := 27) hx hb dX5_lawOf_112 (by decide) ?_
        have e0 : (.ref (lawA ad (sLaw S k day (u + 1))) : Value) = .ref (lawA ad (sLaw S k day u)) := by
          first | (rw [show sLaw S k day (u + 1) = ((u : Nat) : Int) from lastN_t (ix := fun j => (j : Int)) ⟨⟨by assumption, by assumption⟩, by assumption⟩ ((lawF_le (by omega)).mp c102)]; unfold lawA; rw [if_neg (by omega)]) | rw [show sLaw S k day (u + 1) = sLaw S k day u from lastN_f (ix := fun j => (j : Int)) (fun z => absurd z.1.1.1 (by assumption))] | rw [show sLaw S k day (u + 1) = sLaw S k day u from lastN_f (ix := fun j => (j : Int)) (fun z => absurd z.1.1.2 (by assumption))] | rw [show sLaw S k day (u + 1) = sLaw S k day u from lastN_f (ix := fun j => (j : Int)) (fun z => absurd z.1.2 (Int.not_le.mpr (by assumption)))] | rw [show sLaw S k day (u + 1) = sLaw S k day u from lastN_f (ix := fun j => (j : Int)) (fun z => absurd ((lawF_le (by omega)).mpr z.2) (Int.not_le.mpr (by assumption)))]
        have e1 : ((((u + 1) : Nat) : Int) : Int) = ((u : Nat) : Int) + 1 := by
          omega
        exact ihu (by omega) ls (lv_sub hl [3, 4, 5, 6, 7, 0] (by simp only [e0, e1]; rfl))
      · refine q_aload hx hb dX5_lawOf_62 (lv_at hl 0 rfl) ?_
        refine q_get (v := .int (iI (S 5 ((u : Nat) : Int)))) (C := RX2) (T := TX2) (N := 5) hx hb hts inX2 hown hK (hC.law (k := ((u : Nat) : Int)) ⟨by omega, by omega⟩) rfl 2 (by decide) (hts (.fieldLink RX5 200 "TavernBench$Law" "weekday" "I") (by decide +kernel)) (fun _ h9 => h9) rfl dX5_lawOf_64 ?_
        refine lv_iload_n hx hb dX5_lawOf_67 rfl (lv_at hl 4 rfl) ?_
        refine q_icmp_ne (tgt := 84) hx hb dX5_lawOf_68 (by decide) (hI.R (by decide)) (by omega) (fun c68 => ?_) (fun c68 => ?_)
        · refine lv_iconst (v := iI 0) hx hb dX5_lawOf_84 rfl ?_
          refine lv_istore (lv' := [(7, .int (iI 0)), (6, .ref (ad 5 ((u : Nat) : Int) 0)), (0, .ref (ad 0 0 0)), (1, .int (iI k)), (2, .int (iI day)), (3, .int (iI (sWeek S day))), (4, .ref (lawA ad (sLaw S k day u))), (5, .int (iI ((u : Nat) : Int)))]) hx hb dX5_lawOf_85 hl (by decide) rfl (fun ls hl => ?_)
          refine lv_iload hx hb dX5_lawOf_87 (lv_at hl 0 rfl) ?_
          refine q_if_eq (tgt := 109) hx hb dX5_lawOf_89 (by decide) (by decide) (fun c89_1 => ?_) (fun c89_1 => ?_)
          rotate_left
          · exact absurd c89_1 (by decide)
          refine lv_iinc (v := iI (((u : Nat) : Int) + 1)) (lv' := [(5, .int (iI (((u : Nat) : Int) + 1))), (7, .int (iI 0)), (6, .ref (ad 5 ((u : Nat) : Int) 0)), (0, .ref (ad 0 0 0)), (1, .int (iI k)), (2, .int (iI day)), (3, .int (iI (sWeek S day))), (4, .ref (lawA ad (sLaw S k day u)))]) hx hb dX5_lawOf_109 hl (k := 7) rfl (iI_add _ _) (by decide) rfl (fun ls hl => ?_)
          refine lv_goto (tgt := 27) hx hb dX5_lawOf_112 (by decide) ?_
          have e0 : (.ref (lawA ad (sLaw S k day (u + 1))) : Value) = .ref (lawA ad (sLaw S k day u)) := by
            first | (rw [show sLaw S k day (u + 1) = ((u : Nat) : Int) from lastN_t (ix := fun j => (j : Int)) ⟨⟨by assumption, by assumption⟩, by assumption⟩ ((lawF_le (by omega)).mp c102)]; unfold lawA; rw [if_neg (by omega)]) | rw [show sLaw S k day (u + 1) = sLaw S k day u from lastN_f (ix := fun j => (j : Int)) (fun z => absurd z.1.1.1 (by assumption))] | rw [show sLaw S k day (u + 1) = sLaw S k day u from lastN_f (ix := fun j => (j : Int)) (fun z => absurd z.1.1.2 (by assumption))] | rw [show sLaw S k day (u + 1) = sLaw S k day u from lastN_f (ix := fun j => (j : Int)) (fun z => absurd z.1.2 (Int.not_le.mpr (by assumption)))] | rw [show sLaw S k day (u + 1) = sLaw S k day u from lastN_f (ix := fun j => (j : Int)) (fun z => absurd ((lawF_le (by omega)).mpr z.2) (Int.not_le.mpr (by assumption)))]
          have e1 : ((((u + 1) : Nat) : Int) : Int) = ((u : Nat) : Int) + 1 := by
            omega
          exact ihu (by omega) ls (lv_sub hl [3, 4, 5, 6, 7, 0] (by simp only [e0, e1]; rfl))
        · refine q_aload hx hb dX5_lawOf_71 (lv_at hl 0 rfl) ?_
          refine q_get (v := .int (iI (S 3 ((u : Nat) : Int)))) (C := RX2) (T := TX2) (N := 5) hx hb hts inX2 hown hK (hC.law (k := ((u : Nat) : Int)) ⟨by omega, by omega⟩) rfl 0 (by decide) (hts (.fieldLink RX5 203 "TavernBench$Law" "day" "I") (by decide +kernel)) (fun _ h9 => h9) rfl dX5_lawOf_73 ?_
          refine lv_iload_n hx hb dX5_lawOf_76 rfl (lv_at hl 3 rfl) ?_
          refine q_icmp_gt (tgt := 84) hx hb dX5_lawOf_77 (by decide) (hI.R (by decide)) r_day (fun c77 => ?_) (fun c77 => ?_)
          · refine lv_iconst (v := iI 0) hx hb dX5_lawOf_84 rfl ?_
            refine lv_istore (lv' := [(7, .int (iI 0)), (6, .ref (ad 5 ((u : Nat) : Int) 0)), (0, .ref (ad 0 0 0)), (1, .int (iI k)), (2, .int (iI day)), (3, .int (iI (sWeek S day))), (4, .ref (lawA ad (sLaw S k day u))), (5, .int (iI ((u : Nat) : Int)))]) hx hb dX5_lawOf_85 hl (by decide) rfl (fun ls hl => ?_)
            refine lv_iload hx hb dX5_lawOf_87 (lv_at hl 0 rfl) ?_
            refine q_if_eq (tgt := 109) hx hb dX5_lawOf_89 (by decide) (by decide) (fun c89_2 => ?_) (fun c89_2 => ?_)
            rotate_left
            · exact absurd c89_2 (by decide)
            refine lv_iinc (v := iI (((u : Nat) : Int) + 1)) (lv' := [(5, .int (iI (((u : Nat) : Int) + 1))), (7, .int (iI 0)), (6, .ref (ad 5 ((u : Nat) : Int) 0)), (0, .ref (ad 0 0 0)), (1, .int (iI k)), (2, .int (iI day)), (3, .int (iI (sWeek S day))), (4, .ref (lawA ad (sLaw S k day u)))]) hx hb dX5_lawOf_109 hl (k := 7) rfl (iI_add _ _) (by decide) rfl (fun ls hl => ?_)
            refine lv_goto (tgt := 27) hx hb dX5_lawOf_112 (by decide) ?_
            have e0 : (.ref (lawA ad (sLaw S k day (u + 1))) : Value) = .ref (lawA ad (sLaw S k day u)) := by
              first | (rw [show sLaw S k day (u + 1) = ((u : Nat) : Int) from lastN_t (ix := fun j => (j : Int)) ⟨⟨by assumption, by assumption⟩, by assumption⟩ ((lawF_le (by omega)).mp c102)]; unfold lawA; rw [if_neg (by omega)]) | rw [show sLaw S k day (u + 1) = sLaw S k day u from lastN_f (ix := fun j => (j : Int)) (fun z => absurd z.1.1.1 (by assumption))] | rw [show sLaw S k day (u + 1) = sLaw S k day u from lastN_f (ix := fun j => (j : Int)) (fun z => absurd z.1.1.2 (by assumption))] | rw [show sLaw S k day (u + 1) = sLaw S k day u from lastN_f (ix := fun j => (j : Int)) (fun z => absurd z.1.2 (Int.not_le.mpr (by assumption)))] | rw [show sLaw S k day (u + 1) = sLaw S k day u from lastN_f (ix := fun j => (j : Int)) (fun z => absurd ((lawF_le (by omega)).mpr z.2) (Int.not_le.mpr (by assumption)))]
            have e1 : ((((u + 1) : Nat) : Int) : Int) = ((u : Nat) : Int) + 1 := by
              omega
            exact ihu (by omega) ls (lv_sub hl [3, 4, 5, 6, 7, 0] (by simp only [e0, e1]; rfl))
          · refine lv_iconst (v := iI 1) hx hb dX5_lawOf_80 rfl ?_
            refine lv_goto (tgt := 85) hx hb dX5_lawOf_81 (by decide) ?_
            refine lv_istore (lv' := [(7, .int (iI 1)), (6, .ref (ad 5 ((u : Nat) : Int) 0)), (0, .ref (ad 0 0 0)), (1, .int (iI k)), (2, .int (iI day)), (3, .int (iI (sWeek S day))), (4, .ref (lawA ad (sLaw S k day u))), (5, .int (iI ((u : Nat) : Int)))]) hx hb dX5_lawOf_85 hl (by decide) rfl (fun ls hl => ?_)
            refine lv_iload hx hb dX5_lawOf_87 (lv_at hl 0 rfl) ?_
            refine q_if_eq (tgt := 109) hx hb dX5_lawOf_89 (by decide) (by decide) (fun c89_3 => ?_) (fun c89_3 => ?_)
            · exact absurd c89_3 (by decide)
            refine q_aload hx hb dX5_lawOf_92 (lv_at hl 1 rfl) ?_
            refine q_get (v := .int (iI (S 3 ((u : Nat) : Int)))) (C := RX2) (T := TX2) (N := 5) hx hb hts inX2 hown hK (hC.law (k := ((u : Nat) : Int)) ⟨by omega, by omega⟩) rfl 0 (by decide) (hts (.fieldLink RX5 203 "TavernBench$Law" "day" "I") (by decide +kernel)) (fun _ h9 => h9) rfl dX5_lawOf_94 ?_
            refine q_aload hx hb dX5_lawOf_97 (lv_at hl 6 rfl) ?_
            refine q_get (v := .int (iI (lawF S 3 (sLaw S k day u)))) (C := RX2) (T := TX2) (N := 5) hx hb hts inX2 hown hK (hC.lawAt (z := (sLaw S k day u)) (by omega)) rfl 0 (by decide) (hts (.fieldLink RX5 203 "TavernBench$Law" "day" "I") (by decide +kernel)) (fun _ h9 => h9) rfl dX5_lawOf_99 ?_
            refine q_icmp_lt (tgt := 109) hx hb dX5_lawOf_102 (by decide) (hI.R (by decide)) (lawF_R hI (by decide) _) (fun c102 => ?_) (fun c102 => ?_)
            · refine lv_iinc (v := iI (((u : Nat) : Int) + 1)) (lv' := [(5, .int (iI (((u : Nat) : Int) + 1))), (7, .int (iI 1)), (6, .ref (ad 5 ((u : Nat) : Int) 0)), (0, .ref (ad 0 0 0)), (1, .int (iI k)), (2, .int (iI day)), (3, .int (iI (sWeek S day))), (4, .ref (lawA ad (sLaw S k day u)))]) hx hb dX5_lawOf_109 hl (k := 7) rfl (iI_add _ _) (by decide) rfl (fun ls hl => ?_)
              refine lv_goto (tgt := 27) hx hb dX5_lawOf_112 (by decide) ?_
              have e0 : (.ref (lawA ad (sLaw S k day (u + 1))) : Value) = .ref (lawA ad (sLaw S k day u)) := by
                first | (rw [show sLaw S k day (u + 1) = ((u : Nat) : Int) from lastN_t (ix := fun j => (j : Int)) ⟨⟨by assumption, by assumption⟩, by assumption⟩ ((lawF_le (by omega)).mp c102)]; unfold lawA; rw [if_neg (by omega)]) | rw [show sLaw S k day (u + 1) = sLaw S k day u from lastN_f (ix := fun j => (j : Int)) (fun z => absurd z.1.1.1 (by assumption))] | rw [show sLaw S k day (u + 1) = sLaw S k day u from lastN_f (ix := fun j => (j : Int)) (fun z => absurd z.1.1.2 (by assumption))] | rw [show sLaw S k day (u + 1) = sLaw S k day u from lastN_f (ix := fun j => (j : Int)) (fun z => absurd z.1.2 (Int.not_le.mpr (by assumption)))] | rw [show sLaw S k day (u + 1) = sLaw S k day u from lastN_f (ix := fun j => (j : Int)) (fun z => absurd ((lawF_le (by omega)).mpr z.2) (Int.not_le.mpr (by assumption)))]
              have e1 : ((((u + 1) : Nat) : Int) : Int) = ((u : Nat) : Int) + 1 := by
                omega
              exact ihu (by omega) ls (lv_sub hl [3, 4, 5, 6, 7, 0] (by simp only [e0, e1]; rfl))
            · refine q_aload hx hb dX5_lawOf_105 (lv_at hl 1 rfl) ?_
              refine lv_astore (lv' := [(4, .ref (ad 5 ((u : Nat) : Int) 0)), (7, .int (iI 1)), (6, .ref (ad 5 ((u : Nat) : Int) 0)), (0, .ref (ad 0 0 0)), (1, .int (iI k)), (2, .int (iI day)), (3, .int (iI (sWeek S day))), (5, .int (iI ((u : Nat) : Int)))]) hx hb dX5_lawOf_107 hl (by decide) rfl (fun ls hl => ?_)
              refine lv_iinc (v := iI (((u : Nat) : Int) + 1)) (lv' := [(5, .int (iI (((u : Nat) : Int) + 1))), (4, .ref (ad 5 ((u : Nat) : Int) 0)), (7, .int (iI 1)), (6, .ref (ad 5 ((u : Nat) : Int) 0)), (0, .ref (ad 0 0 0)), (1, .int (iI k)), (2, .int (iI day)), (3, .int (iI (sWeek S day)))]) hx hb dX5_lawOf_109 hl (k := 7) rfl (iI_add _ _) (by decide) rfl (fun ls hl => ?_)
              refine lv_goto (tgt := 27) hx hb dX5_lawOf_112 (by decide) ?_
              have e0 : (.ref (lawA ad (sLaw S k day (u + 1))) : Value) = .ref (ad 5 ((u : Nat) : Int) 0) := by
                first | (rw [show sLaw S k day (u + 1) = ((u : Nat) : Int) from lastN_t (ix := fun j => (j : Int)) ⟨⟨by assumption, by assumption⟩, by assumption⟩ ((lawF_le (by omega)).mp c102)]; unfold lawA; rw [if_neg (by omega)]) | rw [show sLaw S k day (u + 1) = sLaw S k day u from lastN_f (ix := fun j => (j : Int)) (fun z => absurd z.1.1.1 (by assumption))] | rw [show sLaw S k day (u + 1) = sLaw S k day u from lastN_f (ix := fun j => (j : Int)) (fun z => absurd z.1.1.2 (by assumption))] | rw [show sLaw S k day (u + 1) = sLaw S k day u from lastN_f (ix := fun j => (j : Int)) (fun z => absurd z.1.2 (Int.not_le.mpr (by assumption)))] | rw [show sLaw S k day (u + 1) = sLaw S k day u from lastN_f (ix := fun j => (j : Int)) (fun z => absurd ((lawF_le (by omega)).mpr z.2) (Int.not_le.mpr (by assumption)))]
              have e1 : ((((u + 1) : Nat) : Int) : Int) = ((u : Nat) : Int) + 1 := by
                omega
              exact ihu (by omega) ls (lv_sub hl [4, 5, 6, 7, 1, 0] (by simp only [e0, e1]; rfl))
  · refine q_ifb_eq (tgt := 13) hx hb dX5_lawOf_5 (by decide) (fun c5 => ?_) (fun c5 => ?_)
    · refine lv_iload_n hx hb dX5_lawOf_13 rfl (lv_at hl 2 rfl) ?_
      refine q_bipush hx hb 7 dX5_lawOf_14 (by decide +kernel) ?_
      refine q_irem hx hb ⟨by omega, by omega⟩ ⟨by decide, by decide⟩ dX5_lawOf_16 ?_
      refine q_top (z := sWeek S day) (by
        unfold sWeek
        first | rw [cI_t (by assumption)] | rw [cI_f (by assumption)]) ?_
      exact J17 ls (lv_sub hl [0, 1, 2] rfl)
    · refine q_bipush hx hb 7 dX5_lawOf_8 (by decide +kernel) ?_
      refine lv_goto (tgt := 17) hx hb dX5_lawOf_10 (by decide) ?_
      refine q_top (z := sWeek S day) (by
        unfold sWeek
        first | rw [cI_t (by assumption)] | rw [cI_f (by assumption)]) ?_
      exact J17 ls (lv_sub hl [0, 1, 2] rfl)

set_option maxHeartbeats 4000000 in
set_option maxRecDepth 100000 in
theorem c5_lawOn (l : Launch) (g : GG) (eA : Nat) (P : Nat → Prop) (ad : AD) (S : St) (hI : Inv S) (hQ : InvC S) (k : Int) (day : Int) (what : Int) (r_k : R32 k) (r_day : R32 day) (r_what : R32 what)  : MetI l yX5_lawOn wsX5_lawOn ({ frames := 4, cells := 0, slots := 0, locals := 91 }) g [.ref (ad 0 0 0), .int (iI k), .int (iI day), .int (iI what)] (fun H => RepC g eA P ad S H) (aLawOn S k day what) := by
  refine Met.ofW (cc := cX5_lawOn) (maxL := 5) (ret := (some .int)) (by decide) rfl ?_
  intro p e s m args below meth c s₁ B hml hv
  obtain ⟨rfl, hC, hK⟩ := hv
  have hx := B.exec
  have hb := B.bytes
  have hr := B.returns
  have hts := atoms_spec (ws := wsX5_lawOn) B.pre
  have hown : s.vm.findClass RX5 = some m.cls := findClass_of_methodNamed B.named
  have hlocks := B.notSynchronized
  have inX2 : ∀ w ∈ wsX20, w ∈ wsX5_lawOn := by decide +kernel
  have hl := lv_entry ([.ref (ad 0 0 0), .int (iI k), .int (iI day), .int (iI what)]) (n := 5) (Nat.le_of_ble_eq_true rfl)
  rw [lg_entry_eq]
  generalize (lg_sl ([.ref (ad 0 0 0), .int (iI k), .int (iI day), .int (iI what)]) ++ List.replicate (5 - (lg_sl ([.ref (ad 0 0 0), .int (iI k), .int (iI day), .int (iI what)])).length) Slot.unset).toArray = ls at hl ⊢
  have hl : lv_has ls 5 [(0, .ref (ad 0 0 0)), (1, .int (iI k)), (2, .int (iI day)), (3, .int (iI what))] := hl
  have hN := hI.nums
  refine lv_iload_n hx hb dX5_lawOn_0 rfl (lv_at hl 1 rfl) ?_
  refine q_cSi (As := [.int (iI k)]) (rest := []) ⟨hx, hb, hml, hown, hts⟩ (c5_isKind l g k r_k ) (va_cwS 1 hts gX5_lawOn_X5_isKind rfl rfl rfl (by decide +kernel) ⟨Nat.le_of_ble_eq_true rfl, Nat.le_of_ble_eq_true rfl⟩) (q_pS hK trivial) rfl hl.1 rfl (Nat.le_of_ble_eq_true rfl) ⟨Nat.zero_le _, Nat.zero_le _⟩ dX5_lawOn_1 ?_
  refine q_ifb_eq (tgt := 23) hx hb dX5_lawOn_4 (by decide) (fun c4 => ?_) (fun c4 => ?_)
  · refine lv_iconst (v := iI (-1)) hx hb dX5_lawOn_23 rfl ?_
    refine q_reti hx hb hr hlocks dX5_lawOn_24 ?_
    show _ = aLawOn S k day what
    unfold aLawOn
    rw [cI_f (by omega)]
  · refine lv_iload_n hx hb dX5_lawOn_7 rfl (lv_at hl 2 rfl) ?_
    refine q_cSi (As := [.int (iI day)]) (rest := []) ⟨hx, hb, hml, hown, hts⟩ (c5_isDay l g day r_day ) (va_cwS 1 hts gX5_lawOn_X5_isDay rfl rfl rfl (by decide +kernel) ⟨Nat.le_of_ble_eq_true rfl, Nat.le_of_ble_eq_true rfl⟩) (q_pS hK trivial) rfl hl.1 rfl (Nat.le_of_ble_eq_true rfl) ⟨Nat.zero_le _, Nat.zero_le _⟩ dX5_lawOn_8 ?_
    refine q_ifb_eq (tgt := 23) hx hb dX5_lawOn_11 (by decide) (fun c11 => ?_) (fun c11 => ?_)
    · refine lv_iconst (v := iI (-1)) hx hb dX5_lawOn_23 rfl ?_
      refine q_reti hx hb hr hlocks dX5_lawOn_24 ?_
      show _ = aLawOn S k day what
      unfold aLawOn
      rw [cI_f (by omega)]
    · refine lv_iload_n hx hb dX5_lawOn_14 rfl (lv_at hl 3 rfl) ?_
      refine lv_iconst (v := iI 0) hx hb dX5_lawOn_15 rfl ?_
      refine lv_iconst (v := iI 1) hx hb dX5_lawOn_16 rfl ?_
      refine q_cSi (As := [.int (iI what), .int (iI 0), .int (iI 1)]) (rest := []) ⟨hx, hb, hml, hown, hts⟩ (c5_isIn l g what 0 1 r_what (by decide) (by decide) ) (va_cwS 3 hts gX5_lawOn_X5_isIn rfl rfl rfl (by decide +kernel) ⟨Nat.le_of_ble_eq_true rfl, Nat.le_of_ble_eq_true rfl⟩) (q_pS hK trivial) rfl hl.1 rfl (Nat.le_of_ble_eq_true rfl) ⟨Nat.zero_le _, Nat.zero_le _⟩ dX5_lawOn_17 ?_
      refine q_ifb_ne (tgt := 25) hx hb dX5_lawOn_20 (by decide) (fun c20 => ?_) (fun c20 => ?_)
      · refine lv_aload_n hx hb dX5_lawOn_25 rfl (lv_at hl 0 rfl) ?_
        refine lv_iload_n hx hb dX5_lawOn_26 rfl (lv_at hl 1 rfl) ?_
        refine lv_iload_n hx hb dX5_lawOn_27 rfl (lv_at hl 2 rfl) ?_
        refine q_cVr (As := [.int (iI k), .int (iI day)]) (rest := []) ⟨hx, hb, hml, hown, hts⟩ (c5_lawOf l g eA P ad S hI hQ k day r_k r_day (by omega)) (cwV 2 hts gX5_lawOn_X5_lawOf rfl rfl rfl (by decide +kernel) ⟨Nat.le_of_ble_eq_true rfl, Nat.le_of_ble_eq_true rfl⟩) (q_pV hK hC.obj rfl hC) rfl hl.1 rfl (Nat.le_of_ble_eq_true rfl) ⟨Nat.zero_le _, Nat.zero_le _⟩ dX5_lawOn_28 ?_
        have hlb := sLawOf_b' S k day
        refine lv_astore (lv' := [(4, .ref (lawA ad (sLawOf S k day))), (0, .ref (ad 0 0 0)), (1, .int (iI k)), (2, .int (iI day)), (3, .int (iI what))]) hx hb dX5_lawOn_31 hl (by decide) rfl (fun ls hl => ?_)
        refine lv_iload_n hx hb dX5_lawOn_33 rfl (lv_at hl 4 rfl) ?_
        refine q_if_ne (tgt := 45) hx hb dX5_lawOn_34 (by decide) r_what (fun c34 => ?_) (fun c34 => ?_)
        · refine q_aload hx hb dX5_lawOn_45 (lv_at hl 0 rfl) ?_
          refine q_get (v := .int (iI (lawF S 7 (sLawOf S k day)))) (C := RX2) (T := TX2) (N := 5) hx hb hts inX2 hown hK (hC.lawAt (z := (sLawOf S k day)) (by omega)) rfl 4 (by decide) (hts (.fieldLink RX5 159 "TavernBench$Law" "to" "I") (by decide +kernel)) (fun _ h9 => h9) rfl dX5_lawOn_47 ?_
          refine q_reti hx hb hr hlocks dX5_lawOn_50 ?_
          show _ = aLawOn S k day what
          unfold aLawOn
          rw [cI_t (by omega)]
          unfold lawF
          by_cases z : sLawOf S k day < 0
          · rw [if_pos z, cI_t z]
          · rw [if_neg z, cI_f z]
            first | rw [cI_t (by omega)] | rw [cI_f (by omega)]
        · refine q_aload hx hb dX5_lawOn_37 (lv_at hl 0 rfl) ?_
          refine q_get (v := .int (iI (lawF S 6 (sLawOf S k day)))) (C := RX2) (T := TX2) (N := 5) hx hb hts inX2 hown hK (hC.lawAt (z := (sLawOf S k day)) (by omega)) rfl 3 (by decide) (hts (.fieldLink RX5 153 "TavernBench$Law" "from" "I") (by decide +kernel)) (fun _ h9 => h9) rfl dX5_lawOn_39 ?_
          refine lv_goto (tgt := 50) hx hb dX5_lawOn_42 (by decide) ?_
          refine q_reti hx hb hr hlocks dX5_lawOn_50 ?_
          show _ = aLawOn S k day what
          unfold aLawOn
          rw [cI_t (by omega)]
          unfold lawF
          by_cases z : sLawOf S k day < 0
          · rw [if_pos z, cI_t z]
          · rw [if_neg z, cI_f z]
            first | rw [cI_t (by omega)] | rw [cI_f (by omega)]
      · refine lv_iconst (v := iI (-1)) hx hb dX5_lawOn_23 rfl ?_
        refine q_reti hx hb hr hlocks dX5_lawOn_24 ?_
        show _ = aLawOn S k day what
        unfold aLawOn
        rw [cI_f (by omega)]

set_option maxHeartbeats 4000000 in
set_option maxRecDepth 100000 in
theorem c5_isCrowded (l : Launch) (g : GG) (eA : Nat) (P : Nat → Prop) (ad : AD) (S : St) (hI : Inv S) (hQ : InvC S) (x : Int) (y : Int) (day : Int) (r_x : R32 x) (r_y : R32 y) (r_day : R32 day) (hp : isP x y) (hd : isD day) : MetI l yX5_isCrowded wsX5_isCrowded ({ frames := 7, cells := 0, slots := 0, locals := 161 }) g [.ref (ad 0 0 0), .int (iI x), .int (iI y), .int (iI day)] (fun H => RepC g eA P ad S H) (bI (exN (qCrowd S x y day) (S 14 0).toNat)) := by
  refine Met.ofW (cc := cX5_isCrowded) (maxL := 6) (ret := (some .boolean)) (by decide) rfl ?_
  intro p e s m args below meth c s₁ B hml hv
  obtain ⟨rfl, hC, hK⟩ := hv
  have hx := B.exec
  have hb := B.bytes
  have hr := B.returns
  have hts := atoms_spec (ws := wsX5_isCrowded) B.pre
  have hown : s.vm.findClass RX5 = some m.cls := findClass_of_methodNamed B.named
  have hlocks := B.notSynchronized
  have inX1 : ∀ w ∈ wsX10, w ∈ wsX5_isCrowded := by decide +kernel
  have inX5 : ∀ w ∈ wsX50, w ∈ wsX5_isCrowded := by decide +kernel
  have hl := lv_entry ([.ref (ad 0 0 0), .int (iI x), .int (iI y), .int (iI day)]) (n := 6) (Nat.le_of_ble_eq_true rfl)
  rw [lg_entry_eq]
  generalize (lg_sl ([.ref (ad 0 0 0), .int (iI x), .int (iI y), .int (iI day)]) ++ List.replicate (6 - (lg_sl ([.ref (ad 0 0 0), .int (iI x), .int (iI y), .int (iI day)])).length) Slot.unset).toArray = ls at hl ⊢
  have hl : lv_has ls 6 [(0, .ref (ad 0 0 0)), (1, .int (iI x)), (2, .int (iI y)), (3, .int (iI day))] := hl
  have hN := hI.nums
  have hn2 := sq_b hN.2.2.1.1 hN.2.2.1.2
  have hh2 := sq_b hN.2.2.2.1.1 hN.2.2.2.1.2
  refine lv_iconst (v := iI 0) hx hb dX5_isCrowded_0 rfl ?_
  refine lv_istore (lv' := [(4, .int (iI 0)), (0, .ref (ad 0 0 0)), (1, .int (iI x)), (2, .int (iI y)), (3, .int (iI day))]) hx hb dX5_isCrowded_1 hl (by decide) rfl (fun ls hl => ?_)
  have e0 : (((0 : Nat) : Int) : Int) = 0 := by
    rfl
  refine q_loop (nL := 6) (fun (u : Nat) => u ≤ (S 14 0).toNat ∧ ¬ exN (qCrowd S x y day) u) (fun u => (S 14 0).toNat - u) (fun (u : Nat) => [(0, .ref (ad 0 0 0)), (1, .int (iI x)), (2, .int (iI y)), (3, .int (iI day)), (4, .int (iI ((u : Nat) : Int)))]) 0 ⟨Nat.zero_le _, exN_0⟩ (lv_sub hl [1, 2, 3, 4, 0] (by simp only [e0]; rfl)) (fun u hu2 ihu ls hl => ?_)
  have hl : lv_has ls 6 [(0, .ref (ad 0 0 0)), (1, .int (iI x)), (2, .int (iI y)), (3, .int (iI day)), (4, .int (iI ((u : Nat) : Int)))] := hl
  have hu1 : u ≤ (S 14 0).toNat := hu2.1
  refine lv_iload hx hb dX5_isCrowded_3 (lv_at hl 4 rfl) ?_
  refine lv_aload_n hx hb dX5_isCrowded_5 rfl (lv_at hl 0 rfl) ?_
  refine q_get (v := .ref (ad 3 2 0)) (C := RX5) (T := TX5) (N := 11) hx hb hts inX5 hown hK hC.obj rfl 2 (by decide) (hts (.fieldLink RX5 19 "TavernBench" "houses" "Ljava/util/ArrayList;") (by decide +kernel)) (fun _ h9 => h9) rfl dX5_isCrowded_6 ?_
  refine q_cVi (As := []) (rest := [.int (iI ((u : Nat) : Int))]) ⟨hx, hb, hml, hown, hts⟩ (c0_size l g eA (ad 3 2 0) (ad 4 2 0) (S 14 0)) (cwV 0 hts gX5_isCrowded_Jx4a65c_size_8abf5 rfl rfl rfl (by decide +kernel) ⟨Nat.le_of_ble_eq_true rfl, Nat.le_of_ble_eq_true rfl⟩) (q_pV hK (hC.lst (k := 2) (by decide)) rfl (hC.lst (k := 2) (by decide))) rfl hl.1 rfl (Nat.le_of_ble_eq_true rfl) ⟨Nat.zero_le _, Nat.zero_le _⟩ dX5_isCrowded_9 ?_
  refine q_icmp_ge (tgt := 73) hx hb dX5_isCrowded_12 (by decide) (by omega) (hI.R (by decide)) (fun c12 => ?_) (fun c12 => ?_)
  · refine lv_iconst (v := iI 0) hx hb dX5_isCrowded_73 rfl ?_
    refine q_retz hx hb hr hlocks (Or.inl rfl) dX5_isCrowded_74 ?_
    have eu : u = (S 14 0).toNat := by omega
    rw [eu] at hu2
    exact bI_e0 hu2.2
  · refine lv_aload_n hx hb dX5_isCrowded_15 rfl (lv_at hl 0 rfl) ?_
    refine q_get (v := .ref (ad 3 2 0)) (C := RX5) (T := TX5) (N := 11) hx hb hts inX5 hown hK hC.obj rfl 2 (by decide) (hts (.fieldLink RX5 19 "TavernBench" "houses" "Ljava/util/ArrayList;") (by decide +kernel)) (fun _ h9 => h9) rfl dX5_isCrowded_16 ?_
    refine lv_iload hx hb dX5_isCrowded_19 (lv_at hl 4 rfl) ?_
    refine q_cVr (As := [.int (iI ((u : Nat) : Int))]) (rest := []) ⟨hx, hb, hml, hown, hts⟩ (c0_get l g eA (ad 3 2 0) (ad 4 2 0) (S 14 0) (fun q => ad 7 q 0) ((u : Nat) : Int) (by omega) ⟨by omega, by omega⟩ (by omega)) (cwV 1 hts gX5_isCrowded_Jx4a65c_get_915e3 rfl rfl rfl (by decide +kernel) ⟨Nat.le_of_ble_eq_true rfl, Nat.le_of_ble_eq_true rfl⟩) (q_pV hK (hC.lst (k := 2) (by decide)) rfl ⟨(hC.lst (k := 2) (by decide)), (hC.arr (k := 2) (by decide) (by show 0 < S 14 0; omega))⟩) rfl hl.1 rfl (Nat.le_of_ble_eq_true rfl) ⟨Nat.zero_le _, Nat.zero_le _⟩ dX5_isCrowded_21 ?_
    refine q_cast (C := RX1) (T := TX1) (N := 7) hx hb hown (hts (.classLink RX5 93 RX1) (by decide +kernel)) hK (hC.house (k := ((u : Nat) : Int)) ⟨by omega, by omega⟩) rfl dX5_isCrowded_24 ?_
    refine lv_astore (lv' := [(5, .ref (ad 7 ((u : Nat) : Int) 0)), (0, .ref (ad 0 0 0)), (1, .int (iI x)), (2, .int (iI y)), (3, .int (iI day)), (4, .int (iI ((u : Nat) : Int)))]) hx hb dX5_isCrowded_27 hl (by decide) rfl (fun ls hl => ?_)
    have hH := hI.house (h := ((u : Nat) : Int)) (by omega) (by omega)
    have ho := off2_b (x2 := S 15 ((u : Nat) : Int)) (y2 := S 16 ((u : Nat) : Int)) hp ⟨hH.1.1, hH.1.2.1⟩
    refine lv_iload_n hx hb dX5_isCrowded_29 rfl (lv_at hl 2 rfl) ?_
    refine lv_iload_n hx hb dX5_isCrowded_30 rfl (lv_at hl 3 rfl) ?_
    refine q_aload hx hb dX5_isCrowded_31 (lv_at hl 0 rfl) ?_
    refine q_get (v := .int (iI (S 15 ((u : Nat) : Int)))) (C := RX1) (T := TX1) (N := 7) hx hb hts inX1 hown hK (hC.house (k := ((u : Nat) : Int)) ⟨by omega, by omega⟩) rfl 0 (by decide) (hts (.fieldLink RX5 212 "TavernBench$House" "x" "I") (by decide +kernel)) (fun _ h9 => h9) rfl dX5_isCrowded_33 ?_
    refine q_aload hx hb dX5_isCrowded_36 (lv_at hl 0 rfl) ?_
    refine q_get (v := .int (iI (S 16 ((u : Nat) : Int)))) (C := RX1) (T := TX1) (N := 7) hx hb hts inX1 hown hK (hC.house (k := ((u : Nat) : Int)) ⟨by omega, by omega⟩) rfl 1 (by decide) (hts (.fieldLink RX5 215 "TavernBench$House" "y" "I") (by decide +kernel)) (fun _ h9 => h9) rfl dX5_isCrowded_38 ?_
    refine q_cSi (As := [.int (iI x), .int (iI y), .int (iI (S 15 ((u : Nat) : Int))), .int (iI (S 16 ((u : Nat) : Int)))]) (rest := []) ⟨hx, hb, hml, hown, hts⟩ (c5_squareOfDistance l g x y (S 15 ((u : Nat) : Int)) (S 16 ((u : Nat) : Int)) r_x r_y (hI.R (by decide)) (hI.R (by decide)) ) (va_cwS 4 hts gX5_isCrowded_X5_squareOfDistance rfl rfl rfl (by decide +kernel) ⟨Nat.le_of_ble_eq_true rfl, Nat.le_of_ble_eq_true rfl⟩) (q_pS hK trivial) rfl hl.1 rfl (Nat.le_of_ble_eq_true rfl) ⟨Nat.zero_le _, Nat.zero_le _⟩ dX5_isCrowded_41 ?_
    refine lv_aload_n hx hb dX5_isCrowded_44 rfl (lv_at hl 1 rfl) ?_
    refine q_get (v := .int (iI (S 8 0))) (C := RX5) (T := TX5) (N := 11) hx hb hts inX5 hown hK hC.obj rfl 6 (by decide) (hts (.fieldLink RX5 35 "TavernBench" "near" "I") (by decide +kernel)) (fun _ h9 => h9) rfl dX5_isCrowded_45 ?_
    refine lv_aload_n hx hb dX5_isCrowded_48 rfl (lv_at hl 1 rfl) ?_
    refine q_get (v := .int (iI (S 8 0))) (C := RX5) (T := TX5) (N := 11) hx hb hts inX5 hown hK hC.obj rfl 6 (by decide) (hts (.fieldLink RX5 35 "TavernBench" "near" "I") (by decide +kernel)) (fun _ h9 => h9) rfl dX5_isCrowded_49 ?_
    refine q_imul hx hb dX5_isCrowded_52 ?_
    refine q_icmp_ge (tgt := 67) hx hb dX5_isCrowded_53 (by decide) (by omega) (by omega) (fun c53 => ?_) (fun c53 => ?_)
    · refine lv_iinc (v := iI (((u : Nat) : Int) + 1)) (lv' := [(4, .int (iI (((u : Nat) : Int) + 1))), (5, .ref (ad 7 ((u : Nat) : Int) 0)), (0, .ref (ad 0 0 0)), (1, .int (iI x)), (2, .int (iI y)), (3, .int (iI day))]) hx hb dX5_isCrowded_67 hl (k := 5) rfl (iI_add _ _) (by decide) rfl (fun ls hl => ?_)
      refine lv_goto (tgt := 3) hx hb dX5_isCrowded_70 (by decide) ?_
      have e0 : ((((u + 1) : Nat) : Int) : Int) = ((u : Nat) : Int) + 1 := by
        omega
      exact ihu (u + 1) ⟨by omega, fun z => (exN_s.mp z).elim hu2.2 (fun y => by first | exact absurd y.1 (by assumption) | (have y2 := y.2; omega))⟩ (by show (S 14 0).toNat - (u + 1) < (S 14 0).toNat - u; omega) ls (lv_sub hl [2, 3, 4, 5, 0] (by simp only [e0]; rfl))
    · refine q_aload hx hb dX5_isCrowded_56 (lv_at hl 0 rfl) ?_
      refine lv_iload_n hx hb dX5_isCrowded_58 rfl (lv_at hl 4 rfl) ?_
      refine q_cVi (As := [.int (iI day)]) (rest := []) ⟨hx, hb, hml, hown, hts⟩ (c1_hasLicence l g eA P ad S hI hQ ((u : Nat) : Int) ⟨by omega, by omega⟩ day r_day (by omega)) (cwV 1 hts gX5_isCrowded_X1_hasLicence rfl rfl rfl (by decide +kernel) ⟨Nat.le_of_ble_eq_true rfl, Nat.le_of_ble_eq_true rfl⟩) (q_pV hK (hC.house (k := ((u : Nat) : Int)) ⟨by omega, by omega⟩) rfl hC) rfl hl.1 rfl (Nat.le_of_ble_eq_true rfl) ⟨Nat.zero_le _, Nat.zero_le _⟩ dX5_isCrowded_59 ?_
      refine q_ifb_eq (tgt := 67) hx hb dX5_isCrowded_62 (by decide) (fun c62 => ?_) (fun c62 => ?_)
      · refine lv_iinc (v := iI (((u : Nat) : Int) + 1)) (lv' := [(4, .int (iI (((u : Nat) : Int) + 1))), (5, .ref (ad 7 ((u : Nat) : Int) 0)), (0, .ref (ad 0 0 0)), (1, .int (iI x)), (2, .int (iI y)), (3, .int (iI day))]) hx hb dX5_isCrowded_67 hl (k := 5) rfl (iI_add _ _) (by decide) rfl (fun ls hl => ?_)
        refine lv_goto (tgt := 3) hx hb dX5_isCrowded_70 (by decide) ?_
        have e0 : ((((u + 1) : Nat) : Int) : Int) = ((u : Nat) : Int) + 1 := by
          omega
        exact ihu (u + 1) ⟨by omega, fun z => (exN_s.mp z).elim hu2.2 (fun y => by first | exact absurd y.1 (by assumption) | (have y2 := y.2; omega))⟩ (by show (S 14 0).toNat - (u + 1) < (S 14 0).toNat - u; omega) ls (lv_sub hl [2, 3, 4, 5, 0] (by simp only [e0]; rfl))
      · refine lv_iconst (v := iI 1) hx hb dX5_isCrowded_65 rfl ?_
        refine q_retz hx hb hr hlocks (Or.inr rfl) dX5_isCrowded_66 ?_
        exact bI_e1 ⟨u, by omega, by assumption, by assumption⟩

set_option maxHeartbeats 4000000 in
set_option maxRecDepth 100000 in
theorem c5_weightHeard (l : Launch) (g : GG) (eA : Nat) (P : Nat → Prop) (ad : AD) (S : St) (hI : Inv S) (hQ : InvC S) (x : Int) (y : Int) (r_x : R32 x) (r_y : R32 y) (hp : isP x y) : MetI l yX5_weightHeard wsX5_weightHeard ({ frames := 3, cells := 0, slots := 0, locals := 64 }) g [.ref (ad 0 0 0), .int (iI x), .int (iI y)] (fun H => RepC g eA P ad S H) (sHeard S x y (S 10 0).toNat) := by
  refine Met.ofW (cc := cX5_weightHeard) (maxL := 6) (ret := (some .int)) (by decide) rfl ?_
  intro p e s m args below meth c s₁ B hml hv
  obtain ⟨rfl, hC, hK⟩ := hv
  have hx := B.exec
  have hb := B.bytes
  have hr := B.returns
  have hts := atoms_spec (ws := wsX5_weightHeard) B.pre
  have hown : s.vm.findClass RX5 = some m.cls := findClass_of_methodNamed B.named
  have hlocks := B.notSynchronized
  have inX3 : ∀ w ∈ wsX30, w ∈ wsX5_weightHeard := by decide +kernel
  have inX5 : ∀ w ∈ wsX50, w ∈ wsX5_weightHeard := by decide +kernel
  have hl := lv_entry ([.ref (ad 0 0 0), .int (iI x), .int (iI y)]) (n := 6) (Nat.le_of_ble_eq_true rfl)
  rw [lg_entry_eq]
  generalize (lg_sl ([.ref (ad 0 0 0), .int (iI x), .int (iI y)]) ++ List.replicate (6 - (lg_sl ([.ref (ad 0 0 0), .int (iI x), .int (iI y)])).length) Slot.unset).toArray = ls at hl ⊢
  have hl : lv_has ls 6 [(0, .ref (ad 0 0 0)), (1, .int (iI x)), (2, .int (iI y))] := hl
  have hN := hI.nums
  have hn2 := sq_b hN.2.2.1.1 hN.2.2.1.2
  have hh2 := sq_b hN.2.2.2.1.1 hN.2.2.2.1.2
  refine lv_iconst (v := iI 0) hx hb dX5_weightHeard_0 rfl ?_
  refine lv_istore_n (lv' := [(3, .int (iI 0)), (0, .ref (ad 0 0 0)), (1, .int (iI x)), (2, .int (iI y))]) hx hb dX5_weightHeard_1 rfl hl (by decide) rfl (fun ls hl => ?_)
  refine lv_iconst (v := iI 0) hx hb dX5_weightHeard_2 rfl ?_
  refine lv_istore (lv' := [(4, .int (iI 0)), (3, .int (iI 0)), (0, .ref (ad 0 0 0)), (1, .int (iI x)), (2, .int (iI y))]) hx hb dX5_weightHeard_3 hl (by decide) rfl (fun ls hl => ?_)
  have e0 : (sHeard S x y 0 : Int) = 0 := by
    rfl
  have e1 : (((0 : Nat) : Int) : Int) = 0 := by
    rfl
  refine q_loopN (nL := 6) ((S 10 0).toNat) (fun (u : Nat) => [(0, .ref (ad 0 0 0)), (1, .int (iI x)), (2, .int (iI y)), (3, .int (iI (sHeard S x y u))), (4, .int (iI ((u : Nat) : Int)))]) (lv_sub hl [2, 3, 4, 1, 0] (by simp only [e0, e1]; rfl)) (fun u hu ihu ls hl => ?_)
  have hl : lv_has ls 6 [(0, .ref (ad 0 0 0)), (1, .int (iI x)), (2, .int (iI y)), (3, .int (iI (sHeard S x y u))), (4, .int (iI ((u : Nat) : Int)))] := hl
  refine lv_iload hx hb dX5_weightHeard_5 (lv_at hl 4 rfl) ?_
  refine lv_aload_n hx hb dX5_weightHeard_7 rfl (lv_at hl 0 rfl) ?_
  refine q_get (v := .ref (ad 3 1 0)) (C := RX5) (T := TX5) (N := 11) hx hb hts inX5 hown hK hC.obj rfl 1 (by decide) (hts (.fieldLink RX5 16 "TavernBench" "objectors" "Ljava/util/ArrayList;") (by decide +kernel)) (fun _ h9 => h9) rfl dX5_weightHeard_8 ?_
  refine q_cVi (As := []) (rest := [.int (iI ((u : Nat) : Int))]) ⟨hx, hb, hml, hown, hts⟩ (c0_size l g eA (ad 3 1 0) (ad 4 1 0) (S 10 0)) (cwV 0 hts gX5_weightHeard_Jx4a65c_size_8abf5 rfl rfl rfl (by decide +kernel) ⟨Nat.le_of_ble_eq_true rfl, Nat.le_of_ble_eq_true rfl⟩) (q_pV hK (hC.lst (k := 1) (by decide)) rfl (hC.lst (k := 1) (by decide))) rfl hl.1 rfl (Nat.le_of_ble_eq_true rfl) ⟨Nat.zero_le _, Nat.zero_le _⟩ dX5_weightHeard_11 ?_
  refine q_icmp_ge (tgt := 72) hx hb dX5_weightHeard_14 (by decide) (by omega) (hI.R (by decide)) (fun c14 => ?_) (fun c14 => ?_)
  · refine lv_iload_n hx hb dX5_weightHeard_72 rfl (lv_at hl 3 rfl) ?_
    refine q_reti hx hb hr hlocks dX5_weightHeard_73 ?_
    have e : u = (S 10 0).toNat := by omega
    rw [e]
  · refine lv_aload_n hx hb dX5_weightHeard_17 rfl (lv_at hl 0 rfl) ?_
    refine q_get (v := .ref (ad 3 1 0)) (C := RX5) (T := TX5) (N := 11) hx hb hts inX5 hown hK hC.obj rfl 1 (by decide) (hts (.fieldLink RX5 16 "TavernBench" "objectors" "Ljava/util/ArrayList;") (by decide +kernel)) (fun _ h9 => h9) rfl dX5_weightHeard_18 ?_
    refine lv_iload hx hb dX5_weightHeard_21 (lv_at hl 4 rfl) ?_
    refine q_cVr (As := [.int (iI ((u : Nat) : Int))]) (rest := []) ⟨hx, hb, hml, hown, hts⟩ (c0_get l g eA (ad 3 1 0) (ad 4 1 0) (S 10 0) (fun q => ad 6 q 0) ((u : Nat) : Int) (by omega) ⟨by omega, by omega⟩ (by omega)) (cwV 1 hts gX5_weightHeard_Jx4a65c_get_915e3 rfl rfl rfl (by decide +kernel) ⟨Nat.le_of_ble_eq_true rfl, Nat.le_of_ble_eq_true rfl⟩) (q_pV hK (hC.lst (k := 1) (by decide)) rfl ⟨(hC.lst (k := 1) (by decide)), (hC.arr (k := 1) (by decide) (by show 0 < S 10 0; omega))⟩) rfl hl.1 rfl (Nat.le_of_ble_eq_true rfl) ⟨Nat.zero_le _, Nat.zero_le _⟩ dX5_weightHeard_23 ?_
    refine q_cast (C := RX3) (T := TX3) (N := 3) hx hb hown (hts (.classLink RX5 78 RX3) (by decide +kernel)) hK (hC.objector (k := ((u : Nat) : Int)) ⟨by omega, by omega⟩) rfl dX5_weightHeard_26 ?_
    refine lv_astore (lv' := [(5, .ref (ad 6 ((u : Nat) : Int) 0)), (0, .ref (ad 0 0 0)), (1, .int (iI x)), (2, .int (iI y)), (3, .int (iI (sHeard S x y u))), (4, .int (iI ((u : Nat) : Int)))]) hx hb dX5_weightHeard_29 hl (by decide) rfl (fun ls hl => ?_)
    have hO := hI.obj (j := ((u : Nat) : Int)) (by omega) (by omega)
    have ho := off2_b (x2 := S 11 ((u : Nat) : Int)) (y2 := S 12 ((u : Nat) : Int)) hp ⟨hO.1, hO.2.1⟩
    refine lv_iload_n hx hb dX5_weightHeard_31 rfl (lv_at hl 2 rfl) ?_
    refine lv_iload_n hx hb dX5_weightHeard_32 rfl (lv_at hl 3 rfl) ?_
    refine q_aload hx hb dX5_weightHeard_33 (lv_at hl 0 rfl) ?_
    refine q_get (v := .int (iI (S 11 ((u : Nat) : Int)))) (C := RX3) (T := TX3) (N := 3) hx hb hts inX3 hown hK (hC.objector (k := ((u : Nat) : Int)) ⟨by omega, by omega⟩) rfl 0 (by decide) (hts (.fieldLink RX5 221 "TavernBench$Objector" "x" "I") (by decide +kernel)) (fun _ h9 => h9) rfl dX5_weightHeard_35 ?_
    refine q_aload hx hb dX5_weightHeard_38 (lv_at hl 0 rfl) ?_
    refine q_get (v := .int (iI (S 12 ((u : Nat) : Int)))) (C := RX3) (T := TX3) (N := 3) hx hb hts inX3 hown hK (hC.objector (k := ((u : Nat) : Int)) ⟨by omega, by omega⟩) rfl 1 (by decide) (hts (.fieldLink RX5 222 "TavernBench$Objector" "y" "I") (by decide +kernel)) (fun _ h9 => h9) rfl dX5_weightHeard_40 ?_
    refine q_cSi (As := [.int (iI x), .int (iI y), .int (iI (S 11 ((u : Nat) : Int))), .int (iI (S 12 ((u : Nat) : Int)))]) (rest := []) ⟨hx, hb, hml, hown, hts⟩ (c5_squareOfDistance l g x y (S 11 ((u : Nat) : Int)) (S 12 ((u : Nat) : Int)) r_x r_y (hI.R (by decide)) (hI.R (by decide)) ) (va_cwS 4 hts gX5_weightHeard_X5_squareOfDistance rfl rfl rfl (by decide +kernel) ⟨Nat.le_of_ble_eq_true rfl, Nat.le_of_ble_eq_true rfl⟩) (q_pS hK trivial) rfl hl.1 rfl (Nat.le_of_ble_eq_true rfl) ⟨Nat.zero_le _, Nat.zero_le _⟩ dX5_weightHeard_43 ?_
    refine lv_aload_n hx hb dX5_weightHeard_46 rfl (lv_at hl 1 rfl) ?_
    refine q_get (v := .int (iI (S 9 0))) (C := RX5) (T := TX5) (N := 11) hx hb hts inX5 hown hK hC.obj rfl 7 (by decide) (hts (.fieldLink RX5 39 "TavernBench" "heard" "I") (by decide +kernel)) (fun _ h9 => h9) rfl dX5_weightHeard_47 ?_
    refine lv_aload_n hx hb dX5_weightHeard_50 rfl (lv_at hl 1 rfl) ?_
    refine q_get (v := .int (iI (S 9 0))) (C := RX5) (T := TX5) (N := 11) hx hb hts inX5 hown hK hC.obj rfl 7 (by decide) (hts (.fieldLink RX5 39 "TavernBench" "heard" "I") (by decide +kernel)) (fun _ h9 => h9) rfl dX5_weightHeard_51 ?_
    refine q_imul hx hb dX5_weightHeard_54 ?_
    refine q_icmp_gt (tgt := 66) hx hb dX5_weightHeard_55 (by decide) (by omega) (by omega) (fun c55 => ?_) (fun c55 => ?_)
    · refine lv_iinc (v := iI (((u : Nat) : Int) + 1)) (lv' := [(4, .int (iI (((u : Nat) : Int) + 1))), (5, .ref (ad 6 ((u : Nat) : Int) 0)), (0, .ref (ad 0 0 0)), (1, .int (iI x)), (2, .int (iI y)), (3, .int (iI (sHeard S x y u)))]) hx hb dX5_weightHeard_66 hl (k := 5) rfl (iI_add _ _) (by decide) rfl (fun ls hl => ?_)
      refine lv_goto (tgt := 5) hx hb dX5_weightHeard_69 (by decide) ?_
      have e0 : (sHeard S x y (u + 1) : Int) = sHeard S x y u := by
        show sHeard S x y u + cI _ _ _ = _
        first | rw [cI_t (by assumption)] | (rw [cI_f (by omega)]; exact Int.add_zero _)
      have e1 : ((((u + 1) : Nat) : Int) : Int) = ((u : Nat) : Int) + 1 := by
        omega
      exact ihu (by omega) ls (lv_sub hl [2, 3, 4, 5, 0] (by simp only [e0, e1]; rfl))
    · refine lv_iload_n hx hb dX5_weightHeard_58 rfl (lv_at hl 4 rfl) ?_
      refine q_aload hx hb dX5_weightHeard_59 (lv_at hl 0 rfl) ?_
      refine q_get (v := .int (iI (S 13 ((u : Nat) : Int)))) (C := RX3) (T := TX3) (N := 3) hx hb hts inX3 hown hK (hC.objector (k := ((u : Nat) : Int)) ⟨by omega, by omega⟩) rfl 2 (by decide) (hts (.fieldLink RX5 223 "TavernBench$Objector" "weight" "I") (by decide +kernel)) (fun _ h9 => h9) rfl dX5_weightHeard_61 ?_
      refine q_iadd hx hb dX5_weightHeard_64 ?_
      refine lv_istore_n (lv' := [(3, .int (iI ((sHeard S x y u) + (S 13 ((u : Nat) : Int))))), (5, .ref (ad 6 ((u : Nat) : Int) 0)), (0, .ref (ad 0 0 0)), (1, .int (iI x)), (2, .int (iI y)), (4, .int (iI ((u : Nat) : Int)))]) hx hb dX5_weightHeard_65 rfl hl (by decide) rfl (fun ls hl => ?_)
      refine lv_iinc (v := iI (((u : Nat) : Int) + 1)) (lv' := [(4, .int (iI (((u : Nat) : Int) + 1))), (3, .int (iI ((sHeard S x y u) + (S 13 ((u : Nat) : Int))))), (5, .ref (ad 6 ((u : Nat) : Int) 0)), (0, .ref (ad 0 0 0)), (1, .int (iI x)), (2, .int (iI y))]) hx hb dX5_weightHeard_66 hl (k := 5) rfl (iI_add _ _) (by decide) rfl (fun ls hl => ?_)
      refine lv_goto (tgt := 5) hx hb dX5_weightHeard_69 (by decide) ?_
      have e0 : (sHeard S x y (u + 1) : Int) = (sHeard S x y u) + (S 13 ((u : Nat) : Int)) := by
        show sHeard S x y u + cI _ _ _ = _
        first | rw [cI_t (by assumption)] | (rw [cI_f (by omega)]; exact Int.add_zero _)
      have e1 : ((((u + 1) : Nat) : Int) : Int) = ((u : Nat) : Int) + 1 := by
        omega
      exact ihu (by omega) ls (lv_sub hl [3, 4, 5, 1, 0] (by simp only [e0, e1]; rfl))

set_option maxHeartbeats 4000000 in
set_option maxRecDepth 100000 in
theorem c5_judge (l : Launch) (g : GG) (eA : Nat) (P : Nat → Prop) (ad : AD) (S : St) (hI : Inv S) (hQ : InvC S) (x : Int) (y : Int) (no : Int) (se : Int) (r_x : R32 x) (r_y : R32 y) (r_no : R32 no) (r_se : R32 se) (hp : isP x y) (hse : isD se) (hno : isD no) : MetI l yX5_judge wsX5_judge ({ frames := 8, cells := 0, slots := 0, locals := 186 }) g [.ref (ad 0 0 0), .int (iI x), .int (iI y), .int (iI no), .int (iI se)] (fun H => RepC g eA P ad S H) (sJudge S x y no se) := by
  refine Met.ofW (cc := cX5_judge) (maxL := 5) (ret := (some .int)) (by decide) rfl ?_
  intro p e s m args below meth c s₁ B hml hv
  obtain ⟨rfl, hC, hK⟩ := hv
  have hx := B.exec
  have hb := B.bytes
  have hr := B.returns
  have hts := atoms_spec (ws := wsX5_judge) B.pre
  have hown : s.vm.findClass RX5 = some m.cls := findClass_of_methodNamed B.named
  have hlocks := B.notSynchronized
  have hl := lv_entry ([.ref (ad 0 0 0), .int (iI x), .int (iI y), .int (iI no), .int (iI se)]) (n := 5) (Nat.le_of_ble_eq_true rfl)
  rw [lg_entry_eq]
  generalize (lg_sl ([.ref (ad 0 0 0), .int (iI x), .int (iI y), .int (iI no), .int (iI se)]) ++ List.replicate (5 - (lg_sl ([.ref (ad 0 0 0), .int (iI x), .int (iI y), .int (iI no), .int (iI se)])).length) Slot.unset).toArray = ls at hl ⊢
  have hl : lv_has ls 5 [(0, .ref (ad 0 0 0)), (1, .int (iI x)), (2, .int (iI y)), (3, .int (iI no)), (4, .int (iI se))] := hl
  have hN := hI.nums
  refine lv_iload hx hb dX5_judge_0 (lv_at hl 4 rfl) ?_
  refine lv_iload_n hx hb dX5_judge_2 rfl (lv_at hl 3 rfl) ?_
  refine q_isub hx hb dX5_judge_3 ?_
  refine q_bipush hx hb 21 dX5_judge_4 (by decide +kernel) ?_
  refine q_icmp_ge (tgt := 11) hx hb dX5_judge_6 (by decide) (by omega) (by decide) (fun c6 => ?_) (fun c6 => ?_)
  · refine lv_aload_n hx hb dX5_judge_11 rfl (lv_at hl 0 rfl) ?_
    refine lv_iload_n hx hb dX5_judge_12 rfl (lv_at hl 1 rfl) ?_
    refine lv_iload_n hx hb dX5_judge_13 rfl (lv_at hl 2 rfl) ?_
    refine lv_iload hx hb dX5_judge_14 (lv_at hl 4 rfl) ?_
    refine q_cVi (As := [.int (iI x), .int (iI y), .int (iI se)]) (rest := []) ⟨hx, hb, hml, hown, hts⟩ (c5_isCrowded l g eA P ad S hI hQ x y se r_x r_y r_se (by omega) (by omega)) (cwV 3 hts gX5_judge_X5_isCrowded rfl rfl rfl (by decide +kernel) ⟨Nat.le_of_ble_eq_true rfl, Nat.le_of_ble_eq_true rfl⟩) (q_pV hK hC.obj rfl hC) rfl hl.1 rfl (Nat.le_of_ble_eq_true rfl) ⟨Nat.zero_le _, Nat.zero_le _⟩ dX5_judge_16 ?_
    refine q_ifb_eq (tgt := 24) hx hb dX5_judge_19 (by decide) (fun c19 => ?_) (fun c19 => ?_)
    · refine lv_aload_n hx hb dX5_judge_24 rfl (lv_at hl 0 rfl) ?_
      refine lv_iload_n hx hb dX5_judge_25 rfl (lv_at hl 1 rfl) ?_
      refine lv_iload_n hx hb dX5_judge_26 rfl (lv_at hl 2 rfl) ?_
      refine q_cVi (As := [.int (iI x), .int (iI y)]) (rest := []) ⟨hx, hb, hml, hown, hts⟩ (c5_weightHeard l g eA P ad S hI hQ x y r_x r_y (by omega)) (cwV 2 hts gX5_judge_X5_weightHeard rfl rfl rfl (by decide +kernel) ⟨Nat.le_of_ble_eq_true rfl, Nat.le_of_ble_eq_true rfl⟩) (q_pV hK hC.obj rfl hC) rfl hl.1 rfl (Nat.le_of_ble_eq_true rfl) ⟨Nat.zero_le _, Nat.zero_le _⟩ dX5_judge_27 ?_
      have hsb := sHeard_b hI x y
      refine q_bipush hx hb 10 dX5_judge_30 (by decide +kernel) ?_
      refine q_icmp_le (tgt := 39) hx hb dX5_judge_32 (by decide) (by omega) (by decide) (fun c32 => ?_) (fun c32 => ?_)
      · refine lv_iconst (v := iI 0) hx hb dX5_judge_39 rfl ?_
        refine q_reti hx hb hr hlocks dX5_judge_40 ?_
        show _ = sJudge S x y no se
        unfold sJudge
        first | rw [cI_t (by omega)] | rw [cI_f (by omega), cI_t (by assumption)] | rw [cI_f (by omega), cI_f (by assumption), cI_t (by omega)] | rw [cI_f (by omega), cI_f (by assumption), cI_f (by omega)]
      · refine lv_iconst (v := iI 3) hx hb dX5_judge_35 rfl ?_
        refine lv_goto (tgt := 40) hx hb dX5_judge_36 (by decide) ?_
        refine q_reti hx hb hr hlocks dX5_judge_40 ?_
        show _ = sJudge S x y no se
        unfold sJudge
        first | rw [cI_t (by omega)] | rw [cI_f (by omega), cI_t (by assumption)] | rw [cI_f (by omega), cI_f (by assumption), cI_t (by omega)] | rw [cI_f (by omega), cI_f (by assumption), cI_f (by omega)]
    · refine lv_iconst (v := iI 2) hx hb dX5_judge_22 rfl ?_
      refine q_reti hx hb hr hlocks dX5_judge_23 ?_
      show _ = sJudge S x y no se
      unfold sJudge
      first | rw [cI_t (by omega)] | rw [cI_f (by omega), cI_t (by assumption)] | rw [cI_f (by omega), cI_f (by assumption), cI_t (by omega)] | rw [cI_f (by omega), cI_f (by assumption), cI_f (by omega)]
  · refine lv_iconst (v := iI 1) hx hb dX5_judge_9 rfl ?_
    refine q_reti hx hb hr hlocks dX5_judge_10 ?_
    show _ = sJudge S x y no se
    unfold sJudge
    first | rw [cI_t (by omega)] | rw [cI_f (by omega), cI_t (by assumption)] | rw [cI_f (by omega), cI_f (by assumption), cI_t (by omega)] | rw [cI_f (by omega), cI_f (by assumption), cI_f (by omega)]

set_option maxHeartbeats 4000000 in
set_option maxRecDepth 100000 in
theorem c5_openOverMidnightUntil (l : Launch) (g : GG) (eA : Nat) (P : Nat → Prop) (ad : AD) (S : St) (hI : Inv S) (hQ : InvC S) (h : Int) (h0 : 0 ≤ h ∧ h < S 14 0) (day : Int) (r_day : R32 day) (hd : isD day) : MetI l yX5_openOverMidnightUntil wsX5_openOverMidnightUntil ({ frames := 7, cells := 0, slots := 0, locals := 161 }) g [.ref (ad 0 0 0), .ref (ad 7 h 0), .int (iI day)] (fun H => RepC g eA P ad S H) (oM S h day) := by
  refine Met.ofW (cc := cX5_openOverMidnightUntil) (maxL := 3) (ret := (some .int)) (by decide) rfl ?_
  intro p e s m args below meth c s₁ B hml hv
  obtain ⟨rfl, hC, hK⟩ := hv
  have hx := B.exec
  have hb := B.bytes
  have hr := B.returns
  have hts := atoms_spec (ws := wsX5_openOverMidnightUntil) B.pre
  have hown : s.vm.findClass RX5 = some m.cls := findClass_of_methodNamed B.named
  have hlocks := B.notSynchronized
  have inX1 : ∀ w ∈ wsX10, w ∈ wsX5_openOverMidnightUntil := by decide +kernel
  have inX2 : ∀ w ∈ wsX20, w ∈ wsX5_openOverMidnightUntil := by decide +kernel
  have hl := lv_entry ([.ref (ad 0 0 0), .ref (ad 7 h 0), .int (iI day)]) (n := 3) (Nat.le_of_ble_eq_true rfl)
  rw [lg_entry_eq]
  generalize (lg_sl ([.ref (ad 0 0 0), .ref (ad 7 h 0), .int (iI day)]) ++ List.replicate (3 - (lg_sl ([.ref (ad 0 0 0), .ref (ad 7 h 0), .int (iI day)])).length) Slot.unset).toArray = ls at hl ⊢
  have hl : lv_has ls 3 [(0, .ref (ad 0 0 0)), (1, .ref (ad 7 h 0)), (2, .int (iI day))] := hl
  have hN := hI.nums
  have hH := hI.house h0.1 h0.2
  have hsc := sCond_b hI h0 day
  have b1 := lawF_b hI (S 17 h) day
  have b2 := lawF_b hI (S 17 h) (day - 1)
  have hb0 := sState_b S h day 100000
  have l1 := sLawOf_b' S (S 17 h) day
  have l2 := sLawOf_b' S (S 17 h) (day - 1)
  refine lv_iload_n hx hb dX5_openOverMidnightUntil_0 rfl (lv_at hl 2 rfl) ?_
  refine q_if_eq (tgt := 14) hx hb dX5_openOverMidnightUntil_1 (by decide) r_day (fun c1 => ?_) (fun c1 => ?_)
  · refine lv_iconst (v := iI 0) hx hb dX5_openOverMidnightUntil_14 rfl ?_
    refine q_reti hx hb hr hlocks dX5_openOverMidnightUntil_15 ?_
    show _ = oM S h day
    unfold oM
    first | rw [cI_t (Or.inl (by omega))] | rw [cI_t (Or.inr (Or.inl (by assumption)))]
  · refine lv_aload_n hx hb dX5_openOverMidnightUntil_4 rfl (lv_at hl 1 rfl) ?_
    refine lv_iload_n hx hb dX5_openOverMidnightUntil_5 rfl (lv_at hl 2 rfl) ?_
    refine q_cVi (As := [.int (iI day)]) (rest := []) ⟨hx, hb, hml, hown, hts⟩ (c1_conditionOn l g eA P ad S hI hQ h h0 day r_day ) (cwV 1 hts gX5_openOverMidnightUntil_X1_conditionOn rfl rfl rfl (by decide +kernel) ⟨Nat.le_of_ble_eq_true rfl, Nat.le_of_ble_eq_true rfl⟩) (q_pV hK (hC.house (k := h) h0) rfl hC) rfl hl.1 rfl (Nat.le_of_ble_eq_true rfl) ⟨Nat.zero_le _, Nat.zero_le _⟩ dX5_openOverMidnightUntil_6 ?_
    refine q_bipush hx hb (-4) dX5_openOverMidnightUntil_9 (by decide +kernel) ?_
    refine q_icmp_eq (tgt := 16) hx hb dX5_openOverMidnightUntil_11 (by decide) (by omega) (by decide) (fun c11 => ?_) (fun c11 => ?_)
    · refine lv_aload_n hx hb dX5_openOverMidnightUntil_16 rfl (lv_at hl 1 rfl) ?_
      refine lv_iload_n hx hb dX5_openOverMidnightUntil_17 rfl (lv_at hl 2 rfl) ?_
      refine q_cVi (As := [.int (iI day)]) (rest := []) ⟨hx, hb, hml, hown, hts⟩ (c1_hasLicence l g eA P ad S hI hQ h h0 day r_day (by omega)) (cwV 1 hts gX5_openOverMidnightUntil_X1_hasLicence rfl rfl rfl (by decide +kernel) ⟨Nat.le_of_ble_eq_true rfl, Nat.le_of_ble_eq_true rfl⟩) (q_pV hK (hC.house (k := h) h0) rfl hC) rfl hl.1 rfl (Nat.le_of_ble_eq_true rfl) ⟨Nat.zero_le _, Nat.zero_le _⟩ dX5_openOverMidnightUntil_18 ?_
      refine q_ifb_eq (tgt := 34) hx hb dX5_openOverMidnightUntil_21 (by decide) (fun c21 => ?_) (fun c21 => ?_)
      · refine lv_iconst (v := iI 0) hx hb dX5_openOverMidnightUntil_34 rfl ?_
        refine q_reti hx hb hr hlocks dX5_openOverMidnightUntil_35 ?_
        show _ = oM S h day
        unfold oM
        first | rw [cI_t (Or.inr (Or.inr (Or.inl (by assumption))))] | rw [cI_t (Or.inr (Or.inr (Or.inr (by assumption))))]
      · refine lv_aload_n hx hb dX5_openOverMidnightUntil_24 rfl (lv_at hl 1 rfl) ?_
        refine lv_iload_n hx hb dX5_openOverMidnightUntil_25 rfl (lv_at hl 2 rfl) ?_
        refine lv_iconst (v := iI 1) hx hb dX5_openOverMidnightUntil_26 rfl ?_
        refine q_isub hx hb dX5_openOverMidnightUntil_27 ?_
        refine q_cVi (As := [.int (iI (day - 1))]) (rest := []) ⟨hx, hb, hml, hown, hts⟩ (c1_hasLicence l g eA P ad S hI hQ h h0 (day - 1) (by omega) (by omega)) (cwV 1 hts gX5_openOverMidnightUntil_X1_hasLicence rfl rfl rfl (by decide +kernel) ⟨Nat.le_of_ble_eq_true rfl, Nat.le_of_ble_eq_true rfl⟩) (q_pV hK (hC.house (k := h) h0) rfl hC) rfl hl.1 rfl (Nat.le_of_ble_eq_true rfl) ⟨Nat.zero_le _, Nat.zero_le _⟩ dX5_openOverMidnightUntil_28 ?_
        refine q_ifb_ne (tgt := 36) hx hb dX5_openOverMidnightUntil_31 (by decide) (fun c31 => ?_) (fun c31 => ?_)
        · refine lv_iconst (v := iI 0) hx hb dX5_openOverMidnightUntil_36 rfl ?_
          refine lv_aload_n hx hb dX5_openOverMidnightUntil_37 rfl (lv_at hl 0 rfl) ?_
          refine lv_aload_n hx hb dX5_openOverMidnightUntil_38 rfl (lv_at hl 1 rfl) ?_
          refine q_get (v := .int (iI (S 17 h))) (C := RX1) (T := TX1) (N := 7) hx hb hts inX1 hown hK (hC.house (k := h) h0) rfl 2 (by decide) (hts (.fieldLink RX5 146 "TavernBench$House" "kind" "I") (by decide +kernel)) (fun _ h9 => h9) rfl dX5_openOverMidnightUntil_39 ?_
          refine lv_iload_n hx hb dX5_openOverMidnightUntil_42 rfl (lv_at hl 2 rfl) ?_
          refine lv_iconst (v := iI 1) hx hb dX5_openOverMidnightUntil_43 rfl ?_
          refine q_isub hx hb dX5_openOverMidnightUntil_44 ?_
          refine q_cVr (As := [.int (iI (S 17 h)), .int (iI (day - 1))]) (rest := [.int (iI 0)]) ⟨hx, hb, hml, hown, hts⟩ (c5_lawOf l g eA P ad S hI hQ (S 17 h) (day - 1) (hI.R (by decide)) (by omega) (by omega)) (cwV 2 hts gX5_openOverMidnightUntil_X5_lawOf rfl rfl rfl (by decide +kernel) ⟨Nat.le_of_ble_eq_true rfl, Nat.le_of_ble_eq_true rfl⟩) (q_pV hK hC.obj rfl hC) rfl hl.1 rfl (Nat.le_of_ble_eq_true rfl) ⟨Nat.zero_le _, Nat.zero_le _⟩ dX5_openOverMidnightUntil_45 ?_
          refine q_get (v := .int (iI (lawF S 7 (sLawOf S (S 17 h) (day - 1))))) (C := RX2) (T := TX2) (N := 5) hx hb hts inX2 hown hK (hC.lawAt (z := (sLawOf S (S 17 h) (day - 1))) (by omega)) rfl 4 (by decide) (hts (.fieldLink RX5 159 "TavernBench$Law" "to" "I") (by decide +kernel)) (fun _ h9 => h9) rfl dX5_openOverMidnightUntil_48 ?_
          refine q_sipush hx hb 1440 dX5_openOverMidnightUntil_51 (by decide +kernel) ?_
          refine q_isub hx hb dX5_openOverMidnightUntil_54 ?_
          refine q_mmax hx hb (hml.trans hl.1.symm) hown (hts (.methodLink RX5 120 Lib.Math.max.name) (by decide +kernel)) (hts (.static Lib.Math.max.name) (by decide +kernel)) (hts (.initialized "java/lang/Math") (by decide +kernel)) (hts (.code Lib.Math.max.name Lib.Math.max.code 2 (some .int)) (by decide +kernel)) (Nat.le_of_ble_eq_true rfl) (Nat.le_of_ble_eq_true rfl) (Nat.zero_le _) (Nat.zero_le _) dX5_openOverMidnightUntil_55 (by decide) (by omega) ?_
          refine q_reti hx hb hr hlocks dX5_openOverMidnightUntil_58 ?_
          show _ = oM S h day
          unfold oM
          rw [cI_f (fun z => by
            rcases z with z | z | z | z
            · omega
            · omega
            · exact absurd (by assumption) z
            · exact absurd (by assumption) z)]
        · refine lv_iconst (v := iI 0) hx hb dX5_openOverMidnightUntil_34 rfl ?_
          refine q_reti hx hb hr hlocks dX5_openOverMidnightUntil_35 ?_
          show _ = oM S h day
          unfold oM
          first | rw [cI_t (Or.inr (Or.inr (Or.inl (by assumption))))] | rw [cI_t (Or.inr (Or.inr (Or.inr (by assumption))))]
    · refine lv_iconst (v := iI 0) hx hb dX5_openOverMidnightUntil_14 rfl ?_
      refine q_reti hx hb hr hlocks dX5_openOverMidnightUntil_15 ?_
      show _ = oM S h day
      unfold oM
      first | rw [cI_t (Or.inl (by omega))] | rw [cI_t (Or.inr (Or.inl (by assumption)))]

set_option maxHeartbeats 4000000 in
set_option maxRecDepth 100000 in
theorem c5_openTodayUntil (l : Launch) (g : GG) (eA : Nat) (P : Nat → Prop) (ad : AD) (S : St) (hI : Inv S) (hQ : InvC S) (h : Int) (h0 : 0 ≤ h ∧ h < S 14 0) (day : Int) (r_day : R32 day) (hd : isD day) : MetI l yX5_openTodayUntil wsX5_openTodayUntil ({ frames := 7, cells := 0, slots := 0, locals := 161 }) g [.ref (ad 0 0 0), .ref (ad 7 h 0), .int (iI day)] (fun H => RepC g eA P ad S H) (oT S h day) := by
  refine Met.ofW (cc := cX5_openTodayUntil) (maxL := 5) (ret := (some .int)) (by decide) rfl ?_
  intro p e s m args below meth c s₁ B hml hv
  obtain ⟨rfl, hC, hK⟩ := hv
  have hx := B.exec
  have hb := B.bytes
  have hr := B.returns
  have hts := atoms_spec (ws := wsX5_openTodayUntil) B.pre
  have hown : s.vm.findClass RX5 = some m.cls := findClass_of_methodNamed B.named
  have hlocks := B.notSynchronized
  have inX1 : ∀ w ∈ wsX10, w ∈ wsX5_openTodayUntil := by decide +kernel
  have inX2 : ∀ w ∈ wsX20, w ∈ wsX5_openTodayUntil := by decide +kernel
  have hl := lv_entry ([.ref (ad 0 0 0), .ref (ad 7 h 0), .int (iI day)]) (n := 5) (Nat.le_of_ble_eq_true rfl)
  rw [lg_entry_eq]
  generalize (lg_sl ([.ref (ad 0 0 0), .ref (ad 7 h 0), .int (iI day)]) ++ List.replicate (5 - (lg_sl ([.ref (ad 0 0 0), .ref (ad 7 h 0), .int (iI day)])).length) Slot.unset).toArray = ls at hl ⊢
  have hl : lv_has ls 5 [(0, .ref (ad 0 0 0)), (1, .ref (ad 7 h 0)), (2, .int (iI day))] := hl
  have hN := hI.nums
  have hH := hI.house h0.1 h0.2
  have hsc := sCond_b hI h0 day
  have b1 := lawF_b hI (S 17 h) day
  have b2 := lawF_b hI (S 17 h) (day - 1)
  have hb0 := sState_b S h day 100000
  have l1 := sLawOf_b' S (S 17 h) day
  have l2 := sLawOf_b' S (S 17 h) (day - 1)
  refine lv_aload_n hx hb dX5_openTodayUntil_0 rfl (lv_at hl 1 rfl) ?_
  refine lv_iload_n hx hb dX5_openTodayUntil_1 rfl (lv_at hl 2 rfl) ?_
  refine q_cVi (As := [.int (iI day)]) (rest := []) ⟨hx, hb, hml, hown, hts⟩ (c1_hasLicence l g eA P ad S hI hQ h h0 day r_day (by omega)) (cwV 1 hts gX5_openTodayUntil_X1_hasLicence rfl rfl rfl (by decide +kernel) ⟨Nat.le_of_ble_eq_true rfl, Nat.le_of_ble_eq_true rfl⟩) (q_pV hK (hC.house (k := h) h0) rfl hC) rfl hl.1 rfl (Nat.le_of_ble_eq_true rfl) ⟨Nat.zero_le _, Nat.zero_le _⟩ dX5_openTodayUntil_2 ?_
  refine q_ifb_ne (tgt := 10) hx hb dX5_openTodayUntil_5 (by decide) (fun c5 => ?_) (fun c5 => ?_)
  · refine lv_aload_n hx hb dX5_openTodayUntil_10 rfl (lv_at hl 1 rfl) ?_
    refine lv_iload_n hx hb dX5_openTodayUntil_11 rfl (lv_at hl 2 rfl) ?_
    refine q_cVi (As := [.int (iI day)]) (rest := []) ⟨hx, hb, hml, hown, hts⟩ (c1_conditionOn l g eA P ad S hI hQ h h0 day r_day ) (cwV 1 hts gX5_openTodayUntil_X1_conditionOn rfl rfl rfl (by decide +kernel) ⟨Nat.le_of_ble_eq_true rfl, Nat.le_of_ble_eq_true rfl⟩) (q_pV hK (hC.house (k := h) h0) rfl hC) rfl hl.1 rfl (Nat.le_of_ble_eq_true rfl) ⟨Nat.zero_le _, Nat.zero_le _⟩ dX5_openTodayUntil_12 ?_
    refine lv_istore_n (lv' := [(3, .int (iI (sCond S h day))), (0, .ref (ad 0 0 0)), (1, .ref (ad 7 h 0)), (2, .int (iI day))]) hx hb dX5_openTodayUntil_15 rfl hl (by decide) rfl (fun ls hl => ?_)
    refine lv_iload_n hx hb dX5_openTodayUntil_16 rfl (lv_at hl 0 rfl) ?_
    refine q_bipush hx hb (-4) dX5_openTodayUntil_17 (by decide +kernel) ?_
    refine q_icmp_ne (tgt := 28) hx hb dX5_openTodayUntil_19 (by decide) (by omega) (by decide) (fun c19 => ?_) (fun c19 => ?_)
    · refine lv_iload_n hx hb dX5_openTodayUntil_28 rfl (lv_at hl 0 rfl) ?_
      refine lv_istore (lv' := [(4, .int (iI (sCond S h day))), (3, .int (iI (sCond S h day))), (0, .ref (ad 0 0 0)), (1, .ref (ad 7 h 0)), (2, .int (iI day))]) hx hb dX5_openTodayUntil_29 hl (by decide) rfl (fun ls hl => ?_)
      refine lv_aload_n hx hb dX5_openTodayUntil_31 rfl (lv_at hl 2 rfl) ?_
      refine lv_aload_n hx hb dX5_openTodayUntil_32 rfl (lv_at hl 3 rfl) ?_
      refine q_get (v := .int (iI (S 17 h))) (C := RX1) (T := TX1) (N := 7) hx hb hts inX1 hown hK (hC.house (k := h) h0) rfl 2 (by decide) (hts (.fieldLink RX5 146 "TavernBench$House" "kind" "I") (by decide +kernel)) (fun _ h9 => h9) rfl dX5_openTodayUntil_33 ?_
      refine lv_iload_n hx hb dX5_openTodayUntil_36 rfl (lv_at hl 4 rfl) ?_
      refine q_cVr (As := [.int (iI (S 17 h)), .int (iI day)]) (rest := []) ⟨hx, hb, hml, hown, hts⟩ (c5_lawOf l g eA P ad S hI hQ (S 17 h) day (hI.R (by decide)) r_day (by omega)) (cwV 2 hts gX5_openTodayUntil_X5_lawOf rfl rfl rfl (by decide +kernel) ⟨Nat.le_of_ble_eq_true rfl, Nat.le_of_ble_eq_true rfl⟩) (q_pV hK hC.obj rfl hC) rfl hl.1 rfl (Nat.le_of_ble_eq_true rfl) ⟨Nat.zero_le _, Nat.zero_le _⟩ dX5_openTodayUntil_37 ?_
      refine q_get (v := .int (iI (lawF S 7 (sLawOf S (S 17 h) day)))) (C := RX2) (T := TX2) (N := 5) hx hb hts inX2 hown hK (hC.lawAt (z := (sLawOf S (S 17 h) day)) (by omega)) rfl 4 (by decide) (hts (.fieldLink RX5 159 "TavernBench$Law" "to" "I") (by decide +kernel)) (fun _ h9 => h9) rfl dX5_openTodayUntil_40 ?_
      refine lv_iload hx hb dX5_openTodayUntil_43 (lv_at hl 0 rfl) ?_
      refine q_mmin hx hb (hml.trans hl.1.symm) hown (hts (.methodLink RX5 226 Lib.Math.min.name) (by decide +kernel)) (hts (.static Lib.Math.min.name) (by decide +kernel)) (hts (.initialized "java/lang/Math") (by decide +kernel)) (hts (.code Lib.Math.min.name Lib.Math.min.code 2 (some .int)) (by decide +kernel)) (Nat.le_of_ble_eq_true rfl) (Nat.le_of_ble_eq_true rfl) (Nat.zero_le _) (Nat.zero_le _) dX5_openTodayUntil_45 (by omega) (by omega) ?_
      refine q_reti hx hb hr hlocks dX5_openTodayUntil_48 ?_
      show _ = oT S h day
      unfold oT
      rw [cI_t (by assumption)]
      first | rw [cI_t (by assumption)] | rw [cI_f (by assumption)]
    · refine q_sipush hx hb 1440 dX5_openTodayUntil_22 (by decide +kernel) ?_
      refine lv_goto (tgt := 29) hx hb dX5_openTodayUntil_25 (by decide) ?_
      refine lv_istore (lv' := [(4, .int (iI 1440)), (3, .int (iI (sCond S h day))), (0, .ref (ad 0 0 0)), (1, .ref (ad 7 h 0)), (2, .int (iI day))]) hx hb dX5_openTodayUntil_29 hl (by decide) rfl (fun ls hl => ?_)
      refine lv_aload_n hx hb dX5_openTodayUntil_31 rfl (lv_at hl 2 rfl) ?_
      refine lv_aload_n hx hb dX5_openTodayUntil_32 rfl (lv_at hl 3 rfl) ?_
      refine q_get (v := .int (iI (S 17 h))) (C := RX1) (T := TX1) (N := 7) hx hb hts inX1 hown hK (hC.house (k := h) h0) rfl 2 (by decide) (hts (.fieldLink RX5 146 "TavernBench$House" "kind" "I") (by decide +kernel)) (fun _ h9 => h9) rfl dX5_openTodayUntil_33 ?_
      refine lv_iload_n hx hb dX5_openTodayUntil_36 rfl (lv_at hl 4 rfl) ?_
      refine q_cVr (As := [.int (iI (S 17 h)), .int (iI day)]) (rest := []) ⟨hx, hb, hml, hown, hts⟩ (c5_lawOf l g eA P ad S hI hQ (S 17 h) day (hI.R (by decide)) r_day (by omega)) (cwV 2 hts gX5_openTodayUntil_X5_lawOf rfl rfl rfl (by decide +kernel) ⟨Nat.le_of_ble_eq_true rfl, Nat.le_of_ble_eq_true rfl⟩) (q_pV hK hC.obj rfl hC) rfl hl.1 rfl (Nat.le_of_ble_eq_true rfl) ⟨Nat.zero_le _, Nat.zero_le _⟩ dX5_openTodayUntil_37 ?_
      refine q_get (v := .int (iI (lawF S 7 (sLawOf S (S 17 h) day)))) (C := RX2) (T := TX2) (N := 5) hx hb hts inX2 hown hK (hC.lawAt (z := (sLawOf S (S 17 h) day)) (by omega)) rfl 4 (by decide) (hts (.fieldLink RX5 159 "TavernBench$Law" "to" "I") (by decide +kernel)) (fun _ h9 => h9) rfl dX5_openTodayUntil_40 ?_
      refine lv_iload hx hb dX5_openTodayUntil_43 (lv_at hl 0 rfl) ?_
      refine q_mmin hx hb (hml.trans hl.1.symm) hown (hts (.methodLink RX5 226 Lib.Math.min.name) (by decide +kernel)) (hts (.static Lib.Math.min.name) (by decide +kernel)) (hts (.initialized "java/lang/Math") (by decide +kernel)) (hts (.code Lib.Math.min.name Lib.Math.min.code 2 (some .int)) (by decide +kernel)) (Nat.le_of_ble_eq_true rfl) (Nat.le_of_ble_eq_true rfl) (Nat.zero_le _) (Nat.zero_le _) dX5_openTodayUntil_45 (by omega) (by decide) ?_
      refine q_reti hx hb hr hlocks dX5_openTodayUntil_48 ?_
      show _ = oT S h day
      unfold oT
      rw [cI_t (by assumption)]
      first | rw [cI_t (by assumption)] | rw [cI_f (by assumption)]
  · refine lv_iconst (v := iI 0) hx hb dX5_openTodayUntil_8 rfl ?_
    refine q_reti hx hb hr hlocks dX5_openTodayUntil_9 ?_
    show _ = oT S h day
    unfold oT
    rw [cI_f (by assumption)]

theorem oM_b {S : St} (hI : Inv S) (h day : Int) : 0 ≤ oM S h day ∧ oM S h day ≤ 360 := by
  have b2 := lawF_b hI (S 17 h) (day - 1)
  unfold oM
  by_cases c : day = 0 ∨ sCond S h day ≠ -4 ∨ ¬ sHas S h day ∨ ¬ sHas S h (day - 1)
  · rw [cI_t c]; decide
  · rw [cI_f c]; omega
theorem oT_b {S : St} (hI : Inv S) {h day : Int} (hc : sCond S h day = -4 ∨ (0 ≤ sCond S h day ∧ sCond S h day ≤ 1439)) : 0 ≤ oT S h day ∧ oT S h day ≤ 1440 := by
  have b1 := lawF_b hI (S 17 h) day
  unfold oT
  by_cases c : sHas S h day
  · rw [cI_t c]
    by_cases c2 : sCond S h day = -4
    · rw [cI_t c2]; omega
    · rw [cI_f c2]; omega
  · rw [cI_f c]; decide
theorem open_eq {S : St} (hI : Inv S) {h day m : Int} (h0 : 0 ≤ h ∧ h < S 14 0) (hd : isD day) (hm : 0 ≤ m ∧ m ≤ 1439) (hc : sCond S h day = -4 ∨ (0 ≤ sCond S h day ∧ sCond S h day ≤ 1439)) : sOpens S h day m 1 = bI (m < oM S h day ∨ (lawF S 6 (sLawOf S (S 17 h) day) ≤ m ∧ m < oT S h day)) := by
  rw [← bI_iff (may_iff hI h0 hd hm hc)]
  show (0 : Int) + bI (sMay S (m + ((0 : Nat) : Int)) _ _ _ _ _) = _
  rw [Int.zero_add]
  simp

set_option maxHeartbeats 4000000 in
set_option maxRecDepth 100000 in
theorem c5_open (l : Launch) (g : GG) (eA : Nat) (P : Nat → Prop) (ad : AD) (S : St) (hI : Inv S) (hQ : InvC S) (h : Int) (day : Int) (minute : Int) (r_h : R32 h) (r_day : R32 day) (r_minute : R32 minute)  : MetI l yX5_open wsX5_open ({ frames := 8, cells := 0, slots := 0, locals := 185 }) g [.ref (ad 0 0 0), .int (iI h), .int (iI day), .int (iI minute)] (fun H => RepC g eA P ad S H) (aOpen S h day minute) := by
  refine Met.ofW (cc := cX5_open) (maxL := 5) (ret := (some .int)) (by decide) rfl ?_
  intro p e s m args below meth c s₁ B hml hv
  obtain ⟨rfl, hC, hK⟩ := hv
  have hx := B.exec
  have hb := B.bytes
  have hr := B.returns
  have hts := atoms_spec (ws := wsX5_open) B.pre
  have hown : s.vm.findClass RX5 = some m.cls := findClass_of_methodNamed B.named
  have hlocks := B.notSynchronized
  have inX1 : ∀ w ∈ wsX10, w ∈ wsX5_open := by decide +kernel
  have inX2 : ∀ w ∈ wsX20, w ∈ wsX5_open := by decide +kernel
  have hl := lv_entry ([.ref (ad 0 0 0), .int (iI h), .int (iI day), .int (iI minute)]) (n := 5) (Nat.le_of_ble_eq_true rfl)
  rw [lg_entry_eq]
  generalize (lg_sl ([.ref (ad 0 0 0), .int (iI h), .int (iI day), .int (iI minute)]) ++ List.replicate (5 - (lg_sl ([.ref (ad 0 0 0), .int (iI h), .int (iI day), .int (iI minute)])).length) Slot.unset).toArray = ls at hl ⊢
  have hl : lv_has ls 5 [(0, .ref (ad 0 0 0)), (1, .int (iI h)), (2, .int (iI day)), (3, .int (iI minute))] := hl
  have hN := hI.nums
  refine lv_aload_n hx hb dX5_open_0 rfl (lv_at hl 0 rfl) ?_
  refine lv_iload_n hx hb dX5_open_1 rfl (lv_at hl 1 rfl) ?_
  refine q_cVq (As := [.int (iI h)]) (rest := []) ⟨hx, hb, hml, hown, hts⟩ (c5_houseAt l g eA P ad S hI hQ h r_h) (cwV 1 hts gX5_open_X5_houseAt rfl rfl rfl (by decide +kernel) ⟨Nat.le_of_ble_eq_true rfl, Nat.le_of_ble_eq_true rfl⟩) (q_pV hK hC.obj rfl hC) rfl hl.1 rfl (Nat.le_of_ble_eq_true rfl) ⟨Nat.zero_le _, Nat.zero_le _⟩ dX5_open_2 ?_
  by_cases h0 : 0 ≤ h ∧ h < S 14 0
  · rw [show hOpt ad S h = some (ad 7 h 0) from if_pos h0]
    refine lv_astore (lv' := [(4, .ref (ad 7 h 0)), (0, .ref (ad 0 0 0)), (1, .int (iI h)), (2, .int (iI day)), (3, .int (iI minute))]) hx hb dX5_open_5 hl (by decide) rfl (fun ls hl => ?_)
    refine q_aload hx hb dX5_open_7 (lv_at hl 0 rfl) ?_
    refine lv_ifnull hx hb dX5_open_9 ?_
    refine lv_iload_n hx hb dX5_open_12 rfl (lv_at hl 3 rfl) ?_
    refine q_cSi (As := [.int (iI day)]) (rest := []) ⟨hx, hb, hml, hown, hts⟩ (c5_isDay l g day r_day ) (va_cwS 1 hts gX5_open_X5_isDay rfl rfl rfl (by decide +kernel) ⟨Nat.le_of_ble_eq_true rfl, Nat.le_of_ble_eq_true rfl⟩) (q_pS hK trivial) rfl hl.1 rfl (Nat.le_of_ble_eq_true rfl) ⟨Nat.zero_le _, Nat.zero_le _⟩ dX5_open_13 ?_
    refine q_ifb_eq (tgt := 30) hx hb dX5_open_16 (by decide) (fun c16 => ?_) (fun c16 => ?_)
    · refine lv_iconst (v := iI (-1)) hx hb dX5_open_30 rfl ?_
      refine q_reti hx hb hr hlocks dX5_open_31 ?_
      show _ = aOpen S h day minute
      unfold aOpen
      rw [cI_f (by omega)]
    · refine lv_iload_n hx hb dX5_open_19 rfl (lv_at hl 4 rfl) ?_
      refine lv_iconst (v := iI 0) hx hb dX5_open_20 rfl ?_
      refine q_sipush hx hb 1439 dX5_open_21 (by decide +kernel) ?_
      refine q_cSi (As := [.int (iI minute), .int (iI 0), .int (iI 1439)]) (rest := []) ⟨hx, hb, hml, hown, hts⟩ (c5_isIn l g minute 0 1439 r_minute (by decide) (by decide) ) (va_cwS 3 hts gX5_open_X5_isIn rfl rfl rfl (by decide +kernel) ⟨Nat.le_of_ble_eq_true rfl, Nat.le_of_ble_eq_true rfl⟩) (q_pS hK trivial) rfl hl.1 rfl (Nat.le_of_ble_eq_true rfl) ⟨Nat.zero_le _, Nat.zero_le _⟩ dX5_open_24 ?_
      refine q_ifb_ne (tgt := 32) hx hb dX5_open_27 (by decide) (fun c27 => ?_) (fun c27 => ?_)
      · have hH := hI.house h0.1 h0.2
        have hsc := sCond_b hI h0 day
        have b1 := lawF_b hI (S 17 h) day
        have b2 := lawF_b hI (S 17 h) (day - 1)
        have hb0 := sState_b S h day 100000
        have l1 := sLawOf_b' S (S 17 h) day
        have l2 := sLawOf_b' S (S 17 h) (day - 1)
        have m1 := oM_b hI h day
        have m2 := oT_b hI hsc
        refine lv_iload_n hx hb dX5_open_32 rfl (lv_at hl 4 rfl) ?_
        refine lv_aload_n hx hb dX5_open_33 rfl (lv_at hl 1 rfl) ?_
        refine q_aload hx hb dX5_open_34 (lv_at hl 0 rfl) ?_
        refine lv_iload_n hx hb dX5_open_36 rfl (lv_at hl 3 rfl) ?_
        refine q_cVi (As := [.ref (ad 7 h 0), .int (iI day)]) (rest := [.int (iI minute)]) ⟨hx, hb, hml, hown, hts⟩ (c5_openOverMidnightUntil l g eA P ad S hI hQ h h0 day r_day (by omega)) (cwV 2 hts gX5_open_X5_openOverMidnightUntil rfl rfl rfl (by decide +kernel) ⟨Nat.le_of_ble_eq_true rfl, Nat.le_of_ble_eq_true rfl⟩) (q_pV hK hC.obj rfl hC) rfl hl.1 rfl (Nat.le_of_ble_eq_true rfl) ⟨Nat.zero_le _, Nat.zero_le _⟩ dX5_open_37 ?_
        refine q_icmp_ge (tgt := 45) hx hb dX5_open_40 (by decide) r_minute (by omega) (fun c40 => ?_) (fun c40 => ?_)
        · refine lv_iload_n hx hb dX5_open_45 rfl (lv_at hl 4 rfl) ?_
          refine lv_aload_n hx hb dX5_open_46 rfl (lv_at hl 1 rfl) ?_
          refine q_aload hx hb dX5_open_47 (lv_at hl 0 rfl) ?_
          refine q_get (v := .int (iI (S 17 h))) (C := RX1) (T := TX1) (N := 7) hx hb hts inX1 hown hK (hC.house (k := h) h0) rfl 2 (by decide) (hts (.fieldLink RX5 146 "TavernBench$House" "kind" "I") (by decide +kernel)) (fun _ h9 => h9) rfl dX5_open_49 ?_
          refine lv_iload_n hx hb dX5_open_52 rfl (lv_at hl 3 rfl) ?_
          refine q_cVr (As := [.int (iI (S 17 h)), .int (iI day)]) (rest := [.int (iI minute)]) ⟨hx, hb, hml, hown, hts⟩ (c5_lawOf l g eA P ad S hI hQ (S 17 h) day (hI.R (by decide)) r_day (by omega)) (cwV 2 hts gX5_open_X5_lawOf rfl rfl rfl (by decide +kernel) ⟨Nat.le_of_ble_eq_true rfl, Nat.le_of_ble_eq_true rfl⟩) (q_pV hK hC.obj rfl hC) rfl hl.1 rfl (Nat.le_of_ble_eq_true rfl) ⟨Nat.zero_le _, Nat.zero_le _⟩ dX5_open_53 ?_
          refine q_get (v := .int (iI (lawF S 6 (sLawOf S (S 17 h) day)))) (C := RX2) (T := TX2) (N := 5) hx hb hts inX2 hown hK (hC.lawAt (z := (sLawOf S (S 17 h) day)) (by omega)) rfl 3 (by decide) (hts (.fieldLink RX5 153 "TavernBench$Law" "from" "I") (by decide +kernel)) (fun _ h9 => h9) rfl dX5_open_56 ?_
          refine q_icmp_lt (tgt := 77) hx hb dX5_open_59 (by decide) r_minute (by omega) (fun c59 => ?_) (fun c59 => ?_)
          · refine lv_iconst (v := iI 0) hx hb dX5_open_77 rfl ?_
            refine q_reti hx hb hr hlocks dX5_open_78 ?_
            show _ = aOpen S h day minute
            unfold aOpen
            rw [cI_t (by omega), open_eq hI h0 (by omega) (by omega) hsc]
            first | exact bI_e1 (by omega) | exact bI_e0 (by omega)
          · refine lv_iload_n hx hb dX5_open_62 rfl (lv_at hl 4 rfl) ?_
            refine lv_aload_n hx hb dX5_open_63 rfl (lv_at hl 1 rfl) ?_
            refine q_aload hx hb dX5_open_64 (lv_at hl 0 rfl) ?_
            refine lv_iload_n hx hb dX5_open_66 rfl (lv_at hl 3 rfl) ?_
            refine q_cVi (As := [.ref (ad 7 h 0), .int (iI day)]) (rest := [.int (iI minute)]) ⟨hx, hb, hml, hown, hts⟩ (c5_openTodayUntil l g eA P ad S hI hQ h h0 day r_day (by omega)) (cwV 2 hts gX5_open_X5_openTodayUntil rfl rfl rfl (by decide +kernel) ⟨Nat.le_of_ble_eq_true rfl, Nat.le_of_ble_eq_true rfl⟩) (q_pV hK hC.obj rfl hC) rfl hl.1 rfl (Nat.le_of_ble_eq_true rfl) ⟨Nat.zero_le _, Nat.zero_le _⟩ dX5_open_67 ?_
            refine q_icmp_ge (tgt := 77) hx hb dX5_open_70 (by decide) r_minute (by omega) (fun c70 => ?_) (fun c70 => ?_)
            · refine lv_iconst (v := iI 0) hx hb dX5_open_77 rfl ?_
              refine q_reti hx hb hr hlocks dX5_open_78 ?_
              show _ = aOpen S h day minute
              unfold aOpen
              rw [cI_t (by omega), open_eq hI h0 (by omega) (by omega) hsc]
              first | exact bI_e1 (by omega) | exact bI_e0 (by omega)
            · refine lv_iconst (v := iI 1) hx hb dX5_open_73 rfl ?_
              refine lv_goto (tgt := 78) hx hb dX5_open_74 (by decide) ?_
              refine q_reti hx hb hr hlocks dX5_open_78 ?_
              show _ = aOpen S h day minute
              unfold aOpen
              rw [cI_t (by omega), open_eq hI h0 (by omega) (by omega) hsc]
              first | exact bI_e1 (by omega) | exact bI_e0 (by omega)
        · refine lv_iconst (v := iI 1) hx hb dX5_open_43 rfl ?_
          refine q_reti hx hb hr hlocks dX5_open_44 ?_
          show _ = aOpen S h day minute
          unfold aOpen
          rw [cI_t (by omega), open_eq hI h0 (by omega) (by omega) hsc]
          first | exact bI_e1 (by omega) | exact bI_e0 (by omega)
      · refine lv_iconst (v := iI (-1)) hx hb dX5_open_30 rfl ?_
        refine q_reti hx hb hr hlocks dX5_open_31 ?_
        show _ = aOpen S h day minute
        unfold aOpen
        rw [cI_f (by omega)]
  · rw [show hOpt ad S h = none from if_neg h0]
    refine lv_astoreN (lv' := [(4, .null), (0, .ref (ad 0 0 0)), (1, .int (iI h)), (2, .int (iI day)), (3, .int (iI minute))]) hx hb dX5_open_5 hl (by decide) rfl (fun ls hl => ?_)
    refine lv_aloadN hx hb dX5_open_7 (lv_at hl 0 rfl) ?_
    refine lv_ifnullN (tgt := 30) hx hb dX5_open_9 (by decide) ?_
    refine lv_iconst (v := iI (-1)) hx hb dX5_open_30 rfl ?_
    refine q_reti hx hb hr hlocks dX5_open_31 ?_
    show _ = aOpen S h day minute
    unfold aOpen
    rw [cI_f (by omega)]

set_option maxHeartbeats 4000000 in
set_option maxRecDepth 100000 in
theorem c5_minutes (l : Launch) (g : GG) (eA : Nat) (P : Nat → Prop) (ad : AD) (S : St) (hI : Inv S) (hQ : InvC S) (h : Int) (day : Int) (r_h : R32 h) (r_day : R32 day)  : MetI l yX5_minutes wsX5_minutes ({ frames := 8, cells := 0, slots := 0, locals := 185 }) g [.ref (ad 0 0 0), .int (iI h), .int (iI day)] (fun H => RepC g eA P ad S H) (aMinutes S h day) := by
  refine Met.ofW (cc := cX5_minutes) (maxL := 6) (ret := (some .int)) (by decide) rfl ?_
  intro p e s m args below meth c s₁ B hml hv
  obtain ⟨rfl, hC, hK⟩ := hv
  have hx := B.exec
  have hb := B.bytes
  have hr := B.returns
  have hts := atoms_spec (ws := wsX5_minutes) B.pre
  have hown : s.vm.findClass RX5 = some m.cls := findClass_of_methodNamed B.named
  have hlocks := B.notSynchronized
  have inX1 : ∀ w ∈ wsX10, w ∈ wsX5_minutes := by decide +kernel
  have inX2 : ∀ w ∈ wsX20, w ∈ wsX5_minutes := by decide +kernel
  have hl := lv_entry ([.ref (ad 0 0 0), .int (iI h), .int (iI day)]) (n := 6) (Nat.le_of_ble_eq_true rfl)
  rw [lg_entry_eq]
  generalize (lg_sl ([.ref (ad 0 0 0), .int (iI h), .int (iI day)]) ++ List.replicate (6 - (lg_sl ([.ref (ad 0 0 0), .int (iI h), .int (iI day)])).length) Slot.unset).toArray = ls at hl ⊢
  have hl : lv_has ls 6 [(0, .ref (ad 0 0 0)), (1, .int (iI h)), (2, .int (iI day))] := hl
  have hN := hI.nums
  refine lv_aload_n hx hb dX5_minutes_0 rfl (lv_at hl 0 rfl) ?_
  refine lv_iload_n hx hb dX5_minutes_1 rfl (lv_at hl 1 rfl) ?_
  refine q_cVq (As := [.int (iI h)]) (rest := []) ⟨hx, hb, hml, hown, hts⟩ (c5_houseAt l g eA P ad S hI hQ h r_h) (cwV 1 hts gX5_minutes_X5_houseAt rfl rfl rfl (by decide +kernel) ⟨Nat.le_of_ble_eq_true rfl, Nat.le_of_ble_eq_true rfl⟩) (q_pV hK hC.obj rfl hC) rfl hl.1 rfl (Nat.le_of_ble_eq_true rfl) ⟨Nat.zero_le _, Nat.zero_le _⟩ dX5_minutes_2 ?_
  by_cases h0 : 0 ≤ h ∧ h < S 14 0
  · rw [show hOpt ad S h = some (ad 7 h 0) from if_pos h0]
    refine lv_astore_n (lv' := [(3, .ref (ad 7 h 0)), (0, .ref (ad 0 0 0)), (1, .int (iI h)), (2, .int (iI day))]) hx hb dX5_minutes_5 rfl hl (by decide) rfl (fun ls hl => ?_)
    refine lv_aload_n hx hb dX5_minutes_6 rfl (lv_at hl 0 rfl) ?_
    refine lv_ifnull hx hb dX5_minutes_7 ?_
    refine lv_iload_n hx hb dX5_minutes_10 rfl (lv_at hl 3 rfl) ?_
    refine q_cSi (As := [.int (iI day)]) (rest := []) ⟨hx, hb, hml, hown, hts⟩ (c5_isDay l g day r_day ) (va_cwS 1 hts gX5_minutes_X5_isDay rfl rfl rfl (by decide +kernel) ⟨Nat.le_of_ble_eq_true rfl, Nat.le_of_ble_eq_true rfl⟩) (q_pS hK trivial) rfl hl.1 rfl (Nat.le_of_ble_eq_true rfl) ⟨Nat.zero_le _, Nat.zero_le _⟩ dX5_minutes_11 ?_
    refine q_ifb_ne (tgt := 19) hx hb dX5_minutes_14 (by decide) (fun c14 => ?_) (fun c14 => ?_)
    · have hH := hI.house h0.1 h0.2
      have hsc := sCond_b hI h0 day
      have b1 := lawF_b hI (S 17 h) day
      have b2 := lawF_b hI (S 17 h) (day - 1)
      have hb0 := sState_b S h day 100000
      have l1 := sLawOf_b' S (S 17 h) day
      have l2 := sLawOf_b' S (S 17 h) (day - 1)
      have m1 := oM_b hI h day
      have m2 := oT_b hI hsc
      refine lv_aload_n hx hb dX5_minutes_19 rfl (lv_at hl 1 rfl) ?_
      refine lv_aload_n hx hb dX5_minutes_20 rfl (lv_at hl 0 rfl) ?_
      refine lv_iload_n hx hb dX5_minutes_21 rfl (lv_at hl 3 rfl) ?_
      refine q_cVi (As := [.ref (ad 7 h 0), .int (iI day)]) (rest := []) ⟨hx, hb, hml, hown, hts⟩ (c5_openOverMidnightUntil l g eA P ad S hI hQ h h0 day r_day (by omega)) (cwV 2 hts gX5_minutes_X5_openOverMidnightUntil rfl rfl rfl (by decide +kernel) ⟨Nat.le_of_ble_eq_true rfl, Nat.le_of_ble_eq_true rfl⟩) (q_pV hK hC.obj rfl hC) rfl hl.1 rfl (Nat.le_of_ble_eq_true rfl) ⟨Nat.zero_le _, Nat.zero_le _⟩ dX5_minutes_22 ?_
      refine lv_istore (lv' := [(4, .int (iI (oM S h day))), (3, .ref (ad 7 h 0)), (0, .ref (ad 0 0 0)), (1, .int (iI h)), (2, .int (iI day))]) hx hb dX5_minutes_25 hl (by decide) rfl (fun ls hl => ?_)
      refine lv_aload_n hx hb dX5_minutes_27 rfl (lv_at hl 2 rfl) ?_
      refine lv_aload_n hx hb dX5_minutes_28 rfl (lv_at hl 1 rfl) ?_
      refine q_get (v := .int (iI (S 17 h))) (C := RX1) (T := TX1) (N := 7) hx hb hts inX1 hown hK (hC.house (k := h) h0) rfl 2 (by decide) (hts (.fieldLink RX5 146 "TavernBench$House" "kind" "I") (by decide +kernel)) (fun _ h9 => h9) rfl dX5_minutes_29 ?_
      refine lv_iload_n hx hb dX5_minutes_32 rfl (lv_at hl 4 rfl) ?_
      refine q_cVr (As := [.int (iI (S 17 h)), .int (iI day)]) (rest := []) ⟨hx, hb, hml, hown, hts⟩ (c5_lawOf l g eA P ad S hI hQ (S 17 h) day (hI.R (by decide)) r_day (by omega)) (cwV 2 hts gX5_minutes_X5_lawOf rfl rfl rfl (by decide +kernel) ⟨Nat.le_of_ble_eq_true rfl, Nat.le_of_ble_eq_true rfl⟩) (q_pV hK hC.obj rfl hC) rfl hl.1 rfl (Nat.le_of_ble_eq_true rfl) ⟨Nat.zero_le _, Nat.zero_le _⟩ dX5_minutes_33 ?_
      refine q_get (v := .int (iI (lawF S 6 (sLawOf S (S 17 h) day)))) (C := RX2) (T := TX2) (N := 5) hx hb hts inX2 hown hK (hC.lawAt (z := (sLawOf S (S 17 h) day)) (by omega)) rfl 3 (by decide) (hts (.fieldLink RX5 153 "TavernBench$Law" "from" "I") (by decide +kernel)) (fun _ h9 => h9) rfl dX5_minutes_36 ?_
      refine lv_iload hx hb dX5_minutes_39 (lv_at hl 0 rfl) ?_
      refine q_mmax hx hb (hml.trans hl.1.symm) hown (hts (.methodLink RX5 120 Lib.Math.max.name) (by decide +kernel)) (hts (.static Lib.Math.max.name) (by decide +kernel)) (hts (.initialized "java/lang/Math") (by decide +kernel)) (hts (.code Lib.Math.max.name Lib.Math.max.code 2 (some .int)) (by decide +kernel)) (Nat.le_of_ble_eq_true rfl) (Nat.le_of_ble_eq_true rfl) (Nat.zero_le _) (Nat.zero_le _) dX5_minutes_41 (by omega) (by omega) ?_
      refine lv_istore (lv' := [(5, .int (iI (max (lawF S 6 (sLawOf S (S 17 h) day)) (oM S h day)))), (4, .int (iI (oM S h day))), (3, .ref (ad 7 h 0)), (0, .ref (ad 0 0 0)), (1, .int (iI h)), (2, .int (iI day))]) hx hb dX5_minutes_44 hl (by decide) rfl (fun ls hl => ?_)
      refine lv_iload hx hb dX5_minutes_46 (lv_at hl 1 rfl) ?_
      refine lv_iconst (v := iI 0) hx hb dX5_minutes_48 rfl ?_
      refine lv_aload_n hx hb dX5_minutes_49 rfl (lv_at hl 3 rfl) ?_
      refine lv_aload_n hx hb dX5_minutes_50 rfl (lv_at hl 2 rfl) ?_
      refine lv_iload_n hx hb dX5_minutes_51 rfl (lv_at hl 5 rfl) ?_
      refine q_cVi (As := [.ref (ad 7 h 0), .int (iI day)]) (rest := [.int (iI 0), .int (iI (oM S h day))]) ⟨hx, hb, hml, hown, hts⟩ (c5_openTodayUntil l g eA P ad S hI hQ h h0 day r_day (by omega)) (cwV 2 hts gX5_minutes_X5_openTodayUntil rfl rfl rfl (by decide +kernel) ⟨Nat.le_of_ble_eq_true rfl, Nat.le_of_ble_eq_true rfl⟩) (q_pV hK hC.obj rfl hC) rfl hl.1 rfl (Nat.le_of_ble_eq_true rfl) ⟨Nat.zero_le _, Nat.zero_le _⟩ dX5_minutes_52 ?_
      refine lv_iload hx hb dX5_minutes_55 (lv_at hl 0 rfl) ?_
      refine q_isub hx hb dX5_minutes_57 ?_
      refine q_mmax hx hb (hml.trans hl.1.symm) hown (hts (.methodLink RX5 120 Lib.Math.max.name) (by decide +kernel)) (hts (.static Lib.Math.max.name) (by decide +kernel)) (hts (.initialized "java/lang/Math") (by decide +kernel)) (hts (.code Lib.Math.max.name Lib.Math.max.code 2 (some .int)) (by decide +kernel)) (Nat.le_of_ble_eq_true rfl) (Nat.le_of_ble_eq_true rfl) (Nat.zero_le _) (Nat.zero_le _) dX5_minutes_58 (by decide) (by omega) ?_
      refine q_iadd hx hb dX5_minutes_61 ?_
      refine q_reti hx hb hr hlocks dX5_minutes_62 ?_
      show _ = aMinutes S h day
      unfold aMinutes
      rw [cI_t (by omega), minutes_eq hI h0 (by omega) hsc]
    · refine lv_iconst (v := iI (-1)) hx hb dX5_minutes_17 rfl ?_
      refine q_reti hx hb hr hlocks dX5_minutes_18 ?_
      show _ = aMinutes S h day
      unfold aMinutes
      rw [cI_f (by omega)]
  · rw [show hOpt ad S h = none from if_neg h0]
    refine lv_astore_nN (lv' := [(3, .null), (0, .ref (ad 0 0 0)), (1, .int (iI h)), (2, .int (iI day))]) hx hb dX5_minutes_5 rfl hl (by decide) rfl (fun ls hl => ?_)
    refine lv_aload_nN hx hb dX5_minutes_6 rfl (lv_at hl 0 rfl) ?_
    refine lv_ifnullN (tgt := 17) hx hb dX5_minutes_7 (by decide) ?_
    refine lv_iconst (v := iI (-1)) hx hb dX5_minutes_17 rfl ?_
    refine q_reti hx hb hr hlocks dX5_minutes_18 ?_
    show _ = aMinutes S h day
    unfold aMinutes
    rw [cI_f (by omega)]

set_option maxHeartbeats 4000000 in
set_option maxRecDepth 100000 in
theorem c5_on (l : Launch) (g : GG) (eA : Nat) (P : Nat → Prop) (ad : AD) (S : St) (hI : Inv S) (hQ : InvC S) (h : Int) (day : Int) (what : Int) (r_h : R32 h) (r_day : R32 day) (r_what : R32 what)  : MetI l yX5_on wsX5_on ({ frames := 6, cells := 0, slots := 0, locals := 140 }) g [.ref (ad 0 0 0), .int (iI h), .int (iI day), .int (iI what)] (fun H => RepC g eA P ad S H) (aOn S h day what) := by
  refine Met.ofW (cc := cX5_on) (maxL := 5) (ret := (some .int)) (by decide) rfl ?_
  intro p e s m args below meth c s₁ B hml hv
  obtain ⟨rfl, hC, hK⟩ := hv
  have hx := B.exec
  have hb := B.bytes
  have hr := B.returns
  have hts := atoms_spec (ws := wsX5_on) B.pre
  have hown : s.vm.findClass RX5 = some m.cls := findClass_of_methodNamed B.named
  have hlocks := B.notSynchronized
  have hl := lv_entry ([.ref (ad 0 0 0), .int (iI h), .int (iI day), .int (iI what)]) (n := 5) (Nat.le_of_ble_eq_true rfl)
  rw [lg_entry_eq]
  generalize (lg_sl ([.ref (ad 0 0 0), .int (iI h), .int (iI day), .int (iI what)]) ++ List.replicate (5 - (lg_sl ([.ref (ad 0 0 0), .int (iI h), .int (iI day), .int (iI what)])).length) Slot.unset).toArray = ls at hl ⊢
  have hl : lv_has ls 5 [(0, .ref (ad 0 0 0)), (1, .int (iI h)), (2, .int (iI day)), (3, .int (iI what))] := hl
  have hN := hI.nums
  refine lv_aload_n hx hb dX5_on_0 rfl (lv_at hl 0 rfl) ?_
  refine lv_iload_n hx hb dX5_on_1 rfl (lv_at hl 1 rfl) ?_
  refine q_cVq (As := [.int (iI h)]) (rest := []) ⟨hx, hb, hml, hown, hts⟩ (c5_houseAt l g eA P ad S hI hQ h r_h) (cwV 1 hts gX5_on_X5_houseAt rfl rfl rfl (by decide +kernel) ⟨Nat.le_of_ble_eq_true rfl, Nat.le_of_ble_eq_true rfl⟩) (q_pV hK hC.obj rfl hC) rfl hl.1 rfl (Nat.le_of_ble_eq_true rfl) ⟨Nat.zero_le _, Nat.zero_le _⟩ dX5_on_2 ?_
  by_cases h0 : 0 ≤ h ∧ h < S 14 0
  · rw [show hOpt ad S h = some (ad 7 h 0) from if_pos h0]
    refine lv_astore (lv' := [(4, .ref (ad 7 h 0)), (0, .ref (ad 0 0 0)), (1, .int (iI h)), (2, .int (iI day)), (3, .int (iI what))]) hx hb dX5_on_5 hl (by decide) rfl (fun ls hl => ?_)
    refine q_aload hx hb dX5_on_7 (lv_at hl 0 rfl) ?_
    refine lv_ifnull hx hb dX5_on_9 ?_
    refine lv_iload_n hx hb dX5_on_12 rfl (lv_at hl 3 rfl) ?_
    refine q_cSi (As := [.int (iI day)]) (rest := []) ⟨hx, hb, hml, hown, hts⟩ (c5_isDay l g day r_day ) (va_cwS 1 hts gX5_on_X5_isDay rfl rfl rfl (by decide +kernel) ⟨Nat.le_of_ble_eq_true rfl, Nat.le_of_ble_eq_true rfl⟩) (q_pS hK trivial) rfl hl.1 rfl (Nat.le_of_ble_eq_true rfl) ⟨Nat.zero_le _, Nat.zero_le _⟩ dX5_on_13 ?_
    refine q_ifb_ne (tgt := 21) hx hb dX5_on_16 (by decide) (fun c16 => ?_) (fun c16 => ?_)
    · refine lv_iload_n hx hb dX5_on_21 rfl (lv_at hl 4 rfl) ?_
      rcases (show what < 0 ∨ 3 < what ∨ what = 0 ∨ what = 1 ∨ what = 2 ∨ what = 3 by omega) with c22 | c22 | c22 | c22 | c22 | c22
      · refine q_tabOut (tgt := 81) hx hb dX5_on_22 r_what (Or.inl c22) (by decide) ?_
        refine lv_iconst (v := iI (-1)) hx hb dX5_on_81 rfl ?_
        refine q_reti hx hb hr hlocks dX5_on_82 ?_
        show _ = aOn S h day what
        unfold aOn
        rw [cI_f (by omega)]
      · refine q_tabOut (tgt := 81) hx hb dX5_on_22 r_what (Or.inr c22) (by decide) ?_
        refine lv_iconst (v := iI (-1)) hx hb dX5_on_81 rfl ?_
        refine q_reti hx hb hr hlocks dX5_on_82 ?_
        show _ = aOn S h day what
        unfold aOn
        rw [cI_f (by omega)]
      · refine q_tabIn (off := 30) (tgt := 52) (k := 0) hx hb dX5_on_22 r_what c22 (by decide) (by decide) (by decide +kernel) (by decide) ?_
        refine q_aload hx hb dX5_on_52 (lv_at hl 0 rfl) ?_
        refine lv_iload_n hx hb dX5_on_54 rfl (lv_at hl 3 rfl) ?_
        refine q_cVi (As := [.int (iI day)]) (rest := []) ⟨hx, hb, hml, hown, hts⟩ (c1_stateOn l g eA P ad S hI hQ h h0 day r_day (by omega)) (cwV 1 hts gX5_on_X1_stateOn rfl rfl rfl (by decide +kernel) ⟨Nat.le_of_ble_eq_true rfl, Nat.le_of_ble_eq_true rfl⟩) (q_pV hK (hC.house (k := h) h0) rfl hC) rfl hl.1 rfl (Nat.le_of_ble_eq_true rfl) ⟨Nat.zero_le _, Nat.zero_le _⟩ dX5_on_55 ?_
        refine q_reti hx hb hr hlocks dX5_on_58 ?_
        show _ = aOn S h day what
        unfold aOn
        rw [cI_t (by omega)]
        first | rw [cI_t (by omega)] | (rw [cI_f (by omega), cI_t (by omega)]; exact sOffC_on hQ h0 (by omega)) | rw [cI_f (by omega), cI_f (by omega), cI_t (by omega)] | rw [cI_f (by omega), cI_f (by omega), cI_f (by omega)]
      · refine q_tabIn (off := 37) (tgt := 59) (k := 1) hx hb dX5_on_22 r_what c22 (by decide) (by decide) (by decide +kernel) (by decide) ?_
        refine q_aload hx hb dX5_on_59 (lv_at hl 0 rfl) ?_
        refine lv_iload_n hx hb dX5_on_61 rfl (lv_at hl 3 rfl) ?_
        refine lv_iload_n hx hb dX5_on_62 rfl (lv_at hl 3 rfl) ?_
        refine q_cVi (As := [.int (iI day), .int (iI day)]) (rest := []) ⟨hx, hb, hml, hown, hts⟩ (c1_offencesCounted l g eA P ad S hI hQ h h0 day day r_day r_day (by omega)) (cwV 2 hts gX5_on_X1_offencesCounted rfl rfl rfl (by decide +kernel) ⟨Nat.le_of_ble_eq_true rfl, Nat.le_of_ble_eq_true rfl⟩) (q_pV hK (hC.house (k := h) h0) rfl hC) rfl hl.1 rfl (Nat.le_of_ble_eq_true rfl) ⟨Nat.zero_le _, Nat.zero_le _⟩ dX5_on_63 ?_
        refine q_reti hx hb hr hlocks dX5_on_66 ?_
        show _ = aOn S h day what
        unfold aOn
        rw [cI_t (by omega)]
        first | rw [cI_t (by omega)] | (rw [cI_f (by omega), cI_t (by omega)]; exact sOffC_on hQ h0 (by omega)) | rw [cI_f (by omega), cI_f (by omega), cI_t (by omega)] | rw [cI_f (by omega), cI_f (by omega), cI_f (by omega)]
      · refine q_tabIn (off := 45) (tgt := 67) (k := 2) hx hb dX5_on_22 r_what c22 (by decide) (by decide) (by decide +kernel) (by decide) ?_
        refine q_aload hx hb dX5_on_67 (lv_at hl 0 rfl) ?_
        refine lv_iload_n hx hb dX5_on_69 rfl (lv_at hl 3 rfl) ?_
        refine q_cVi (As := [.int (iI day)]) (rest := []) ⟨hx, hb, hml, hown, hts⟩ (c1_conditionOn l g eA P ad S hI hQ h h0 day r_day ) (cwV 1 hts gX5_on_X1_conditionOn rfl rfl rfl (by decide +kernel) ⟨Nat.le_of_ble_eq_true rfl, Nat.le_of_ble_eq_true rfl⟩) (q_pV hK (hC.house (k := h) h0) rfl hC) rfl hl.1 rfl (Nat.le_of_ble_eq_true rfl) ⟨Nat.zero_le _, Nat.zero_le _⟩ dX5_on_70 ?_
        refine q_reti hx hb hr hlocks dX5_on_73 ?_
        show _ = aOn S h day what
        unfold aOn
        rw [cI_t (by omega)]
        first | rw [cI_t (by omega)] | (rw [cI_f (by omega), cI_t (by omega)]; exact sOffC_on hQ h0 (by omega)) | rw [cI_f (by omega), cI_f (by omega), cI_t (by omega)] | rw [cI_f (by omega), cI_f (by omega), cI_f (by omega)]
      · refine q_tabIn (off := 52) (tgt := 74) (k := 3) hx hb dX5_on_22 r_what c22 (by decide) (by decide) (by decide +kernel) (by decide) ?_
        refine q_aload hx hb dX5_on_74 (lv_at hl 0 rfl) ?_
        refine lv_iload_n hx hb dX5_on_76 rfl (lv_at hl 3 rfl) ?_
        refine q_cVi (As := [.int (iI day)]) (rest := []) ⟨hx, hb, hml, hown, hts⟩ (c1_worthOn l g eA P ad S hI hQ h h0 day r_day ) (cwV 1 hts gX5_on_X1_worthOn rfl rfl rfl (by decide +kernel) ⟨Nat.le_of_ble_eq_true rfl, Nat.le_of_ble_eq_true rfl⟩) (q_pV hK (hC.house (k := h) h0) rfl hC) rfl hl.1 rfl (Nat.le_of_ble_eq_true rfl) ⟨Nat.zero_le _, Nat.zero_le _⟩ dX5_on_77 ?_
        refine q_reti hx hb hr hlocks dX5_on_80 ?_
        show _ = aOn S h day what
        unfold aOn
        rw [cI_t (by omega)]
        first | rw [cI_t (by omega)] | (rw [cI_f (by omega), cI_t (by omega)]; exact sOffC_on hQ h0 (by omega)) | rw [cI_f (by omega), cI_f (by omega), cI_t (by omega)] | rw [cI_f (by omega), cI_f (by omega), cI_f (by omega)]
    · refine lv_iconst (v := iI (-1)) hx hb dX5_on_19 rfl ?_
      refine q_reti hx hb hr hlocks dX5_on_20 ?_
      show _ = aOn S h day what
      unfold aOn
      rw [cI_f (by omega)]
  · rw [show hOpt ad S h = none from if_neg h0]
    refine lv_astoreN (lv' := [(4, .null), (0, .ref (ad 0 0 0)), (1, .int (iI h)), (2, .int (iI day)), (3, .int (iI what))]) hx hb dX5_on_5 hl (by decide) rfl (fun ls hl => ?_)
    refine lv_aloadN hx hb dX5_on_7 (lv_at hl 0 rfl) ?_
    refine lv_ifnullN (tgt := 19) hx hb dX5_on_9 (by decide) ?_
    refine lv_iconst (v := iI (-1)) hx hb dX5_on_19 rfl ?_
    refine q_reti hx hb hr hlocks dX5_on_20 ?_
    show _ = aOn S h day what
    unfold aOn
    rw [cI_f (by omega)]

set_option maxHeartbeats 4000000 in
set_option maxRecDepth 100000 in
theorem c5_anyLicence (l : Launch) (g : GG) (eA : Nat) (P : Nat → Prop) (ad : AD) (S : St) (hI : Inv S) (hQ : InvC S) (day : Int) (r_day : R32 day) (hd : isD day) : MetI l yX5_anyLicence wsX5_anyLicence ({ frames := 7, cells := 0, slots := 0, locals := 161 }) g [.ref (ad 0 0 0), .int (iI day)] (fun H => RepC g eA P ad S H) (bI (exN (fun k => sHas S (k : Int) day) (S 14 0).toNat)) := by
  refine Met.ofW (cc := cX5_anyLicence) (maxL := 3) (ret := (some .boolean)) (by decide) rfl ?_
  intro p e s m args below meth c s₁ B hml hv
  obtain ⟨rfl, hC, hK⟩ := hv
  have hx := B.exec
  have hb := B.bytes
  have hr := B.returns
  have hts := atoms_spec (ws := wsX5_anyLicence) B.pre
  have hown : s.vm.findClass RX5 = some m.cls := findClass_of_methodNamed B.named
  have hlocks := B.notSynchronized
  have inX5 : ∀ w ∈ wsX50, w ∈ wsX5_anyLicence := by decide +kernel
  have hl := lv_entry ([.ref (ad 0 0 0), .int (iI day)]) (n := 3) (Nat.le_of_ble_eq_true rfl)
  rw [lg_entry_eq]
  generalize (lg_sl ([.ref (ad 0 0 0), .int (iI day)]) ++ List.replicate (3 - (lg_sl ([.ref (ad 0 0 0), .int (iI day)])).length) Slot.unset).toArray = ls at hl ⊢
  have hl : lv_has ls 3 [(0, .ref (ad 0 0 0)), (1, .int (iI day))] := hl
  have hN := hI.nums
  refine lv_iconst (v := iI 0) hx hb dX5_anyLicence_0 rfl ?_
  refine lv_istore_n (lv' := [(2, .int (iI 0)), (0, .ref (ad 0 0 0)), (1, .int (iI day))]) hx hb dX5_anyLicence_1 rfl hl (by decide) rfl (fun ls hl => ?_)
  have e0 : (((0 : Nat) : Int) : Int) = 0 := by
    rfl
  refine q_loop (nL := 3) (fun (u : Nat) => u ≤ (S 14 0).toNat ∧ ¬ exN (fun k => sHas S (k : Int) day) u) (fun u => (S 14 0).toNat - u) (fun (u : Nat) => [(0, .ref (ad 0 0 0)), (1, .int (iI day)), (2, .int (iI ((u : Nat) : Int)))]) 0 ⟨Nat.zero_le _, exN_0⟩ (lv_sub hl [1, 2, 0] (by simp only [e0]; rfl)) (fun u hu2 ihu ls hl => ?_)
  have hl : lv_has ls 3 [(0, .ref (ad 0 0 0)), (1, .int (iI day)), (2, .int (iI ((u : Nat) : Int)))] := hl
  have hu1 : u ≤ (S 14 0).toNat := hu2.1
  refine lv_iload_n hx hb dX5_anyLicence_2 rfl (lv_at hl 2 rfl) ?_
  refine lv_aload_n hx hb dX5_anyLicence_3 rfl (lv_at hl 0 rfl) ?_
  refine q_get (v := .ref (ad 3 2 0)) (C := RX5) (T := TX5) (N := 11) hx hb hts inX5 hown hK hC.obj rfl 2 (by decide) (hts (.fieldLink RX5 19 "TavernBench" "houses" "Ljava/util/ArrayList;") (by decide +kernel)) (fun _ h9 => h9) rfl dX5_anyLicence_4 ?_
  refine q_cVi (As := []) (rest := [.int (iI ((u : Nat) : Int))]) ⟨hx, hb, hml, hown, hts⟩ (c0_size l g eA (ad 3 2 0) (ad 4 2 0) (S 14 0)) (cwV 0 hts gX5_anyLicence_Jx4a65c_size_8abf5 rfl rfl rfl (by decide +kernel) ⟨Nat.le_of_ble_eq_true rfl, Nat.le_of_ble_eq_true rfl⟩) (q_pV hK (hC.lst (k := 2) (by decide)) rfl (hC.lst (k := 2) (by decide))) rfl hl.1 rfl (Nat.le_of_ble_eq_true rfl) ⟨Nat.zero_le _, Nat.zero_le _⟩ dX5_anyLicence_7 ?_
  refine q_icmp_ge (tgt := 39) hx hb dX5_anyLicence_10 (by decide) (by omega) (hI.R (by decide)) (fun c10 => ?_) (fun c10 => ?_)
  · refine lv_iconst (v := iI 0) hx hb dX5_anyLicence_39 rfl ?_
    refine q_retz hx hb hr hlocks (Or.inl rfl) dX5_anyLicence_40 ?_
    have eu : u = (S 14 0).toNat := by omega
    rw [eu] at hu2
    exact bI_e0 hu2.2
  · refine lv_aload_n hx hb dX5_anyLicence_13 rfl (lv_at hl 0 rfl) ?_
    refine q_get (v := .ref (ad 3 2 0)) (C := RX5) (T := TX5) (N := 11) hx hb hts inX5 hown hK hC.obj rfl 2 (by decide) (hts (.fieldLink RX5 19 "TavernBench" "houses" "Ljava/util/ArrayList;") (by decide +kernel)) (fun _ h9 => h9) rfl dX5_anyLicence_14 ?_
    refine lv_iload_n hx hb dX5_anyLicence_17 rfl (lv_at hl 2 rfl) ?_
    refine q_cVr (As := [.int (iI ((u : Nat) : Int))]) (rest := []) ⟨hx, hb, hml, hown, hts⟩ (c0_get l g eA (ad 3 2 0) (ad 4 2 0) (S 14 0) (fun q => ad 7 q 0) ((u : Nat) : Int) (by omega) ⟨by omega, by omega⟩ (by omega)) (cwV 1 hts gX5_anyLicence_Jx4a65c_get_915e3 rfl rfl rfl (by decide +kernel) ⟨Nat.le_of_ble_eq_true rfl, Nat.le_of_ble_eq_true rfl⟩) (q_pV hK (hC.lst (k := 2) (by decide)) rfl ⟨(hC.lst (k := 2) (by decide)), (hC.arr (k := 2) (by decide) (by show 0 < S 14 0; omega))⟩) rfl hl.1 rfl (Nat.le_of_ble_eq_true rfl) ⟨Nat.zero_le _, Nat.zero_le _⟩ dX5_anyLicence_18 ?_
    refine q_cast (C := RX1) (T := TX1) (N := 7) hx hb hown (hts (.classLink RX5 93 RX1) (by decide +kernel)) hK (hC.house (k := ((u : Nat) : Int)) ⟨by omega, by omega⟩) rfl dX5_anyLicence_21 ?_
    refine lv_iload_n hx hb dX5_anyLicence_24 rfl (lv_at hl 1 rfl) ?_
    refine q_cVi (As := [.int (iI day)]) (rest := []) ⟨hx, hb, hml, hown, hts⟩ (c1_hasLicence l g eA P ad S hI hQ ((u : Nat) : Int) ⟨by omega, by omega⟩ day r_day (by omega)) (cwV 1 hts gX5_anyLicence_X1_hasLicence rfl rfl rfl (by decide +kernel) ⟨Nat.le_of_ble_eq_true rfl, Nat.le_of_ble_eq_true rfl⟩) (q_pV hK (hC.house (k := ((u : Nat) : Int)) ⟨by omega, by omega⟩) rfl hC) rfl hl.1 rfl (Nat.le_of_ble_eq_true rfl) ⟨Nat.zero_le _, Nat.zero_le _⟩ dX5_anyLicence_25 ?_
    refine q_ifb_eq (tgt := 33) hx hb dX5_anyLicence_28 (by decide) (fun c28 => ?_) (fun c28 => ?_)
    · refine lv_iinc (v := iI (((u : Nat) : Int) + 1)) (lv' := [(2, .int (iI (((u : Nat) : Int) + 1))), (0, .ref (ad 0 0 0)), (1, .int (iI day))]) hx hb dX5_anyLicence_33 hl (k := 2) rfl (iI_add _ _) (by decide) rfl (fun ls hl => ?_)
      refine lv_goto (tgt := 2) hx hb dX5_anyLicence_36 (by decide) ?_
      have e0 : ((((u + 1) : Nat) : Int) : Int) = ((u : Nat) : Int) + 1 := by
        omega
      exact ihu (u + 1) ⟨by omega, fun z => (exN_s.mp z).elim hu2.2 (by assumption)⟩ (by show (S 14 0).toNat - (u + 1) < (S 14 0).toNat - u; omega) ls (lv_sub hl [1, 2, 0] (by simp only [e0]; rfl))
    · refine lv_iconst (v := iI 1) hx hb dX5_anyLicence_31 rfl ?_
      refine q_retz hx hb hr hlocks (Or.inr rfl) dX5_anyLicence_32 ?_
      exact bI_e1 ⟨u, by omega, by assumption⟩

set_option maxHeartbeats 4000000 in
set_option maxRecDepth 100000 in
theorem c5_unvisitedOn (l : Launch) (g : GG) (eA : Nat) (P : Nat → Prop) (ad : AD) (S : St) (hI : Inv S) (hQ : InvC S) (day : Int) (r_day : R32 day) (hd : isD day) : MetI l yX5_unvisitedOn wsX5_unvisitedOn ({ frames := 7, cells := 0, slots := 0, locals := 161 }) g [.ref (ad 0 0 0), .int (iI day)] (fun H => RepC g eA P ad S H) (sMany S day 0 (S 14 0).toNat) := by
  refine Met.ofW (cc := cX5_unvisitedOn) (maxL := 5) (ret := (some .int)) (by decide) rfl ?_
  intro p e s m args below meth c s₁ B hml hv
  obtain ⟨rfl, hC, hK⟩ := hv
  have hx := B.exec
  have hb := B.bytes
  have hr := B.returns
  have hts := atoms_spec (ws := wsX5_unvisitedOn) B.pre
  have hown : s.vm.findClass RX5 = some m.cls := findClass_of_methodNamed B.named
  have hlocks := B.notSynchronized
  have inX1 : ∀ w ∈ wsX10, w ∈ wsX5_unvisitedOn := by decide +kernel
  have inX5 : ∀ w ∈ wsX50, w ∈ wsX5_unvisitedOn := by decide +kernel
  have hl := lv_entry ([.ref (ad 0 0 0), .int (iI day)]) (n := 5) (Nat.le_of_ble_eq_true rfl)
  rw [lg_entry_eq]
  generalize (lg_sl ([.ref (ad 0 0 0), .int (iI day)]) ++ List.replicate (5 - (lg_sl ([.ref (ad 0 0 0), .int (iI day)])).length) Slot.unset).toArray = ls at hl ⊢
  have hl : lv_has ls 5 [(0, .ref (ad 0 0 0)), (1, .int (iI day))] := hl
  have hN := hI.nums
  refine lv_iconst (v := iI 0) hx hb dX5_unvisitedOn_0 rfl ?_
  refine lv_istore_n (lv' := [(2, .int (iI 0)), (0, .ref (ad 0 0 0)), (1, .int (iI day))]) hx hb dX5_unvisitedOn_1 rfl hl (by decide) rfl (fun ls hl => ?_)
  refine lv_iconst (v := iI 0) hx hb dX5_unvisitedOn_2 rfl ?_
  refine lv_istore_n (lv' := [(3, .int (iI 0)), (2, .int (iI 0)), (0, .ref (ad 0 0 0)), (1, .int (iI day))]) hx hb dX5_unvisitedOn_3 rfl hl (by decide) rfl (fun ls hl => ?_)
  have e0 : (sMany S day 0 0 : Int) = 0 := by
    rfl
  have e1 : (((0 : Nat) : Int) : Int) = 0 := by
    rfl
  refine q_loopN (nL := 5) ((S 14 0).toNat) (fun (u : Nat) => [(0, .ref (ad 0 0 0)), (1, .int (iI day)), (2, .int (iI (sMany S day 0 u))), (3, .int (iI ((u : Nat) : Int)))]) (lv_sub hl [2, 3, 1, 0] (by simp only [e0, e1]; rfl)) (fun u hu ihu ls hl => ?_)
  have hl : lv_has ls 5 [(0, .ref (ad 0 0 0)), (1, .int (iI day)), (2, .int (iI (sMany S day 0 u))), (3, .int (iI ((u : Nat) : Int)))] := hl
  refine lv_iload_n hx hb dX5_unvisitedOn_4 rfl (lv_at hl 3 rfl) ?_
  refine lv_aload_n hx hb dX5_unvisitedOn_5 rfl (lv_at hl 0 rfl) ?_
  refine q_get (v := .ref (ad 3 2 0)) (C := RX5) (T := TX5) (N := 11) hx hb hts inX5 hown hK hC.obj rfl 2 (by decide) (hts (.fieldLink RX5 19 "TavernBench" "houses" "Ljava/util/ArrayList;") (by decide +kernel)) (fun _ h9 => h9) rfl dX5_unvisitedOn_6 ?_
  refine q_cVi (As := []) (rest := [.int (iI ((u : Nat) : Int))]) ⟨hx, hb, hml, hown, hts⟩ (c0_size l g eA (ad 3 2 0) (ad 4 2 0) (S 14 0)) (cwV 0 hts gX5_unvisitedOn_Jx4a65c_size_8abf5 rfl rfl rfl (by decide +kernel) ⟨Nat.le_of_ble_eq_true rfl, Nat.le_of_ble_eq_true rfl⟩) (q_pV hK (hC.lst (k := 2) (by decide)) rfl (hC.lst (k := 2) (by decide))) rfl hl.1 rfl (Nat.le_of_ble_eq_true rfl) ⟨Nat.zero_le _, Nat.zero_le _⟩ dX5_unvisitedOn_9 ?_
  refine q_icmp_ge (tgt := 54) hx hb dX5_unvisitedOn_12 (by decide) (by omega) (hI.R (by decide)) (fun c12 => ?_) (fun c12 => ?_)
  · refine lv_iload_n hx hb dX5_unvisitedOn_54 rfl (lv_at hl 2 rfl) ?_
    refine q_reti hx hb hr hlocks dX5_unvisitedOn_55 ?_
    have e : u = (S 14 0).toNat := by omega
    rw [e]
  · refine lv_aload_n hx hb dX5_unvisitedOn_15 rfl (lv_at hl 0 rfl) ?_
    refine q_get (v := .ref (ad 3 2 0)) (C := RX5) (T := TX5) (N := 11) hx hb hts inX5 hown hK hC.obj rfl 2 (by decide) (hts (.fieldLink RX5 19 "TavernBench" "houses" "Ljava/util/ArrayList;") (by decide +kernel)) (fun _ h9 => h9) rfl dX5_unvisitedOn_16 ?_
    refine lv_iload_n hx hb dX5_unvisitedOn_19 rfl (lv_at hl 3 rfl) ?_
    refine q_cVr (As := [.int (iI ((u : Nat) : Int))]) (rest := []) ⟨hx, hb, hml, hown, hts⟩ (c0_get l g eA (ad 3 2 0) (ad 4 2 0) (S 14 0) (fun q => ad 7 q 0) ((u : Nat) : Int) (by omega) ⟨by omega, by omega⟩ (by omega)) (cwV 1 hts gX5_unvisitedOn_Jx4a65c_get_915e3 rfl rfl rfl (by decide +kernel) ⟨Nat.le_of_ble_eq_true rfl, Nat.le_of_ble_eq_true rfl⟩) (q_pV hK (hC.lst (k := 2) (by decide)) rfl ⟨(hC.lst (k := 2) (by decide)), (hC.arr (k := 2) (by decide) (by show 0 < S 14 0; omega))⟩) rfl hl.1 rfl (Nat.le_of_ble_eq_true rfl) ⟨Nat.zero_le _, Nat.zero_le _⟩ dX5_unvisitedOn_20 ?_
    refine q_cast (C := RX1) (T := TX1) (N := 7) hx hb hown (hts (.classLink RX5 93 RX1) (by decide +kernel)) hK (hC.house (k := ((u : Nat) : Int)) ⟨by omega, by omega⟩) rfl dX5_unvisitedOn_23 ?_
    refine lv_astore (lv' := [(4, .ref (ad 7 ((u : Nat) : Int) 0)), (0, .ref (ad 0 0 0)), (1, .int (iI day)), (2, .int (iI (sMany S day 0 u))), (3, .int (iI ((u : Nat) : Int)))]) hx hb dX5_unvisitedOn_26 hl (by decide) rfl (fun ls hl => ?_)
    have hH := hI.house (h := ((u : Nat) : Int)) (by omega) (by omega)
    refine q_aload hx hb dX5_unvisitedOn_28 (lv_at hl 0 rfl) ?_
    refine q_get (v := .int (iI (S 26 ((u : Nat) : Int)))) (C := RX1) (T := TX1) (N := 7) hx hb hts inX1 hown hK (hC.house (k := ((u : Nat) : Int)) ⟨by omega, by omega⟩) rfl 6 (by decide) (hts (.fieldLink RX5 233 "TavernBench$House" "visited" "Z") (by decide +kernel)) (fun _ h9 => h9) rfl dX5_unvisitedOn_30 ?_
    refine q_if_ne (tgt := 48) hx hb dX5_unvisitedOn_33 (by decide) (by omega) (fun c33 => ?_) (fun c33 => ?_)
    · refine lv_iinc (v := iI (((u : Nat) : Int) + 1)) (lv' := [(3, .int (iI (((u : Nat) : Int) + 1))), (4, .ref (ad 7 ((u : Nat) : Int) 0)), (0, .ref (ad 0 0 0)), (1, .int (iI day)), (2, .int (iI (sMany S day 0 u)))]) hx hb dX5_unvisitedOn_48 hl (k := 4) rfl (iI_add _ _) (by decide) rfl (fun ls hl => ?_)
      refine lv_goto (tgt := 4) hx hb dX5_unvisitedOn_51 (by decide) ?_
      have e0 : (sMany S day 0 (u + 1) : Int) = sMany S day 0 u := by
        first | exact cnt_1 ⟨by assumption, Or.inr (by assumption)⟩ | (refine (cnt_0 (fun z => ?_)).trans (Int.add_zero _); first | exact absurd z.1 (by assumption) | exact z.2.elim (fun y => y rfl) (fun y => absurd y (by assumption)))
      have e1 : ((((u + 1) : Nat) : Int) : Int) = ((u : Nat) : Int) + 1 := by
        omega
      exact ihu (by omega) ls (lv_sub hl [2, 3, 4, 0] (by simp only [e0, e1]; rfl))
    · refine q_aload hx hb dX5_unvisitedOn_36 (lv_at hl 0 rfl) ?_
      refine lv_iload_n hx hb dX5_unvisitedOn_38 rfl (lv_at hl 2 rfl) ?_
      refine q_cVi (As := [.int (iI day)]) (rest := []) ⟨hx, hb, hml, hown, hts⟩ (c1_hasLicence l g eA P ad S hI hQ ((u : Nat) : Int) ⟨by omega, by omega⟩ day r_day (by omega)) (cwV 1 hts gX5_unvisitedOn_X1_hasLicence rfl rfl rfl (by decide +kernel) ⟨Nat.le_of_ble_eq_true rfl, Nat.le_of_ble_eq_true rfl⟩) (q_pV hK (hC.house (k := ((u : Nat) : Int)) ⟨by omega, by omega⟩) rfl hC) rfl hl.1 rfl (Nat.le_of_ble_eq_true rfl) ⟨Nat.zero_le _, Nat.zero_le _⟩ dX5_unvisitedOn_39 ?_
      refine q_ifb_eq (tgt := 48) hx hb dX5_unvisitedOn_42 (by decide) (fun c42 => ?_) (fun c42 => ?_)
      · refine lv_iinc (v := iI (((u : Nat) : Int) + 1)) (lv' := [(3, .int (iI (((u : Nat) : Int) + 1))), (4, .ref (ad 7 ((u : Nat) : Int) 0)), (0, .ref (ad 0 0 0)), (1, .int (iI day)), (2, .int (iI (sMany S day 0 u)))]) hx hb dX5_unvisitedOn_48 hl (k := 4) rfl (iI_add _ _) (by decide) rfl (fun ls hl => ?_)
        refine lv_goto (tgt := 4) hx hb dX5_unvisitedOn_51 (by decide) ?_
        have e0 : (sMany S day 0 (u + 1) : Int) = sMany S day 0 u := by
          first | exact cnt_1 ⟨by assumption, Or.inr (by assumption)⟩ | (refine (cnt_0 (fun z => ?_)).trans (Int.add_zero _); first | exact absurd z.1 (by assumption) | exact z.2.elim (fun y => y rfl) (fun y => absurd y (by assumption)))
        have e1 : ((((u + 1) : Nat) : Int) : Int) = ((u : Nat) : Int) + 1 := by
          omega
        exact ihu (by omega) ls (lv_sub hl [2, 3, 4, 0] (by simp only [e0, e1]; rfl))
      · refine lv_iinc (v := iI ((sMany S day 0 u) + 1)) (lv' := [(2, .int (iI ((sMany S day 0 u) + 1))), (4, .ref (ad 7 ((u : Nat) : Int) 0)), (0, .ref (ad 0 0 0)), (1, .int (iI day)), (3, .int (iI ((u : Nat) : Int)))]) hx hb dX5_unvisitedOn_45 hl (k := 3) rfl (iI_add _ _) (by decide) rfl (fun ls hl => ?_)
        refine lv_iinc (v := iI (((u : Nat) : Int) + 1)) (lv' := [(3, .int (iI (((u : Nat) : Int) + 1))), (2, .int (iI ((sMany S day 0 u) + 1))), (4, .ref (ad 7 ((u : Nat) : Int) 0)), (0, .ref (ad 0 0 0)), (1, .int (iI day))]) hx hb dX5_unvisitedOn_48 hl (k := 4) rfl (iI_add _ _) (by decide) rfl (fun ls hl => ?_)
        refine lv_goto (tgt := 4) hx hb dX5_unvisitedOn_51 (by decide) ?_
        have e0 : (sMany S day 0 (u + 1) : Int) = (sMany S day 0 u) + 1 := by
          first | exact cnt_1 ⟨by assumption, Or.inr (by assumption)⟩ | (refine (cnt_0 (fun z => ?_)).trans (Int.add_zero _); first | exact absurd z.1 (by assumption) | exact z.2.elim (fun y => y rfl) (fun y => absurd y (by assumption)))
        have e1 : ((((u + 1) : Nat) : Int) : Int) = ((u : Nat) : Int) + 1 := by
          omega
        exact ihu (by omega) ls (lv_sub hl [3, 4, 1, 0] (by simp only [e0, e1]; rfl))

set_option maxHeartbeats 4000000 in
set_option maxRecDepth 100000 in
theorem c5_count (l : Launch) (g : GG) (eA : Nat) (P : Nat → Prop) (ad : AD) (S : St) (hI : Inv S) (hQ : InvC S) (what : Int) (r_what : R32 what)  : MetI l yX5_count wsX5_count ({ frames := 1, cells := 0, slots := 0, locals := 20 }) g [.ref (ad 0 0 0), .int (iI what)] (fun H => RepC g eA P ad S H) (aCount S what) := by
  refine Met.ofW (cc := cX5_count) (maxL := 2) (ret := (some .int)) (by decide) rfl ?_
  intro p e s m args below meth c s₁ B hml hv
  obtain ⟨rfl, hC, hK⟩ := hv
  have hx := B.exec
  have hb := B.bytes
  have hr := B.returns
  have hts := atoms_spec (ws := wsX5_count) B.pre
  have hown : s.vm.findClass RX5 = some m.cls := findClass_of_methodNamed B.named
  have hlocks := B.notSynchronized
  have inX5 : ∀ w ∈ wsX50, w ∈ wsX5_count := by decide +kernel
  have hl := lv_entry ([.ref (ad 0 0 0), .int (iI what)]) (n := 2) (Nat.le_of_ble_eq_true rfl)
  rw [lg_entry_eq]
  generalize (lg_sl ([.ref (ad 0 0 0), .int (iI what)]) ++ List.replicate (2 - (lg_sl ([.ref (ad 0 0 0), .int (iI what)])).length) Slot.unset).toArray = ls at hl ⊢
  have hl : lv_has ls 2 [(0, .ref (ad 0 0 0)), (1, .int (iI what))] := hl
  have hN := hI.nums
  refine lv_iload_n hx hb dX5_count_0 rfl (lv_at hl 1 rfl) ?_
  rcases (show what < 0 ∨ 5 < what ∨ what = 0 ∨ what = 1 ∨ what = 2 ∨ what = 3 ∨ what = 4 ∨ what = 5 by omega) with c1 | c1 | c1 | c1 | c1 | c1 | c1 | c1
  · refine q_tabOut (tgt := 79) hx hb dX5_count_1 r_what (Or.inl c1) (by decide) ?_
    refine lv_iconst (v := iI (-1)) hx hb dX5_count_79 rfl ?_
    refine q_reti hx hb hr hlocks dX5_count_80 ?_
    show _ = aCount S what
    unfold aCount
    first | rw [cI_t (by omega)] | rw [cI_f (by omega), cI_t (by omega)] | rw [cI_f (by omega), cI_f (by omega), cI_t (by omega)] | rw [cI_f (by omega), cI_f (by omega), cI_f (by omega), cI_t (by omega)] | rw [cI_f (by omega), cI_f (by omega), cI_f (by omega), cI_f (by omega), cI_t (by omega)] | rw [cI_f (by omega), cI_f (by omega), cI_f (by omega), cI_f (by omega), cI_f (by omega), cI_t (by omega)] | rw [cI_f (by omega), cI_f (by omega), cI_f (by omega), cI_f (by omega), cI_f (by omega), cI_f (by omega)]
  · refine q_tabOut (tgt := 79) hx hb dX5_count_1 r_what (Or.inr c1) (by decide) ?_
    refine lv_iconst (v := iI (-1)) hx hb dX5_count_79 rfl ?_
    refine q_reti hx hb hr hlocks dX5_count_80 ?_
    show _ = aCount S what
    unfold aCount
    first | rw [cI_t (by omega)] | rw [cI_f (by omega), cI_t (by omega)] | rw [cI_f (by omega), cI_f (by omega), cI_t (by omega)] | rw [cI_f (by omega), cI_f (by omega), cI_f (by omega), cI_t (by omega)] | rw [cI_f (by omega), cI_f (by omega), cI_f (by omega), cI_f (by omega), cI_t (by omega)] | rw [cI_f (by omega), cI_f (by omega), cI_f (by omega), cI_f (by omega), cI_f (by omega), cI_t (by omega)] | rw [cI_f (by omega), cI_f (by omega), cI_f (by omega), cI_f (by omega), cI_f (by omega), cI_f (by omega)]
  · refine q_tabIn (off := 39) (tgt := 40) (k := 0) hx hb dX5_count_1 r_what c1 (by decide) (by decide) (by decide +kernel) (by decide) ?_
    refine lv_aload_n hx hb dX5_count_40 rfl (lv_at hl 0 rfl) ?_
    refine q_get (v := .ref (ad 3 2 0)) (C := RX5) (T := TX5) (N := 11) hx hb hts inX5 hown hK hC.obj rfl 2 (by decide) (hts (.fieldLink RX5 19 "TavernBench" "houses" "Ljava/util/ArrayList;") (by decide +kernel)) (fun _ h9 => h9) rfl dX5_count_41 ?_
    refine q_cVi (As := []) (rest := []) ⟨hx, hb, hml, hown, hts⟩ (c0_size l g eA (ad 3 2 0) (ad 4 2 0) (S 14 0)) (cwV 0 hts gX5_count_Jx4a65c_size_8abf5 rfl rfl rfl (by decide +kernel) ⟨Nat.le_of_ble_eq_true rfl, Nat.le_of_ble_eq_true rfl⟩) (q_pV hK (hC.lst (k := 2) (by decide)) rfl (hC.lst (k := 2) (by decide))) rfl hl.1 rfl (Nat.le_of_ble_eq_true rfl) ⟨Nat.zero_le _, Nat.zero_le _⟩ dX5_count_44 ?_
    refine q_reti hx hb hr hlocks dX5_count_47 ?_
    show _ = aCount S what
    unfold aCount
    first | rw [cI_t (by omega)] | rw [cI_f (by omega), cI_t (by omega)] | rw [cI_f (by omega), cI_f (by omega), cI_t (by omega)] | rw [cI_f (by omega), cI_f (by omega), cI_f (by omega), cI_t (by omega)] | rw [cI_f (by omega), cI_f (by omega), cI_f (by omega), cI_f (by omega), cI_t (by omega)] | rw [cI_f (by omega), cI_f (by omega), cI_f (by omega), cI_f (by omega), cI_f (by omega), cI_t (by omega)] | rw [cI_f (by omega), cI_f (by omega), cI_f (by omega), cI_f (by omega), cI_f (by omega), cI_f (by omega)]
  · refine q_tabIn (off := 47) (tgt := 48) (k := 1) hx hb dX5_count_1 r_what c1 (by decide) (by decide) (by decide +kernel) (by decide) ?_
    refine lv_aload_n hx hb dX5_count_48 rfl (lv_at hl 0 rfl) ?_
    refine q_get (v := .ref (ad 3 0 0)) (C := RX5) (T := TX5) (N := 11) hx hb hts inX5 hown hK hC.obj rfl 0 (by decide) (hts (.fieldLink RX5 10 "TavernBench" "laws" "Ljava/util/ArrayList;") (by decide +kernel)) (fun _ h9 => h9) rfl dX5_count_49 ?_
    refine q_cVi (As := []) (rest := []) ⟨hx, hb, hml, hown, hts⟩ (c0_size l g eA (ad 3 0 0) (ad 4 0 0) (S 2 0)) (cwV 0 hts gX5_count_Jx4a65c_size_8abf5 rfl rfl rfl (by decide +kernel) ⟨Nat.le_of_ble_eq_true rfl, Nat.le_of_ble_eq_true rfl⟩) (q_pV hK (hC.lst (k := 0) (by decide)) rfl (hC.lst (k := 0) (by decide))) rfl hl.1 rfl (Nat.le_of_ble_eq_true rfl) ⟨Nat.zero_le _, Nat.zero_le _⟩ dX5_count_52 ?_
    refine q_reti hx hb hr hlocks dX5_count_55 ?_
    show _ = aCount S what
    unfold aCount
    first | rw [cI_t (by omega)] | rw [cI_f (by omega), cI_t (by omega)] | rw [cI_f (by omega), cI_f (by omega), cI_t (by omega)] | rw [cI_f (by omega), cI_f (by omega), cI_f (by omega), cI_t (by omega)] | rw [cI_f (by omega), cI_f (by omega), cI_f (by omega), cI_f (by omega), cI_t (by omega)] | rw [cI_f (by omega), cI_f (by omega), cI_f (by omega), cI_f (by omega), cI_f (by omega), cI_t (by omega)] | rw [cI_f (by omega), cI_f (by omega), cI_f (by omega), cI_f (by omega), cI_f (by omega), cI_f (by omega)]
  · refine q_tabIn (off := 55) (tgt := 56) (k := 2) hx hb dX5_count_1 r_what c1 (by decide) (by decide) (by decide +kernel) (by decide) ?_
    refine lv_aload_n hx hb dX5_count_56 rfl (lv_at hl 0 rfl) ?_
    refine q_get (v := .int (iI (S 0 0))) (C := RX5) (T := TX5) (N := 11) hx hb hts inX5 hown hK hC.obj rfl 5 (by decide) (hts (.fieldLink RX5 53 "TavernBench" "feasts" "I") (by decide +kernel)) (fun _ h9 => h9) rfl dX5_count_57 ?_
    refine q_reti hx hb hr hlocks dX5_count_60 ?_
    show _ = aCount S what
    unfold aCount
    first | rw [cI_t (by omega)] | rw [cI_f (by omega), cI_t (by omega)] | rw [cI_f (by omega), cI_f (by omega), cI_t (by omega)] | rw [cI_f (by omega), cI_f (by omega), cI_f (by omega), cI_t (by omega)] | rw [cI_f (by omega), cI_f (by omega), cI_f (by omega), cI_f (by omega), cI_t (by omega)] | rw [cI_f (by omega), cI_f (by omega), cI_f (by omega), cI_f (by omega), cI_f (by omega), cI_t (by omega)] | rw [cI_f (by omega), cI_f (by omega), cI_f (by omega), cI_f (by omega), cI_f (by omega), cI_f (by omega)]
  · refine q_tabIn (off := 60) (tgt := 61) (k := 3) hx hb dX5_count_1 r_what c1 (by decide) (by decide) (by decide +kernel) (by decide) ?_
    refine lv_aload_n hx hb dX5_count_61 rfl (lv_at hl 0 rfl) ?_
    refine q_get (v := .ref (ad 3 1 0)) (C := RX5) (T := TX5) (N := 11) hx hb hts inX5 hown hK hC.obj rfl 1 (by decide) (hts (.fieldLink RX5 16 "TavernBench" "objectors" "Ljava/util/ArrayList;") (by decide +kernel)) (fun _ h9 => h9) rfl dX5_count_62 ?_
    refine q_cVi (As := []) (rest := []) ⟨hx, hb, hml, hown, hts⟩ (c0_size l g eA (ad 3 1 0) (ad 4 1 0) (S 10 0)) (cwV 0 hts gX5_count_Jx4a65c_size_8abf5 rfl rfl rfl (by decide +kernel) ⟨Nat.le_of_ble_eq_true rfl, Nat.le_of_ble_eq_true rfl⟩) (q_pV hK (hC.lst (k := 1) (by decide)) rfl (hC.lst (k := 1) (by decide))) rfl hl.1 rfl (Nat.le_of_ble_eq_true rfl) ⟨Nat.zero_le _, Nat.zero_le _⟩ dX5_count_65 ?_
    refine q_reti hx hb hr hlocks dX5_count_68 ?_
    show _ = aCount S what
    unfold aCount
    first | rw [cI_t (by omega)] | rw [cI_f (by omega), cI_t (by omega)] | rw [cI_f (by omega), cI_f (by omega), cI_t (by omega)] | rw [cI_f (by omega), cI_f (by omega), cI_f (by omega), cI_t (by omega)] | rw [cI_f (by omega), cI_f (by omega), cI_f (by omega), cI_f (by omega), cI_t (by omega)] | rw [cI_f (by omega), cI_f (by omega), cI_f (by omega), cI_f (by omega), cI_f (by omega), cI_t (by omega)] | rw [cI_f (by omega), cI_f (by omega), cI_f (by omega), cI_f (by omega), cI_f (by omega), cI_f (by omega)]
  · refine q_tabIn (off := 68) (tgt := 69) (k := 4) hx hb dX5_count_1 r_what c1 (by decide) (by decide) (by decide +kernel) (by decide) ?_
    refine lv_aload_n hx hb dX5_count_69 rfl (lv_at hl 0 rfl) ?_
    refine q_get (v := .int (iI (S 27 0))) (C := RX5) (T := TX5) (N := 11) hx hb hts inX5 hown hK hC.obj rfl 9 (by decide) (hts (.fieldLink RX5 191 "TavernBench" "visitsInRound" "I") (by decide +kernel)) (fun _ h9 => h9) rfl dX5_count_70 ?_
    refine q_reti hx hb hr hlocks dX5_count_73 ?_
    show _ = aCount S what
    unfold aCount
    first | rw [cI_t (by omega)] | rw [cI_f (by omega), cI_t (by omega)] | rw [cI_f (by omega), cI_f (by omega), cI_t (by omega)] | rw [cI_f (by omega), cI_f (by omega), cI_f (by omega), cI_t (by omega)] | rw [cI_f (by omega), cI_f (by omega), cI_f (by omega), cI_f (by omega), cI_t (by omega)] | rw [cI_f (by omega), cI_f (by omega), cI_f (by omega), cI_f (by omega), cI_f (by omega), cI_t (by omega)] | rw [cI_f (by omega), cI_f (by omega), cI_f (by omega), cI_f (by omega), cI_f (by omega), cI_f (by omega)]
  · refine q_tabIn (off := 73) (tgt := 74) (k := 5) hx hb dX5_count_1 r_what c1 (by decide) (by decide) (by decide +kernel) (by decide) ?_
    refine lv_aload_n hx hb dX5_count_74 rfl (lv_at hl 0 rfl) ?_
    refine q_get (v := .int (iI (S 28 0))) (C := RX5) (T := TX5) (N := 11) hx hb hts inX5 hown hK hC.obj rfl 8 (by decide) (hts (.fieldLink RX5 90 "TavernBench" "refusedAsks" "I") (by decide +kernel)) (fun _ h9 => h9) rfl dX5_count_75 ?_
    refine q_reti hx hb hr hlocks dX5_count_78 ?_
    show _ = aCount S what
    unfold aCount
    first | rw [cI_t (by omega)] | rw [cI_f (by omega), cI_t (by omega)] | rw [cI_f (by omega), cI_f (by omega), cI_t (by omega)] | rw [cI_f (by omega), cI_f (by omega), cI_f (by omega), cI_t (by omega)] | rw [cI_f (by omega), cI_f (by omega), cI_f (by omega), cI_f (by omega), cI_t (by omega)] | rw [cI_f (by omega), cI_f (by omega), cI_f (by omega), cI_f (by omega), cI_f (by omega), cI_t (by omega)] | rw [cI_f (by omega), cI_f (by omega), cI_f (by omega), cI_f (by omega), cI_f (by omega), cI_f (by omega)]
