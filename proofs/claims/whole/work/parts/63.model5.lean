set_option maxHeartbeats 4000000 in
set_option maxRecDepth 100000 in
theorem c6_owes (l : Launch) (g : GG) (mad : Nat → Nat) (S : St) (hI : Inv S) (h1 : Int) (h2 : Int) (r_h1 : R32 h1) (r_h2 : R32 h2) (hi : mInj mad)  : MetM l yX6_owes wsX6_owes ({ frames := 4, cells := 0, slots := 0, locals := 99 }) g [.ref (mad 0), .int (iI h1), .int (iI h2)] (fun H => RepM g mad S H) (aOwes S h1 h2) (fun H => ∃ S', (∀ k, k ≠ 30 → k ≠ 31 → S' k = S k) ∧ RepM g mad S' H) (PM mad) 0 0 := by
  refine Met.ofW (cc := cX6_owes) (maxL := 12) (ret := (some .int)) (by decide) rfl ?_
  intro p e s m args below meth c s₁ B hml hv
  obtain ⟨rfl, hM, hK⟩ := hv
  have hx := B.exec
  have hb := B.bytes
  have hr := B.returns
  have hts := atoms_spec (ws := wsX6_owes) B.pre
  have hown : s.vm.findClass RX6 = some m.cls := findClass_of_methodNamed B.named
  have hlocks := B.notSynchronized
  have inX6 : ∀ w ∈ wsX60, w ∈ wsX6_owes := by decide +kernel
  have hl := lv_entry ([.ref (mad 0), .int (iI h1), .int (iI h2)]) (n := 12) (Nat.le_of_ble_eq_true rfl)
  rw [lg_entry_eq]
  generalize (lg_sl ([.ref (mad 0), .int (iI h1), .int (iI h2)]) ++ List.replicate (12 - (lg_sl ([.ref (mad 0), .int (iI h1), .int (iI h2)])).length) Slot.unset).toArray = ls at hl ⊢
  have hl : lv_has ls 12 [(0, .ref (mad 0)), (1, .int (iI h1)), (2, .int (iI h2))] := hl
  have hS : va_S (PM mad) s.heap s.heap [] := va_S.rf
  have hN := hI.nums
  refine lv_aload_n hx hb dX6_owes_0 rfl (lv_at hl 0 rfl) ?_
  refine lv_iload_n hx hb dX6_owes_1 rfl (lv_at hl 1 rfl) ?_
  refine q_cVi (As := [.int (iI h1)]) (rest := []) ⟨hx, hb, hml, hown, hts⟩ (c6_isHouse l g mad S hI h1 r_h1 ) (cwV 1 hts gX6_owes_X6_isHouse rfl rfl rfl (by decide +kernel) ⟨Nat.le_of_ble_eq_true rfl, Nat.le_of_ble_eq_true rfl⟩) (q_pV hK hM.1 rfl hM) rfl hl.1 rfl (Nat.le_of_ble_eq_true rfl) ⟨Nat.zero_le _, Nat.zero_le _⟩ dX6_owes_2 ?_
  refine q_ifb_eq (tgt := 16) hx hb dX6_owes_5 (by decide) (fun c5 => ?_) (fun c5 => ?_)
  · refine lv_iconst (v := iI (-1)) hx hb dX6_owes_16 rfl ?_
    refine q_mreti hx hb hr hlocks hS dX6_owes_17 ?_ ?_
    · show _ = aOwes S h1 h2
      unfold aOwes
      rw [cI_f (fun z => by have z1 := z.1; have z2 := z.2; first | exact absurd z1 (by assumption) | exact absurd z2 (by assumption))]
    · exact ⟨S, fun _ _ _ => rfl, hM⟩
  · refine lv_aload_n hx hb dX6_owes_8 rfl (lv_at hl 0 rfl) ?_
    refine lv_iload_n hx hb dX6_owes_9 rfl (lv_at hl 2 rfl) ?_
    refine q_cVi (As := [.int (iI h2)]) (rest := []) ⟨hx, hb, hml, hown, hts⟩ (c6_isHouse l g mad S hI h2 r_h2 ) (cwV 1 hts gX6_owes_X6_isHouse rfl rfl rfl (by decide +kernel) ⟨Nat.le_of_ble_eq_true rfl, Nat.le_of_ble_eq_true rfl⟩) (q_pV hK hM.1 rfl hM) rfl hl.1 rfl (Nat.le_of_ble_eq_true rfl) ⟨Nat.zero_le _, Nat.zero_le _⟩ dX6_owes_10 ?_
    refine q_ifb_ne (tgt := 18) hx hb dX6_owes_13 (by decide) (fun c13 => ?_) (fun c13 => ?_)
    · have g2 : 0 ≤ h2 ∧ h2 < S 14 0 := by omega
      have g1 : 0 ≤ h1 ∧ h1 < S 14 0 := by omega
      refine lv_aload_n hx hb dX6_owes_18 rfl (lv_at hl 0 rfl) ?_
      refine lv_iload_n hx hb dX6_owes_19 rfl (lv_at hl 2 rfl) ?_
      refine q_sipush hx hb 3999 dX6_owes_20 (by decide +kernel) ?_
      refine q_cVi (As := [.int (iI h2), .int (iI 3999)]) (rest := []) ⟨hx, hb, hml, hown, hts⟩ (c6_surplusFrom l g mad S hI h2 3999 r_h2 (by decide) g2) (cwV 2 hts gX6_owes_X6_surplusFrom rfl rfl rfl (by decide +kernel) ⟨Nat.le_of_ble_eq_true rfl, Nat.le_of_ble_eq_true rfl⟩) (q_pV hK hM.1 rfl hM) rfl hl.1 rfl (Nat.le_of_ble_eq_true rfl) ⟨Nat.zero_le _, Nat.zero_le _⟩ dX6_owes_23 ?_
      refine lv_istore_n (lv' := [(3, .int (iI (sSur S h2 3999 100000 (S 19 h2).toNat))), (0, .ref (mad 0)), (1, .int (iI h1)), (2, .int (iI h2))]) hx hb dX6_owes_26 rfl hl (by decide) rfl (fun ls hl => ?_)
      have hod := oDay_m hI g2
      refine lv_iload_n hx hb dX6_owes_27 rfl (lv_at hl 0 rfl) ?_
      refine q_ldc hx hb 100000 hown (hts (.constant RX6 126 (100000)) (by decide +kernel)) (by decide +kernel) dX6_owes_28 ?_
      refine q_icmp_ne (tgt := 36) hx hb dX6_owes_30 (by decide) (by omega) (by decide) (fun c30 => ?_) (fun c30 => ?_)
      · have hod2 : sSur S h2 3999 100000 (S 19 h2).toNat = oDay S h2 ∧ isD (oDay S h2) ∧ ¬ sHas S h2 (oDay S h2) := by
          rcases hod with y | y
          · exact absurd y.1 (by omega)
          · exact y
        have hdd := hod2.2.1
        have hno := hod2.2.2
        have hw2 := sWorth_b hI g2 (oDay S h2)
        have e0 : (oDay S h2 : Int) = sSur S h2 3999 100000 (S 19 h2).toNat := by
          exact hod2.1.symm
        have hl : lv_has ls 12 [(3, .int (iI (oDay S h2))), (0, .ref (mad 0)), (1, .int (iI h1)), (2, .int (iI h2))] := (lv_sub hl [0, 1, 2, 3] (by simp only [e0]; rfl))
        refine q_ldc2 hx hb 3 hown (hts (.constantLong RX6 174 (3)) (by decide +kernel)) (by decide +kernel) dX6_owes_36 ?_
        refine lv_aload_n hx hb dX6_owes_39 rfl (lv_at hl 1 rfl) ?_
        refine lv_iload_n hx hb dX6_owes_40 rfl (lv_at hl 3 rfl) ?_
        refine lv_iload_n hx hb dX6_owes_41 rfl (lv_at hl 0 rfl) ?_
        refine q_cVi (As := [.int (iI h2), .int (iI (oDay S h2))]) (rest := [.long (lI 3)]) ⟨hx, hb, hml, hown, hts⟩ (c6_worthOn l g mad S hI h2 (oDay S h2) r_h2 (by omega) (⟨by omega, by omega⟩)) (cwV 2 hts gX6_owes_X6_worthOn rfl rfl rfl (by decide +kernel) ⟨Nat.le_of_ble_eq_true rfl, Nat.le_of_ble_eq_true rfl⟩) (q_pV hK hM.1 rfl hM) rfl hl.1 rfl (Nat.le_of_ble_eq_true rfl) ⟨Nat.zero_le _, Nat.zero_le _⟩ dX6_owes_42 ?_
        refine q_i2l hx hb (by omega) dX6_owes_45 ?_
        refine q_lmul hx hb dX6_owes_46 ?_
        refine lv_lstore (lv' := [(4, .long (lI (3 * (sWorth S h2 (oDay S h2))))), (3, .int (iI (oDay S h2))), (0, .ref (mad 0)), (1, .int (iI h1)), (2, .int (iI h2))]) hx hb dX6_owes_47 hl (by decide) rfl (fun ls hl => ?_)
        have e0 : (sWorth S h2 (oDay S h2) * 3 : Int) = 3 * (sWorth S h2 (oDay S h2)) := by
          omega
        have hl : lv_has ls 12 [(4, .long (lI (sWorth S h2 (oDay S h2) * 3))), (3, .int (iI (oDay S h2))), (0, .ref (mad 0)), (1, .int (iI h1)), (2, .int (iI h2))] := (lv_sub hl [0, 1, 2, 3, 4] (by simp only [e0]; rfl))
        refine lv_lconst (v := lI 0) hx hb dX6_owes_49 (by decide +kernel) ?_
        refine lv_lstore (lv' := [(6, .long (lI 0)), (4, .long (lI (sWorth S h2 (oDay S h2) * 3))), (3, .int (iI (oDay S h2))), (0, .ref (mad 0)), (1, .int (iI h1)), (2, .int (iI h2))]) hx hb dX6_owes_50 hl (by decide) rfl (fun ls hl => ?_)
        refine lv_iconst (v := iI 0) hx hb dX6_owes_52 rfl ?_
        refine lv_istore (lv' := [(8, .int (iI 0)), (6, .long (lI 0)), (4, .long (lI (sWorth S h2 (oDay S h2) * 3))), (3, .int (iI (oDay S h2))), (0, .ref (mad 0)), (1, .int (iI h1)), (2, .int (iI h2))]) hx hb dX6_owes_53 hl (by decide) rfl (fun ls hl => ?_)
        have e0 : (oAll S (oDay S h2) 0 : Int) = 0 := by
          rfl
        have e1 : (((0 : Nat) : Int) : Int) = 0 := by
          rfl
        refine q_loopN (nL := 12) ((S 14 0).toNat) (fun (u : Nat) => [(0, .ref (mad 0)), (1, .int (iI h1)), (2, .int (iI h2)), (3, .int (iI (oDay S h2))), (4, .long (lI (sWorth S h2 (oDay S h2) * 3))), (6, .long (lI (oAll S (oDay S h2) u))), (8, .int (iI ((u : Nat) : Int)))]) (lv_sub hl [4, 5, 6, 3, 2, 1, 0] (by simp only [e0, e1]; rfl)) (fun u hu ihu ls hl => ?_)
        have hl : lv_has ls 12 [(0, .ref (mad 0)), (1, .int (iI h1)), (2, .int (iI h2)), (3, .int (iI (oDay S h2))), (4, .long (lI (sWorth S h2 (oDay S h2) * 3))), (6, .long (lI (oAll S (oDay S h2) u))), (8, .int (iI ((u : Nat) : Int)))] := hl
        have hnu : ((u : Nat) : Int) = h2 → ¬ sHas S ((u : Nat) : Int) (oDay S h2) := fun e => by rw [e]; exact hno
        refine lv_iload hx hb dX6_owes_55 (lv_at hl 6 rfl) ?_
        refine lv_aload_n hx hb dX6_owes_57 rfl (lv_at hl 0 rfl) ?_
        refine q_get (v := .int (iI (S 14 0))) (C := RX6) (T := TX6) (N := 32) hx hb hts inX6 hown hK hM.1 rfl 14 (by decide) (hts (.fieldLink RX6 116 "TavernBenchModel" "houses" "I") (by decide +kernel)) (fun _ h9 => h9) rfl dX6_owes_58 ?_
        refine q_icmp_ge (tgt := 103) hx hb dX6_owes_61 (by decide) (by omega) (hI.R (by decide)) (fun c61 => ?_) (fun c61 => ?_)
        · have e0 : (oAll S (oDay S h2) (S 14 0).toNat : Int) = oAll S (oDay S h2) u := by
            have ej : u = (S 14 0).toNat := by omega
            rw [ej]
          have hl : lv_has ls 12 [(0, .ref (mad 0)), (1, .int (iI h1)), (2, .int (iI h2)), (3, .int (iI (oDay S h2))), (4, .long (lI (sWorth S h2 (oDay S h2) * 3))), (6, .long (lI (oAll S (oDay S h2) (S 14 0).toNat))), (8, .int (iI ((u : Nat) : Int)))] := (lv_sub hl [0, 1, 2, 3, 4, 5, 6] (by simp only [e0]; rfl))
          refine lv_lload hx hb dX6_owes_103 (lv_at hl 4 rfl) ?_
          refine lv_lstore (lv' := [(8, .long (lI (sWorth S h2 (oDay S h2) * 3))), (0, .ref (mad 0)), (1, .int (iI h1)), (2, .int (iI h2)), (3, .int (iI (oDay S h2))), (4, .long (lI (sWorth S h2 (oDay S h2) * 3))), (6, .long (lI (oAll S (oDay S h2) (S 14 0).toNat)))]) hx hb dX6_owes_105 hl (by decide) rfl (fun ls hl => ?_)
          refine lv_iconst (v := iI 0) hx hb dX6_owes_107 rfl ?_
          refine lv_istore (lv' := [(10, .int (iI 0)), (8, .long (lI (sWorth S h2 (oDay S h2) * 3))), (0, .ref (mad 0)), (1, .int (iI h1)), (2, .int (iI h2)), (3, .int (iI (oDay S h2))), (4, .long (lI (sWorth S h2 (oDay S h2) * 3))), (6, .long (lI (oAll S (oDay S h2) (S 14 0).toNat)))]) hx hb dX6_owes_108 hl (by decide) rfl (fun ls hl => ?_)
          have e0 : (sWorth S h2 (oDay S h2) * 3 - oSum S (oDay S h2) (sWorth S h2 (oDay S h2) * 3) (oAll S (oDay S h2) (S 14 0).toNat) 0 : Int) = sWorth S h2 (oDay S h2) * 3 := by
            show _ - 0 = _
            omega
          have e1 : (((0 : Nat) : Int) : Int) = 0 := by
            rfl
          refine q_loopW (nL := 12) (A := PM mad) (fun (y : Nat) H => y ≤ (S 14 0).toNat ∧ RepM g mad (pUp S (oDay S h2) (sWorth S h2 (oDay S h2) * 3) (oAll S (oDay S h2) (S 14 0).toNat) (y : Int)) H) (fun y => (S 14 0).toNat - y) (fun (y : Nat) => [(0, .ref (mad 0)), (1, .int (iI h1)), (2, .int (iI h2)), (3, .int (iI (oDay S h2))), (4, .long (lI (sWorth S h2 (oDay S h2) * 3))), (6, .long (lI (oAll S (oDay S h2) (S 14 0).toNat))), (8, .long (lI (sWorth S h2 (oDay S h2) * 3 - oSum S (oDay S h2) (sWorth S h2 (oDay S h2) * 3) (oAll S (oDay S h2) (S 14 0).toNat) y))), (10, .int (iI ((y : Nat) : Int)))]) 0 ⟨Nat.zero_le _, by rw [pUp_0]; exact hM⟩ hS (lv_sub hl [2, 3, 4, 5, 6, 7, 1, 0] (by simp only [e0, e1]; rfl)) (fun y H locs hy2 hS ihy ls hl => ?_)
          have hl : lv_has ls 12 [(0, .ref (mad 0)), (1, .int (iI h1)), (2, .int (iI h2)), (3, .int (iI (oDay S h2))), (4, .long (lI (sWorth S h2 (oDay S h2) * 3))), (6, .long (lI (oAll S (oDay S h2) (S 14 0).toNat))), (8, .long (lI (sWorth S h2 (oDay S h2) * 3 - oSum S (oDay S h2) (sWorth S h2 (oDay S h2) * 3) (oAll S (oDay S h2) (S 14 0).toNat) y))), (10, .int (iI ((y : Nat) : Int)))] := hl
          have hy1 : y ≤ (S 14 0).toNat := hy2.1
          have hM := hy2.2
          have hS9 := pUp_ne S (oDay S h2) (sWorth S h2 (oDay S h2) * 3) (oAll S (oDay S h2) (S 14 0).toNat) ((y : Nat) : Int)
          have hIy : Inv (pUp S (oDay S h2) (sWorth S h2 (oDay S h2) * 3) (oAll S (oDay S h2) (S 14 0).toNat) ((y : Nat) : Int)) := Inv.congr (fun k9 hk9 => hS9 k9 (by omega) (by omega)) hI
          have hab := oAll_b hI (oDay S h2) (n := (S 14 0).toNat) (by omega)
          have hny : ((y : Nat) : Int) = h2 → ¬ sHas S ((y : Nat) : Int) (oDay S h2) := fun e => by rw [e]; exact hno
          refine lv_iload hx hb dX6_owes_110 (lv_at hl 7 rfl) ?_
          refine lv_aload_n hx hb dX6_owes_112 rfl (lv_at hl 0 rfl) ?_
          refine q_get (v := .int (iI (S 14 0))) (C := RX6) (T := TX6) (N := 32) hx hb hts inX6 hown hK hM.1 rfl 14 (by decide) (hts (.fieldLink RX6 116 "TavernBenchModel" "houses" "I") (by decide +kernel)) (fun _ h9 => h9) rfl dX6_owes_113 ?_
          refine q_icmp_ge (tgt := 222) hx hb dX6_owes_116 (by decide) (by omega) (hI.R (by decide)) (fun c116 => ?_) (fun c116 => ?_)
          · have ey : y = (S 14 0).toNat := by omega
            subst ey
            rw [gS_0] at hM
            have hsa := sg_le (a := oAll S (oDay S h2) (S 14 0).toNat) (b := 0)
            have hsR : R32 (sg (oAll S (oDay S h2) (S 14 0).toNat) 0) := sg_R _ _
            have e0 : (sWorth S h2 (oDay S h2) * 3 - oSum S (oDay S h2) (sWorth S h2 (oDay S h2) * 3) (oAll S (oDay S h2) (S 14 0).toNat) (S 14 0).toNat - ((0 : Nat) : Int) : Int) = sWorth S h2 (oDay S h2) * 3 - oSum S (oDay S h2) (sWorth S h2 (oDay S h2) * 3) (oAll S (oDay S h2) (S 14 0).toNat) (S 14 0).toNat := by
              show _ - 0 = _
              omega
            refine q_loopW (σ := Nat × (Nat → Prop)) (nL := 12) (A := PM mad) (fun jq H => RepM g mad (gS S (oDay S h2) (sWorth S h2 (oDay S h2) * 3) (oAll S (oDay S h2) (S 14 0).toNat) (S 14 0).toNat jq.2) H ∧ oTook S (oDay S h2) (sWorth S h2 (oDay S h2) * 3) (oAll S (oDay S h2) (S 14 0).toNat) (S 14 0).toNat jq.2 ∧ cnt jq.2 (S 14 0).toNat = ((jq.1 : Nat) : Int) ∧ (jq.1 = 0 ∨ ((jq.1 : Nat) : Int) ≤ sWorth S h2 (oDay S h2) * 3 - oSum S (oDay S h2) (sWorth S h2 (oDay S h2) * 3) (oAll S (oDay S h2) (S 14 0).toNat) (S 14 0).toNat)) (fun jq => (sWorth S h2 (oDay S h2) * 3 - oSum S (oDay S h2) (sWorth S h2 (oDay S h2) * 3) (oAll S (oDay S h2) (S 14 0).toNat) (S 14 0).toNat).toNat - jq.1) (fun jq => [(0, .ref (mad 0)), (1, .int (iI h1)), (2, .int (iI h2)), (3, .int (iI (oDay S h2))), (4, .long (lI (sWorth S h2 (oDay S h2) * 3))), (6, .long (lI (oAll S (oDay S h2) (S 14 0).toNat))), (8, .long (lI (sWorth S h2 (oDay S h2) * 3 - oSum S (oDay S h2) (sWorth S h2 (oDay S h2) * 3) (oAll S (oDay S h2) (S 14 0).toNat) (S 14 0).toNat - ((jq.1 : Nat) : Int))))]) (0, fun _ => False) ⟨hM, ⟨fun _ z => z.elim, fun _ _ _ _ z _ => z.elim⟩, cnt_exN.mpr (fun z => z.elim (fun _ y => y.2)), Or.inl rfl⟩ hS (lv_sub hl [0, 1, 2, 3, 4, 5, 6] (by simp only [e0]; rfl)) (fun jq H locs hjq hS ihj ls hl => ?_)
            have hl : lv_has ls 12 [(0, .ref (mad 0)), (1, .int (iI h1)), (2, .int (iI h2)), (3, .int (iI (oDay S h2))), (4, .long (lI (sWorth S h2 (oDay S h2) * 3))), (6, .long (lI (oAll S (oDay S h2) (S 14 0).toNat))), (8, .long (lI (sWorth S h2 (oDay S h2) * 3 - oSum S (oDay S h2) (sWorth S h2 (oDay S h2) * 3) (oAll S (oDay S h2) (S 14 0).toNat) (S 14 0).toNat - ((jq.1 : Nat) : Int))))] := hl
            have hM := hjq.1
            have hTk := hjq.2.1
            have hcq := hjq.2.2.1
            have hj0 := hjq.2.2.2
            have hS9 := gS_ne S (oDay S h2) (sWorth S h2 (oDay S h2) * 3) (oAll S (oDay S h2) (S 14 0).toNat) (S 14 0).toNat jq.2
            have hIg : Inv (gS S (oDay S h2) (sWorth S h2 (oDay S h2) * 3) (oAll S (oDay S h2) (S 14 0).toNat) (S 14 0).toNat jq.2) := Inv.congr (fun k9 hk9 => hS9 k9 (by omega) (by omega)) hI
            refine lv_lload hx hb dX6_owes_222 (lv_at hl 5 rfl) ?_
            refine lv_lconst (v := lI 0) hx hb dX6_owes_224 (by decide +kernel) ?_
            refine q_lcmp hx hb (by omega) (by omega) dX6_owes_225 ?_
            refine q_if_le (tgt := 314) hx hb dX6_owes_226 (by decide) (by omega) (fun c226 => ?_) (fun c226 => ?_)
            · refine lv_aload_n hx hb dX6_owes_314 rfl (lv_at hl 0 rfl) ?_
              refine q_get (v := .ref (mad 30)) (C := RX6) (T := TX6) (N := 32) hx hb hts inX6 hown hK hM.1 rfl 30 (by decide) (hts (.fieldLink RX6 85 "TavernBenchModel" "part" "[J") (by decide +kernel)) (fun _ h9 => h9) rfl dX6_owes_315 ?_
              refine lv_iload_n hx hb dX6_owes_318 rfl (lv_at hl 1 rfl) ?_
              refine q_mldj hx hb hK hM 30 (by decide) ⟨by omega, by omega⟩ dX6_owes_319 ?_
              refine q_l2i hx hb dX6_owes_320 ?_
              refine q_mreti hx hb hr hlocks hS dX6_owes_321 ?_ ?_
              · exact owes_end hI g1 g2 hdd hno hTk hcq hj0 (by omega)
              · exact ⟨_, hS9, hM⟩
            · have hap : 0 < oAll S (oDay S h2) (S 14 0).toNat := by omega
              have hsb := oSum_b hI (day := oDay S h2) (T := sWorth S h2 (oDay S h2) * 3) (by omega) hap (n := (S 14 0).toNat) (by omega)
              have hlb := oLeft_b (S := S) (day := oDay S h2) (T := sWorth S h2 (oDay S h2) * 3) (n := (S 14 0).toNat) hap
              have hsl := sg_le (a := sWorth S h2 (oDay S h2) * 3 - oSum S (oDay S h2) (sWorth S h2 (oDay S h2) * 3) (oAll S (oDay S h2) (S 14 0).toNat) (S 14 0).toNat - ((jq.1 : Nat) : Int)) (b := 0)
              have hslR : R32 (sg (sWorth S h2 (oDay S h2) * 3 - oSum S (oDay S h2) (sWorth S h2 (oDay S h2) * 3) (oAll S (oDay S h2) (S 14 0).toNat) (S 14 0).toNat - ((jq.1 : Nat) : Int)) 0) := sg_R _ _
              refine lv_lload hx hb dX6_owes_229 (lv_at hl 6 rfl) ?_
              refine lv_lconst (v := lI 0) hx hb dX6_owes_231 (by decide +kernel) ?_
              refine q_lcmp hx hb (by omega) (by omega) dX6_owes_232 ?_
              refine q_if_le (tgt := 314) hx hb dX6_owes_233 (by decide) (by omega) (fun c233 => ?_) (fun c233 => ?_)
              · refine lv_aload_n hx hb dX6_owes_314 rfl (lv_at hl 0 rfl) ?_
                refine q_get (v := .ref (mad 30)) (C := RX6) (T := TX6) (N := 32) hx hb hts inX6 hown hK hM.1 rfl 30 (by decide) (hts (.fieldLink RX6 85 "TavernBenchModel" "part" "[J") (by decide +kernel)) (fun _ h9 => h9) rfl dX6_owes_315 ?_
                refine lv_iload_n hx hb dX6_owes_318 rfl (lv_at hl 1 rfl) ?_
                refine q_mldj hx hb hK hM 30 (by decide) ⟨by omega, by omega⟩ dX6_owes_319 ?_
                refine q_l2i hx hb dX6_owes_320 ?_
                refine q_mreti hx hb hr hlocks hS dX6_owes_321 ?_ ?_
                · exact owes_end hI g1 g2 hdd hno hTk hcq hj0 (by omega)
                · exact ⟨_, hS9, hM⟩
              · refine lv_iconst (v := iI 0) hx hb dX6_owes_236 rfl ?_
                refine lv_istore (lv' := [(10, .int (iI 0)), (0, .ref (mad 0)), (1, .int (iI h1)), (2, .int (iI h2)), (3, .int (iI (oDay S h2))), (4, .long (lI (sWorth S h2 (oDay S h2) * 3))), (6, .long (lI (oAll S (oDay S h2) (S 14 0).toNat))), (8, .long (lI (sWorth S h2 (oDay S h2) * 3 - oSum S (oDay S h2) (sWorth S h2 (oDay S h2) * 3) (oAll S (oDay S h2) (S 14 0).toNat) (S 14 0).toNat - ((jq.1 : Nat) : Int))))]) hx hb dX6_owes_237 hl (by decide) rfl (fun ls hl => ?_)
                refine lv_iconst (v := iI 1) hx hb dX6_owes_239 rfl ?_
                refine lv_istore (lv' := [(11, .int (iI 1)), (10, .int (iI 0)), (0, .ref (mad 0)), (1, .int (iI h1)), (2, .int (iI h2)), (3, .int (iI (oDay S h2))), (4, .long (lI (sWorth S h2 (oDay S h2) * 3))), (6, .long (lI (oAll S (oDay S h2) (S 14 0).toNat))), (8, .long (lI (sWorth S h2 (oDay S h2) * 3 - oSum S (oDay S h2) (sWorth S h2 (oDay S h2) * 3) (oAll S (oDay S h2) (S 14 0).toNat) (S 14 0).toNat - ((jq.1 : Nat) : Int))))]) hx hb dX6_owes_240 hl (by decide) rfl (fun ls hl => ?_)
                have e0 : (((bestN (fun (k : Nat) => gS S (oDay S h2) (sWorth S h2 (oDay S h2) * 3) (oAll S (oDay S h2) (S 14 0).toNat) (S 14 0).toNat jq.2 31 (k : Int)) 1 : Nat) : Int) : Int) = 0 := by
                  show ((if _ then 0 else 0 : Nat) : Int) = 0
                  split <;> rfl
                have e1 : (((1 : Nat) : Int) : Int) = 1 := by
                  rfl
                refine q_loop (nL := 12) (fun (z : Nat) => 1 ≤ z ∧ z ≤ (S 14 0).toNat) (fun z => (S 14 0).toNat - z) (fun (z : Nat) => [(0, .ref (mad 0)), (1, .int (iI h1)), (2, .int (iI h2)), (3, .int (iI (oDay S h2))), (4, .long (lI (sWorth S h2 (oDay S h2) * 3))), (6, .long (lI (oAll S (oDay S h2) (S 14 0).toNat))), (8, .long (lI (sWorth S h2 (oDay S h2) * 3 - oSum S (oDay S h2) (sWorth S h2 (oDay S h2) * 3) (oAll S (oDay S h2) (S 14 0).toNat) (S 14 0).toNat - ((jq.1 : Nat) : Int)))), (10, .int (iI ((bestN (fun (k : Nat) => gS S (oDay S h2) (sWorth S h2 (oDay S h2) * 3) (oAll S (oDay S h2) (S 14 0).toNat) (S 14 0).toNat jq.2 31 (k : Int)) z : Nat) : Int))), (11, .int (iI ((z : Nat) : Int)))]) 1 ⟨Nat.le_refl _, by omega⟩ (lv_sub hl [2, 3, 4, 5, 6, 7, 8, 1, 0] (by simp only [e0, e1]; rfl)) (fun z hz ihz ls hl => ?_)
                have hl : lv_has ls 12 [(0, .ref (mad 0)), (1, .int (iI h1)), (2, .int (iI h2)), (3, .int (iI (oDay S h2))), (4, .long (lI (sWorth S h2 (oDay S h2) * 3))), (6, .long (lI (oAll S (oDay S h2) (S 14 0).toNat))), (8, .long (lI (sWorth S h2 (oDay S h2) * 3 - oSum S (oDay S h2) (sWorth S h2 (oDay S h2) * 3) (oAll S (oDay S h2) (S 14 0).toNat) (S 14 0).toNat - ((jq.1 : Nat) : Int)))), (10, .int (iI ((bestN (fun (k : Nat) => gS S (oDay S h2) (sWorth S h2 (oDay S h2) * 3) (oAll S (oDay S h2) (S 14 0).toNat) (S 14 0).toNat jq.2 31 (k : Int)) z : Nat) : Int))), (11, .int (iI ((z : Nat) : Int)))] := hl
                have hzb := bestN_lt (fun (k : Nat) => gS S (oDay S h2) (sWorth S h2 (oDay S h2) * 3) (oAll S (oDay S h2) (S 14 0).toNat) (S 14 0).toNat jq.2 31 (k : Int)) z hz.1
                have hzz := hz.2
                refine lv_iload hx hb dX6_owes_242 (lv_at hl 8 rfl) ?_
                refine lv_aload_n hx hb dX6_owes_244 rfl (lv_at hl 0 rfl) ?_
                refine q_get (v := .int (iI (S 14 0))) (C := RX6) (T := TX6) (N := 32) hx hb hts inX6 hown hK hM.1 rfl 14 (by decide) (hts (.fieldLink RX6 116 "TavernBenchModel" "houses" "I") (by decide +kernel)) (fun _ h9 => h9) rfl dX6_owes_245 ?_
                refine q_icmp_ge (tgt := 284) hx hb dX6_owes_248 (by decide) (by omega) (hI.R (by decide)) (fun c248 => ?_) (fun c248 => ?_)
                · have ez : z = (S 14 0).toNat := by omega
                  subst ez
                  have hnx := best_ok hap hTk (by rw [hcq]; omega) (by omega)
                  refine lv_aload_n hx hb dX6_owes_284 rfl (lv_at hl 0 rfl) ?_
                  refine q_get (v := .ref (mad 30)) (C := RX6) (T := TX6) (N := 32) hx hb hts inX6 hown hK hM.1 rfl 30 (by decide) (hts (.fieldLink RX6 85 "TavernBenchModel" "part" "[J") (by decide +kernel)) (fun _ h9 => h9) rfl dX6_owes_285 ?_
                  refine lv_iload hx hb dX6_owes_288 (lv_at hl 7 rfl) ?_
                  refine lv_dup2_11 hx hb dX6_owes_290 rfl rfl ?_
                  refine q_mldj hx hb hK hM 30 (by decide) ⟨by omega, by omega⟩ dX6_owes_291 ?_
                  refine lv_lconst (v := lI 1) hx hb dX6_owes_292 (by decide +kernel) ?_
                  refine q_ladd hx hb dX6_owes_293 ?_
                  refine q_mstj hx hb hK hM hi hS 30 ⟨30, by decide, Or.inr (by decide), rfl⟩ ((bestN (fun (k : Nat) => gS S (oDay S h2) (sWorth S h2 (oDay S h2) * 3) (oAll S (oDay S h2) (S 14 0).toNat) (S 14 0).toNat jq.2 31 (k : Int)) (S 14 0).toNat : Nat) : Int) (((gS S (oDay S h2) (sWorth S h2 (oDay S h2) * 3) (oAll S (oDay S h2) (S 14 0).toNat) (S 14 0).toNat jq.2) 30 ((bestN (fun (k : Nat) => gS S (oDay S h2) (sWorth S h2 (oDay S h2) * 3) (oAll S (oDay S h2) (S 14 0).toNat) (S 14 0).toNat jq.2 31 (k : Int)) (S 14 0).toNat : Nat) : Int)) + 1) ⟨by decide, by decide⟩ (fun _ => rfl) rfl ⟨by omega, by omega⟩ dX6_owes_294 (fun H locs hM hS => ?_)
                  refine lv_aload_n hx hb dX6_owes_295 rfl (lv_at hl 0 rfl) ?_
                  refine q_get (v := .ref (mad 31)) (C := RX6) (T := TX6) (N := 32) hx hb hts inX6 hown hK hM.1 rfl 31 (by decide) (hts (.fieldLink RX6 89 "TavernBenchModel" "rest" "[J") (by decide +kernel)) (fun _ h9 => h9) rfl dX6_owes_296 ?_
                  refine lv_iload hx hb dX6_owes_299 (lv_at hl 7 rfl) ?_
                  refine q_ldc2 hx hb (-1) hown (hts (.constantLong RX6 176 (-1)) (by decide +kernel)) (by decide +kernel) dX6_owes_301 ?_
                  refine q_mstj hx hb hK hM hi hS 31 ⟨31, by decide, Or.inr (by decide), rfl⟩ ((bestN (fun (k : Nat) => gS S (oDay S h2) (sWorth S h2 (oDay S h2) * 3) (oAll S (oDay S h2) (S 14 0).toNat) (S 14 0).toNat jq.2 31 (k : Int)) (S 14 0).toNat : Nat) : Int) (-1) ⟨by decide, by decide⟩ (fun _ => rfl) rfl ⟨by omega, by omega⟩ dX6_owes_304 (fun H locs hM hS => ?_)
                  refine lv_lload hx hb dX6_owes_305 (lv_at hl 6 rfl) ?_
                  refine lv_lconst (v := lI 1) hx hb dX6_owes_307 (by decide +kernel) ?_
                  refine q_lsub hx hb dX6_owes_308 ?_
                  refine lv_lstore (lv' := [(8, .long (lI ((sWorth S h2 (oDay S h2) * 3 - oSum S (oDay S h2) (sWorth S h2 (oDay S h2) * 3) (oAll S (oDay S h2) (S 14 0).toNat) (S 14 0).toNat - ((jq.1 : Nat) : Int)) - 1))), (0, .ref (mad 0)), (1, .int (iI h1)), (2, .int (iI h2)), (3, .int (iI (oDay S h2))), (4, .long (lI (sWorth S h2 (oDay S h2) * 3))), (6, .long (lI (oAll S (oDay S h2) (S 14 0).toNat))), (10, .int (iI ((bestN (fun (k : Nat) => gS S (oDay S h2) (sWorth S h2 (oDay S h2) * 3) (oAll S (oDay S h2) (S 14 0).toNat) (S 14 0).toNat jq.2 31 (k : Int)) (S 14 0).toNat : Nat) : Int))), (11, .int (iI (((S 14 0).toNat : Nat) : Int)))]) hx hb dX6_owes_309 hl (by decide) rfl (fun ls hl => ?_)
                  refine lv_goto (tgt := 222) hx hb dX6_owes_311 (by decide) ?_
                  have e0 : (sWorth S h2 (oDay S h2) * 3 - oSum S (oDay S h2) (sWorth S h2 (oDay S h2) * 3) (oAll S (oDay S h2) (S 14 0).toNat) (S 14 0).toNat - (((jq.1 + 1) : Nat) : Int) : Int) = (sWorth S h2 (oDay S h2) * 3 - oSum S (oDay S h2) (sWorth S h2 (oDay S h2) * 3) (oAll S (oDay S h2) (S 14 0).toNat) (S 14 0).toNat - ((jq.1 : Nat) : Int)) - 1 := by
                    omega
                  exact ihj (jq.1 + 1, fun k => jq.2 k ∨ k = bestN (fun (k : Nat) => gS S (oDay S h2) (sWorth S h2 (oDay S h2) * 3) (oAll S (oDay S h2) (S 14 0).toNat) (S 14 0).toNat jq.2 31 (k : Int)) (S 14 0).toNat) _ _ ⟨by rw [← gS_s S (oDay S h2) (sWorth S h2 (oDay S h2) * 3) (oAll S (oDay S h2) (S 14 0).toNat) (S 14 0).toNat jq.2 hnx.1.1 hnx.1.2]; exact hM, hnx.2.1, by rw [hnx.2.2, hcq]; rfl, Or.inr (by show ((jq.1 + 1 : Nat) : Int) ≤ _; omega)⟩ hS (by show (sWorth S h2 (oDay S h2) * 3 - oSum S (oDay S h2) (sWorth S h2 (oDay S h2) * 3) (oAll S (oDay S h2) (S 14 0).toNat) (S 14 0).toNat).toNat - (jq.1 + 1) < (sWorth S h2 (oDay S h2) * 3 - oSum S (oDay S h2) (sWorth S h2 (oDay S h2) * 3) (oAll S (oDay S h2) (S 14 0).toNat) (S 14 0).toNat).toNat - jq.1; omega) ls (lv_sub hl [1, 2, 3, 4, 5, 6, 0] (by simp only [e0]; rfl))
                · have hgz := gS_31_b S (oDay S h2) (sWorth S h2 (oDay S h2) * 3) hap (S 14 0).toNat jq.2 (k := z) (by omega)
                  have hgb := gS_31_b S (oDay S h2) (sWorth S h2 (oDay S h2) * 3) hap (S 14 0).toNat jq.2 (k := bestN (fun (k : Nat) => gS S (oDay S h2) (sWorth S h2 (oDay S h2) * 3) (oAll S (oDay S h2) (S 14 0).toNat) (S 14 0).toNat jq.2 31 (k : Int)) z) (by omega)
                  have hsg := sg_le (a := (gS S (oDay S h2) (sWorth S h2 (oDay S h2) * 3) (oAll S (oDay S h2) (S 14 0).toNat) (S 14 0).toNat jq.2) 31 ((z : Nat) : Int)) (b := (gS S (oDay S h2) (sWorth S h2 (oDay S h2) * 3) (oAll S (oDay S h2) (S 14 0).toNat) (S 14 0).toNat jq.2) 31 ((bestN (fun (k : Nat) => gS S (oDay S h2) (sWorth S h2 (oDay S h2) * 3) (oAll S (oDay S h2) (S 14 0).toNat) (S 14 0).toNat jq.2 31 (k : Int)) z : Nat) : Int))
                  have hsgR : R32 (sg ((gS S (oDay S h2) (sWorth S h2 (oDay S h2) * 3) (oAll S (oDay S h2) (S 14 0).toNat) (S 14 0).toNat jq.2) 31 ((z : Nat) : Int)) ((gS S (oDay S h2) (sWorth S h2 (oDay S h2) * 3) (oAll S (oDay S h2) (S 14 0).toNat) (S 14 0).toNat jq.2) 31 ((bestN (fun (k : Nat) => gS S (oDay S h2) (sWorth S h2 (oDay S h2) * 3) (oAll S (oDay S h2) (S 14 0).toNat) (S 14 0).toNat jq.2 31 (k : Int)) z : Nat) : Int))) := sg_R _ _
                  refine lv_aload_n hx hb dX6_owes_251 rfl (lv_at hl 0 rfl) ?_
                  refine q_get (v := .ref (mad 31)) (C := RX6) (T := TX6) (N := 32) hx hb hts inX6 hown hK hM.1 rfl 31 (by decide) (hts (.fieldLink RX6 89 "TavernBenchModel" "rest" "[J") (by decide +kernel)) (fun _ h9 => h9) rfl dX6_owes_252 ?_
                  refine lv_iload hx hb dX6_owes_255 (lv_at hl 8 rfl) ?_
                  refine q_mldj hx hb hK hM 31 (by decide) ⟨by omega, by omega⟩ dX6_owes_257 ?_
                  refine lv_aload_n hx hb dX6_owes_258 rfl (lv_at hl 0 rfl) ?_
                  refine q_get (v := .ref (mad 31)) (C := RX6) (T := TX6) (N := 32) hx hb hts inX6 hown hK hM.1 rfl 31 (by decide) (hts (.fieldLink RX6 89 "TavernBenchModel" "rest" "[J") (by decide +kernel)) (fun _ h9 => h9) rfl dX6_owes_259 ?_
                  refine lv_iload hx hb dX6_owes_262 (lv_at hl 7 rfl) ?_
                  refine q_mldj hx hb hK hM 31 (by decide) ⟨by omega, by omega⟩ dX6_owes_264 ?_
                  refine q_lcmp hx hb (by omega) (by omega) dX6_owes_265 ?_
                  refine q_if_le (tgt := 274) hx hb dX6_owes_266 (by decide) (by omega) (fun c266 => ?_) (fun c266 => ?_)
                  · refine lv_iload hx hb dX6_owes_274 (lv_at hl 7 rfl) ?_
                    refine lv_istore (lv' := [(10, .int (iI ((bestN (fun (k : Nat) => gS S (oDay S h2) (sWorth S h2 (oDay S h2) * 3) (oAll S (oDay S h2) (S 14 0).toNat) (S 14 0).toNat jq.2 31 (k : Int)) z : Nat) : Int))), (0, .ref (mad 0)), (1, .int (iI h1)), (2, .int (iI h2)), (3, .int (iI (oDay S h2))), (4, .long (lI (sWorth S h2 (oDay S h2) * 3))), (6, .long (lI (oAll S (oDay S h2) (S 14 0).toNat))), (8, .long (lI (sWorth S h2 (oDay S h2) * 3 - oSum S (oDay S h2) (sWorth S h2 (oDay S h2) * 3) (oAll S (oDay S h2) (S 14 0).toNat) (S 14 0).toNat - ((jq.1 : Nat) : Int)))), (11, .int (iI ((z : Nat) : Int)))]) hx hb dX6_owes_276 hl (by decide) rfl (fun ls hl => ?_)
                    refine lv_iinc (v := iI (((z : Nat) : Int) + 1)) (lv' := [(11, .int (iI (((z : Nat) : Int) + 1))), (10, .int (iI ((bestN (fun (k : Nat) => gS S (oDay S h2) (sWorth S h2 (oDay S h2) * 3) (oAll S (oDay S h2) (S 14 0).toNat) (S 14 0).toNat jq.2 31 (k : Int)) z : Nat) : Int))), (0, .ref (mad 0)), (1, .int (iI h1)), (2, .int (iI h2)), (3, .int (iI (oDay S h2))), (4, .long (lI (sWorth S h2 (oDay S h2) * 3))), (6, .long (lI (oAll S (oDay S h2) (S 14 0).toNat))), (8, .long (lI (sWorth S h2 (oDay S h2) * 3 - oSum S (oDay S h2) (sWorth S h2 (oDay S h2) * 3) (oAll S (oDay S h2) (S 14 0).toNat) (S 14 0).toNat - ((jq.1 : Nat) : Int))))]) hx hb dX6_owes_278 hl (k := 8) rfl (iI_add _ _) (by decide) rfl (fun ls hl => ?_)
                    refine lv_goto (tgt := 242) hx hb dX6_owes_281 (by decide) ?_
                    have e0 : (((bestN (fun (k : Nat) => gS S (oDay S h2) (sWorth S h2 (oDay S h2) * 3) (oAll S (oDay S h2) (S 14 0).toNat) (S 14 0).toNat jq.2 31 (k : Int)) (z + 1) : Nat) : Int) : Int) = ((bestN (fun (k : Nat) => gS S (oDay S h2) (sWorth S h2 (oDay S h2) * 3) (oAll S (oDay S h2) (S 14 0).toNat) (S 14 0).toNat jq.2 31 (k : Int)) z : Nat) : Int) := by
                      show ((if _ < _ then z else bestN (fun (k : Nat) => gS S (oDay S h2) (sWorth S h2 (oDay S h2) * 3) (oAll S (oDay S h2) (S 14 0).toNat) (S 14 0).toNat jq.2 31 (k : Int)) z : Nat) : Int) = _
                      rw [if_neg (by show ¬ (gS S (oDay S h2) (sWorth S h2 (oDay S h2) * 3) (oAll S (oDay S h2) (S 14 0).toNat) (S 14 0).toNat jq.2) 31 ((bestN (fun (k : Nat) => gS S (oDay S h2) (sWorth S h2 (oDay S h2) * 3) (oAll S (oDay S h2) (S 14 0).toNat) (S 14 0).toNat jq.2 31 (k : Int)) z : Nat) : Int) < (gS S (oDay S h2) (sWorth S h2 (oDay S h2) * 3) (oAll S (oDay S h2) (S 14 0).toNat) (S 14 0).toNat jq.2) 31 ((z : Nat) : Int); omega)]
                    have e1 : ((((z + 1) : Nat) : Int) : Int) = ((z : Nat) : Int) + 1 := by
                      omega
                    exact ihz (z + 1) ⟨by omega, by omega⟩ (by show (S 14 0).toNat - (z + 1) < (S 14 0).toNat - z; omega) ls (lv_sub hl [2, 3, 4, 5, 6, 7, 8, 1, 0] (by simp only [e0, e1]; rfl))
                  · refine lv_iload hx hb dX6_owes_269 (lv_at hl 8 rfl) ?_
                    refine lv_goto (tgt := 276) hx hb dX6_owes_271 (by decide) ?_
                    refine lv_istore (lv' := [(10, .int (iI ((z : Nat) : Int))), (0, .ref (mad 0)), (1, .int (iI h1)), (2, .int (iI h2)), (3, .int (iI (oDay S h2))), (4, .long (lI (sWorth S h2 (oDay S h2) * 3))), (6, .long (lI (oAll S (oDay S h2) (S 14 0).toNat))), (8, .long (lI (sWorth S h2 (oDay S h2) * 3 - oSum S (oDay S h2) (sWorth S h2 (oDay S h2) * 3) (oAll S (oDay S h2) (S 14 0).toNat) (S 14 0).toNat - ((jq.1 : Nat) : Int)))), (11, .int (iI ((z : Nat) : Int)))]) hx hb dX6_owes_276 hl (by decide) rfl (fun ls hl => ?_)
                    refine lv_iinc (v := iI (((z : Nat) : Int) + 1)) (lv' := [(11, .int (iI (((z : Nat) : Int) + 1))), (10, .int (iI ((z : Nat) : Int))), (0, .ref (mad 0)), (1, .int (iI h1)), (2, .int (iI h2)), (3, .int (iI (oDay S h2))), (4, .long (lI (sWorth S h2 (oDay S h2) * 3))), (6, .long (lI (oAll S (oDay S h2) (S 14 0).toNat))), (8, .long (lI (sWorth S h2 (oDay S h2) * 3 - oSum S (oDay S h2) (sWorth S h2 (oDay S h2) * 3) (oAll S (oDay S h2) (S 14 0).toNat) (S 14 0).toNat - ((jq.1 : Nat) : Int))))]) hx hb dX6_owes_278 hl (k := 8) rfl (iI_add _ _) (by decide) rfl (fun ls hl => ?_)
                    refine lv_goto (tgt := 242) hx hb dX6_owes_281 (by decide) ?_
                    have e0 : (((bestN (fun (k : Nat) => gS S (oDay S h2) (sWorth S h2 (oDay S h2) * 3) (oAll S (oDay S h2) (S 14 0).toNat) (S 14 0).toNat jq.2 31 (k : Int)) (z + 1) : Nat) : Int) : Int) = ((z : Nat) : Int) := by
                      show ((if _ < _ then z else bestN (fun (k : Nat) => gS S (oDay S h2) (sWorth S h2 (oDay S h2) * 3) (oAll S (oDay S h2) (S 14 0).toNat) (S 14 0).toNat jq.2 31 (k : Int)) z : Nat) : Int) = _
                      rw [if_pos (by show (gS S (oDay S h2) (sWorth S h2 (oDay S h2) * 3) (oAll S (oDay S h2) (S 14 0).toNat) (S 14 0).toNat jq.2) 31 ((bestN (fun (k : Nat) => gS S (oDay S h2) (sWorth S h2 (oDay S h2) * 3) (oAll S (oDay S h2) (S 14 0).toNat) (S 14 0).toNat jq.2 31 (k : Int)) z : Nat) : Int) < (gS S (oDay S h2) (sWorth S h2 (oDay S h2) * 3) (oAll S (oDay S h2) (S 14 0).toNat) (S 14 0).toNat jq.2) 31 ((z : Nat) : Int); omega)]
                    have e1 : ((((z + 1) : Nat) : Int) : Int) = ((z : Nat) : Int) + 1 := by
                      omega
                    exact ihz (z + 1) ⟨by omega, by omega⟩ (by show (S 14 0).toNat - (z + 1) < (S 14 0).toNat - z; omega) ls (lv_sub hl [2, 3, 4, 5, 6, 7, 8, 1, 0] (by simp only [e0, e1]; rfl))
          · refine lv_iload hx hb dX6_owes_119 (lv_at hl 7 rfl) ?_
            refine lv_iload_n hx hb dX6_owes_121 rfl (lv_at hl 2 rfl) ?_
            refine q_icmp_eq (tgt := 139) hx hb dX6_owes_122 (by decide) (by omega) r_h2 (fun c122 => ?_) (fun c122 => ?_)
            · refine lv_iconst (v := iI 0) hx hb dX6_owes_139 rfl ?_
              refine lv_istore (lv' := [(11, .int (iI 0)), (0, .ref (mad 0)), (1, .int (iI h1)), (2, .int (iI h2)), (3, .int (iI (oDay S h2))), (4, .long (lI (sWorth S h2 (oDay S h2) * 3))), (6, .long (lI (oAll S (oDay S h2) (S 14 0).toNat))), (8, .long (lI (sWorth S h2 (oDay S h2) * 3 - oSum S (oDay S h2) (sWorth S h2 (oDay S h2) * 3) (oAll S (oDay S h2) (S 14 0).toNat) y))), (10, .int (iI ((y : Nat) : Int)))]) hx hb dX6_owes_140 hl (by decide) rfl (fun ls hl => ?_)
              refine lv_aload_n hx hb dX6_owes_142 rfl (lv_at hl 1 rfl) ?_
              refine q_get (v := .ref (mad 30)) (C := RX6) (T := TX6) (N := 32) hx hb hts inX6 hown hK hM.1 rfl 30 (by decide) (hts (.fieldLink RX6 85 "TavernBenchModel" "part" "[J") (by decide +kernel)) (fun _ h9 => h9) rfl dX6_owes_143 ?_
              refine lv_iload hx hb dX6_owes_146 (lv_at hl 8 rfl) ?_
              refine lv_iload hx hb dX6_owes_148 (lv_at hl 0 rfl) ?_
              refine q_if_eq (tgt := 170) hx hb dX6_owes_150 (by decide) (by decide) (fun c150 => ?_) (fun c150 => ?_)
              rotate_left
              · exact absurd c150 (by decide)
              refine lv_lconst (v := lI 0) hx hb dX6_owes_170 (by decide +kernel) ?_
              refine q_mstj hx hb hK hM hi hS 30 ⟨30, by decide, Or.inr (by decide), rfl⟩ ((y : Nat) : Int) 0 ⟨by decide, by decide⟩ (fun _ => rfl) rfl ⟨by omega, by omega⟩ dX6_owes_171 (fun H locs hM hS => ?_)
              refine lv_aload_n hx hb dX6_owes_172 rfl (lv_at hl 1 rfl) ?_
              refine q_get (v := .ref (mad 31)) (C := RX6) (T := TX6) (N := 32) hx hb hts inX6 hown hK hM.1 rfl 31 (by decide) (hts (.fieldLink RX6 89 "TavernBenchModel" "rest" "[J") (by decide +kernel)) (fun _ h9 => h9) rfl dX6_owes_173 ?_
              refine lv_iload hx hb dX6_owes_176 (lv_at hl 8 rfl) ?_
              refine lv_iload hx hb dX6_owes_178 (lv_at hl 0 rfl) ?_
              refine q_if_eq (tgt := 200) hx hb dX6_owes_180 (by decide) (by decide) (fun c180 => ?_) (fun c180 => ?_)
              rotate_left
              · exact absurd c180 (by decide)
              refine q_ldc2 hx hb (-1) hown (hts (.constantLong RX6 176 (-1)) (by decide +kernel)) (by decide +kernel) dX6_owes_200 ?_
              refine q_mstj hx hb hK hM hi hS 31 ⟨31, by decide, Or.inr (by decide), rfl⟩ ((y : Nat) : Int) (-1) ⟨by decide, by decide⟩ (fun _ => rfl) rfl ⟨by omega, by omega⟩ dX6_owes_203 (fun H locs hM hS => ?_)
              refine lv_lload hx hb dX6_owes_204 (lv_at hl 7 rfl) ?_
              refine lv_aload_n hx hb dX6_owes_206 rfl (lv_at hl 1 rfl) ?_
              refine q_get (v := .ref (mad 30)) (C := RX6) (T := TX6) (N := 32) hx hb hts inX6 hown hK hM.1 rfl 30 (by decide) (hts (.fieldLink RX6 85 "TavernBenchModel" "part" "[J") (by decide +kernel)) (fun _ h9 => h9) rfl dX6_owes_207 ?_
              refine lv_iload hx hb dX6_owes_210 (lv_at hl 8 rfl) ?_
              refine q_mldj hx hb hK hM 30 (by decide) ⟨by omega, by omega⟩ dX6_owes_212 ?_
              refine q_lsub hx hb dX6_owes_213 ?_
              refine lv_lstore (lv' := [(8, .long (lI ((sWorth S h2 (oDay S h2) * 3 - oSum S (oDay S h2) (sWorth S h2 (oDay S h2) * 3) (oAll S (oDay S h2) (S 14 0).toNat) y) - ((up (up (pUp S (oDay S h2) (sWorth S h2 (oDay S h2) * 3) (oAll S (oDay S h2) (S 14 0).toNat) ((y : Nat) : Int)) 30 ((y : Nat) : Int) 0) 31 ((y : Nat) : Int) (-1)) 30 ((y : Nat) : Int))))), (11, .int (iI 0)), (0, .ref (mad 0)), (1, .int (iI h1)), (2, .int (iI h2)), (3, .int (iI (oDay S h2))), (4, .long (lI (sWorth S h2 (oDay S h2) * 3))), (6, .long (lI (oAll S (oDay S h2) (S 14 0).toNat))), (10, .int (iI ((y : Nat) : Int)))]) hx hb dX6_owes_214 hl (by decide) rfl (fun ls hl => ?_)
              refine lv_iinc (v := iI (((y : Nat) : Int) + 1)) (lv' := [(10, .int (iI (((y : Nat) : Int) + 1))), (8, .long (lI ((sWorth S h2 (oDay S h2) * 3 - oSum S (oDay S h2) (sWorth S h2 (oDay S h2) * 3) (oAll S (oDay S h2) (S 14 0).toNat) y) - ((up (up (pUp S (oDay S h2) (sWorth S h2 (oDay S h2) * 3) (oAll S (oDay S h2) (S 14 0).toNat) ((y : Nat) : Int)) 30 ((y : Nat) : Int) 0) 31 ((y : Nat) : Int) (-1)) 30 ((y : Nat) : Int))))), (11, .int (iI 0)), (0, .ref (mad 0)), (1, .int (iI h1)), (2, .int (iI h2)), (3, .int (iI (oDay S h2))), (4, .long (lI (sWorth S h2 (oDay S h2) * 3))), (6, .long (lI (oAll S (oDay S h2) (S 14 0).toNat)))]) hx hb dX6_owes_216 hl (k := 8) rfl (iI_add _ _) (by decide) rfl (fun ls hl => ?_)
              refine lv_goto (tgt := 110) hx hb dX6_owes_219 (by decide) ?_
              have e0 : (sWorth S h2 (oDay S h2) * 3 - oSum S (oDay S h2) (sWorth S h2 (oDay S h2) * 3) (oAll S (oDay S h2) (S 14 0).toNat) (y + 1) : Int) = (sWorth S h2 (oDay S h2) * 3 - oSum S (oDay S h2) (sWorth S h2 (oDay S h2) * 3) (oAll S (oDay S h2) (S 14 0).toNat) y) - ((up (up (pUp S (oDay S h2) (sWorth S h2 (oDay S h2) * 3) (oAll S (oDay S h2) (S 14 0).toNat) ((y : Nat) : Int)) 30 ((y : Nat) : Int) 0) 31 ((y : Nat) : Int) (-1)) 30 ((y : Nat) : Int)) := by
                rw [up_k _ _ _ _ (by decide : (30 : Nat) ≠ 31), up_s]
                show sWorth S h2 (oDay S h2) * 3 - (oSum S (oDay S h2) (sWorth S h2 (oDay S h2) * 3) (oAll S (oDay S h2) (S 14 0).toNat) y + cI _ _ _) = _
                rw [cI_f (hny c122)]
                omega
              have e1 : ((((y + 1) : Nat) : Int) : Int) = ((y : Nat) : Int) + 1 := by
                omega
              have eP : partI S (oDay S h2) (sWorth S h2 (oDay S h2) * 3) (oAll S (oDay S h2) (S 14 0).toNat) ((y : Nat) : Int) = _ := cI_f (hny c122)
              have eR : restI S (oDay S h2) (sWorth S h2 (oDay S h2) * 3) (oAll S (oDay S h2) (S 14 0).toNat) ((y : Nat) : Int) = _ := cI_f (hny c122)
              exact ihy (y + 1) _ _ ⟨by omega, by rw [← pUp_s, eP, eR]; exact hM⟩ hS (by show (S 14 0).toNat - (y + 1) < (S 14 0).toNat - y; omega) ls (lv_sub hl [3, 4, 5, 6, 7, 8, 1, 0] (by simp only [e0, e1]; rfl))
            · refine lv_aload_n hx hb dX6_owes_125 rfl (lv_at hl 0 rfl) ?_
              refine lv_iload hx hb dX6_owes_126 (lv_at hl 7 rfl) ?_
              refine lv_iload_n hx hb dX6_owes_128 rfl (lv_at hl 3 rfl) ?_
              refine q_cVi (As := [.int (iI ((y : Nat) : Int)), .int (iI (oDay S h2))]) (rest := []) ⟨hx, hb, hml, hown, hts⟩ (c6_hasC l g mad hIy hS9 ((y : Nat) : Int) (oDay S h2) (by omega) (by omega) (⟨by omega, by omega⟩)) (cwV 2 hts gX6_owes_X6_has rfl rfl rfl (by decide +kernel) ⟨Nat.le_of_ble_eq_true rfl, Nat.le_of_ble_eq_true rfl⟩) (q_pV hK hM.1 rfl hM) rfl hl.1 rfl (Nat.le_of_ble_eq_true rfl) ⟨Nat.zero_le _, Nat.zero_le _⟩ dX6_owes_129 ?_
              refine q_ifb_eq (tgt := 139) hx hb dX6_owes_132 (by decide) (fun c132 => ?_) (fun c132 => ?_)
              · refine lv_iconst (v := iI 0) hx hb dX6_owes_139 rfl ?_
                refine lv_istore (lv' := [(11, .int (iI 0)), (0, .ref (mad 0)), (1, .int (iI h1)), (2, .int (iI h2)), (3, .int (iI (oDay S h2))), (4, .long (lI (sWorth S h2 (oDay S h2) * 3))), (6, .long (lI (oAll S (oDay S h2) (S 14 0).toNat))), (8, .long (lI (sWorth S h2 (oDay S h2) * 3 - oSum S (oDay S h2) (sWorth S h2 (oDay S h2) * 3) (oAll S (oDay S h2) (S 14 0).toNat) y))), (10, .int (iI ((y : Nat) : Int)))]) hx hb dX6_owes_140 hl (by decide) rfl (fun ls hl => ?_)
                refine lv_aload_n hx hb dX6_owes_142 rfl (lv_at hl 1 rfl) ?_
                refine q_get (v := .ref (mad 30)) (C := RX6) (T := TX6) (N := 32) hx hb hts inX6 hown hK hM.1 rfl 30 (by decide) (hts (.fieldLink RX6 85 "TavernBenchModel" "part" "[J") (by decide +kernel)) (fun _ h9 => h9) rfl dX6_owes_143 ?_
                refine lv_iload hx hb dX6_owes_146 (lv_at hl 8 rfl) ?_
                refine lv_iload hx hb dX6_owes_148 (lv_at hl 0 rfl) ?_
                refine q_if_eq (tgt := 170) hx hb dX6_owes_150 (by decide) (by decide) (fun c150_1 => ?_) (fun c150_1 => ?_)
                rotate_left
                · exact absurd c150_1 (by decide)
                refine lv_lconst (v := lI 0) hx hb dX6_owes_170 (by decide +kernel) ?_
                refine q_mstj hx hb hK hM hi hS 30 ⟨30, by decide, Or.inr (by decide), rfl⟩ ((y : Nat) : Int) 0 ⟨by decide, by decide⟩ (fun _ => rfl) rfl ⟨by omega, by omega⟩ dX6_owes_171 (fun H locs hM hS => ?_)
                refine lv_aload_n hx hb dX6_owes_172 rfl (lv_at hl 1 rfl) ?_
                refine q_get (v := .ref (mad 31)) (C := RX6) (T := TX6) (N := 32) hx hb hts inX6 hown hK hM.1 rfl 31 (by decide) (hts (.fieldLink RX6 89 "TavernBenchModel" "rest" "[J") (by decide +kernel)) (fun _ h9 => h9) rfl dX6_owes_173 ?_
                refine lv_iload hx hb dX6_owes_176 (lv_at hl 8 rfl) ?_
                refine lv_iload hx hb dX6_owes_178 (lv_at hl 0 rfl) ?_
                refine q_if_eq (tgt := 200) hx hb dX6_owes_180 (by decide) (by decide) (fun c180_1 => ?_) (fun c180_1 => ?_)
                rotate_left
                · exact absurd c180_1 (by decide)
                refine q_ldc2 hx hb (-1) hown (hts (.constantLong RX6 176 (-1)) (by decide +kernel)) (by decide +kernel) dX6_owes_200 ?_
                refine q_mstj hx hb hK hM hi hS 31 ⟨31, by decide, Or.inr (by decide), rfl⟩ ((y : Nat) : Int) (-1) ⟨by decide, by decide⟩ (fun _ => rfl) rfl ⟨by omega, by omega⟩ dX6_owes_203 (fun H locs hM hS => ?_)
                refine lv_lload hx hb dX6_owes_204 (lv_at hl 7 rfl) ?_
                refine lv_aload_n hx hb dX6_owes_206 rfl (lv_at hl 1 rfl) ?_
                refine q_get (v := .ref (mad 30)) (C := RX6) (T := TX6) (N := 32) hx hb hts inX6 hown hK hM.1 rfl 30 (by decide) (hts (.fieldLink RX6 85 "TavernBenchModel" "part" "[J") (by decide +kernel)) (fun _ h9 => h9) rfl dX6_owes_207 ?_
                refine lv_iload hx hb dX6_owes_210 (lv_at hl 8 rfl) ?_
                refine q_mldj hx hb hK hM 30 (by decide) ⟨by omega, by omega⟩ dX6_owes_212 ?_
                refine q_lsub hx hb dX6_owes_213 ?_
                refine lv_lstore (lv' := [(8, .long (lI ((sWorth S h2 (oDay S h2) * 3 - oSum S (oDay S h2) (sWorth S h2 (oDay S h2) * 3) (oAll S (oDay S h2) (S 14 0).toNat) y) - ((up (up (pUp S (oDay S h2) (sWorth S h2 (oDay S h2) * 3) (oAll S (oDay S h2) (S 14 0).toNat) ((y : Nat) : Int)) 30 ((y : Nat) : Int) 0) 31 ((y : Nat) : Int) (-1)) 30 ((y : Nat) : Int))))), (11, .int (iI 0)), (0, .ref (mad 0)), (1, .int (iI h1)), (2, .int (iI h2)), (3, .int (iI (oDay S h2))), (4, .long (lI (sWorth S h2 (oDay S h2) * 3))), (6, .long (lI (oAll S (oDay S h2) (S 14 0).toNat))), (10, .int (iI ((y : Nat) : Int)))]) hx hb dX6_owes_214 hl (by decide) rfl (fun ls hl => ?_)
                refine lv_iinc (v := iI (((y : Nat) : Int) + 1)) (lv' := [(10, .int (iI (((y : Nat) : Int) + 1))), (8, .long (lI ((sWorth S h2 (oDay S h2) * 3 - oSum S (oDay S h2) (sWorth S h2 (oDay S h2) * 3) (oAll S (oDay S h2) (S 14 0).toNat) y) - ((up (up (pUp S (oDay S h2) (sWorth S h2 (oDay S h2) * 3) (oAll S (oDay S h2) (S 14 0).toNat) ((y : Nat) : Int)) 30 ((y : Nat) : Int) 0) 31 ((y : Nat) : Int) (-1)) 30 ((y : Nat) : Int))))), (11, .int (iI 0)), (0, .ref (mad 0)), (1, .int (iI h1)), (2, .int (iI h2)), (3, .int (iI (oDay S h2))), (4, .long (lI (sWorth S h2 (oDay S h2) * 3))), (6, .long (lI (oAll S (oDay S h2) (S 14 0).toNat)))]) hx hb dX6_owes_216 hl (k := 8) rfl (iI_add _ _) (by decide) rfl (fun ls hl => ?_)
                refine lv_goto (tgt := 110) hx hb dX6_owes_219 (by decide) ?_
                have e0 : (sWorth S h2 (oDay S h2) * 3 - oSum S (oDay S h2) (sWorth S h2 (oDay S h2) * 3) (oAll S (oDay S h2) (S 14 0).toNat) (y + 1) : Int) = (sWorth S h2 (oDay S h2) * 3 - oSum S (oDay S h2) (sWorth S h2 (oDay S h2) * 3) (oAll S (oDay S h2) (S 14 0).toNat) y) - ((up (up (pUp S (oDay S h2) (sWorth S h2 (oDay S h2) * 3) (oAll S (oDay S h2) (S 14 0).toNat) ((y : Nat) : Int)) 30 ((y : Nat) : Int) 0) 31 ((y : Nat) : Int) (-1)) 30 ((y : Nat) : Int)) := by
                  rw [up_k _ _ _ _ (by decide : (30 : Nat) ≠ 31), up_s]
                  show sWorth S h2 (oDay S h2) * 3 - (oSum S (oDay S h2) (sWorth S h2 (oDay S h2) * 3) (oAll S (oDay S h2) (S 14 0).toNat) y + cI _ _ _) = _
                  rw [cI_f (c132)]
                  omega
                have e1 : ((((y + 1) : Nat) : Int) : Int) = ((y : Nat) : Int) + 1 := by
                  omega
                have eP : partI S (oDay S h2) (sWorth S h2 (oDay S h2) * 3) (oAll S (oDay S h2) (S 14 0).toNat) ((y : Nat) : Int) = _ := cI_f (c132)
                have eR : restI S (oDay S h2) (sWorth S h2 (oDay S h2) * 3) (oAll S (oDay S h2) (S 14 0).toNat) ((y : Nat) : Int) = _ := cI_f (c132)
                exact ihy (y + 1) _ _ ⟨by omega, by rw [← pUp_s, eP, eR]; exact hM⟩ hS (by show (S 14 0).toNat - (y + 1) < (S 14 0).toNat - y; omega) ls (lv_sub hl [3, 4, 5, 6, 7, 8, 1, 0] (by simp only [e0, e1]; rfl))
              · refine lv_iconst (v := iI 1) hx hb dX6_owes_135 rfl ?_
                refine lv_goto (tgt := 140) hx hb dX6_owes_136 (by decide) ?_
                refine lv_istore (lv' := [(11, .int (iI 1)), (0, .ref (mad 0)), (1, .int (iI h1)), (2, .int (iI h2)), (3, .int (iI (oDay S h2))), (4, .long (lI (sWorth S h2 (oDay S h2) * 3))), (6, .long (lI (oAll S (oDay S h2) (S 14 0).toNat))), (8, .long (lI (sWorth S h2 (oDay S h2) * 3 - oSum S (oDay S h2) (sWorth S h2 (oDay S h2) * 3) (oAll S (oDay S h2) (S 14 0).toNat) y))), (10, .int (iI ((y : Nat) : Int)))]) hx hb dX6_owes_140 hl (by decide) rfl (fun ls hl => ?_)
                refine lv_aload_n hx hb dX6_owes_142 rfl (lv_at hl 1 rfl) ?_
                refine q_get (v := .ref (mad 30)) (C := RX6) (T := TX6) (N := 32) hx hb hts inX6 hown hK hM.1 rfl 30 (by decide) (hts (.fieldLink RX6 85 "TavernBenchModel" "part" "[J") (by decide +kernel)) (fun _ h9 => h9) rfl dX6_owes_143 ?_
                refine lv_iload hx hb dX6_owes_146 (lv_at hl 8 rfl) ?_
                refine lv_iload hx hb dX6_owes_148 (lv_at hl 0 rfl) ?_
                refine q_if_eq (tgt := 170) hx hb dX6_owes_150 (by decide) (by decide) (fun c150_2 => ?_) (fun c150_2 => ?_)
                · exact absurd c150_2 (by decide)
                have hwb := sWorth_b hI (h := ((y : Nat) : Int)) ⟨by omega, by omega⟩ (oDay S h2)
                have hap := oAll_pos hI (k := y) (by omega) (by assumption)
                have hmb := mul_b (a := sWorth S h2 (oDay S h2) * 3) (c := 300000) (by omega) (b := sWorth S ((y : Nat) : Int) (oDay S h2)) (d := 100000) (by omega)
                refine lv_lload hx hb dX6_owes_153 (lv_at hl 5 rfl) ?_
                refine lv_aload_n hx hb dX6_owes_155 rfl (lv_at hl 1 rfl) ?_
                refine lv_iload hx hb dX6_owes_156 (lv_at hl 8 rfl) ?_
                refine lv_iload_n hx hb dX6_owes_158 rfl (lv_at hl 4 rfl) ?_
                refine q_cVi (As := [.int (iI ((y : Nat) : Int)), .int (iI (oDay S h2))]) (rest := [.long (lI (sWorth S h2 (oDay S h2) * 3)), .int (iI ((y : Nat) : Int)), .ref (mad 30)]) ⟨hx, hb, hml, hown, hts⟩ (c6_worthOnC l g mad hIy hS9 ((y : Nat) : Int) (oDay S h2) (by omega) (by omega) (⟨by omega, by omega⟩)) (cwV 2 hts gX6_owes_X6_worthOn rfl rfl rfl (by decide +kernel) ⟨Nat.le_of_ble_eq_true rfl, Nat.le_of_ble_eq_true rfl⟩) (q_pV hK hM.1 rfl hM) rfl hl.1 rfl (Nat.le_of_ble_eq_true rfl) ⟨Nat.zero_le _, Nat.zero_le _⟩ dX6_owes_159 ?_
                refine q_i2l hx hb (by omega) dX6_owes_162 ?_
                refine q_lmul hx hb dX6_owes_163 ?_
                refine lv_lload hx hb dX6_owes_164 (lv_at hl 6 rfl) ?_
                refine q_ldiv hx hb ⟨by omega, by omega⟩ ⟨by omega, by omega⟩ dX6_owes_166 ?_
                refine lv_goto (tgt := 171) hx hb dX6_owes_167 (by decide) ?_
                refine q_mstj hx hb hK hM hi hS 30 ⟨30, by decide, Or.inr (by decide), rfl⟩ ((y : Nat) : Int) (((sWorth S h2 (oDay S h2) * 3) * (sWorth S ((y : Nat) : Int) (oDay S h2))) / (oAll S (oDay S h2) (S 14 0).toNat)) ⟨by decide, by decide⟩ (fun _ => rfl) rfl ⟨by omega, by omega⟩ dX6_owes_171 (fun H locs hM hS => ?_)
                refine lv_aload_n hx hb dX6_owes_172 rfl (lv_at hl 1 rfl) ?_
                refine q_get (v := .ref (mad 31)) (C := RX6) (T := TX6) (N := 32) hx hb hts inX6 hown hK hM.1 rfl 31 (by decide) (hts (.fieldLink RX6 89 "TavernBenchModel" "rest" "[J") (by decide +kernel)) (fun _ h9 => h9) rfl dX6_owes_173 ?_
                refine lv_iload hx hb dX6_owes_176 (lv_at hl 8 rfl) ?_
                refine lv_iload hx hb dX6_owes_178 (lv_at hl 0 rfl) ?_
                refine q_if_eq (tgt := 200) hx hb dX6_owes_180 (by decide) (by decide) (fun c180_2 => ?_) (fun c180_2 => ?_)
                · exact absurd c180_2 (by decide)
                refine lv_lload hx hb dX6_owes_183 (lv_at hl 5 rfl) ?_
                refine lv_aload_n hx hb dX6_owes_185 rfl (lv_at hl 1 rfl) ?_
                refine lv_iload hx hb dX6_owes_186 (lv_at hl 8 rfl) ?_
                refine lv_iload_n hx hb dX6_owes_188 rfl (lv_at hl 4 rfl) ?_
                refine q_cVi (As := [.int (iI ((y : Nat) : Int)), .int (iI (oDay S h2))]) (rest := [.long (lI (sWorth S h2 (oDay S h2) * 3)), .int (iI ((y : Nat) : Int)), .ref (mad 31)]) ⟨hx, hb, hml, hown, hts⟩ (c6_worthOnC l g mad (Inv.congr (fun k9 hk9 => (fun k9 z30 z31 => (up_ne _ _ _ z30).trans (hS9 k9 z30 z31)) k9 (by omega) (by omega)) hI) (fun k9 z30 z31 => (up_ne _ _ _ z30).trans (hS9 k9 z30 z31)) ((y : Nat) : Int) (oDay S h2) (by omega) (by omega) (⟨by omega, by omega⟩)) (cwV 2 hts gX6_owes_X6_worthOn rfl rfl rfl (by decide +kernel) ⟨Nat.le_of_ble_eq_true rfl, Nat.le_of_ble_eq_true rfl⟩) (q_pV hK hM.1 rfl hM) rfl hl.1 rfl (Nat.le_of_ble_eq_true rfl) ⟨Nat.zero_le _, Nat.zero_le _⟩ dX6_owes_189 ?_
                refine q_i2l hx hb (by omega) dX6_owes_192 ?_
                refine q_lmul hx hb dX6_owes_193 ?_
                refine lv_lload hx hb dX6_owes_194 (lv_at hl 6 rfl) ?_
                refine q_lrem hx hb ⟨by omega, by omega⟩ ⟨by omega, by omega⟩ dX6_owes_196 ?_
                refine lv_goto (tgt := 203) hx hb dX6_owes_197 (by decide) ?_
                refine q_mstj hx hb hK hM hi hS 31 ⟨31, by decide, Or.inr (by decide), rfl⟩ ((y : Nat) : Int) (((sWorth S h2 (oDay S h2) * 3) * (sWorth S ((y : Nat) : Int) (oDay S h2))) % (oAll S (oDay S h2) (S 14 0).toNat)) ⟨by decide, by decide⟩ (fun _ => rfl) rfl ⟨by omega, by omega⟩ dX6_owes_203 (fun H locs hM hS => ?_)
                refine lv_lload hx hb dX6_owes_204 (lv_at hl 7 rfl) ?_
                refine lv_aload_n hx hb dX6_owes_206 rfl (lv_at hl 1 rfl) ?_
                refine q_get (v := .ref (mad 30)) (C := RX6) (T := TX6) (N := 32) hx hb hts inX6 hown hK hM.1 rfl 30 (by decide) (hts (.fieldLink RX6 85 "TavernBenchModel" "part" "[J") (by decide +kernel)) (fun _ h9 => h9) rfl dX6_owes_207 ?_
                refine lv_iload hx hb dX6_owes_210 (lv_at hl 8 rfl) ?_
                refine q_mldj hx hb hK hM 30 (by decide) ⟨by omega, by omega⟩ dX6_owes_212 ?_
                refine q_lsub hx hb dX6_owes_213 ?_
                refine lv_lstore (lv' := [(8, .long (lI ((sWorth S h2 (oDay S h2) * 3 - oSum S (oDay S h2) (sWorth S h2 (oDay S h2) * 3) (oAll S (oDay S h2) (S 14 0).toNat) y) - ((up (up (pUp S (oDay S h2) (sWorth S h2 (oDay S h2) * 3) (oAll S (oDay S h2) (S 14 0).toNat) ((y : Nat) : Int)) 30 ((y : Nat) : Int) (((sWorth S h2 (oDay S h2) * 3) * (sWorth S ((y : Nat) : Int) (oDay S h2))) / (oAll S (oDay S h2) (S 14 0).toNat))) 31 ((y : Nat) : Int) (((sWorth S h2 (oDay S h2) * 3) * (sWorth S ((y : Nat) : Int) (oDay S h2))) % (oAll S (oDay S h2) (S 14 0).toNat))) 30 ((y : Nat) : Int))))), (11, .int (iI 1)), (0, .ref (mad 0)), (1, .int (iI h1)), (2, .int (iI h2)), (3, .int (iI (oDay S h2))), (4, .long (lI (sWorth S h2 (oDay S h2) * 3))), (6, .long (lI (oAll S (oDay S h2) (S 14 0).toNat))), (10, .int (iI ((y : Nat) : Int)))]) hx hb dX6_owes_214 hl (by decide) rfl (fun ls hl => ?_)
                refine lv_iinc (v := iI (((y : Nat) : Int) + 1)) (lv' := [(10, .int (iI (((y : Nat) : Int) + 1))), (8, .long (lI ((sWorth S h2 (oDay S h2) * 3 - oSum S (oDay S h2) (sWorth S h2 (oDay S h2) * 3) (oAll S (oDay S h2) (S 14 0).toNat) y) - ((up (up (pUp S (oDay S h2) (sWorth S h2 (oDay S h2) * 3) (oAll S (oDay S h2) (S 14 0).toNat) ((y : Nat) : Int)) 30 ((y : Nat) : Int) (((sWorth S h2 (oDay S h2) * 3) * (sWorth S ((y : Nat) : Int) (oDay S h2))) / (oAll S (oDay S h2) (S 14 0).toNat))) 31 ((y : Nat) : Int) (((sWorth S h2 (oDay S h2) * 3) * (sWorth S ((y : Nat) : Int) (oDay S h2))) % (oAll S (oDay S h2) (S 14 0).toNat))) 30 ((y : Nat) : Int))))), (11, .int (iI 1)), (0, .ref (mad 0)), (1, .int (iI h1)), (2, .int (iI h2)), (3, .int (iI (oDay S h2))), (4, .long (lI (sWorth S h2 (oDay S h2) * 3))), (6, .long (lI (oAll S (oDay S h2) (S 14 0).toNat)))]) hx hb dX6_owes_216 hl (k := 8) rfl (iI_add _ _) (by decide) rfl (fun ls hl => ?_)
                refine lv_goto (tgt := 110) hx hb dX6_owes_219 (by decide) ?_
                have e0 : (sWorth S h2 (oDay S h2) * 3 - oSum S (oDay S h2) (sWorth S h2 (oDay S h2) * 3) (oAll S (oDay S h2) (S 14 0).toNat) (y + 1) : Int) = (sWorth S h2 (oDay S h2) * 3 - oSum S (oDay S h2) (sWorth S h2 (oDay S h2) * 3) (oAll S (oDay S h2) (S 14 0).toNat) y) - ((up (up (pUp S (oDay S h2) (sWorth S h2 (oDay S h2) * 3) (oAll S (oDay S h2) (S 14 0).toNat) ((y : Nat) : Int)) 30 ((y : Nat) : Int) (((sWorth S h2 (oDay S h2) * 3) * (sWorth S ((y : Nat) : Int) (oDay S h2))) / (oAll S (oDay S h2) (S 14 0).toNat))) 31 ((y : Nat) : Int) (((sWorth S h2 (oDay S h2) * 3) * (sWorth S ((y : Nat) : Int) (oDay S h2))) % (oAll S (oDay S h2) (S 14 0).toNat))) 30 ((y : Nat) : Int)) := by
                  rw [up_k _ _ _ _ (by decide : (30 : Nat) ≠ 31), up_s]
                  show sWorth S h2 (oDay S h2) * 3 - (oSum S (oDay S h2) (sWorth S h2 (oDay S h2) * 3) (oAll S (oDay S h2) (S 14 0).toNat) y + cI _ _ _) = _
                  rw [cI_t c132]
                  omega
                have e1 : ((((y + 1) : Nat) : Int) : Int) = ((y : Nat) : Int) + 1 := by
                  omega
                have eP : partI S (oDay S h2) (sWorth S h2 (oDay S h2) * 3) (oAll S (oDay S h2) (S 14 0).toNat) ((y : Nat) : Int) = _ := cI_t c132
                have eR : restI S (oDay S h2) (sWorth S h2 (oDay S h2) * 3) (oAll S (oDay S h2) (S 14 0).toNat) ((y : Nat) : Int) = _ := cI_t c132
                exact ihy (y + 1) _ _ ⟨by omega, by rw [← pUp_s, eP, eR]; exact hM⟩ hS (by show (S 14 0).toNat - (y + 1) < (S 14 0).toNat - y; omega) ls (lv_sub hl [3, 4, 5, 6, 7, 8, 1, 0] (by simp only [e0, e1]; rfl))
        · refine lv_lload hx hb dX6_owes_64 (lv_at hl 5 rfl) ?_
          refine lv_iload hx hb dX6_owes_66 (lv_at hl 6 rfl) ?_
          refine lv_iload_n hx hb dX6_owes_68 rfl (lv_at hl 2 rfl) ?_
          refine q_icmp_eq (tgt := 93) hx hb dX6_owes_69 (by decide) (by omega) r_h2 (fun c69 => ?_) (fun c69 => ?_)
          · refine lv_lconst (v := lI 0) hx hb dX6_owes_93 (by decide +kernel) ?_
            refine q_ladd hx hb dX6_owes_94 ?_
            refine lv_lstore (lv' := [(6, .long (lI ((oAll S (oDay S h2) u) + 0))), (0, .ref (mad 0)), (1, .int (iI h1)), (2, .int (iI h2)), (3, .int (iI (oDay S h2))), (4, .long (lI (sWorth S h2 (oDay S h2) * 3))), (8, .int (iI ((u : Nat) : Int)))]) hx hb dX6_owes_95 hl (by decide) rfl (fun ls hl => ?_)
            refine lv_iinc (v := iI (((u : Nat) : Int) + 1)) (lv' := [(8, .int (iI (((u : Nat) : Int) + 1))), (6, .long (lI ((oAll S (oDay S h2) u) + 0))), (0, .ref (mad 0)), (1, .int (iI h1)), (2, .int (iI h2)), (3, .int (iI (oDay S h2))), (4, .long (lI (sWorth S h2 (oDay S h2) * 3)))]) hx hb dX6_owes_97 hl (k := 6) rfl (iI_add _ _) (by decide) rfl (fun ls hl => ?_)
            refine lv_goto (tgt := 55) hx hb dX6_owes_100 (by decide) ?_
            have e0 : (oAll S (oDay S h2) (u + 1) : Int) = (oAll S (oDay S h2) u) + 0 := by
              show oAll S (oDay S h2) u + cI _ _ _ = _
              rw [cI_f (hnu c69)]
            have e1 : ((((u + 1) : Nat) : Int) : Int) = ((u : Nat) : Int) + 1 := by
              omega
            exact ihu (by omega) ls (lv_sub hl [2, 3, 4, 5, 6, 1, 0] (by simp only [e0, e1]; rfl))
          · refine lv_aload_n hx hb dX6_owes_72 rfl (lv_at hl 0 rfl) ?_
            refine lv_iload hx hb dX6_owes_73 (lv_at hl 6 rfl) ?_
            refine lv_iload_n hx hb dX6_owes_75 rfl (lv_at hl 3 rfl) ?_
            refine q_cVi (As := [.int (iI ((u : Nat) : Int)), .int (iI (oDay S h2))]) (rest := [.long (lI (oAll S (oDay S h2) u))]) ⟨hx, hb, hml, hown, hts⟩ (c6_has l g mad S hI ((u : Nat) : Int) (oDay S h2) (by omega) (by omega) (⟨by omega, by omega⟩)) (cwV 2 hts gX6_owes_X6_has rfl rfl rfl (by decide +kernel) ⟨Nat.le_of_ble_eq_true rfl, Nat.le_of_ble_eq_true rfl⟩) (q_pV hK hM.1 rfl hM) rfl hl.1 rfl (Nat.le_of_ble_eq_true rfl) ⟨Nat.zero_le _, Nat.zero_le _⟩ dX6_owes_76 ?_
            refine q_ifb_eq (tgt := 93) hx hb dX6_owes_79 (by decide) (fun c79 => ?_) (fun c79 => ?_)
            · refine lv_lconst (v := lI 0) hx hb dX6_owes_93 (by decide +kernel) ?_
              refine q_ladd hx hb dX6_owes_94 ?_
              refine lv_lstore (lv' := [(6, .long (lI ((oAll S (oDay S h2) u) + 0))), (0, .ref (mad 0)), (1, .int (iI h1)), (2, .int (iI h2)), (3, .int (iI (oDay S h2))), (4, .long (lI (sWorth S h2 (oDay S h2) * 3))), (8, .int (iI ((u : Nat) : Int)))]) hx hb dX6_owes_95 hl (by decide) rfl (fun ls hl => ?_)
              refine lv_iinc (v := iI (((u : Nat) : Int) + 1)) (lv' := [(8, .int (iI (((u : Nat) : Int) + 1))), (6, .long (lI ((oAll S (oDay S h2) u) + 0))), (0, .ref (mad 0)), (1, .int (iI h1)), (2, .int (iI h2)), (3, .int (iI (oDay S h2))), (4, .long (lI (sWorth S h2 (oDay S h2) * 3)))]) hx hb dX6_owes_97 hl (k := 6) rfl (iI_add _ _) (by decide) rfl (fun ls hl => ?_)
              refine lv_goto (tgt := 55) hx hb dX6_owes_100 (by decide) ?_
              have e0 : (oAll S (oDay S h2) (u + 1) : Int) = (oAll S (oDay S h2) u) + 0 := by
                show oAll S (oDay S h2) u + cI _ _ _ = _
                rw [cI_f c79]
              have e1 : ((((u + 1) : Nat) : Int) : Int) = ((u : Nat) : Int) + 1 := by
                omega
              exact ihu (by omega) ls (lv_sub hl [2, 3, 4, 5, 6, 1, 0] (by simp only [e0, e1]; rfl))
            · refine lv_aload_n hx hb dX6_owes_82 rfl (lv_at hl 0 rfl) ?_
              have hwb := sWorth_b hI (h := ((u : Nat) : Int)) ⟨by omega, by omega⟩ (oDay S h2)
              refine lv_iload hx hb dX6_owes_83 (lv_at hl 6 rfl) ?_
              refine lv_iload_n hx hb dX6_owes_85 rfl (lv_at hl 3 rfl) ?_
              refine q_cVi (As := [.int (iI ((u : Nat) : Int)), .int (iI (oDay S h2))]) (rest := [.long (lI (oAll S (oDay S h2) u))]) ⟨hx, hb, hml, hown, hts⟩ (c6_worthOn l g mad S hI ((u : Nat) : Int) (oDay S h2) (by omega) (by omega) (⟨by omega, by omega⟩)) (cwV 2 hts gX6_owes_X6_worthOn rfl rfl rfl (by decide +kernel) ⟨Nat.le_of_ble_eq_true rfl, Nat.le_of_ble_eq_true rfl⟩) (q_pV hK hM.1 rfl hM) rfl hl.1 rfl (Nat.le_of_ble_eq_true rfl) ⟨Nat.zero_le _, Nat.zero_le _⟩ dX6_owes_86 ?_
              refine q_i2l hx hb (by omega) dX6_owes_89 ?_
              refine lv_goto (tgt := 94) hx hb dX6_owes_90 (by decide) ?_
              refine q_ladd hx hb dX6_owes_94 ?_
              refine lv_lstore (lv' := [(6, .long (lI ((oAll S (oDay S h2) u) + (sWorth S ((u : Nat) : Int) (oDay S h2))))), (0, .ref (mad 0)), (1, .int (iI h1)), (2, .int (iI h2)), (3, .int (iI (oDay S h2))), (4, .long (lI (sWorth S h2 (oDay S h2) * 3))), (8, .int (iI ((u : Nat) : Int)))]) hx hb dX6_owes_95 hl (by decide) rfl (fun ls hl => ?_)
              refine lv_iinc (v := iI (((u : Nat) : Int) + 1)) (lv' := [(8, .int (iI (((u : Nat) : Int) + 1))), (6, .long (lI ((oAll S (oDay S h2) u) + (sWorth S ((u : Nat) : Int) (oDay S h2))))), (0, .ref (mad 0)), (1, .int (iI h1)), (2, .int (iI h2)), (3, .int (iI (oDay S h2))), (4, .long (lI (sWorth S h2 (oDay S h2) * 3)))]) hx hb dX6_owes_97 hl (k := 6) rfl (iI_add _ _) (by decide) rfl (fun ls hl => ?_)
              refine lv_goto (tgt := 55) hx hb dX6_owes_100 (by decide) ?_
              have e0 : (oAll S (oDay S h2) (u + 1) : Int) = (oAll S (oDay S h2) u) + (sWorth S ((u : Nat) : Int) (oDay S h2)) := by
                show oAll S (oDay S h2) u + cI _ _ _ = _
                rw [cI_t c79]
              have e1 : ((((u + 1) : Nat) : Int) : Int) = ((u : Nat) : Int) + 1 := by
                omega
              exact ihu (by omega) ls (lv_sub hl [2, 3, 4, 5, 6, 1, 0] (by simp only [e0, e1]; rfl))
      · refine q_bipush hx hb (-2) dX6_owes_33 (by decide +kernel) ?_
        refine q_mreti hx hb hr hlocks hS dX6_owes_35 ?_ ?_
        · show _ = aOwes S h1 h2
          unfold aOwes
          rw [cI_t ⟨by omega, by omega⟩, cI_t (by rcases hod with y | y <;> omega)]
        · exact ⟨S, fun _ _ _ => rfl, hM⟩
    · refine lv_iconst (v := iI (-1)) hx hb dX6_owes_16 rfl ?_
      refine q_mreti hx hb hr hlocks hS dX6_owes_17 ?_ ?_
      · show _ = aOwes S h1 h2
        unfold aOwes
        rw [cI_f (fun z => by have z1 := z.1; have z2 := z.2; first | exact absurd z1 (by assumption) | exact absurd z2 (by assumption))]
      · exact ⟨S, fun _ _ _ => rfl, hM⟩
