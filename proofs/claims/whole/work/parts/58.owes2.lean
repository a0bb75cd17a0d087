theorem mn_or (q : Nat → Prop) (f : Nat → Int) (a : Int) (n : Nat) : mn q f a n = a ∨ ∃ k, k < n ∧ mn q f a n = f k := by
  induction n with
  | zero => exact Or.inl rfl
  | succ n ih =>
    by_cases c : q n ∧ f n < mn q f a n
    · exact Or.inr ⟨n, by omega, mn_t c.1 c.2⟩
    · rw [mn_f c]
      rcases ih with z | ⟨k, h1, h2⟩
      · exact Or.inl z
      · exact Or.inr ⟨k, by omega, h2⟩
noncomputable def oDay (S : St) (h2 : Int) : Int := sSur S h2 3999 1000000 (S 19 h2).toNat
theorem oDay_b {S : St} (hI : Inv S) {h2 : Int} (h0 : 0 ≤ h2 ∧ h2 < S 14 0) : oDay S h2 = 1000000 ∨ isD (oDay S h2) := by
  have hH := hI.house h0.1 h0.2
  rcases mn_or (qSur S h2 3999) (fun j => S 20 (16 * h2 + j)) 1000000 (S 19 h2).toNat with z | ⟨k, h1, z⟩
  · exact Or.inl z
  · have hv := hI.ev h0.1 h0.2 (j := (k : Int)) (by omega) (by omega)
    have e : oDay S h2 = S 20 (16 * h2 + (k : Int)) := z
    rw [e]
    exact Or.inr (by omega)
noncomputable def aOwes (S : St) (h1 h2 : Int) : Int := cI ((0 ≤ h1 ∧ h1 < S 14 0) ∧ (0 ≤ h2 ∧ h2 < S 14 0)) (cI (oDay S h2 = 1000000) (-2) (cI (h1 = h2 ∨ ¬ sHas S h1 (oDay S h2)) 0 (oPart S h1 (oDay S h2) (sWorth S h2 (oDay S h2) * 3)))) (-1)

set_option maxHeartbeats 4000000 in
set_option maxRecDepth 100000 in
theorem c5_owes (l : Launch) (g : GG) (eA : Nat) (P : Nat → Prop) (ad : AD) (S : St) (hI : Inv S) (hQ : InvC S) (h1 : Int) (h2 : Int) (r_h1 : R32 h1) (r_h2 : R32 h2)  : MetI l yX5_owes wsX5_owes ({ frames := 9, cells := 0, slots := 0, locals := 226 }) g [.ref (ad 0 0 0), .int (iI h1), .int (iI h2)] (fun H => RepC g eA P ad S H) (aOwes S h1 h2) := by
  refine Met.ofW (cc := cX5_owes) (maxL := 6) (ret := (some .int)) (by decide) rfl ?_
  intro p e s m args below meth c s₁ B hml hv
  obtain ⟨rfl, hC, hK⟩ := hv
  have hx := B.exec
  have hb := B.bytes
  have hr := B.returns
  have hts := atoms_spec (ws := wsX5_owes) B.pre
  have hown : s.vm.findClass RX5 = some m.cls := findClass_of_methodNamed B.named
  have hlocks := B.notSynchronized
  have hl := lv_entry ([.ref (ad 0 0 0), .int (iI h1), .int (iI h2)]) (n := 6) (Nat.le_of_ble_eq_true rfl)
  rw [lg_entry_eq]
  generalize (lg_sl ([.ref (ad 0 0 0), .int (iI h1), .int (iI h2)]) ++ List.replicate (6 - (lg_sl ([.ref (ad 0 0 0), .int (iI h1), .int (iI h2)])).length) Slot.unset).toArray = ls at hl ⊢
  have hl : lv_has ls 6 [(0, .ref (ad 0 0 0)), (1, .int (iI h1)), (2, .int (iI h2))] := hl
  have hN := hI.nums
  refine lv_aload_n hx hb dX5_owes_0 rfl (lv_at hl 0 rfl) ?_
  refine lv_iload_n hx hb dX5_owes_1 rfl (lv_at hl 1 rfl) ?_
  refine q_cVq (As := [.int (iI h1)]) (rest := []) ⟨hx, hb, hml, hown, hts⟩ (c5_houseAt l g eA P ad S hI hQ h1 r_h1) (cwV 1 hts gX5_owes_X5_houseAt rfl rfl rfl (by decide +kernel) ⟨Nat.le_of_ble_eq_true rfl, Nat.le_of_ble_eq_true rfl⟩) (q_pV hK hC.obj rfl hC) rfl hl.1 rfl (Nat.le_of_ble_eq_true rfl) ⟨Nat.zero_le _, Nat.zero_le _⟩ dX5_owes_2 ?_
  by_cases g1 : 0 ≤ h1 ∧ h1 < S 14 0
  · rw [show hOpt ad S h1 = some (ad 7 h1 0) from if_pos g1]
    refine lv_astore_n (lv' := [(3, .ref (ad 7 h1 0)), (0, .ref (ad 0 0 0)), (1, .int (iI h1)), (2, .int (iI h2))]) hx hb dX5_owes_5 rfl hl (by decide) rfl (fun ls hl => ?_)
    refine lv_aload_n hx hb dX5_owes_6 rfl (lv_at hl 1 rfl) ?_
    refine lv_iload_n hx hb dX5_owes_7 rfl (lv_at hl 3 rfl) ?_
    refine q_cVq (As := [.int (iI h2)]) (rest := []) ⟨hx, hb, hml, hown, hts⟩ (c5_houseAt l g eA P ad S hI hQ h2 r_h2) (cwV 1 hts gX5_owes_X5_houseAt rfl rfl rfl (by decide +kernel) ⟨Nat.le_of_ble_eq_true rfl, Nat.le_of_ble_eq_true rfl⟩) (q_pV hK hC.obj rfl hC) rfl hl.1 rfl (Nat.le_of_ble_eq_true rfl) ⟨Nat.zero_le _, Nat.zero_le _⟩ dX5_owes_8 ?_
    by_cases g2 : 0 ≤ h2 ∧ h2 < S 14 0
    · rw [show hOpt ad S h2 = some (ad 7 h2 0) from if_pos g2]
      refine lv_astore (lv' := [(4, .ref (ad 7 h2 0)), (3, .ref (ad 7 h1 0)), (0, .ref (ad 0 0 0)), (1, .int (iI h1)), (2, .int (iI h2))]) hx hb dX5_owes_11 hl (by decide) rfl (fun ls hl => ?_)
      refine lv_aload_n hx hb dX5_owes_13 rfl (lv_at hl 1 rfl) ?_
      refine lv_ifnull hx hb dX5_owes_14 ?_
      refine q_aload hx hb dX5_owes_17 (lv_at hl 0 rfl) ?_
      refine lv_ifnonnull (tgt := 24) hx hb dX5_owes_19 (by decide) ?_
      refine q_aload hx hb dX5_owes_24 (lv_at hl 0 rfl) ?_
      refine q_sipush hx hb 3999 dX5_owes_26 (by decide +kernel) ?_
      refine q_cVi (As := [.int (iI 3999)]) (rest := []) ⟨hx, hb, hml, hown, hts⟩ (c1_surplusFrom l g eA P ad S hI hQ h2 g2 3999 (by decide)) (cwV 1 hts gX5_owes_X1_surplusFrom rfl rfl rfl (by decide +kernel) ⟨Nat.le_of_ble_eq_true rfl, Nat.le_of_ble_eq_true rfl⟩) (q_pV hK (hC.house (k := h2) g2) rfl hC) rfl hl.1 rfl (Nat.le_of_ble_eq_true rfl) ⟨Nat.zero_le _, Nat.zero_le _⟩ dX5_owes_29 ?_
      refine lv_istore (lv' := [(5, .int (iI (sSur S h2 3999 1000000 (S 19 h2).toNat))), (4, .ref (ad 7 h2 0)), (3, .ref (ad 7 h1 0)), (0, .ref (ad 0 0 0)), (1, .int (iI h1)), (2, .int (iI h2))]) hx hb dX5_owes_32 hl (by decide) rfl (fun ls hl => ?_)
      have e0 : (oDay S h2 : Int) = sSur S h2 3999 1000000 (S 19 h2).toNat := by
        rfl
      have hl : lv_has ls 6 [(5, .int (iI (oDay S h2))), (4, .ref (ad 7 h2 0)), (3, .ref (ad 7 h1 0)), (0, .ref (ad 0 0 0)), (1, .int (iI h1)), (2, .int (iI h2))] := (lv_sub hl [0, 1, 2, 3, 4, 5] (by simp only [e0]; rfl))
      have hob := oDay_b hI g2
      refine lv_iload hx hb dX5_owes_34 (lv_at hl 0 rfl) ?_
      refine q_ldc hx hb 1000000 hown (hts (.constant RX5 165 (1000000)) (by decide +kernel)) (by decide +kernel) dX5_owes_36 ?_
      refine q_icmp_ne (tgt := 44) hx hb dX5_owes_38 (by decide) (by omega) (by decide) (fun c38 => ?_) (fun c38 => ?_)
      · have hdd : isD (oDay S h2) := by
          rcases hob with y | y
          · exact absurd y (by omega)
          · exact y
        have hw1 := sWorth_b hI g1 (oDay S h2)
        have hw2 := sWorth_b hI g2 (oDay S h2)
        refine lv_iload_n hx hb dX5_owes_44 rfl (lv_at hl 4 rfl) ?_
        refine lv_iload_n hx hb dX5_owes_45 rfl (lv_at hl 5 rfl) ?_
        refine q_icmp_eq (tgt := 58) hx hb dX5_owes_46 (by decide) r_h1 r_h2 (fun c46 => ?_) (fun c46 => ?_)
        · refine lv_iconst (v := iI 0) hx hb dX5_owes_58 rfl ?_
          refine q_reti hx hb hr hlocks dX5_owes_59 ?_
          show _ = aOwes S h1 h2
          unfold aOwes
          rw [cI_t ⟨g1, g2⟩, cI_f (by omega)]
          first | rw [cI_t (Or.inl (by assumption))] | rw [cI_t (Or.inr (by assumption))]
        · refine lv_aload_n hx hb dX5_owes_49 rfl (lv_at hl 2 rfl) ?_
          refine lv_iload hx hb dX5_owes_50 (lv_at hl 0 rfl) ?_
          refine q_cVi (As := [.int (iI (oDay S h2))]) (rest := []) ⟨hx, hb, hml, hown, hts⟩ (c1_hasLicence l g eA P ad S hI hQ h1 g1 (oDay S h2) (by omega) hdd) (cwV 1 hts gX5_owes_X1_hasLicence rfl rfl rfl (by decide +kernel) ⟨Nat.le_of_ble_eq_true rfl, Nat.le_of_ble_eq_true rfl⟩) (q_pV hK (hC.house (k := h1) g1) rfl hC) rfl hl.1 rfl (Nat.le_of_ble_eq_true rfl) ⟨Nat.zero_le _, Nat.zero_le _⟩ dX5_owes_52 ?_
          refine q_ifb_ne (tgt := 60) hx hb dX5_owes_55 (by decide) (fun c55 => ?_) (fun c55 => ?_)
          · refine lv_aload_n hx hb dX5_owes_60 rfl (lv_at hl 3 rfl) ?_
            refine lv_iload_n hx hb dX5_owes_61 rfl (lv_at hl 4 rfl) ?_
            refine lv_aload_n hx hb dX5_owes_62 rfl (lv_at hl 2 rfl) ?_
            refine lv_iload hx hb dX5_owes_63 (lv_at hl 0 rfl) ?_
            refine q_cVi (As := [.int (iI (oDay S h2))]) (rest := [.int (iI h1), .ref (ad 0 0 0)]) ⟨hx, hb, hml, hown, hts⟩ (c1_worthOn l g eA P ad S hI hQ h1 g1 (oDay S h2) (by omega)) (cwV 1 hts gX5_owes_X1_worthOn rfl rfl rfl (by decide +kernel) ⟨Nat.le_of_ble_eq_true rfl, Nat.le_of_ble_eq_true rfl⟩) (q_pV hK (hC.house (k := h1) g1) rfl hC) rfl hl.1 rfl (Nat.le_of_ble_eq_true rfl) ⟨Nat.zero_le _, Nat.zero_le _⟩ dX5_owes_65 ?_
            refine lv_iload hx hb dX5_owes_68 (lv_at hl 0 rfl) ?_
            refine q_aload hx hb dX5_owes_70 (lv_at hl 1 rfl) ?_
            refine lv_iload hx hb dX5_owes_72 (lv_at hl 0 rfl) ?_
            refine q_cVi (As := [.int (iI (oDay S h2))]) (rest := [.int (iI (oDay S h2)), .int (iI (sWorth S h1 (oDay S h2))), .int (iI h1), .ref (ad 0 0 0)]) ⟨hx, hb, hml, hown, hts⟩ (c1_worthOn l g eA P ad S hI hQ h2 g2 (oDay S h2) (by omega)) (cwV 1 hts gX5_owes_X1_worthOn rfl rfl rfl (by decide +kernel) ⟨Nat.le_of_ble_eq_true rfl, Nat.le_of_ble_eq_true rfl⟩) (q_pV hK (hC.house (k := h2) g2) rfl hC) rfl hl.1 rfl (Nat.le_of_ble_eq_true rfl) ⟨Nat.zero_le _, Nat.zero_le _⟩ dX5_owes_74 ?_
            refine q_i2l hx hb (by omega) dX5_owes_77 ?_
            refine q_ldc2 hx hb 3 hown (hts (.constantLong RX5 169 (3)) (by decide +kernel)) (by decide +kernel) dX5_owes_78 ?_
            refine q_lmul hx hb dX5_owes_81 ?_
            refine q_cVi (As := [.int (iI h1), .int (iI (sWorth S h1 (oDay S h2))), .int (iI (oDay S h2)), .long (lI ((sWorth S h2 (oDay S h2)) * 3))]) (rest := []) ⟨hx, hb, hml, hown, hts⟩ (c5_partOf l g eA P ad S hI hQ h1 (oDay S h2) r_h1 (by omega) ((sWorth S h2 (oDay S h2)) * 3) (by omega) hdd g1) (cwV 4 hts gX5_owes_X5_partOf rfl rfl rfl (by decide +kernel) ⟨Nat.le_of_ble_eq_true rfl, Nat.le_of_ble_eq_true rfl⟩) (q_pV hK hC.obj rfl hC) rfl hl.1 rfl (Nat.le_of_ble_eq_true rfl) ⟨Nat.zero_le _, Nat.zero_le _⟩ dX5_owes_82 ?_
            refine q_reti hx hb hr hlocks dX5_owes_85 ?_
            show _ = aOwes S h1 h2
            unfold aOwes
            rw [cI_t ⟨g1, g2⟩, cI_f (by omega), cI_f (fun z => z.elim (fun y => absurd y (by assumption)) (fun y => y (by assumption)))]
          · refine lv_iconst (v := iI 0) hx hb dX5_owes_58 rfl ?_
            refine q_reti hx hb hr hlocks dX5_owes_59 ?_
            show _ = aOwes S h1 h2
            unfold aOwes
            rw [cI_t ⟨g1, g2⟩, cI_f (by omega)]
            first | rw [cI_t (Or.inl (by assumption))] | rw [cI_t (Or.inr (by assumption))]
      · refine q_bipush hx hb (-2) dX5_owes_41 (by decide +kernel) ?_
        refine q_reti hx hb hr hlocks dX5_owes_43 ?_
        show _ = aOwes S h1 h2
        unfold aOwes
        rw [cI_t ⟨g1, g2⟩, cI_t (by omega)]
    · rw [show hOpt ad S h2 = none from if_neg g2]
      refine lv_astoreN (lv' := [(4, .null), (3, .ref (ad 7 h1 0)), (0, .ref (ad 0 0 0)), (1, .int (iI h1)), (2, .int (iI h2))]) hx hb dX5_owes_11 hl (by decide) rfl (fun ls hl => ?_)
      refine lv_aload_n hx hb dX5_owes_13 rfl (lv_at hl 1 rfl) ?_
      refine lv_ifnull hx hb dX5_owes_14 ?_
      refine lv_aloadN hx hb dX5_owes_17 (lv_at hl 0 rfl) ?_
      refine lv_ifnonnullN hx hb dX5_owes_19 ?_
      refine lv_iconst (v := iI (-1)) hx hb dX5_owes_22 rfl ?_
      refine q_reti hx hb hr hlocks dX5_owes_23 ?_
      show _ = aOwes S h1 h2
      unfold aOwes
      rw [cI_f (fun z => by first | exact absurd z.1 (by assumption) | exact absurd z.2 (by assumption))]
  · rw [show hOpt ad S h1 = none from if_neg g1]
    refine lv_astore_nN (lv' := [(3, .null), (0, .ref (ad 0 0 0)), (1, .int (iI h1)), (2, .int (iI h2))]) hx hb dX5_owes_5 rfl hl (by decide) rfl (fun ls hl => ?_)
    refine lv_aload_n hx hb dX5_owes_6 rfl (lv_at hl 1 rfl) ?_
    refine lv_iload_n hx hb dX5_owes_7 rfl (lv_at hl 3 rfl) ?_
    refine q_cVq (As := [.int (iI h2)]) (rest := []) ⟨hx, hb, hml, hown, hts⟩ (c5_houseAt l g eA P ad S hI hQ h2 r_h2) (cwV 1 hts gX5_owes_X5_houseAt rfl rfl rfl (by decide +kernel) ⟨Nat.le_of_ble_eq_true rfl, Nat.le_of_ble_eq_true rfl⟩) (q_pV hK hC.obj rfl hC) rfl hl.1 rfl (Nat.le_of_ble_eq_true rfl) ⟨Nat.zero_le _, Nat.zero_le _⟩ dX5_owes_8 ?_
    by_cases g2 : 0 ≤ h2 ∧ h2 < S 14 0
    · rw [show hOpt ad S h2 = some (ad 7 h2 0) from if_pos g2]
      refine lv_astore (lv' := [(4, .ref (ad 7 h2 0)), (3, .null), (0, .ref (ad 0 0 0)), (1, .int (iI h1)), (2, .int (iI h2))]) hx hb dX5_owes_11 hl (by decide) rfl (fun ls hl => ?_)
      refine lv_aload_nN hx hb dX5_owes_13 rfl (lv_at hl 1 rfl) ?_
      refine lv_ifnullN (tgt := 22) hx hb dX5_owes_14 (by decide) ?_
      refine lv_iconst (v := iI (-1)) hx hb dX5_owes_22 rfl ?_
      refine q_reti hx hb hr hlocks dX5_owes_23 ?_
      show _ = aOwes S h1 h2
      unfold aOwes
      rw [cI_f (fun z => by first | exact absurd z.1 (by assumption) | exact absurd z.2 (by assumption))]
    · rw [show hOpt ad S h2 = none from if_neg g2]
      refine lv_astoreN (lv' := [(4, .null), (3, .null), (0, .ref (ad 0 0 0)), (1, .int (iI h1)), (2, .int (iI h2))]) hx hb dX5_owes_11 hl (by decide) rfl (fun ls hl => ?_)
      refine lv_aload_nN hx hb dX5_owes_13 rfl (lv_at hl 1 rfl) ?_
      refine lv_ifnullN (tgt := 22) hx hb dX5_owes_14 (by decide) ?_
      refine lv_iconst (v := iI (-1)) hx hb dX5_owes_22 rfl ?_
      refine q_reti hx hb hr hlocks dX5_owes_23 ?_
      show _ = aOwes S h1 h2
      unfold aOwes
      rw [cI_f (fun z => by first | exact absurd z.1 (by assumption) | exact absurd z.2 (by assumption))]
