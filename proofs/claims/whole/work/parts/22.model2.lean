theorem sHeard_b {S : St} (hI : Inv S) (x y : Int) : 0 ≤ sHeard S x y (S 10 0).toNat ∧ sHeard S x y (S 10 0).toNat ≤ 200 := by
  have hN := hI.nums
  have h := sumN_le (f := fun k => cI (off2 x y (S 11 (k : Int)) (S 12 (k : Int)) ≤ S 9 0 * S 9 0) (S 13 (k : Int)) 0) (n := (S 10 0).toNat) (a := 0) (b := 10) (fun k hk => by
    have hO := hI.obj (j := (k : Int)) (by omega) (by omega)
    show 0 ≤ cI _ _ _ ∧ cI _ _ _ ≤ 10
    by_cases z : off2 x y (S 11 (k : Int)) (S 12 (k : Int)) ≤ S 9 0 * S 9 0
    · rw [cI_t z]; omega
    · rw [cI_f z]; omega)
  show 0 ≤ sumN _ _ ∧ sumN _ _ ≤ 200
  omega
theorem sJudge_b (S : St) (x y no se : Int) : 0 ≤ sJudge S x y no se ∧ sJudge S x y no se ≤ 3 := by
  unfold sJudge
  by_cases h1 : se - no < 21
  · rw [cI_t h1]; decide
  · rw [cI_f h1]
    by_cases h2 : exN (qCrowd S x y se) (S 14 0).toNat
    · rw [cI_t h2]; decide
    · rw [cI_f h2]
      by_cases h3 : 10 < sHeard S x y (S 10 0).toNat
      · rw [cI_t h3]; decide
      · rw [cI_f h3]; decide
theorem sMany_b (S : St) (day a : Int) (n : Nat) : 0 ≤ sMany S day a n ∧ sMany S day a n ≤ n := cnt_le _ n

set_option maxHeartbeats 4000000 in
set_option maxRecDepth 100000 in
theorem c6_on (l : Launch) (g : GG) (mad : Nat → Nat) (S : St) (hI : Inv S) (h : Int) (day : Int) (what : Int) (r_h : R32 h) (r_day : R32 day) (r_what : R32 what)  : MetI l yX6_on wsX6_on ({ frames := 3, cells := 0, slots := 0, locals := 77 }) g [.ref (mad 0), .int (iI h), .int (iI day), .int (iI what)] (fun H => RepM g mad S H) (aOn S h day what) := by
  refine Met.ofW (cc := cX6_on) (maxL := 6) (ret := (some .int)) (by decide) rfl ?_
  intro p e s m args below meth c s₁ B hml hv
  obtain ⟨rfl, hM, hK⟩ := hv
  have hx := B.exec
  have hb := B.bytes
  have hr := B.returns
  have hts := atoms_spec (ws := wsX6_on) B.pre
  have hown : s.vm.findClass RX6 = some m.cls := findClass_of_methodNamed B.named
  have hlocks := B.notSynchronized
  have inX6 : ∀ w ∈ wsX60, w ∈ wsX6_on := by decide +kernel
  have hl := lv_entry ([.ref (mad 0), .int (iI h), .int (iI day), .int (iI what)]) (n := 6) (Nat.le_of_ble_eq_true rfl)
  rw [lg_entry_eq]
  generalize (lg_sl ([.ref (mad 0), .int (iI h), .int (iI day), .int (iI what)]) ++ List.replicate (6 - (lg_sl ([.ref (mad 0), .int (iI h), .int (iI day), .int (iI what)])).length) Slot.unset).toArray = ls at hl ⊢
  have hl : lv_has ls 6 [(0, .ref (mad 0)), (1, .int (iI h)), (2, .int (iI day)), (3, .int (iI what))] := hl
  have hN := hI.nums
  refine lv_aload_n hx hb dX6_on_0 rfl (lv_at hl 0 rfl) ?_
  refine lv_iload_n hx hb dX6_on_1 rfl (lv_at hl 1 rfl) ?_
  refine q_cVi (As := [.int (iI h)]) (rest := []) ⟨hx, hb, hml, hown, hts⟩ (c6_isHouse l g mad S hI h r_h ) (cwV 1 hts gX6_on_X6_isHouse rfl rfl rfl (by decide +kernel) ⟨Nat.le_of_ble_eq_true rfl, Nat.le_of_ble_eq_true rfl⟩) (q_pV hK hM.1 rfl hM) rfl hl.1 rfl (Nat.le_of_ble_eq_true rfl) ⟨Nat.zero_le _, Nat.zero_le _⟩ dX6_on_2 ?_
  refine q_ifb_eq (tgt := 24) hx hb dX6_on_5 (by decide) (fun c5 => ?_) (fun c5 => ?_)
  · refine lv_iconst (v := iI (-1)) hx hb dX6_on_24 rfl ?_
    refine q_reti hx hb hr hlocks dX6_on_25 ?_
    show _ = aOn S h day what
    unfold aOn
    rw [cI_f (by omega)]
  · refine lv_iload_n hx hb dX6_on_8 rfl (lv_at hl 2 rfl) ?_
    refine q_cSi (As := [.int (iI day)]) (rest := []) ⟨hx, hb, hml, hown, hts⟩ (c6_isDay l g day r_day ) (va_cwS 1 hts gX6_on_X6_isDay rfl rfl rfl (by decide +kernel) ⟨Nat.le_of_ble_eq_true rfl, Nat.le_of_ble_eq_true rfl⟩) (q_pS hK trivial) rfl hl.1 rfl (Nat.le_of_ble_eq_true rfl) ⟨Nat.zero_le _, Nat.zero_le _⟩ dX6_on_9 ?_
    refine q_ifb_eq (tgt := 24) hx hb dX6_on_12 (by decide) (fun c12 => ?_) (fun c12 => ?_)
    · refine lv_iconst (v := iI (-1)) hx hb dX6_on_24 rfl ?_
      refine q_reti hx hb hr hlocks dX6_on_25 ?_
      show _ = aOn S h day what
      unfold aOn
      rw [cI_f (by omega)]
    · refine lv_iload_n hx hb dX6_on_15 rfl (lv_at hl 3 rfl) ?_
      refine lv_iconst (v := iI 0) hx hb dX6_on_16 rfl ?_
      refine lv_iconst (v := iI 3) hx hb dX6_on_17 rfl ?_
      refine q_cSi (As := [.int (iI what), .int (iI 0), .int (iI 3)]) (rest := []) ⟨hx, hb, hml, hown, hts⟩ (c6_in l g what 0 3 r_what (by decide) (by decide) ) (va_cwS 3 hts gX6_on_X6_in rfl rfl rfl (by decide +kernel) ⟨Nat.le_of_ble_eq_true rfl, Nat.le_of_ble_eq_true rfl⟩) (q_pS hK trivial) rfl hl.1 rfl (Nat.le_of_ble_eq_true rfl) ⟨Nat.zero_le _, Nat.zero_le _⟩ dX6_on_18 ?_
      refine q_ifb_ne (tgt := 26) hx hb dX6_on_21 (by decide) (fun c21 => ?_) (fun c21 => ?_)
      · have h0 : 0 ≤ h ∧ h < S 14 0 := by omega
        have hd : isD day := by omega
        have hH := hI.house h0.1 h0.2
        refine lv_iconst (v := iI 0) hx hb dX6_on_26 rfl ?_
        refine lv_istore (lv' := [(4, .int (iI 0)), (0, .ref (mad 0)), (1, .int (iI h)), (2, .int (iI day)), (3, .int (iI what))]) hx hb dX6_on_27 hl (by decide) rfl (fun ls hl => ?_)
        refine q_bipush hx hb 16 dX6_on_29 (by decide +kernel) ?_
        refine lv_iload_n hx hb dX6_on_31 rfl (lv_at hl 2 rfl) ?_
        refine q_imul hx hb dX6_on_32 ?_
        refine lv_istore (lv' := [(5, .int (iI (16 * h))), (4, .int (iI 0)), (0, .ref (mad 0)), (1, .int (iI h)), (2, .int (iI day)), (3, .int (iI what))]) hx hb dX6_on_33 hl (by decide) rfl (fun ls hl => ?_)
        have e0 : (cnt (fun q => sCnt S h (16 * h + q) day ∧ day - 1825 ≤ S 20 (16 * h + q)) 0 : Int) = 0 := by
          rfl
        have e1 : (16 * h + ((0 : Nat) : Int) : Int) = 16 * h := by
          omega
        refine q_loopN (nL := 6) ((S 19 h).toNat) (fun (i : Nat) => [(0, .ref (mad 0)), (1, .int (iI h)), (2, .int (iI day)), (3, .int (iI what)), (4, .int (iI (cnt (fun q => sCnt S h (16 * h + q) day ∧ day - 1825 ≤ S 20 (16 * h + q)) i))), (5, .int (iI (16 * h + ((i : Nat) : Int))))]) (lv_sub hl [2, 3, 4, 5, 1, 0] (by simp only [e0, e1]; rfl)) (fun i hi ihi ls hl => ?_)
        have hl : lv_has ls 6 [(0, .ref (mad 0)), (1, .int (iI h)), (2, .int (iI day)), (3, .int (iI what)), (4, .int (iI (cnt (fun q => sCnt S h (16 * h + q) day ∧ day - 1825 ≤ S 20 (16 * h + q)) i))), (5, .int (iI (16 * h + ((i : Nat) : Int))))] := hl
        refine lv_iload hx hb dX6_on_35 (lv_at hl 5 rfl) ?_
        refine q_bipush hx hb 16 dX6_on_37 (by decide +kernel) ?_
        refine lv_iload_n hx hb dX6_on_39 rfl (lv_at hl 1 rfl) ?_
        refine q_imul hx hb dX6_on_40 ?_
        refine lv_aload_n hx hb dX6_on_41 rfl (lv_at hl 0 rfl) ?_
        refine q_get (v := .ref (mad 19)) (C := RX6) (T := TX6) (N := 32) hx hb hts inX6 hown hK hM.1 rfl 19 (by decide) (hts (.fieldLink RX6 56 "TavernBenchModel" "events" "[I") (by decide +kernel)) (fun _ h9 => h9) rfl dX6_on_42 ?_
        refine lv_iload_n hx hb dX6_on_45 rfl (lv_at hl 1 rfl) ?_
        refine q_mld hx hb hK hM 19 30 ⟨by decide, by decide, by decide⟩ rfl ⟨by omega, by omega⟩ dX6_on_46 ?_
        refine q_iadd hx hb dX6_on_47 ?_
        refine q_icmp_ge (tgt := 93) hx hb dX6_on_48 (by decide) (by omega) (by omega) (fun c48 => ?_) (fun c48 => ?_)
        · have e0 : (cnt (fun q => sCnt S h (16 * h + q) day ∧ day - 1825 ≤ S 20 (16 * h + q)) (S 19 h).toNat : Int) = cnt (fun q => sCnt S h (16 * h + q) day ∧ day - 1825 ≤ S 20 (16 * h + q)) i := by
            have ej : i = (S 19 h).toNat := by omega
            rw [ej]
          have hl : lv_has ls 6 [(0, .ref (mad 0)), (1, .int (iI h)), (2, .int (iI day)), (3, .int (iI what)), (4, .int (iI (cnt (fun q => sCnt S h (16 * h + q) day ∧ day - 1825 ≤ S 20 (16 * h + q)) (S 19 h).toNat))), (5, .int (iI (16 * h + ((i : Nat) : Int))))] := (lv_sub hl [0, 1, 2, 3, 4, 5] (by simp only [e0]; rfl))
          refine lv_iload_n hx hb dX6_on_93 rfl (lv_at hl 3 rfl) ?_
          refine q_if_ne (tgt := 106) hx hb dX6_on_94 (by decide) r_what (fun c94 => ?_) (fun c94 => ?_)
          · refine lv_iload_n hx hb dX6_on_106 rfl (lv_at hl 3 rfl) ?_
            refine lv_iconst (v := iI 1) hx hb dX6_on_107 rfl ?_
            refine q_icmp_ne (tgt := 116) hx hb dX6_on_108 (by decide) r_what (by decide) (fun c108 => ?_) (fun c108 => ?_)
            · refine lv_iload_n hx hb dX6_on_116 rfl (lv_at hl 3 rfl) ?_
              refine lv_iconst (v := iI 2) hx hb dX6_on_117 rfl ?_
              refine q_icmp_ne (tgt := 130) hx hb dX6_on_118 (by decide) r_what (by decide) (fun c118 => ?_) (fun c118 => ?_)
              · refine lv_aload_n hx hb dX6_on_130 rfl (lv_at hl 0 rfl) ?_
                refine lv_iload_n hx hb dX6_on_131 rfl (lv_at hl 1 rfl) ?_
                refine lv_iload_n hx hb dX6_on_132 rfl (lv_at hl 2 rfl) ?_
                refine q_cVi (As := [.int (iI h), .int (iI day)]) (rest := []) ⟨hx, hb, hml, hown, hts⟩ (c6_worthOn l g mad S hI h day r_h r_day h0) (cwV 2 hts gX6_on_X6_worthOn rfl rfl rfl (by decide +kernel) ⟨Nat.le_of_ble_eq_true rfl, Nat.le_of_ble_eq_true rfl⟩) (q_pV hK hM.1 rfl hM) rfl hl.1 rfl (Nat.le_of_ble_eq_true rfl) ⟨Nat.zero_le _, Nat.zero_le _⟩ dX6_on_133 ?_
                refine q_reti hx hb hr hlocks dX6_on_136 ?_
                show _ = aOn S h day what
                unfold aOn
                rw [cI_t (by omega)]
                first | rw [cI_t (by omega)] | (rw [cI_f (by omega), cI_t (by omega)]; rfl) | rw [cI_f (by omega), cI_f (by omega), cI_t (by omega)] | rw [cI_f (by omega), cI_f (by omega), cI_f (by omega)]
              · refine lv_aload_n hx hb dX6_on_121 rfl (lv_at hl 0 rfl) ?_
                refine lv_iload_n hx hb dX6_on_122 rfl (lv_at hl 1 rfl) ?_
                refine lv_iload_n hx hb dX6_on_123 rfl (lv_at hl 2 rfl) ?_
                refine q_cVi (As := [.int (iI h), .int (iI day)]) (rest := []) ⟨hx, hb, hml, hown, hts⟩ (c6_condition l g mad S hI h day r_h r_day h0) (cwV 2 hts gX6_on_X6_condition rfl rfl rfl (by decide +kernel) ⟨Nat.le_of_ble_eq_true rfl, Nat.le_of_ble_eq_true rfl⟩) (q_pV hK hM.1 rfl hM) rfl hl.1 rfl (Nat.le_of_ble_eq_true rfl) ⟨Nat.zero_le _, Nat.zero_le _⟩ dX6_on_124 ?_
                refine lv_goto (tgt := 136) hx hb dX6_on_127 (by decide) ?_
                refine q_reti hx hb hr hlocks dX6_on_136 ?_
                show _ = aOn S h day what
                unfold aOn
                rw [cI_t (by omega)]
                first | rw [cI_t (by omega)] | (rw [cI_f (by omega), cI_t (by omega)]; rfl) | rw [cI_f (by omega), cI_f (by omega), cI_t (by omega)] | rw [cI_f (by omega), cI_f (by omega), cI_f (by omega)]
            · refine lv_iload hx hb dX6_on_111 (lv_at hl 4 rfl) ?_
              refine lv_goto (tgt := 136) hx hb dX6_on_113 (by decide) ?_
              refine q_reti hx hb hr hlocks dX6_on_136 ?_
              show _ = aOn S h day what
              unfold aOn
              rw [cI_t (by omega)]
              first | rw [cI_t (by omega)] | (rw [cI_f (by omega), cI_t (by omega)]; rfl) | rw [cI_f (by omega), cI_f (by omega), cI_t (by omega)] | rw [cI_f (by omega), cI_f (by omega), cI_f (by omega)]
          · refine lv_aload_n hx hb dX6_on_97 rfl (lv_at hl 0 rfl) ?_
            refine lv_iload_n hx hb dX6_on_98 rfl (lv_at hl 1 rfl) ?_
            refine lv_iload_n hx hb dX6_on_99 rfl (lv_at hl 2 rfl) ?_
            refine q_cVi (As := [.int (iI h), .int (iI day)]) (rest := []) ⟨hx, hb, hml, hown, hts⟩ (c6_stateOn l g mad S hI h day r_h r_day h0) (cwV 2 hts gX6_on_X6_stateOn rfl rfl rfl (by decide +kernel) ⟨Nat.le_of_ble_eq_true rfl, Nat.le_of_ble_eq_true rfl⟩) (q_pV hK hM.1 rfl hM) rfl hl.1 rfl (Nat.le_of_ble_eq_true rfl) ⟨Nat.zero_le _, Nat.zero_le _⟩ dX6_on_100 ?_
            refine lv_goto (tgt := 136) hx hb dX6_on_103 (by decide) ?_
            refine q_reti hx hb hr hlocks dX6_on_136 ?_
            show _ = aOn S h day what
            unfold aOn
            rw [cI_t (by omega)]
            first | rw [cI_t (by omega)] | (rw [cI_f (by omega), cI_t (by omega)]; rfl) | rw [cI_f (by omega), cI_f (by omega), cI_t (by omega)] | rw [cI_f (by omega), cI_f (by omega), cI_f (by omega)]
        · refine lv_iload hx hb dX6_on_51 (lv_at hl 4 rfl) ?_
          refine lv_aload_n hx hb dX6_on_53 rfl (lv_at hl 0 rfl) ?_
          refine lv_iload_n hx hb dX6_on_54 rfl (lv_at hl 1 rfl) ?_
          refine lv_iload hx hb dX6_on_55 (lv_at hl 5 rfl) ?_
          refine lv_iload_n hx hb dX6_on_57 rfl (lv_at hl 2 rfl) ?_
          refine q_cVi (As := [.int (iI h), .int (iI (16 * h + ((i : Nat) : Int))), .int (iI day)]) (rest := [.int (iI (cnt (fun q => sCnt S h (16 * h + q) day ∧ day - 1825 ≤ S 20 (16 * h + q)) i))]) ⟨hx, hb, hml, hown, hts⟩ (c6_counts l g mad S hI h (16 * h + ((i : Nat) : Int)) day r_h (by omega) r_day h0 ⟨by omega, by omega⟩) (cwV 3 hts gX6_on_X6_counts rfl rfl rfl (by decide +kernel) ⟨Nat.le_of_ble_eq_true rfl, Nat.le_of_ble_eq_true rfl⟩) (q_pV hK hM.1 rfl hM) rfl hl.1 rfl (Nat.le_of_ble_eq_true rfl) ⟨Nat.zero_le _, Nat.zero_le _⟩ dX6_on_58 ?_
          refine q_ifb_eq (tgt := 83) hx hb dX6_on_61 (by decide) (fun c61 => ?_) (fun c61 => ?_)
          · refine lv_iconst (v := iI 0) hx hb dX6_on_83 rfl ?_
            refine q_iadd hx hb dX6_on_84 ?_
            refine lv_istore (lv' := [(4, .int (iI ((cnt (fun q => sCnt S h (16 * h + q) day ∧ day - 1825 ≤ S 20 (16 * h + q)) i) + 0))), (0, .ref (mad 0)), (1, .int (iI h)), (2, .int (iI day)), (3, .int (iI what)), (5, .int (iI (16 * h + ((i : Nat) : Int))))]) hx hb dX6_on_85 hl (by decide) rfl (fun ls hl => ?_)
            refine lv_iinc (v := iI ((16 * h + ((i : Nat) : Int)) + 1)) (lv' := [(5, .int (iI ((16 * h + ((i : Nat) : Int)) + 1))), (4, .int (iI ((cnt (fun q => sCnt S h (16 * h + q) day ∧ day - 1825 ≤ S 20 (16 * h + q)) i) + 0))), (0, .ref (mad 0)), (1, .int (iI h)), (2, .int (iI day)), (3, .int (iI what))]) hx hb dX6_on_87 hl (k := 5) rfl (iI_add _ _) (by decide) rfl (fun ls hl => ?_)
            refine lv_goto (tgt := 35) hx hb dX6_on_90 (by decide) ?_
            have e0 : (cnt (fun q => sCnt S h (16 * h + q) day ∧ day - 1825 ≤ S 20 (16 * h + q)) (i + 1) : Int) = (cnt (fun q => sCnt S h (16 * h + q) day ∧ day - 1825 ≤ S 20 (16 * h + q)) i) + 0 := by
              first | exact cnt_1 ⟨by assumption, by assumption⟩ | exact cnt_0 (fun z => absurd z.1 (by assumption)) | exact cnt_0 (fun z => absurd z.2 (Int.not_le.mpr (by assumption)))
            have e1 : (16 * h + (((i + 1) : Nat) : Int) : Int) = (16 * h + ((i : Nat) : Int)) + 1 := by
              omega
            exact ihi (by omega) ls (lv_sub hl [2, 3, 4, 5, 1, 0] (by simp only [e0, e1]; rfl))
          · refine lv_aload_n hx hb dX6_on_64 rfl (lv_at hl 0 rfl) ?_
            refine q_get (v := .ref (mad 20)) (C := RX6) (T := TX6) (N := 32) hx hb hts inX6 hown hK hM.1 rfl 20 (by decide) (hts (.fieldLink RX6 59 "TavernBenchModel" "eventDay" "[I") (by decide +kernel)) (fun _ h9 => h9) rfl dX6_on_65 ?_
            refine lv_iload hx hb dX6_on_68 (lv_at hl 5 rfl) ?_
            refine q_mld hx hb hK hM 20 480 ⟨by decide, by decide, by decide⟩ rfl ⟨by omega, by omega⟩ dX6_on_70 ?_
            refine lv_iload_n hx hb dX6_on_71 rfl (lv_at hl 2 rfl) ?_
            refine q_sipush hx hb 1825 dX6_on_72 (by decide +kernel) ?_
            refine q_isub hx hb dX6_on_75 ?_
            refine q_icmp_lt (tgt := 83) hx hb dX6_on_76 (by decide) (hI.R (by decide)) (by omega) (fun c76 => ?_) (fun c76 => ?_)
            · refine lv_iconst (v := iI 0) hx hb dX6_on_83 rfl ?_
              refine q_iadd hx hb dX6_on_84 ?_
              refine lv_istore (lv' := [(4, .int (iI ((cnt (fun q => sCnt S h (16 * h + q) day ∧ day - 1825 ≤ S 20 (16 * h + q)) i) + 0))), (0, .ref (mad 0)), (1, .int (iI h)), (2, .int (iI day)), (3, .int (iI what)), (5, .int (iI (16 * h + ((i : Nat) : Int))))]) hx hb dX6_on_85 hl (by decide) rfl (fun ls hl => ?_)
              refine lv_iinc (v := iI ((16 * h + ((i : Nat) : Int)) + 1)) (lv' := [(5, .int (iI ((16 * h + ((i : Nat) : Int)) + 1))), (4, .int (iI ((cnt (fun q => sCnt S h (16 * h + q) day ∧ day - 1825 ≤ S 20 (16 * h + q)) i) + 0))), (0, .ref (mad 0)), (1, .int (iI h)), (2, .int (iI day)), (3, .int (iI what))]) hx hb dX6_on_87 hl (k := 5) rfl (iI_add _ _) (by decide) rfl (fun ls hl => ?_)
              refine lv_goto (tgt := 35) hx hb dX6_on_90 (by decide) ?_
              have e0 : (cnt (fun q => sCnt S h (16 * h + q) day ∧ day - 1825 ≤ S 20 (16 * h + q)) (i + 1) : Int) = (cnt (fun q => sCnt S h (16 * h + q) day ∧ day - 1825 ≤ S 20 (16 * h + q)) i) + 0 := by
                first | exact cnt_1 ⟨by assumption, by assumption⟩ | exact cnt_0 (fun z => absurd z.1 (by assumption)) | exact cnt_0 (fun z => absurd z.2 (Int.not_le.mpr (by assumption)))
              have e1 : (16 * h + (((i + 1) : Nat) : Int) : Int) = (16 * h + ((i : Nat) : Int)) + 1 := by
                omega
              exact ihi (by omega) ls (lv_sub hl [2, 3, 4, 5, 1, 0] (by simp only [e0, e1]; rfl))
            · refine lv_iconst (v := iI 1) hx hb dX6_on_79 rfl ?_
              refine lv_goto (tgt := 84) hx hb dX6_on_80 (by decide) ?_
              refine q_iadd hx hb dX6_on_84 ?_
              refine lv_istore (lv' := [(4, .int (iI ((cnt (fun q => sCnt S h (16 * h + q) day ∧ day - 1825 ≤ S 20 (16 * h + q)) i) + 1))), (0, .ref (mad 0)), (1, .int (iI h)), (2, .int (iI day)), (3, .int (iI what)), (5, .int (iI (16 * h + ((i : Nat) : Int))))]) hx hb dX6_on_85 hl (by decide) rfl (fun ls hl => ?_)
              refine lv_iinc (v := iI ((16 * h + ((i : Nat) : Int)) + 1)) (lv' := [(5, .int (iI ((16 * h + ((i : Nat) : Int)) + 1))), (4, .int (iI ((cnt (fun q => sCnt S h (16 * h + q) day ∧ day - 1825 ≤ S 20 (16 * h + q)) i) + 1))), (0, .ref (mad 0)), (1, .int (iI h)), (2, .int (iI day)), (3, .int (iI what))]) hx hb dX6_on_87 hl (k := 5) rfl (iI_add _ _) (by decide) rfl (fun ls hl => ?_)
              refine lv_goto (tgt := 35) hx hb dX6_on_90 (by decide) ?_
              have e0 : (cnt (fun q => sCnt S h (16 * h + q) day ∧ day - 1825 ≤ S 20 (16 * h + q)) (i + 1) : Int) = (cnt (fun q => sCnt S h (16 * h + q) day ∧ day - 1825 ≤ S 20 (16 * h + q)) i) + 1 := by
                first | exact cnt_1 ⟨by assumption, by assumption⟩ | exact cnt_0 (fun z => absurd z.1 (by assumption)) | exact cnt_0 (fun z => absurd z.2 (Int.not_le.mpr (by assumption)))
              have e1 : (16 * h + (((i + 1) : Nat) : Int) : Int) = (16 * h + ((i : Nat) : Int)) + 1 := by
                omega
              exact ihi (by omega) ls (lv_sub hl [2, 3, 4, 5, 1, 0] (by simp only [e0, e1]; rfl))
      · refine lv_iconst (v := iI (-1)) hx hb dX6_on_24 rfl ?_
        refine q_reti hx hb hr hlocks dX6_on_25 ?_
        show _ = aOn S h day what
        unfold aOn
        rw [cI_f (by omega)]

set_option maxHeartbeats 4000000 in
set_option maxRecDepth 100000 in
theorem c6_judged (l : Launch) (g : GG) (mad : Nat → Nat) (S : St) (hI : Inv S) (x : Int) (y : Int) (no : Int) (se : Int) (r_x : R32 x) (r_y : R32 y) (r_no : R32 no) (r_se : R32 se) (hp : isP x y) (hse : isD se) (hno : isD no) : MetI l yX6_judged wsX6_judged ({ frames := 4, cells := 0, slots := 0, locals := 99 }) g [.ref (mad 0), .int (iI x), .int (iI y), .int (iI no), .int (iI se)] (fun H => RepM g mad S H) (sJudge S x y no se) := by
  refine Met.ofW (cc := cX6_judged) (maxL := 7) (ret := (some .int)) (by decide) rfl ?_
  intro p e s m args below meth c s₁ B hml hv
  obtain ⟨rfl, hM, hK⟩ := hv
  have hx := B.exec
  have hb := B.bytes
  have hr := B.returns
  have hts := atoms_spec (ws := wsX6_judged) B.pre
  have hown : s.vm.findClass RX6 = some m.cls := findClass_of_methodNamed B.named
  have hlocks := B.notSynchronized
  have inX6 : ∀ w ∈ wsX60, w ∈ wsX6_judged := by decide +kernel
  have hl := lv_entry ([.ref (mad 0), .int (iI x), .int (iI y), .int (iI no), .int (iI se)]) (n := 7) (Nat.le_of_ble_eq_true rfl)
  rw [lg_entry_eq]
  generalize (lg_sl ([.ref (mad 0), .int (iI x), .int (iI y), .int (iI no), .int (iI se)]) ++ List.replicate (7 - (lg_sl ([.ref (mad 0), .int (iI x), .int (iI y), .int (iI no), .int (iI se)])).length) Slot.unset).toArray = ls at hl ⊢
  have hl : lv_has ls 7 [(0, .ref (mad 0)), (1, .int (iI x)), (2, .int (iI y)), (3, .int (iI no)), (4, .int (iI se))] := hl
  have hN := hI.nums
  have hn2 := sq_b hN.2.2.1.1 hN.2.2.1.2
  have hh2 := sq_b hN.2.2.2.1.1 hN.2.2.2.1.2
  refine lv_iload hx hb dX6_judged_0 (lv_at hl 4 rfl) ?_
  refine lv_iload_n hx hb dX6_judged_2 rfl (lv_at hl 3 rfl) ?_
  refine q_isub hx hb dX6_judged_3 ?_
  refine q_bipush hx hb 21 dX6_judged_4 (by decide +kernel) ?_
  refine q_icmp_ge (tgt := 11) hx hb dX6_judged_6 (by decide) (by omega) (by decide) (fun c6 => ?_) (fun c6 => ?_)
  · refine lv_iconst (v := iI 0) hx hb dX6_judged_11 rfl ?_
    refine lv_istore (lv' := [(5, .int (iI 0)), (0, .ref (mad 0)), (1, .int (iI x)), (2, .int (iI y)), (3, .int (iI no)), (4, .int (iI se))]) hx hb dX6_judged_12 hl (by decide) rfl (fun ls hl => ?_)
    have e0 : (((0 : Nat) : Int) : Int) = 0 := by
      rfl
    refine q_loop (nL := 7) (fun (i : Nat) => i ≤ (S 14 0).toNat ∧ ¬ exN (qCrowd S x y se) i) (fun i => (S 14 0).toNat - i) (fun (i : Nat) => [(0, .ref (mad 0)), (1, .int (iI x)), (2, .int (iI y)), (3, .int (iI no)), (4, .int (iI se)), (5, .int (iI ((i : Nat) : Int)))]) 0 ⟨Nat.zero_le _, exN_0⟩ (lv_sub hl [1, 2, 3, 4, 5, 0] (by simp only [e0]; rfl)) (fun i hi2 ihi ls hl => ?_)
    have hl : lv_has ls 7 [(0, .ref (mad 0)), (1, .int (iI x)), (2, .int (iI y)), (3, .int (iI no)), (4, .int (iI se)), (5, .int (iI ((i : Nat) : Int)))] := hl
    have hi1 : i ≤ (S 14 0).toNat := hi2.1
    refine lv_iload hx hb dX6_judged_14 (lv_at hl 5 rfl) ?_
    refine lv_aload_n hx hb dX6_judged_16 rfl (lv_at hl 0 rfl) ?_
    refine q_get (v := .int (iI (S 14 0))) (C := RX6) (T := TX6) (N := 32) hx hb hts inX6 hown hK hM.1 rfl 14 (by decide) (hts (.fieldLink RX6 116 "TavernBenchModel" "houses" "I") (by decide +kernel)) (fun _ h9 => h9) rfl dX6_judged_17 ?_
    refine q_icmp_ge (tgt := 73) hx hb dX6_judged_20 (by decide) (by omega) (hI.R (by decide)) (fun c20 => ?_) (fun c20 => ?_)
    · have ei : i = (S 14 0).toNat := by omega
      rw [ei] at hi2
      refine lv_iconst (v := iI 0) hx hb dX6_judged_73 rfl ?_
      refine lv_istore (lv' := [(5, .int (iI 0)), (0, .ref (mad 0)), (1, .int (iI x)), (2, .int (iI y)), (3, .int (iI no)), (4, .int (iI se))]) hx hb dX6_judged_74 hl (by decide) rfl (fun ls hl => ?_)
      refine lv_iconst (v := iI 0) hx hb dX6_judged_76 rfl ?_
      refine lv_istore (lv' := [(6, .int (iI 0)), (5, .int (iI 0)), (0, .ref (mad 0)), (1, .int (iI x)), (2, .int (iI y)), (3, .int (iI no)), (4, .int (iI se))]) hx hb dX6_judged_77 hl (by decide) rfl (fun ls hl => ?_)
      have e0 : (sHeard S x y 0 : Int) = 0 := by
        rfl
      have e1 : (((0 : Nat) : Int) : Int) = 0 := by
        rfl
      refine q_loopN (nL := 7) ((S 10 0).toNat) (fun (j : Nat) => [(0, .ref (mad 0)), (1, .int (iI x)), (2, .int (iI y)), (3, .int (iI no)), (4, .int (iI se)), (5, .int (iI (sHeard S x y j))), (6, .int (iI ((j : Nat) : Int)))]) (lv_sub hl [2, 3, 4, 5, 6, 1, 0] (by simp only [e0, e1]; rfl)) (fun j hj ihj ls hl => ?_)
      have hl : lv_has ls 7 [(0, .ref (mad 0)), (1, .int (iI x)), (2, .int (iI y)), (3, .int (iI no)), (4, .int (iI se)), (5, .int (iI (sHeard S x y j))), (6, .int (iI ((j : Nat) : Int)))] := hl
      refine lv_iload hx hb dX6_judged_79 (lv_at hl 6 rfl) ?_
      refine lv_aload_n hx hb dX6_judged_81 rfl (lv_at hl 0 rfl) ?_
      refine q_get (v := .int (iI (S 10 0))) (C := RX6) (T := TX6) (N := 32) hx hb hts inX6 hown hK hM.1 rfl 10 (by decide) (hts (.fieldLink RX6 113 "TavernBenchModel" "objectors" "I") (by decide +kernel)) (fun _ h9 => h9) rfl dX6_judged_82 ?_
      refine q_icmp_ge (tgt := 141) hx hb dX6_judged_85 (by decide) (by omega) (hI.R (by decide)) (fun c85 => ?_) (fun c85 => ?_)
      · have e0 : (sHeard S x y (S 10 0).toNat : Int) = sHeard S x y j := by
          have ej : j = (S 10 0).toNat := by omega
          rw [ej]
        have hl : lv_has ls 7 [(0, .ref (mad 0)), (1, .int (iI x)), (2, .int (iI y)), (3, .int (iI no)), (4, .int (iI se)), (5, .int (iI (sHeard S x y (S 10 0).toNat))), (6, .int (iI ((j : Nat) : Int)))] := (lv_sub hl [0, 1, 2, 3, 4, 5, 6] (by simp only [e0]; rfl))
        have ej : j = (S 10 0).toNat := by omega
        rw [ej] at hl
        have hsb := sHeard_b hI x y
        refine lv_iload hx hb dX6_judged_141 (lv_at hl 5 rfl) ?_
        refine q_bipush hx hb 10 dX6_judged_143 (by decide +kernel) ?_
        refine q_icmp_le (tgt := 152) hx hb dX6_judged_145 (by decide) (by omega) (by decide) (fun c145 => ?_) (fun c145 => ?_)
        · refine lv_iconst (v := iI 0) hx hb dX6_judged_152 rfl ?_
          refine q_reti hx hb hr hlocks dX6_judged_153 ?_
          show _ = sJudge S x y no se
          unfold sJudge
          rw [cI_f (by omega), cI_f hi2.2]
          first | rw [cI_t (by omega)] | rw [cI_f (by omega)]
        · refine lv_iconst (v := iI 3) hx hb dX6_judged_148 rfl ?_
          refine lv_goto (tgt := 153) hx hb dX6_judged_149 (by decide) ?_
          refine q_reti hx hb hr hlocks dX6_judged_153 ?_
          show _ = sJudge S x y no se
          unfold sJudge
          rw [cI_f (by omega), cI_f hi2.2]
          first | rw [cI_t (by omega)] | rw [cI_f (by omega)]
      · have hO := hI.obj (j := ((j : Nat) : Int)) (by omega) (by omega)
        have ho := off2_b (x2 := S 11 ((j : Nat) : Int)) (y2 := S 12 ((j : Nat) : Int)) hp ⟨hO.1, hO.2.1⟩
        refine lv_iload hx hb dX6_judged_88 (lv_at hl 5 rfl) ?_
        refine lv_iload_n hx hb dX6_judged_90 rfl (lv_at hl 1 rfl) ?_
        refine lv_iload_n hx hb dX6_judged_91 rfl (lv_at hl 2 rfl) ?_
        refine lv_aload_n hx hb dX6_judged_92 rfl (lv_at hl 0 rfl) ?_
        refine q_get (v := .ref (mad 11)) (C := RX6) (T := TX6) (N := 32) hx hb hts inX6 hown hK hM.1 rfl 11 (by decide) (hts (.fieldLink RX6 35 "TavernBenchModel" "ox" "[I") (by decide +kernel)) (fun _ h9 => h9) rfl dX6_judged_93 ?_
        refine lv_iload hx hb dX6_judged_96 (lv_at hl 6 rfl) ?_
        refine q_mld hx hb hK hM 11 20 ⟨by decide, by decide, by decide⟩ rfl ⟨by omega, by omega⟩ dX6_judged_98 ?_
        refine lv_aload_n hx hb dX6_judged_99 rfl (lv_at hl 0 rfl) ?_
        refine q_get (v := .ref (mad 12)) (C := RX6) (T := TX6) (N := 32) hx hb hts inX6 hown hK hM.1 rfl 12 (by decide) (hts (.fieldLink RX6 38 "TavernBenchModel" "oy" "[I") (by decide +kernel)) (fun _ h9 => h9) rfl dX6_judged_100 ?_
        refine lv_iload hx hb dX6_judged_103 (lv_at hl 6 rfl) ?_
        refine q_mld hx hb hK hM 12 20 ⟨by decide, by decide, by decide⟩ rfl ⟨by omega, by omega⟩ dX6_judged_105 ?_
        refine q_cSi (As := [.int (iI x), .int (iI y), .int (iI (S 11 ((j : Nat) : Int))), .int (iI (S 12 ((j : Nat) : Int)))]) (rest := [.int (iI (sHeard S x y j))]) ⟨hx, hb, hml, hown, hts⟩ (c6_off l g x y (S 11 ((j : Nat) : Int)) (S 12 ((j : Nat) : Int)) r_x r_y (hI.R (by decide)) (hI.R (by decide)) ) (va_cwS 4 hts gX6_judged_X6_off rfl rfl rfl (by decide +kernel) ⟨Nat.le_of_ble_eq_true rfl, Nat.le_of_ble_eq_true rfl⟩) (q_pS hK trivial) rfl hl.1 rfl (Nat.le_of_ble_eq_true rfl) ⟨Nat.zero_le _, Nat.zero_le _⟩ dX6_judged_106 ?_
        refine lv_aload_n hx hb dX6_judged_109 rfl (lv_at hl 0 rfl) ?_
        refine q_get (v := .int (iI (S 9 0))) (C := RX6) (T := TX6) (N := 32) hx hb hts inX6 hown hK hM.1 rfl 9 (by decide) (hts (.fieldLink RX6 32 "TavernBenchModel" "heard" "I") (by decide +kernel)) (fun _ h9 => h9) rfl dX6_judged_110 ?_
        refine lv_aload_n hx hb dX6_judged_113 rfl (lv_at hl 0 rfl) ?_
        refine q_get (v := .int (iI (S 9 0))) (C := RX6) (T := TX6) (N := 32) hx hb hts inX6 hown hK hM.1 rfl 9 (by decide) (hts (.fieldLink RX6 32 "TavernBenchModel" "heard" "I") (by decide +kernel)) (fun _ h9 => h9) rfl dX6_judged_114 ?_
        refine q_imul hx hb dX6_judged_117 ?_
        refine q_icmp_gt (tgt := 131) hx hb dX6_judged_118 (by decide) (by omega) (by omega) (fun c118 => ?_) (fun c118 => ?_)
        · refine lv_iconst (v := iI 0) hx hb dX6_judged_131 rfl ?_
          refine q_iadd hx hb dX6_judged_132 ?_
          refine lv_istore (lv' := [(5, .int (iI ((sHeard S x y j) + 0))), (0, .ref (mad 0)), (1, .int (iI x)), (2, .int (iI y)), (3, .int (iI no)), (4, .int (iI se)), (6, .int (iI ((j : Nat) : Int)))]) hx hb dX6_judged_133 hl (by decide) rfl (fun ls hl => ?_)
          refine lv_iinc (v := iI (((j : Nat) : Int) + 1)) (lv' := [(6, .int (iI (((j : Nat) : Int) + 1))), (5, .int (iI ((sHeard S x y j) + 0))), (0, .ref (mad 0)), (1, .int (iI x)), (2, .int (iI y)), (3, .int (iI no)), (4, .int (iI se))]) hx hb dX6_judged_135 hl (k := 6) rfl (iI_add _ _) (by decide) rfl (fun ls hl => ?_)
          refine lv_goto (tgt := 79) hx hb dX6_judged_138 (by decide) ?_
          have e0 : (sHeard S x y (j + 1) : Int) = (sHeard S x y j) + 0 := by
            show sHeard S x y j + cI _ _ _ = _
            first | rw [cI_t (by assumption)] | rw [cI_f (by omega)]
          have e1 : ((((j + 1) : Nat) : Int) : Int) = ((j : Nat) : Int) + 1 := by
            omega
          exact ihj (by omega) ls (lv_sub hl [2, 3, 4, 5, 6, 1, 0] (by simp only [e0, e1]; rfl))
        · refine lv_aload_n hx hb dX6_judged_121 rfl (lv_at hl 0 rfl) ?_
          refine q_get (v := .ref (mad 13)) (C := RX6) (T := TX6) (N := 32) hx hb hts inX6 hown hK hM.1 rfl 13 (by decide) (hts (.fieldLink RX6 41 "TavernBenchModel" "ow" "[I") (by decide +kernel)) (fun _ h9 => h9) rfl dX6_judged_122 ?_
          refine lv_iload hx hb dX6_judged_125 (lv_at hl 6 rfl) ?_
          refine q_mld hx hb hK hM 13 20 ⟨by decide, by decide, by decide⟩ rfl ⟨by omega, by omega⟩ dX6_judged_127 ?_
          refine lv_goto (tgt := 132) hx hb dX6_judged_128 (by decide) ?_
          refine q_iadd hx hb dX6_judged_132 ?_
          refine lv_istore (lv' := [(5, .int (iI ((sHeard S x y j) + (S 13 ((j : Nat) : Int))))), (0, .ref (mad 0)), (1, .int (iI x)), (2, .int (iI y)), (3, .int (iI no)), (4, .int (iI se)), (6, .int (iI ((j : Nat) : Int)))]) hx hb dX6_judged_133 hl (by decide) rfl (fun ls hl => ?_)
          refine lv_iinc (v := iI (((j : Nat) : Int) + 1)) (lv' := [(6, .int (iI (((j : Nat) : Int) + 1))), (5, .int (iI ((sHeard S x y j) + (S 13 ((j : Nat) : Int))))), (0, .ref (mad 0)), (1, .int (iI x)), (2, .int (iI y)), (3, .int (iI no)), (4, .int (iI se))]) hx hb dX6_judged_135 hl (k := 6) rfl (iI_add _ _) (by decide) rfl (fun ls hl => ?_)
          refine lv_goto (tgt := 79) hx hb dX6_judged_138 (by decide) ?_
          have e0 : (sHeard S x y (j + 1) : Int) = (sHeard S x y j) + (S 13 ((j : Nat) : Int)) := by
            show sHeard S x y j + cI _ _ _ = _
            first | rw [cI_t (by assumption)] | rw [cI_f (by omega)]
          have e1 : ((((j + 1) : Nat) : Int) : Int) = ((j : Nat) : Int) + 1 := by
            omega
          exact ihj (by omega) ls (lv_sub hl [2, 3, 4, 5, 6, 1, 0] (by simp only [e0, e1]; rfl))
    · have hH := hI.house (h := ((i : Nat) : Int)) (by omega) (by omega)
      refine lv_aload_n hx hb dX6_judged_23 rfl (lv_at hl 0 rfl) ?_
      refine lv_iload hx hb dX6_judged_24 (lv_at hl 5 rfl) ?_
      refine lv_iload hx hb dX6_judged_26 (lv_at hl 4 rfl) ?_
      refine q_cVi (As := [.int (iI ((i : Nat) : Int)), .int (iI se)]) (rest := []) ⟨hx, hb, hml, hown, hts⟩ (c6_has l g mad S hI ((i : Nat) : Int) se (by omega) r_se (⟨by omega, by omega⟩)) (cwV 2 hts gX6_judged_X6_has rfl rfl rfl (by decide +kernel) ⟨Nat.le_of_ble_eq_true rfl, Nat.le_of_ble_eq_true rfl⟩) (q_pV hK hM.1 rfl hM) rfl hl.1 rfl (Nat.le_of_ble_eq_true rfl) ⟨Nat.zero_le _, Nat.zero_le _⟩ dX6_judged_28 ?_
      refine q_ifb_eq (tgt := 67) hx hb dX6_judged_31 (by decide) (fun c31 => ?_) (fun c31 => ?_)
      · refine lv_iinc (v := iI (((i : Nat) : Int) + 1)) (lv' := [(5, .int (iI (((i : Nat) : Int) + 1))), (0, .ref (mad 0)), (1, .int (iI x)), (2, .int (iI y)), (3, .int (iI no)), (4, .int (iI se))]) hx hb dX6_judged_67 hl (k := 5) rfl (iI_add _ _) (by decide) rfl (fun ls hl => ?_)
        refine lv_goto (tgt := 14) hx hb dX6_judged_70 (by decide) ?_
        have e0 : ((((i + 1) : Nat) : Int) : Int) = ((i : Nat) : Int) + 1 := by
          omega
        exact ihi (i + 1) ⟨by omega, fun z => (exN_s.mp z).elim hi2.2 (fun y => by first | exact absurd y.1 (by assumption) | (have y2 := y.2; omega))⟩ (by show (S 14 0).toNat - (i + 1) < (S 14 0).toNat - i; omega) ls (lv_sub hl [1, 2, 3, 4, 5, 0] (by simp only [e0]; rfl))
      · have ho := off2_b (x2 := S 15 ((i : Nat) : Int)) (y2 := S 16 ((i : Nat) : Int)) hp ⟨hH.1.1, hH.1.2.1⟩
        refine lv_iload_n hx hb dX6_judged_34 rfl (lv_at hl 1 rfl) ?_
        refine lv_iload_n hx hb dX6_judged_35 rfl (lv_at hl 2 rfl) ?_
        refine lv_aload_n hx hb dX6_judged_36 rfl (lv_at hl 0 rfl) ?_
        refine q_get (v := .ref (mad 15)) (C := RX6) (T := TX6) (N := 32) hx hb hts inX6 hown hK hM.1 rfl 15 (by decide) (hts (.fieldLink RX6 44 "TavernBenchModel" "hx" "[I") (by decide +kernel)) (fun _ h9 => h9) rfl dX6_judged_37 ?_
        refine lv_iload hx hb dX6_judged_40 (lv_at hl 5 rfl) ?_
        refine q_mld hx hb hK hM 15 30 ⟨by decide, by decide, by decide⟩ rfl ⟨by omega, by omega⟩ dX6_judged_42 ?_
        refine lv_aload_n hx hb dX6_judged_43 rfl (lv_at hl 0 rfl) ?_
        refine q_get (v := .ref (mad 16)) (C := RX6) (T := TX6) (N := 32) hx hb hts inX6 hown hK hM.1 rfl 16 (by decide) (hts (.fieldLink RX6 47 "TavernBenchModel" "hy" "[I") (by decide +kernel)) (fun _ h9 => h9) rfl dX6_judged_44 ?_
        refine lv_iload hx hb dX6_judged_47 (lv_at hl 5 rfl) ?_
        refine q_mld hx hb hK hM 16 30 ⟨by decide, by decide, by decide⟩ rfl ⟨by omega, by omega⟩ dX6_judged_49 ?_
        refine q_cSi (As := [.int (iI x), .int (iI y), .int (iI (S 15 ((i : Nat) : Int))), .int (iI (S 16 ((i : Nat) : Int)))]) (rest := []) ⟨hx, hb, hml, hown, hts⟩ (c6_off l g x y (S 15 ((i : Nat) : Int)) (S 16 ((i : Nat) : Int)) r_x r_y (hI.R (by decide)) (hI.R (by decide)) ) (va_cwS 4 hts gX6_judged_X6_off rfl rfl rfl (by decide +kernel) ⟨Nat.le_of_ble_eq_true rfl, Nat.le_of_ble_eq_true rfl⟩) (q_pS hK trivial) rfl hl.1 rfl (Nat.le_of_ble_eq_true rfl) ⟨Nat.zero_le _, Nat.zero_le _⟩ dX6_judged_50 ?_
        refine lv_aload_n hx hb dX6_judged_53 rfl (lv_at hl 0 rfl) ?_
        refine q_get (v := .int (iI (S 8 0))) (C := RX6) (T := TX6) (N := 32) hx hb hts inX6 hown hK hM.1 rfl 8 (by decide) (hts (.fieldLink RX6 28 "TavernBenchModel" "near" "I") (by decide +kernel)) (fun _ h9 => h9) rfl dX6_judged_54 ?_
        refine lv_aload_n hx hb dX6_judged_57 rfl (lv_at hl 0 rfl) ?_
        refine q_get (v := .int (iI (S 8 0))) (C := RX6) (T := TX6) (N := 32) hx hb hts inX6 hown hK hM.1 rfl 8 (by decide) (hts (.fieldLink RX6 28 "TavernBenchModel" "near" "I") (by decide +kernel)) (fun _ h9 => h9) rfl dX6_judged_58 ?_
        refine q_imul hx hb dX6_judged_61 ?_
        refine q_icmp_ge (tgt := 67) hx hb dX6_judged_62 (by decide) (by omega) (by omega) (fun c62 => ?_) (fun c62 => ?_)
        · refine lv_iinc (v := iI (((i : Nat) : Int) + 1)) (lv' := [(5, .int (iI (((i : Nat) : Int) + 1))), (0, .ref (mad 0)), (1, .int (iI x)), (2, .int (iI y)), (3, .int (iI no)), (4, .int (iI se))]) hx hb dX6_judged_67 hl (k := 5) rfl (iI_add _ _) (by decide) rfl (fun ls hl => ?_)
          refine lv_goto (tgt := 14) hx hb dX6_judged_70 (by decide) ?_
          have e0 : ((((i + 1) : Nat) : Int) : Int) = ((i : Nat) : Int) + 1 := by
            omega
          exact ihi (i + 1) ⟨by omega, fun z => (exN_s.mp z).elim hi2.2 (fun y => by first | exact absurd y.1 (by assumption) | (have y2 := y.2; omega))⟩ (by show (S 14 0).toNat - (i + 1) < (S 14 0).toNat - i; omega) ls (lv_sub hl [1, 2, 3, 4, 5, 0] (by simp only [e0]; rfl))
        · refine lv_iconst (v := iI 2) hx hb dX6_judged_65 rfl ?_
          refine q_reti hx hb hr hlocks dX6_judged_66 ?_
          show _ = sJudge S x y no se
          unfold sJudge
          rw [cI_f (by omega), cI_t ⟨i, by omega, by assumption, by assumption⟩]
  · refine lv_iconst (v := iI 1) hx hb dX6_judged_9 rfl ?_
    refine q_reti hx hb hr hlocks dX6_judged_10 ?_
    show _ = sJudge S x y no se
    unfold sJudge
    rw [cI_t (by omega)]

set_option maxHeartbeats 4000000 in
set_option maxRecDepth 100000 in
theorem c6_many (l : Launch) (g : GG) (mad : Nat → Nat) (S : St) (hI : Inv S) (day : Int) (a : Int) (r_day : R32 day) (r_a : R32 a)  : MetI l yX6_many wsX6_many ({ frames := 4, cells := 0, slots := 0, locals := 99 }) g [.ref (mad 0), .int (iI day), .int (iI a)] (fun H => RepM g mad S H) (sMany S day a (S 14 0).toNat) := by
  refine Met.ofW (cc := cX6_many) (maxL := 5) (ret := (some .int)) (by decide) rfl ?_
  intro p e s m args below meth c s₁ B hml hv
  obtain ⟨rfl, hM, hK⟩ := hv
  have hx := B.exec
  have hb := B.bytes
  have hr := B.returns
  have hts := atoms_spec (ws := wsX6_many) B.pre
  have hown : s.vm.findClass RX6 = some m.cls := findClass_of_methodNamed B.named
  have hlocks := B.notSynchronized
  have inX6 : ∀ w ∈ wsX60, w ∈ wsX6_many := by decide +kernel
  have hl := lv_entry ([.ref (mad 0), .int (iI day), .int (iI a)]) (n := 5) (Nat.le_of_ble_eq_true rfl)
  rw [lg_entry_eq]
  generalize (lg_sl ([.ref (mad 0), .int (iI day), .int (iI a)]) ++ List.replicate (5 - (lg_sl ([.ref (mad 0), .int (iI day), .int (iI a)])).length) Slot.unset).toArray = ls at hl ⊢
  have hl : lv_has ls 5 [(0, .ref (mad 0)), (1, .int (iI day)), (2, .int (iI a))] := hl
  have hN := hI.nums
  refine lv_iconst (v := iI 0) hx hb dX6_many_0 rfl ?_
  refine lv_istore_n (lv' := [(3, .int (iI 0)), (0, .ref (mad 0)), (1, .int (iI day)), (2, .int (iI a))]) hx hb dX6_many_1 rfl hl (by decide) rfl (fun ls hl => ?_)
  refine lv_iconst (v := iI 0) hx hb dX6_many_2 rfl ?_
  refine lv_istore (lv' := [(4, .int (iI 0)), (3, .int (iI 0)), (0, .ref (mad 0)), (1, .int (iI day)), (2, .int (iI a))]) hx hb dX6_many_3 hl (by decide) rfl (fun ls hl => ?_)
  have e0 : (sMany S day a 0 : Int) = 0 := by
    rfl
  have e1 : (((0 : Nat) : Int) : Int) = 0 := by
    rfl
  refine q_loopN (nL := 5) ((S 14 0).toNat) (fun (i : Nat) => [(0, .ref (mad 0)), (1, .int (iI day)), (2, .int (iI a)), (3, .int (iI (sMany S day a i))), (4, .int (iI ((i : Nat) : Int)))]) (lv_sub hl [2, 3, 4, 1, 0] (by simp only [e0, e1]; rfl)) (fun i hi ihi ls hl => ?_)
  have hl : lv_has ls 5 [(0, .ref (mad 0)), (1, .int (iI day)), (2, .int (iI a)), (3, .int (iI (sMany S day a i))), (4, .int (iI ((i : Nat) : Int)))] := hl
  refine lv_iload hx hb dX6_many_5 (lv_at hl 4 rfl) ?_
  refine lv_aload_n hx hb dX6_many_7 rfl (lv_at hl 0 rfl) ?_
  refine q_get (v := .int (iI (S 14 0))) (C := RX6) (T := TX6) (N := 32) hx hb hts inX6 hown hK hM.1 rfl 14 (by decide) (hts (.fieldLink RX6 116 "TavernBenchModel" "houses" "I") (by decide +kernel)) (fun _ h9 => h9) rfl dX6_many_8 ?_
  refine q_icmp_ge (tgt := 52) hx hb dX6_many_11 (by decide) (by omega) (hI.R (by decide)) (fun c11 => ?_) (fun c11 => ?_)
  · refine lv_iload_n hx hb dX6_many_52 rfl (lv_at hl 3 rfl) ?_
    refine q_reti hx hb hr hlocks dX6_many_53 ?_
    have e : i = (S 14 0).toNat := by omega
    rw [e]
  · have hH := hI.house (h := ((i : Nat) : Int)) (by omega) (by omega)
    refine lv_iload_n hx hb dX6_many_14 rfl (lv_at hl 3 rfl) ?_
    refine lv_aload_n hx hb dX6_many_15 rfl (lv_at hl 0 rfl) ?_
    refine lv_iload hx hb dX6_many_16 (lv_at hl 4 rfl) ?_
    refine lv_iload_n hx hb dX6_many_18 rfl (lv_at hl 1 rfl) ?_
    refine q_cVi (As := [.int (iI ((i : Nat) : Int)), .int (iI day)]) (rest := [.int (iI (sMany S day a i))]) ⟨hx, hb, hml, hown, hts⟩ (c6_has l g mad S hI ((i : Nat) : Int) day (by omega) r_day (⟨by omega, by omega⟩)) (cwV 2 hts gX6_many_X6_has rfl rfl rfl (by decide +kernel) ⟨Nat.le_of_ble_eq_true rfl, Nat.le_of_ble_eq_true rfl⟩) (q_pV hK hM.1 rfl hM) rfl hl.1 rfl (Nat.le_of_ble_eq_true rfl) ⟨Nat.zero_le _, Nat.zero_le _⟩ dX6_many_19 ?_
    refine q_ifb_eq (tgt := 43) hx hb dX6_many_22 (by decide) (fun c22 => ?_) (fun c22 => ?_)
    · refine lv_iconst (v := iI 0) hx hb dX6_many_43 rfl ?_
      refine q_iadd hx hb dX6_many_44 ?_
      refine lv_istore_n (lv' := [(3, .int (iI ((sMany S day a i) + 0))), (0, .ref (mad 0)), (1, .int (iI day)), (2, .int (iI a)), (4, .int (iI ((i : Nat) : Int)))]) hx hb dX6_many_45 rfl hl (by decide) rfl (fun ls hl => ?_)
      refine lv_iinc (v := iI (((i : Nat) : Int) + 1)) (lv' := [(4, .int (iI (((i : Nat) : Int) + 1))), (3, .int (iI ((sMany S day a i) + 0))), (0, .ref (mad 0)), (1, .int (iI day)), (2, .int (iI a))]) hx hb dX6_many_46 hl (k := 4) rfl (iI_add _ _) (by decide) rfl (fun ls hl => ?_)
      refine lv_goto (tgt := 5) hx hb dX6_many_49 (by decide) ?_
      have e0 : (sMany S day a (i + 1) : Int) = (sMany S day a i) + 0 := by
        first | exact cnt_1 ⟨by assumption, Or.inl (by assumption)⟩ | exact cnt_1 ⟨by assumption, Or.inr (by assumption)⟩ | exact cnt_0 (fun z => absurd z.1 (by assumption)) | exact cnt_0 (fun z => z.2.elim (fun y => y (by assumption)) (fun y => absurd y (by assumption)))
      have e1 : ((((i + 1) : Nat) : Int) : Int) = ((i : Nat) : Int) + 1 := by
        omega
      exact ihi (by omega) ls (lv_sub hl [2, 3, 4, 1, 0] (by simp only [e0, e1]; rfl))
    · refine lv_iload_n hx hb dX6_many_25 rfl (lv_at hl 2 rfl) ?_
      refine q_if_ne (tgt := 39) hx hb dX6_many_26 (by decide) r_a (fun c26 => ?_) (fun c26 => ?_)
      · refine lv_iconst (v := iI 1) hx hb dX6_many_39 rfl ?_
        refine lv_goto (tgt := 44) hx hb dX6_many_40 (by decide) ?_
        refine q_iadd hx hb dX6_many_44 ?_
        refine lv_istore_n (lv' := [(3, .int (iI ((sMany S day a i) + 1))), (0, .ref (mad 0)), (1, .int (iI day)), (2, .int (iI a)), (4, .int (iI ((i : Nat) : Int)))]) hx hb dX6_many_45 rfl hl (by decide) rfl (fun ls hl => ?_)
        refine lv_iinc (v := iI (((i : Nat) : Int) + 1)) (lv' := [(4, .int (iI (((i : Nat) : Int) + 1))), (3, .int (iI ((sMany S day a i) + 1))), (0, .ref (mad 0)), (1, .int (iI day)), (2, .int (iI a))]) hx hb dX6_many_46 hl (k := 4) rfl (iI_add _ _) (by decide) rfl (fun ls hl => ?_)
        refine lv_goto (tgt := 5) hx hb dX6_many_49 (by decide) ?_
        have e0 : (sMany S day a (i + 1) : Int) = (sMany S day a i) + 1 := by
          first | exact cnt_1 ⟨by assumption, Or.inl (by assumption)⟩ | exact cnt_1 ⟨by assumption, Or.inr (by assumption)⟩ | exact cnt_0 (fun z => absurd z.1 (by assumption)) | exact cnt_0 (fun z => z.2.elim (fun y => y (by assumption)) (fun y => absurd y (by assumption)))
        have e1 : ((((i + 1) : Nat) : Int) : Int) = ((i : Nat) : Int) + 1 := by
          omega
        exact ihi (by omega) ls (lv_sub hl [2, 3, 4, 1, 0] (by simp only [e0, e1]; rfl))
      · refine lv_aload_n hx hb dX6_many_29 rfl (lv_at hl 0 rfl) ?_
        refine q_get (v := .ref (mad 26)) (C := RX6) (T := TX6) (N := 32) hx hb hts inX6 hown hK hM.1 rfl 26 (by decide) (hts (.fieldLink RX6 77 "TavernBenchModel" "isVisited" "[Z") (by decide +kernel)) (fun _ h9 => h9) rfl dX6_many_30 ?_
        refine lv_iload hx hb dX6_many_33 (lv_at hl 4 rfl) ?_
        refine q_mldz hx hb hK hM ⟨by omega, by omega⟩ dX6_many_35 ?_
        refine q_if_ne (tgt := 43) hx hb dX6_many_36 (by decide) (by omega) (fun c36 => ?_) (fun c36 => ?_)
        · refine lv_iconst (v := iI 0) hx hb dX6_many_43 rfl ?_
          refine q_iadd hx hb dX6_many_44 ?_
          refine lv_istore_n (lv' := [(3, .int (iI ((sMany S day a i) + 0))), (0, .ref (mad 0)), (1, .int (iI day)), (2, .int (iI a)), (4, .int (iI ((i : Nat) : Int)))]) hx hb dX6_many_45 rfl hl (by decide) rfl (fun ls hl => ?_)
          refine lv_iinc (v := iI (((i : Nat) : Int) + 1)) (lv' := [(4, .int (iI (((i : Nat) : Int) + 1))), (3, .int (iI ((sMany S day a i) + 0))), (0, .ref (mad 0)), (1, .int (iI day)), (2, .int (iI a))]) hx hb dX6_many_46 hl (k := 4) rfl (iI_add _ _) (by decide) rfl (fun ls hl => ?_)
          refine lv_goto (tgt := 5) hx hb dX6_many_49 (by decide) ?_
          have e0 : (sMany S day a (i + 1) : Int) = (sMany S day a i) + 0 := by
            first | exact cnt_1 ⟨by assumption, Or.inl (by assumption)⟩ | exact cnt_1 ⟨by assumption, Or.inr (by assumption)⟩ | exact cnt_0 (fun z => absurd z.1 (by assumption)) | exact cnt_0 (fun z => z.2.elim (fun y => y (by assumption)) (fun y => absurd y (by assumption)))
          have e1 : ((((i + 1) : Nat) : Int) : Int) = ((i : Nat) : Int) + 1 := by
            omega
          exact ihi (by omega) ls (lv_sub hl [2, 3, 4, 1, 0] (by simp only [e0, e1]; rfl))
        · refine lv_iconst (v := iI 1) hx hb dX6_many_39 rfl ?_
          refine lv_goto (tgt := 44) hx hb dX6_many_40 (by decide) ?_
          refine q_iadd hx hb dX6_many_44 ?_
          refine lv_istore_n (lv' := [(3, .int (iI ((sMany S day a i) + 1))), (0, .ref (mad 0)), (1, .int (iI day)), (2, .int (iI a)), (4, .int (iI ((i : Nat) : Int)))]) hx hb dX6_many_45 rfl hl (by decide) rfl (fun ls hl => ?_)
          refine lv_iinc (v := iI (((i : Nat) : Int) + 1)) (lv' := [(4, .int (iI (((i : Nat) : Int) + 1))), (3, .int (iI ((sMany S day a i) + 1))), (0, .ref (mad 0)), (1, .int (iI day)), (2, .int (iI a))]) hx hb dX6_many_46 hl (k := 4) rfl (iI_add _ _) (by decide) rfl (fun ls hl => ?_)
          refine lv_goto (tgt := 5) hx hb dX6_many_49 (by decide) ?_
          have e0 : (sMany S day a (i + 1) : Int) = (sMany S day a i) + 1 := by
            first | exact cnt_1 ⟨by assumption, Or.inl (by assumption)⟩ | exact cnt_1 ⟨by assumption, Or.inr (by assumption)⟩ | exact cnt_0 (fun z => absurd z.1 (by assumption)) | exact cnt_0 (fun z => z.2.elim (fun y => y (by assumption)) (fun y => absurd y (by assumption)))
          have e1 : ((((i + 1) : Nat) : Int) : Int) = ((i : Nat) : Int) + 1 := by
            omega
          exact ihi (by omega) ls (lv_sub hl [2, 3, 4, 1, 0] (by simp only [e0, e1]; rfl))

set_option maxHeartbeats 4000000 in
set_option maxRecDepth 100000 in
theorem c6_count (l : Launch) (g : GG) (mad : Nat → Nat) (S : St) (hI : Inv S) (what : Int) (r_what : R32 what)  : MetI l yX6_count wsX6_count ({ frames := 0, cells := 0, slots := 0, locals := 0 }) g [.ref (mad 0), .int (iI what)] (fun H => RepM g mad S H) (aCount S what) := by
  refine Met.ofW (cc := cX6_count) (maxL := 2) (ret := (some .int)) (by decide) rfl ?_
  intro p e s m args below meth c s₁ B hml hv
  obtain ⟨rfl, hM, hK⟩ := hv
  have hx := B.exec
  have hb := B.bytes
  have hr := B.returns
  have hts := atoms_spec (ws := wsX6_count) B.pre
  have hown : s.vm.findClass RX6 = some m.cls := findClass_of_methodNamed B.named
  have hlocks := B.notSynchronized
  have inX6 : ∀ w ∈ wsX60, w ∈ wsX6_count := by decide +kernel
  have hl := lv_entry ([.ref (mad 0), .int (iI what)]) (n := 2) (Nat.le_of_ble_eq_true rfl)
  rw [lg_entry_eq]
  generalize (lg_sl ([.ref (mad 0), .int (iI what)]) ++ List.replicate (2 - (lg_sl ([.ref (mad 0), .int (iI what)])).length) Slot.unset).toArray = ls at hl ⊢
  have hl : lv_has ls 2 [(0, .ref (mad 0)), (1, .int (iI what))] := hl
  refine lv_iload_n hx hb dX6_count_0 rfl (lv_at hl 1 rfl) ?_
  rcases (show what < 0 ∨ 5 < what ∨ what = 0 ∨ what = 1 ∨ what = 2 ∨ what = 3 ∨ what = 4 ∨ what = 5 by omega) with c1 | c1 | c1 | c1 | c1 | c1 | c1 | c1
  · refine q_tabOut (tgt := 70) hx hb dX6_count_1 r_what (Or.inl c1) (by decide) ?_
    refine lv_iconst (v := iI (-1)) hx hb dX6_count_70 rfl ?_
    refine q_reti hx hb hr hlocks dX6_count_71 ?_
    show _ = aCount S what
    unfold aCount
    first | rw [cI_t (by omega)] | rw [cI_f (by omega), cI_t (by omega)] | rw [cI_f (by omega), cI_f (by omega), cI_t (by omega)] | rw [cI_f (by omega), cI_f (by omega), cI_f (by omega), cI_t (by omega)] | rw [cI_f (by omega), cI_f (by omega), cI_f (by omega), cI_f (by omega), cI_t (by omega)] | rw [cI_f (by omega), cI_f (by omega), cI_f (by omega), cI_f (by omega), cI_f (by omega), cI_t (by omega)] | rw [cI_f (by omega), cI_f (by omega), cI_f (by omega), cI_f (by omega), cI_f (by omega), cI_f (by omega)]
  · refine q_tabOut (tgt := 70) hx hb dX6_count_1 r_what (Or.inr c1) (by decide) ?_
    refine lv_iconst (v := iI (-1)) hx hb dX6_count_70 rfl ?_
    refine q_reti hx hb hr hlocks dX6_count_71 ?_
    show _ = aCount S what
    unfold aCount
    first | rw [cI_t (by omega)] | rw [cI_f (by omega), cI_t (by omega)] | rw [cI_f (by omega), cI_f (by omega), cI_t (by omega)] | rw [cI_f (by omega), cI_f (by omega), cI_f (by omega), cI_t (by omega)] | rw [cI_f (by omega), cI_f (by omega), cI_f (by omega), cI_f (by omega), cI_t (by omega)] | rw [cI_f (by omega), cI_f (by omega), cI_f (by omega), cI_f (by omega), cI_f (by omega), cI_t (by omega)] | rw [cI_f (by omega), cI_f (by omega), cI_f (by omega), cI_f (by omega), cI_f (by omega), cI_f (by omega)]
  · refine q_tabIn (off := 39) (tgt := 40) (k := 0) hx hb dX6_count_1 r_what c1 (by decide) (by decide) (by decide +kernel) (by decide) ?_
    refine lv_aload_n hx hb dX6_count_40 rfl (lv_at hl 0 rfl) ?_
    refine q_get (v := .int (iI (S 14 0))) (C := RX6) (T := TX6) (N := 32) hx hb hts inX6 hown hK hM.1 rfl 14 (by decide) (hts (.fieldLink RX6 116 "TavernBenchModel" "houses" "I") (by decide +kernel)) (fun _ h9 => h9) rfl dX6_count_41 ?_
    refine q_reti hx hb hr hlocks dX6_count_44 ?_
    show _ = aCount S what
    unfold aCount
    first | rw [cI_t (by omega)] | rw [cI_f (by omega), cI_t (by omega)] | rw [cI_f (by omega), cI_f (by omega), cI_t (by omega)] | rw [cI_f (by omega), cI_f (by omega), cI_f (by omega), cI_t (by omega)] | rw [cI_f (by omega), cI_f (by omega), cI_f (by omega), cI_f (by omega), cI_t (by omega)] | rw [cI_f (by omega), cI_f (by omega), cI_f (by omega), cI_f (by omega), cI_f (by omega), cI_t (by omega)] | rw [cI_f (by omega), cI_f (by omega), cI_f (by omega), cI_f (by omega), cI_f (by omega), cI_f (by omega)]
  · refine q_tabIn (off := 44) (tgt := 45) (k := 1) hx hb dX6_count_1 r_what c1 (by decide) (by decide) (by decide +kernel) (by decide) ?_
    refine lv_aload_n hx hb dX6_count_45 rfl (lv_at hl 0 rfl) ?_
    refine q_get (v := .int (iI (S 2 0))) (C := RX6) (T := TX6) (N := 32) hx hb hts inX6 hown hK hM.1 rfl 2 (by decide) (hts (.fieldLink RX6 106 "TavernBenchModel" "laws" "I") (by decide +kernel)) (fun _ h9 => h9) rfl dX6_count_46 ?_
    refine q_reti hx hb hr hlocks dX6_count_49 ?_
    show _ = aCount S what
    unfold aCount
    first | rw [cI_t (by omega)] | rw [cI_f (by omega), cI_t (by omega)] | rw [cI_f (by omega), cI_f (by omega), cI_t (by omega)] | rw [cI_f (by omega), cI_f (by omega), cI_f (by omega), cI_t (by omega)] | rw [cI_f (by omega), cI_f (by omega), cI_f (by omega), cI_f (by omega), cI_t (by omega)] | rw [cI_f (by omega), cI_f (by omega), cI_f (by omega), cI_f (by omega), cI_f (by omega), cI_t (by omega)] | rw [cI_f (by omega), cI_f (by omega), cI_f (by omega), cI_f (by omega), cI_f (by omega), cI_f (by omega)]
  · refine q_tabIn (off := 49) (tgt := 50) (k := 2) hx hb dX6_count_1 r_what c1 (by decide) (by decide) (by decide +kernel) (by decide) ?_
    refine lv_aload_n hx hb dX6_count_50 rfl (lv_at hl 0 rfl) ?_
    refine q_get (v := .int (iI (S 0 0))) (C := RX6) (T := TX6) (N := 32) hx hb hts inX6 hown hK hM.1 rfl 0 (by decide) (hts (.fieldLink RX6 96 "TavernBenchModel" "feasts" "I") (by decide +kernel)) (fun _ h9 => h9) rfl dX6_count_51 ?_
    refine q_reti hx hb hr hlocks dX6_count_54 ?_
    show _ = aCount S what
    unfold aCount
    first | rw [cI_t (by omega)] | rw [cI_f (by omega), cI_t (by omega)] | rw [cI_f (by omega), cI_f (by omega), cI_t (by omega)] | rw [cI_f (by omega), cI_f (by omega), cI_f (by omega), cI_t (by omega)] | rw [cI_f (by omega), cI_f (by omega), cI_f (by omega), cI_f (by omega), cI_t (by omega)] | rw [cI_f (by omega), cI_f (by omega), cI_f (by omega), cI_f (by omega), cI_f (by omega), cI_t (by omega)] | rw [cI_f (by omega), cI_f (by omega), cI_f (by omega), cI_f (by omega), cI_f (by omega), cI_f (by omega)]
  · refine q_tabIn (off := 54) (tgt := 55) (k := 3) hx hb dX6_count_1 r_what c1 (by decide) (by decide) (by decide +kernel) (by decide) ?_
    refine lv_aload_n hx hb dX6_count_55 rfl (lv_at hl 0 rfl) ?_
    refine q_get (v := .int (iI (S 10 0))) (C := RX6) (T := TX6) (N := 32) hx hb hts inX6 hown hK hM.1 rfl 10 (by decide) (hts (.fieldLink RX6 113 "TavernBenchModel" "objectors" "I") (by decide +kernel)) (fun _ h9 => h9) rfl dX6_count_56 ?_
    refine q_reti hx hb hr hlocks dX6_count_59 ?_
    show _ = aCount S what
    unfold aCount
    first | rw [cI_t (by omega)] | rw [cI_f (by omega), cI_t (by omega)] | rw [cI_f (by omega), cI_f (by omega), cI_t (by omega)] | rw [cI_f (by omega), cI_f (by omega), cI_f (by omega), cI_t (by omega)] | rw [cI_f (by omega), cI_f (by omega), cI_f (by omega), cI_f (by omega), cI_t (by omega)] | rw [cI_f (by omega), cI_f (by omega), cI_f (by omega), cI_f (by omega), cI_f (by omega), cI_t (by omega)] | rw [cI_f (by omega), cI_f (by omega), cI_f (by omega), cI_f (by omega), cI_f (by omega), cI_f (by omega)]
  · refine q_tabIn (off := 59) (tgt := 60) (k := 4) hx hb dX6_count_1 r_what c1 (by decide) (by decide) (by decide +kernel) (by decide) ?_
    refine lv_aload_n hx hb dX6_count_60 rfl (lv_at hl 0 rfl) ?_
    refine q_get (v := .int (iI (S 27 0))) (C := RX6) (T := TX6) (N := 32) hx hb hts inX6 hown hK hM.1 rfl 27 (by decide) (hts (.fieldLink RX6 178 "TavernBenchModel" "visits" "I") (by decide +kernel)) (fun _ h9 => h9) rfl dX6_count_61 ?_
    refine q_reti hx hb hr hlocks dX6_count_64 ?_
    show _ = aCount S what
    unfold aCount
    first | rw [cI_t (by omega)] | rw [cI_f (by omega), cI_t (by omega)] | rw [cI_f (by omega), cI_f (by omega), cI_t (by omega)] | rw [cI_f (by omega), cI_f (by omega), cI_f (by omega), cI_t (by omega)] | rw [cI_f (by omega), cI_f (by omega), cI_f (by omega), cI_f (by omega), cI_t (by omega)] | rw [cI_f (by omega), cI_f (by omega), cI_f (by omega), cI_f (by omega), cI_f (by omega), cI_t (by omega)] | rw [cI_f (by omega), cI_f (by omega), cI_f (by omega), cI_f (by omega), cI_f (by omega), cI_f (by omega)]
  · refine q_tabIn (off := 64) (tgt := 65) (k := 5) hx hb dX6_count_1 r_what c1 (by decide) (by decide) (by decide +kernel) (by decide) ?_
    refine lv_aload_n hx hb dX6_count_65 rfl (lv_at hl 0 rfl) ?_
    refine q_get (v := .int (iI (S 28 0))) (C := RX6) (T := TX6) (N := 32) hx hb hts inX6 hown hK hM.1 rfl 28 (by decide) (hts (.fieldLink RX6 130 "TavernBenchModel" "refused" "I") (by decide +kernel)) (fun _ h9 => h9) rfl dX6_count_66 ?_
    refine q_reti hx hb hr hlocks dX6_count_69 ?_
    show _ = aCount S what
    unfold aCount
    first | rw [cI_t (by omega)] | rw [cI_f (by omega), cI_t (by omega)] | rw [cI_f (by omega), cI_f (by omega), cI_t (by omega)] | rw [cI_f (by omega), cI_f (by omega), cI_f (by omega), cI_t (by omega)] | rw [cI_f (by omega), cI_f (by omega), cI_f (by omega), cI_f (by omega), cI_t (by omega)] | rw [cI_f (by omega), cI_f (by omega), cI_f (by omega), cI_f (by omega), cI_f (by omega), cI_t (by omega)] | rw [cI_f (by omega), cI_f (by omega), cI_f (by omega), cI_f (by omega), cI_f (by omega), cI_f (by omega)]

set_option maxHeartbeats 4000000 in
set_option maxRecDepth 100000 in
theorem c6_feast (l : Launch) (g : GG) (mad : Nat → Nat) (S : St) (hI : Inv S) (d : Int) (r_d : R32 d) (hi : mInj mad)  : MetM l yX6_feast wsX6_feast ({ frames := 2, cells := 0, slots := 0, locals := 42 }) g [.ref (mad 0), .int (iI d)] (fun H => RepM g mad S H) (aFeast S d) (fun H => RepM g mad (tFeast S d) H) (PM mad) 0 0 := by
  refine Met.ofW (cc := cX6_feast) (maxL := 2) (ret := (some .int)) (by decide) rfl ?_
  intro p e s m args below meth c s₁ B hml hv
  obtain ⟨rfl, hM, hK⟩ := hv
  have hx := B.exec
  have hb := B.bytes
  have hr := B.returns
  have hts := atoms_spec (ws := wsX6_feast) B.pre
  have hown : s.vm.findClass RX6 = some m.cls := findClass_of_methodNamed B.named
  have hlocks := B.notSynchronized
  have inX6 : ∀ w ∈ wsX60, w ∈ wsX6_feast := by decide +kernel
  have hl := lv_entry ([.ref (mad 0), .int (iI d)]) (n := 2) (Nat.le_of_ble_eq_true rfl)
  rw [lg_entry_eq]
  generalize (lg_sl ([.ref (mad 0), .int (iI d)]) ++ List.replicate (2 - (lg_sl ([.ref (mad 0), .int (iI d)])).length) Slot.unset).toArray = ls at hl ⊢
  have hl : lv_has ls 2 [(0, .ref (mad 0)), (1, .int (iI d))] := hl
  have hS : va_S (PM mad) s.heap s.heap [] := va_S.rf
  have hN := hI.nums
  refine lv_iload_n hx hb dX6_feast_0 rfl (lv_at hl 1 rfl) ?_
  refine q_cSi (As := [.int (iI d)]) (rest := []) ⟨hx, hb, hml, hown, hts⟩ (c6_isDay l g d r_d ) (va_cwS 1 hts gX6_feast_X6_isDay rfl rfl rfl (by decide +kernel) ⟨Nat.le_of_ble_eq_true rfl, Nat.le_of_ble_eq_true rfl⟩) (q_pS hK trivial) rfl hl.1 rfl (Nat.le_of_ble_eq_true rfl) ⟨Nat.zero_le _, Nat.zero_le _⟩ dX6_feast_1 ?_
  refine q_ifb_ne (tgt := 9) hx hb dX6_feast_4 (by decide) (fun c4 => ?_) (fun c4 => ?_)
  · refine lv_aload_n hx hb dX6_feast_9 rfl (lv_at hl 0 rfl) ?_
    refine lv_iload_n hx hb dX6_feast_10 rfl (lv_at hl 1 rfl) ?_
    refine q_cVi (As := [.int (iI d)]) (rest := []) ⟨hx, hb, hml, hown, hts⟩ (c6_isFeast l g mad S hI d r_d ) (cwV 1 hts gX6_feast_X6_isFeast rfl rfl rfl (by decide +kernel) ⟨Nat.le_of_ble_eq_true rfl, Nat.le_of_ble_eq_true rfl⟩) (q_pV hK hM.1 rfl hM) rfl hl.1 rfl (Nat.le_of_ble_eq_true rfl) ⟨Nat.zero_le _, Nat.zero_le _⟩ dX6_feast_11 ?_
    refine q_ifb_eq (tgt := 20) hx hb dX6_feast_14 (by decide) (fun c14 => ?_) (fun c14 => ?_)
    · refine lv_aload_n hx hb dX6_feast_20 rfl (lv_at hl 0 rfl) ?_
      refine q_get (v := .int (iI (S 0 0))) (C := RX6) (T := TX6) (N := 32) hx hb hts inX6 hown hK hM.1 rfl 0 (by decide) (hts (.fieldLink RX6 96 "TavernBenchModel" "feasts" "I") (by decide +kernel)) (fun _ h9 => h9) rfl dX6_feast_21 ?_
      refine q_bipush hx hb 20 dX6_feast_24 (by decide +kernel) ?_
      refine q_icmp_ne (tgt := 32) hx hb dX6_feast_26 (by decide) (hI.R (by decide)) (by decide) (fun c26 => ?_) (fun c26 => ?_)
      · refine lv_aload_n hx hb dX6_feast_32 rfl (lv_at hl 0 rfl) ?_
        refine q_get (v := .ref (mad 1)) (C := RX6) (T := TX6) (N := 32) hx hb hts inX6 hown hK hM.1 rfl 1 (by decide) (hts (.fieldLink RX6 7 "TavernBenchModel" "feast" "[I") (by decide +kernel)) (fun _ h9 => h9) rfl dX6_feast_33 ?_
        refine lv_aload_n hx hb dX6_feast_36 rfl (lv_at hl 0 rfl) ?_
        refine q_get (v := .int (iI (S 0 0))) (C := RX6) (T := TX6) (N := 32) hx hb hts inX6 hown hK hM.1 rfl 0 (by decide) (hts (.fieldLink RX6 96 "TavernBenchModel" "feasts" "I") (by decide +kernel)) (fun _ h9 => h9) rfl dX6_feast_37 ?_
        refine lv_iload_n hx hb dX6_feast_40 rfl (lv_at hl 1 rfl) ?_
        refine q_mst hx hb hK hM hi hS 1 20 ⟨1, by decide, Or.inr (by decide), rfl⟩ ⟨by decide, by decide, by decide⟩ (S 0 0) d (fun _ => rfl) rfl ⟨by omega, by omega⟩ dX6_feast_41 (fun H locs hM hS => ?_)
        refine lv_aload_n hx hb dX6_feast_42 rfl (lv_at hl 0 rfl) ?_
        refine lv_dup hx hb dX6_feast_43 rfl ?_
        refine q_get (v := .int (iI (S 0 0))) (C := RX6) (T := TX6) (N := 32) hx hb hts inX6 hown hK hM.1 rfl 0 (by decide) (hts (.fieldLink RX6 96 "TavernBenchModel" "feasts" "I") (by decide +kernel)) (fun _ h9 => h9) rfl dX6_feast_44 ?_
        refine lv_iconst (v := iI 1) hx hb dX6_feast_47 rfl ?_
        refine q_iadd hx hb dX6_feast_48 ?_
        refine q_mput hx hb hts inX6 hown hK hM hi hS ⟨0, by decide, Or.inl rfl, rfl⟩ 0 (by decide) rfl (hts (.fieldLink RX6 96 "TavernBenchModel" "feasts" "I") (by decide +kernel)) (fun _ h9 => h9) rfl (by decide +kernel) ((S 0 0) + 1) rfl dX6_feast_49 (fun H locs hM hS => ?_)
        refine lv_aload_n hx hb dX6_feast_52 rfl (lv_at hl 0 rfl) ?_
        refine q_get (v := .int (iI ((S 0 0) + 1))) (C := RX6) (T := TX6) (N := 32) hx hb hts inX6 hown hK hM.1 rfl 0 (by decide) (hts (.fieldLink RX6 96 "TavernBenchModel" "feasts" "I") (by decide +kernel)) (fun _ h9 => h9) rfl dX6_feast_53 ?_
        refine q_mreti hx hb hr hlocks hS dX6_feast_56 ?_ ?_
        · show _ = aFeast S d
          unfold aFeast
          rw [cI_t (by omega), cI_f (by assumption), cI_f (by omega)]
        · unfold tFeast
          rw [cI_t ⟨by omega, by assumption, by omega⟩]
          exact hM
      · refine q_bipush hx hb (-3) dX6_feast_29 (by decide +kernel) ?_
        refine q_mreti hx hb hr hlocks hS dX6_feast_31 ?_ ?_
        · show _ = aFeast S d
          unfold aFeast
          rw [cI_t (by omega), cI_f (by assumption), cI_t (by omega)]
        · unfold tFeast
          rw [cI_f (fun z => z.2.2 (by omega))]
          exact hM
    · refine q_bipush hx hb (-2) dX6_feast_17 (by decide +kernel) ?_
      refine q_mreti hx hb hr hlocks hS dX6_feast_19 ?_ ?_
      · show _ = aFeast S d
        unfold aFeast
        rw [cI_t (by omega), cI_t (by assumption)]
      · unfold tFeast
        rw [cI_f (fun z => absurd (by assumption) z.2.1)]
        exact hM
  · refine lv_iconst (v := iI (-1)) hx hb dX6_feast_7 rfl ?_
    refine q_mreti hx hb hr hlocks hS dX6_feast_8 ?_ ?_
    · show _ = aFeast S d
      unfold aFeast
      rw [cI_f (by omega)]
    · unfold tFeast
      rw [cI_f (fun z => by have z2 := z.1; omega)]
      exact hM

set_option maxHeartbeats 4000000 in
set_option maxRecDepth 100000 in
theorem c6_law (l : Launch) (g : GG) (mad : Nat → Nat) (S : St) (hI : Inv S) (d : Int) (k : Int) (w : Int) (f : Int) (t : Int) (r_d : R32 d) (r_k : R32 k) (r_w : R32 w) (r_f : R32 f) (r_t : R32 t) (hi : mInj mad)  : MetM l yX6_law wsX6_law ({ frames := 2, cells := 0, slots := 0, locals := 42 }) g [.ref (mad 0), .int (iI d), .int (iI k), .int (iI w), .int (iI f), .int (iI t)] (fun H => RepM g mad S H) (aLaw S d k w f t) (fun H => RepM g mad (tLaw S d k w f t) H) (PM mad) 0 0 := by
  refine Met.ofW (cc := cX6_law) (maxL := 6) (ret := (some .int)) (by decide) rfl ?_
  intro p e s m args below meth c s₁ B hml hv
  obtain ⟨rfl, hM, hK⟩ := hv
  have hx := B.exec
  have hb := B.bytes
  have hr := B.returns
  have hts := atoms_spec (ws := wsX6_law) B.pre
  have hown : s.vm.findClass RX6 = some m.cls := findClass_of_methodNamed B.named
  have hlocks := B.notSynchronized
  have inX6 : ∀ w ∈ wsX60, w ∈ wsX6_law := by decide +kernel
  have hl := lv_entry ([.ref (mad 0), .int (iI d), .int (iI k), .int (iI w), .int (iI f), .int (iI t)]) (n := 6) (Nat.le_of_ble_eq_true rfl)
  rw [lg_entry_eq]
  generalize (lg_sl ([.ref (mad 0), .int (iI d), .int (iI k), .int (iI w), .int (iI f), .int (iI t)]) ++ List.replicate (6 - (lg_sl ([.ref (mad 0), .int (iI d), .int (iI k), .int (iI w), .int (iI f), .int (iI t)])).length) Slot.unset).toArray = ls at hl ⊢
  have hl : lv_has ls 6 [(0, .ref (mad 0)), (1, .int (iI d)), (2, .int (iI k)), (3, .int (iI w)), (4, .int (iI f)), (5, .int (iI t))] := hl
  have hS : va_S (PM mad) s.heap s.heap [] := va_S.rf
  have hN := hI.nums
  refine lv_iload_n hx hb dX6_law_0 rfl (lv_at hl 1 rfl) ?_
  refine q_cSi (As := [.int (iI d)]) (rest := []) ⟨hx, hb, hml, hown, hts⟩ (c6_isDay l g d r_d ) (va_cwS 1 hts gX6_law_X6_isDay rfl rfl rfl (by decide +kernel) ⟨Nat.le_of_ble_eq_true rfl, Nat.le_of_ble_eq_true rfl⟩) (q_pS hK trivial) rfl hl.1 rfl (Nat.le_of_ble_eq_true rfl) ⟨Nat.zero_le _, Nat.zero_le _⟩ dX6_law_1 ?_
  refine q_ifb_eq (tgt := 63) hx hb dX6_law_4 (by decide) (fun c4 => ?_) (fun c4 => ?_)
  · refine lv_iconst (v := iI (-1)) hx hb dX6_law_63 rfl ?_
    refine q_mreti hx hb hr hlocks hS dX6_law_64 ?_ ?_
    · show _ = aLaw S d k w f t
      unfold aLaw
      rw [cI_f (by omega)]
    · unfold tLaw
      rw [cI_f (by omega)]
      exact hM
  · refine lv_iload_n hx hb dX6_law_7 rfl (lv_at hl 2 rfl) ?_
    refine lv_iconst (v := iI 0) hx hb dX6_law_8 rfl ?_
    refine lv_iconst (v := iI 2) hx hb dX6_law_9 rfl ?_
    refine q_cSi (As := [.int (iI k), .int (iI 0), .int (iI 2)]) (rest := []) ⟨hx, hb, hml, hown, hts⟩ (c6_in l g k 0 2 r_k (by decide) (by decide) ) (va_cwS 3 hts gX6_law_X6_in rfl rfl rfl (by decide +kernel) ⟨Nat.le_of_ble_eq_true rfl, Nat.le_of_ble_eq_true rfl⟩) (q_pS hK trivial) rfl hl.1 rfl (Nat.le_of_ble_eq_true rfl) ⟨Nat.zero_le _, Nat.zero_le _⟩ dX6_law_10 ?_
    refine q_ifb_eq (tgt := 63) hx hb dX6_law_13 (by decide) (fun c13 => ?_) (fun c13 => ?_)
    · refine lv_iconst (v := iI (-1)) hx hb dX6_law_63 rfl ?_
      refine q_mreti hx hb hr hlocks hS dX6_law_64 ?_ ?_
      · show _ = aLaw S d k w f t
        unfold aLaw
        rw [cI_f (by omega)]
      · unfold tLaw
        rw [cI_f (by omega)]
        exact hM
    · refine lv_iload_n hx hb dX6_law_16 rfl (lv_at hl 3 rfl) ?_
      refine lv_iconst (v := iI 0) hx hb dX6_law_17 rfl ?_
      refine q_bipush hx hb 7 dX6_law_18 (by decide +kernel) ?_
      refine q_cSi (As := [.int (iI w), .int (iI 0), .int (iI 7)]) (rest := []) ⟨hx, hb, hml, hown, hts⟩ (c6_in l g w 0 7 r_w (by decide) (by decide) ) (va_cwS 3 hts gX6_law_X6_in rfl rfl rfl (by decide +kernel) ⟨Nat.le_of_ble_eq_true rfl, Nat.le_of_ble_eq_true rfl⟩) (q_pS hK trivial) rfl hl.1 rfl (Nat.le_of_ble_eq_true rfl) ⟨Nat.zero_le _, Nat.zero_le _⟩ dX6_law_20 ?_
      refine q_ifb_eq (tgt := 63) hx hb dX6_law_23 (by decide) (fun c23 => ?_) (fun c23 => ?_)
      · refine lv_iconst (v := iI (-1)) hx hb dX6_law_63 rfl ?_
        refine q_mreti hx hb hr hlocks hS dX6_law_64 ?_ ?_
        · show _ = aLaw S d k w f t
          unfold aLaw
          rw [cI_f (by omega)]
        · unfold tLaw
          rw [cI_f (by omega)]
          exact hM
      · refine lv_iload hx hb dX6_law_26 (lv_at hl 4 rfl) ?_
        refine q_if_ne (tgt := 36) hx hb dX6_law_28 (by decide) r_f (fun c28 => ?_) (fun c28 => ?_)
        · refine lv_iload hx hb dX6_law_36 (lv_at hl 4 rfl) ?_
          refine lv_iconst (v := iI 0) hx hb dX6_law_38 rfl ?_
          refine q_sipush hx hb 1439 dX6_law_39 (by decide +kernel) ?_
          refine q_cSi (As := [.int (iI f), .int (iI 0), .int (iI 1439)]) (rest := []) ⟨hx, hb, hml, hown, hts⟩ (c6_in l g f 0 1439 r_f (by decide) (by decide) ) (va_cwS 3 hts gX6_law_X6_in rfl rfl rfl (by decide +kernel) ⟨Nat.le_of_ble_eq_true rfl, Nat.le_of_ble_eq_true rfl⟩) (q_pS hK trivial) rfl hl.1 rfl (Nat.le_of_ble_eq_true rfl) ⟨Nat.zero_le _, Nat.zero_le _⟩ dX6_law_42 ?_
          refine q_ifb_eq (tgt := 63) hx hb dX6_law_45 (by decide) (fun c45 => ?_) (fun c45 => ?_)
          · refine lv_iconst (v := iI (-1)) hx hb dX6_law_63 rfl ?_
            refine q_mreti hx hb hr hlocks hS dX6_law_64 ?_ ?_
            · show _ = aLaw S d k w f t
              unfold aLaw
              rw [cI_f (by omega)]
            · unfold tLaw
              rw [cI_f (by omega)]
              exact hM
          · refine lv_iload hx hb dX6_law_48 (lv_at hl 4 rfl) ?_
            refine lv_iload hx hb dX6_law_50 (lv_at hl 5 rfl) ?_
            refine q_icmp_ge (tgt := 63) hx hb dX6_law_52 (by decide) r_f r_t (fun c52 => ?_) (fun c52 => ?_)
            · refine lv_iconst (v := iI (-1)) hx hb dX6_law_63 rfl ?_
              refine q_mreti hx hb hr hlocks hS dX6_law_64 ?_ ?_
              · show _ = aLaw S d k w f t
                unfold aLaw
                rw [cI_f (by omega)]
              · unfold tLaw
                rw [cI_f (by omega)]
                exact hM
            · refine lv_iload hx hb dX6_law_55 (lv_at hl 5 rfl) ?_
              refine q_sipush hx hb 1800 dX6_law_57 (by decide +kernel) ?_
              refine q_icmp_le (tgt := 65) hx hb dX6_law_60 (by decide) r_t (by decide) (fun c60 => ?_) (fun c60 => ?_)
              · refine lv_aload_n hx hb dX6_law_65 rfl (lv_at hl 0 rfl) ?_
                refine q_get (v := .int (iI (S 2 0))) (C := RX6) (T := TX6) (N := 32) hx hb hts inX6 hown hK hM.1 rfl 2 (by decide) (hts (.fieldLink RX6 106 "TavernBenchModel" "laws" "I") (by decide +kernel)) (fun _ h9 => h9) rfl dX6_law_66 ?_
                refine q_bipush hx hb 40 dX6_law_69 (by decide +kernel) ?_
                refine q_icmp_ne (tgt := 77) hx hb dX6_law_71 (by decide) (hI.R (by decide)) (by decide) (fun c71 => ?_) (fun c71 => ?_)
                · refine lv_aload_n hx hb dX6_law_77 rfl (lv_at hl 0 rfl) ?_
                  refine q_get (v := .ref (mad 3)) (C := RX6) (T := TX6) (N := 32) hx hb hts inX6 hown hK hM.1 rfl 3 (by decide) (hts (.fieldLink RX6 13 "TavernBenchModel" "lawDay" "[I") (by decide +kernel)) (fun _ h9 => h9) rfl dX6_law_78 ?_
                  refine lv_aload_n hx hb dX6_law_81 rfl (lv_at hl 0 rfl) ?_
                  refine q_get (v := .int (iI (S 2 0))) (C := RX6) (T := TX6) (N := 32) hx hb hts inX6 hown hK hM.1 rfl 2 (by decide) (hts (.fieldLink RX6 106 "TavernBenchModel" "laws" "I") (by decide +kernel)) (fun _ h9 => h9) rfl dX6_law_82 ?_
                  refine lv_iload_n hx hb dX6_law_85 rfl (lv_at hl 1 rfl) ?_
                  refine q_mst hx hb hK hM hi hS 3 40 ⟨3, by decide, Or.inr (by decide), rfl⟩ ⟨by decide, by decide, by decide⟩ (S 2 0) d (fun _ => rfl) rfl ⟨by omega, by omega⟩ dX6_law_86 (fun H locs hM hS => ?_)
                  refine lv_aload_n hx hb dX6_law_87 rfl (lv_at hl 0 rfl) ?_
                  refine q_get (v := .ref (mad 4)) (C := RX6) (T := TX6) (N := 32) hx hb hts inX6 hown hK hM.1 rfl 4 (by decide) (hts (.fieldLink RX6 16 "TavernBenchModel" "lawKind" "[I") (by decide +kernel)) (fun _ h9 => h9) rfl dX6_law_88 ?_
                  refine lv_aload_n hx hb dX6_law_91 rfl (lv_at hl 0 rfl) ?_
                  refine q_get (v := .int (iI (S 2 0))) (C := RX6) (T := TX6) (N := 32) hx hb hts inX6 hown hK hM.1 rfl 2 (by decide) (hts (.fieldLink RX6 106 "TavernBenchModel" "laws" "I") (by decide +kernel)) (fun _ h9 => h9) rfl dX6_law_92 ?_
                  refine lv_iload_n hx hb dX6_law_95 rfl (lv_at hl 2 rfl) ?_
                  refine q_mst hx hb hK hM hi hS 4 40 ⟨4, by decide, Or.inr (by decide), rfl⟩ ⟨by decide, by decide, by decide⟩ (S 2 0) k (fun _ => rfl) rfl ⟨by omega, by omega⟩ dX6_law_96 (fun H locs hM hS => ?_)
                  refine lv_aload_n hx hb dX6_law_97 rfl (lv_at hl 0 rfl) ?_
                  refine q_get (v := .ref (mad 5)) (C := RX6) (T := TX6) (N := 32) hx hb hts inX6 hown hK hM.1 rfl 5 (by decide) (hts (.fieldLink RX6 19 "TavernBenchModel" "lawWeek" "[I") (by decide +kernel)) (fun _ h9 => h9) rfl dX6_law_98 ?_
                  refine lv_aload_n hx hb dX6_law_101 rfl (lv_at hl 0 rfl) ?_
                  refine q_get (v := .int (iI (S 2 0))) (C := RX6) (T := TX6) (N := 32) hx hb hts inX6 hown hK hM.1 rfl 2 (by decide) (hts (.fieldLink RX6 106 "TavernBenchModel" "laws" "I") (by decide +kernel)) (fun _ h9 => h9) rfl dX6_law_102 ?_
                  refine lv_iload_n hx hb dX6_law_105 rfl (lv_at hl 3 rfl) ?_
                  refine q_mst hx hb hK hM hi hS 5 40 ⟨5, by decide, Or.inr (by decide), rfl⟩ ⟨by decide, by decide, by decide⟩ (S 2 0) w (fun _ => rfl) rfl ⟨by omega, by omega⟩ dX6_law_106 (fun H locs hM hS => ?_)
                  refine lv_aload_n hx hb dX6_law_107 rfl (lv_at hl 0 rfl) ?_
                  refine q_get (v := .ref (mad 6)) (C := RX6) (T := TX6) (N := 32) hx hb hts inX6 hown hK hM.1 rfl 6 (by decide) (hts (.fieldLink RX6 22 "TavernBenchModel" "lawFrom" "[I") (by decide +kernel)) (fun _ h9 => h9) rfl dX6_law_108 ?_
                  refine lv_aload_n hx hb dX6_law_111 rfl (lv_at hl 0 rfl) ?_
                  refine q_get (v := .int (iI (S 2 0))) (C := RX6) (T := TX6) (N := 32) hx hb hts inX6 hown hK hM.1 rfl 2 (by decide) (hts (.fieldLink RX6 106 "TavernBenchModel" "laws" "I") (by decide +kernel)) (fun _ h9 => h9) rfl dX6_law_112 ?_
                  refine lv_iload hx hb dX6_law_115 (lv_at hl 4 rfl) ?_
                  refine q_mst hx hb hK hM hi hS 6 40 ⟨6, by decide, Or.inr (by decide), rfl⟩ ⟨by decide, by decide, by decide⟩ (S 2 0) f (fun _ => rfl) rfl ⟨by omega, by omega⟩ dX6_law_117 (fun H locs hM hS => ?_)
                  refine lv_aload_n hx hb dX6_law_118 rfl (lv_at hl 0 rfl) ?_
                  refine q_get (v := .ref (mad 7)) (C := RX6) (T := TX6) (N := 32) hx hb hts inX6 hown hK hM.1 rfl 7 (by decide) (hts (.fieldLink RX6 25 "TavernBenchModel" "lawTo" "[I") (by decide +kernel)) (fun _ h9 => h9) rfl dX6_law_119 ?_
                  refine lv_aload_n hx hb dX6_law_122 rfl (lv_at hl 0 rfl) ?_
                  refine q_get (v := .int (iI (S 2 0))) (C := RX6) (T := TX6) (N := 32) hx hb hts inX6 hown hK hM.1 rfl 2 (by decide) (hts (.fieldLink RX6 106 "TavernBenchModel" "laws" "I") (by decide +kernel)) (fun _ h9 => h9) rfl dX6_law_123 ?_
                  refine lv_iload hx hb dX6_law_126 (lv_at hl 5 rfl) ?_
                  refine q_mst hx hb hK hM hi hS 7 40 ⟨7, by decide, Or.inr (by decide), rfl⟩ ⟨by decide, by decide, by decide⟩ (S 2 0) t (fun _ => rfl) rfl ⟨by omega, by omega⟩ dX6_law_128 (fun H locs hM hS => ?_)
                  refine lv_aload_n hx hb dX6_law_129 rfl (lv_at hl 0 rfl) ?_
                  refine lv_dup hx hb dX6_law_130 rfl ?_
                  refine q_get (v := .int (iI (S 2 0))) (C := RX6) (T := TX6) (N := 32) hx hb hts inX6 hown hK hM.1 rfl 2 (by decide) (hts (.fieldLink RX6 106 "TavernBenchModel" "laws" "I") (by decide +kernel)) (fun _ h9 => h9) rfl dX6_law_131 ?_
                  refine lv_iconst (v := iI 1) hx hb dX6_law_134 rfl ?_
                  refine q_iadd hx hb dX6_law_135 ?_
                  refine q_mput hx hb hts inX6 hown hK hM hi hS ⟨0, by decide, Or.inl rfl, rfl⟩ 2 (by decide) rfl (hts (.fieldLink RX6 106 "TavernBenchModel" "laws" "I") (by decide +kernel)) (fun _ h9 => h9) rfl (by decide +kernel) ((S 2 0) + 1) rfl dX6_law_136 (fun H locs hM hS => ?_)
                  refine lv_aload_n hx hb dX6_law_139 rfl (lv_at hl 0 rfl) ?_
                  refine q_get (v := .int (iI ((S 2 0) + 1))) (C := RX6) (T := TX6) (N := 32) hx hb hts inX6 hown hK hM.1 rfl 2 (by decide) (hts (.fieldLink RX6 106 "TavernBenchModel" "laws" "I") (by decide +kernel)) (fun _ h9 => h9) rfl dX6_law_140 ?_
                  refine q_mreti hx hb hr hlocks hS dX6_law_143 ?_ ?_
                  · show _ = aLaw S d k w f t
                    unfold aLaw
                    rw [cI_t (by omega), cI_f (by omega)]
                  · unfold tLaw
                    rw [cI_t (by omega)]
                    exact hM
                · refine q_bipush hx hb (-3) dX6_law_74 (by decide +kernel) ?_
                  refine q_mreti hx hb hr hlocks hS dX6_law_76 ?_ ?_
                  · show _ = aLaw S d k w f t
                    unfold aLaw
                    rw [cI_t (by omega), cI_t (by omega)]
                  · unfold tLaw
                    rw [cI_f (by omega)]
                    exact hM
              · refine lv_iconst (v := iI (-1)) hx hb dX6_law_63 rfl ?_
                refine q_mreti hx hb hr hlocks hS dX6_law_64 ?_ ?_
                · show _ = aLaw S d k w f t
                  unfold aLaw
                  rw [cI_f (by omega)]
                · unfold tLaw
                  rw [cI_f (by omega)]
                  exact hM
        · refine lv_iload hx hb dX6_law_31 (lv_at hl 5 rfl) ?_
          refine q_if_eq (tgt := 65) hx hb dX6_law_33 (by decide) r_t (fun c33 => ?_) (fun c33 => ?_)
          · refine lv_aload_n hx hb dX6_law_65 rfl (lv_at hl 0 rfl) ?_
            refine q_get (v := .int (iI (S 2 0))) (C := RX6) (T := TX6) (N := 32) hx hb hts inX6 hown hK hM.1 rfl 2 (by decide) (hts (.fieldLink RX6 106 "TavernBenchModel" "laws" "I") (by decide +kernel)) (fun _ h9 => h9) rfl dX6_law_66 ?_
            refine q_bipush hx hb 40 dX6_law_69 (by decide +kernel) ?_
            refine q_icmp_ne (tgt := 77) hx hb dX6_law_71 (by decide) (hI.R (by decide)) (by decide) (fun c71_1 => ?_) (fun c71_1 => ?_)
            · refine lv_aload_n hx hb dX6_law_77 rfl (lv_at hl 0 rfl) ?_
              refine q_get (v := .ref (mad 3)) (C := RX6) (T := TX6) (N := 32) hx hb hts inX6 hown hK hM.1 rfl 3 (by decide) (hts (.fieldLink RX6 13 "TavernBenchModel" "lawDay" "[I") (by decide +kernel)) (fun _ h9 => h9) rfl dX6_law_78 ?_
              refine lv_aload_n hx hb dX6_law_81 rfl (lv_at hl 0 rfl) ?_
              refine q_get (v := .int (iI (S 2 0))) (C := RX6) (T := TX6) (N := 32) hx hb hts inX6 hown hK hM.1 rfl 2 (by decide) (hts (.fieldLink RX6 106 "TavernBenchModel" "laws" "I") (by decide +kernel)) (fun _ h9 => h9) rfl dX6_law_82 ?_
              refine lv_iload_n hx hb dX6_law_85 rfl (lv_at hl 1 rfl) ?_
              refine q_mst hx hb hK hM hi hS 3 40 ⟨3, by decide, Or.inr (by decide), rfl⟩ ⟨by decide, by decide, by decide⟩ (S 2 0) d (fun _ => rfl) rfl ⟨by omega, by omega⟩ dX6_law_86 (fun H locs hM hS => ?_)
              refine lv_aload_n hx hb dX6_law_87 rfl (lv_at hl 0 rfl) ?_
              refine q_get (v := .ref (mad 4)) (C := RX6) (T := TX6) (N := 32) hx hb hts inX6 hown hK hM.1 rfl 4 (by decide) (hts (.fieldLink RX6 16 "TavernBenchModel" "lawKind" "[I") (by decide +kernel)) (fun _ h9 => h9) rfl dX6_law_88 ?_
              refine lv_aload_n hx hb dX6_law_91 rfl (lv_at hl 0 rfl) ?_
              refine q_get (v := .int (iI (S 2 0))) (C := RX6) (T := TX6) (N := 32) hx hb hts inX6 hown hK hM.1 rfl 2 (by decide) (hts (.fieldLink RX6 106 "TavernBenchModel" "laws" "I") (by decide +kernel)) (fun _ h9 => h9) rfl dX6_law_92 ?_
              refine lv_iload_n hx hb dX6_law_95 rfl (lv_at hl 2 rfl) ?_
              refine q_mst hx hb hK hM hi hS 4 40 ⟨4, by decide, Or.inr (by decide), rfl⟩ ⟨by decide, by decide, by decide⟩ (S 2 0) k (fun _ => rfl) rfl ⟨by omega, by omega⟩ dX6_law_96 (fun H locs hM hS => ?_)
              refine lv_aload_n hx hb dX6_law_97 rfl (lv_at hl 0 rfl) ?_
              refine q_get (v := .ref (mad 5)) (C := RX6) (T := TX6) (N := 32) hx hb hts inX6 hown hK hM.1 rfl 5 (by decide) (hts (.fieldLink RX6 19 "TavernBenchModel" "lawWeek" "[I") (by decide +kernel)) (fun _ h9 => h9) rfl dX6_law_98 ?_
              refine lv_aload_n hx hb dX6_law_101 rfl (lv_at hl 0 rfl) ?_
              refine q_get (v := .int (iI (S 2 0))) (C := RX6) (T := TX6) (N := 32) hx hb hts inX6 hown hK hM.1 rfl 2 (by decide) (hts (.fieldLink RX6 106 "TavernBenchModel" "laws" "I") (by decide +kernel)) (fun _ h9 => h9) rfl dX6_law_102 ?_
              refine lv_iload_n hx hb dX6_law_105 rfl (lv_at hl 3 rfl) ?_
              refine q_mst hx hb hK hM hi hS 5 40 ⟨5, by decide, Or.inr (by decide), rfl⟩ ⟨by decide, by decide, by decide⟩ (S 2 0) w (fun _ => rfl) rfl ⟨by omega, by omega⟩ dX6_law_106 (fun H locs hM hS => ?_)
              refine lv_aload_n hx hb dX6_law_107 rfl (lv_at hl 0 rfl) ?_
              refine q_get (v := .ref (mad 6)) (C := RX6) (T := TX6) (N := 32) hx hb hts inX6 hown hK hM.1 rfl 6 (by decide) (hts (.fieldLink RX6 22 "TavernBenchModel" "lawFrom" "[I") (by decide +kernel)) (fun _ h9 => h9) rfl dX6_law_108 ?_
              refine lv_aload_n hx hb dX6_law_111 rfl (lv_at hl 0 rfl) ?_
              refine q_get (v := .int (iI (S 2 0))) (C := RX6) (T := TX6) (N := 32) hx hb hts inX6 hown hK hM.1 rfl 2 (by decide) (hts (.fieldLink RX6 106 "TavernBenchModel" "laws" "I") (by decide +kernel)) (fun _ h9 => h9) rfl dX6_law_112 ?_
              refine lv_iload hx hb dX6_law_115 (lv_at hl 4 rfl) ?_
              refine q_mst hx hb hK hM hi hS 6 40 ⟨6, by decide, Or.inr (by decide), rfl⟩ ⟨by decide, by decide, by decide⟩ (S 2 0) f (fun _ => rfl) rfl ⟨by omega, by omega⟩ dX6_law_117 (fun H locs hM hS => ?_)
              refine lv_aload_n hx hb dX6_law_118 rfl (lv_at hl 0 rfl) ?_
              refine q_get (v := .ref (mad 7)) (C := RX6) (T := TX6) (N := 32) hx hb hts inX6 hown hK hM.1 rfl 7 (by decide) (hts (.fieldLink RX6 25 "TavernBenchModel" "lawTo" "[I") (by decide +kernel)) (fun _ h9 => h9) rfl dX6_law_119 ?_
              refine lv_aload_n hx hb dX6_law_122 rfl (lv_at hl 0 rfl) ?_
              refine q_get (v := .int (iI (S 2 0))) (C := RX6) (T := TX6) (N := 32) hx hb hts inX6 hown hK hM.1 rfl 2 (by decide) (hts (.fieldLink RX6 106 "TavernBenchModel" "laws" "I") (by decide +kernel)) (fun _ h9 => h9) rfl dX6_law_123 ?_
              refine lv_iload hx hb dX6_law_126 (lv_at hl 5 rfl) ?_
              refine q_mst hx hb hK hM hi hS 7 40 ⟨7, by decide, Or.inr (by decide), rfl⟩ ⟨by decide, by decide, by decide⟩ (S 2 0) t (fun _ => rfl) rfl ⟨by omega, by omega⟩ dX6_law_128 (fun H locs hM hS => ?_)
              refine lv_aload_n hx hb dX6_law_129 rfl (lv_at hl 0 rfl) ?_
              refine lv_dup hx hb dX6_law_130 rfl ?_
              refine q_get (v := .int (iI (S 2 0))) (C := RX6) (T := TX6) (N := 32) hx hb hts inX6 hown hK hM.1 rfl 2 (by decide) (hts (.fieldLink RX6 106 "TavernBenchModel" "laws" "I") (by decide +kernel)) (fun _ h9 => h9) rfl dX6_law_131 ?_
              refine lv_iconst (v := iI 1) hx hb dX6_law_134 rfl ?_
              refine q_iadd hx hb dX6_law_135 ?_
              refine q_mput hx hb hts inX6 hown hK hM hi hS ⟨0, by decide, Or.inl rfl, rfl⟩ 2 (by decide) rfl (hts (.fieldLink RX6 106 "TavernBenchModel" "laws" "I") (by decide +kernel)) (fun _ h9 => h9) rfl (by decide +kernel) ((S 2 0) + 1) rfl dX6_law_136 (fun H locs hM hS => ?_)
              refine lv_aload_n hx hb dX6_law_139 rfl (lv_at hl 0 rfl) ?_
              refine q_get (v := .int (iI ((S 2 0) + 1))) (C := RX6) (T := TX6) (N := 32) hx hb hts inX6 hown hK hM.1 rfl 2 (by decide) (hts (.fieldLink RX6 106 "TavernBenchModel" "laws" "I") (by decide +kernel)) (fun _ h9 => h9) rfl dX6_law_140 ?_
              refine q_mreti hx hb hr hlocks hS dX6_law_143 ?_ ?_
              · show _ = aLaw S d k w f t
                unfold aLaw
                rw [cI_t (by omega), cI_f (by omega)]
              · unfold tLaw
                rw [cI_t (by omega)]
                exact hM
            · refine q_bipush hx hb (-3) dX6_law_74 (by decide +kernel) ?_
              refine q_mreti hx hb hr hlocks hS dX6_law_76 ?_ ?_
              · show _ = aLaw S d k w f t
                unfold aLaw
                rw [cI_t (by omega), cI_t (by omega)]
              · unfold tLaw
                rw [cI_f (by omega)]
                exact hM
          · refine lv_iload hx hb dX6_law_36 (lv_at hl 4 rfl) ?_
            refine lv_iconst (v := iI 0) hx hb dX6_law_38 rfl ?_
            refine q_sipush hx hb 1439 dX6_law_39 (by decide +kernel) ?_
            refine q_cSi (As := [.int (iI f), .int (iI 0), .int (iI 1439)]) (rest := []) ⟨hx, hb, hml, hown, hts⟩ (c6_in l g f 0 1439 r_f (by decide) (by decide) ) (va_cwS 3 hts gX6_law_X6_in rfl rfl rfl (by decide +kernel) ⟨Nat.le_of_ble_eq_true rfl, Nat.le_of_ble_eq_true rfl⟩) (q_pS hK trivial) rfl hl.1 rfl (Nat.le_of_ble_eq_true rfl) ⟨Nat.zero_le _, Nat.zero_le _⟩ dX6_law_42 ?_
            refine q_ifb_eq (tgt := 63) hx hb dX6_law_45 (by decide) (fun c45_1 => ?_) (fun c45_1 => ?_)
            · refine lv_iconst (v := iI (-1)) hx hb dX6_law_63 rfl ?_
              refine q_mreti hx hb hr hlocks hS dX6_law_64 ?_ ?_
              · show _ = aLaw S d k w f t
                unfold aLaw
                rw [cI_f (by omega)]
              · unfold tLaw
                rw [cI_f (by omega)]
                exact hM
            · refine lv_iload hx hb dX6_law_48 (lv_at hl 4 rfl) ?_
              refine lv_iload hx hb dX6_law_50 (lv_at hl 5 rfl) ?_
              refine q_icmp_ge (tgt := 63) hx hb dX6_law_52 (by decide) r_f r_t (fun c52_1 => ?_) (fun c52_1 => ?_)
              · refine lv_iconst (v := iI (-1)) hx hb dX6_law_63 rfl ?_
                refine q_mreti hx hb hr hlocks hS dX6_law_64 ?_ ?_
                · show _ = aLaw S d k w f t
                  unfold aLaw
                  rw [cI_f (by omega)]
                · unfold tLaw
                  rw [cI_f (by omega)]
                  exact hM
              · refine lv_iload hx hb dX6_law_55 (lv_at hl 5 rfl) ?_
                refine q_sipush hx hb 1800 dX6_law_57 (by decide +kernel) ?_
                refine q_icmp_le (tgt := 65) hx hb dX6_law_60 (by decide) r_t (by decide) (fun c60_1 => ?_) (fun c60_1 => ?_)
                · refine lv_aload_n hx hb dX6_law_65 rfl (lv_at hl 0 rfl) ?_
                  refine q_get (v := .int (iI (S 2 0))) (C := RX6) (T := TX6) (N := 32) hx hb hts inX6 hown hK hM.1 rfl 2 (by decide) (hts (.fieldLink RX6 106 "TavernBenchModel" "laws" "I") (by decide +kernel)) (fun _ h9 => h9) rfl dX6_law_66 ?_
                  refine q_bipush hx hb 40 dX6_law_69 (by decide +kernel) ?_
                  refine q_icmp_ne (tgt := 77) hx hb dX6_law_71 (by decide) (hI.R (by decide)) (by decide) (fun c71_2 => ?_) (fun c71_2 => ?_)
                  · refine lv_aload_n hx hb dX6_law_77 rfl (lv_at hl 0 rfl) ?_
                    refine q_get (v := .ref (mad 3)) (C := RX6) (T := TX6) (N := 32) hx hb hts inX6 hown hK hM.1 rfl 3 (by decide) (hts (.fieldLink RX6 13 "TavernBenchModel" "lawDay" "[I") (by decide +kernel)) (fun _ h9 => h9) rfl dX6_law_78 ?_
                    refine lv_aload_n hx hb dX6_law_81 rfl (lv_at hl 0 rfl) ?_
                    refine q_get (v := .int (iI (S 2 0))) (C := RX6) (T := TX6) (N := 32) hx hb hts inX6 hown hK hM.1 rfl 2 (by decide) (hts (.fieldLink RX6 106 "TavernBenchModel" "laws" "I") (by decide +kernel)) (fun _ h9 => h9) rfl dX6_law_82 ?_
                    refine lv_iload_n hx hb dX6_law_85 rfl (lv_at hl 1 rfl) ?_
                    refine q_mst hx hb hK hM hi hS 3 40 ⟨3, by decide, Or.inr (by decide), rfl⟩ ⟨by decide, by decide, by decide⟩ (S 2 0) d (fun _ => rfl) rfl ⟨by omega, by omega⟩ dX6_law_86 (fun H locs hM hS => ?_)
                    refine lv_aload_n hx hb dX6_law_87 rfl (lv_at hl 0 rfl) ?_
                    refine q_get (v := .ref (mad 4)) (C := RX6) (T := TX6) (N := 32) hx hb hts inX6 hown hK hM.1 rfl 4 (by decide) (hts (.fieldLink RX6 16 "TavernBenchModel" "lawKind" "[I") (by decide +kernel)) (fun _ h9 => h9) rfl dX6_law_88 ?_
                    refine lv_aload_n hx hb dX6_law_91 rfl (lv_at hl 0 rfl) ?_
                    refine q_get (v := .int (iI (S 2 0))) (C := RX6) (T := TX6) (N := 32) hx hb hts inX6 hown hK hM.1 rfl 2 (by decide) (hts (.fieldLink RX6 106 "TavernBenchModel" "laws" "I") (by decide +kernel)) (fun _ h9 => h9) rfl dX6_law_92 ?_
                    refine lv_iload_n hx hb dX6_law_95 rfl (lv_at hl 2 rfl) ?_
                    refine q_mst hx hb hK hM hi hS 4 40 ⟨4, by decide, Or.inr (by decide), rfl⟩ ⟨by decide, by decide, by decide⟩ (S 2 0) k (fun _ => rfl) rfl ⟨by omega, by omega⟩ dX6_law_96 (fun H locs hM hS => ?_)
                    refine lv_aload_n hx hb dX6_law_97 rfl (lv_at hl 0 rfl) ?_
                    refine q_get (v := .ref (mad 5)) (C := RX6) (T := TX6) (N := 32) hx hb hts inX6 hown hK hM.1 rfl 5 (by decide) (hts (.fieldLink RX6 19 "TavernBenchModel" "lawWeek" "[I") (by decide +kernel)) (fun _ h9 => h9) rfl dX6_law_98 ?_
                    refine lv_aload_n hx hb dX6_law_101 rfl (lv_at hl 0 rfl) ?_
                    refine q_get (v := .int (iI (S 2 0))) (C := RX6) (T := TX6) (N := 32) hx hb hts inX6 hown hK hM.1 rfl 2 (by decide) (hts (.fieldLink RX6 106 "TavernBenchModel" "laws" "I") (by decide +kernel)) (fun _ h9 => h9) rfl dX6_law_102 ?_
                    refine lv_iload_n hx hb dX6_law_105 rfl (lv_at hl 3 rfl) ?_
                    refine q_mst hx hb hK hM hi hS 5 40 ⟨5, by decide, Or.inr (by decide), rfl⟩ ⟨by decide, by decide, by decide⟩ (S 2 0) w (fun _ => rfl) rfl ⟨by omega, by omega⟩ dX6_law_106 (fun H locs hM hS => ?_)
                    refine lv_aload_n hx hb dX6_law_107 rfl (lv_at hl 0 rfl) ?_
                    refine q_get (v := .ref (mad 6)) (C := RX6) (T := TX6) (N := 32) hx hb hts inX6 hown hK hM.1 rfl 6 (by decide) (hts (.fieldLink RX6 22 "TavernBenchModel" "lawFrom" "[I") (by decide +kernel)) (fun _ h9 => h9) rfl dX6_law_108 ?_
                    refine lv_aload_n hx hb dX6_law_111 rfl (lv_at hl 0 rfl) ?_
                    refine q_get (v := .int (iI (S 2 0))) (C := RX6) (T := TX6) (N := 32) hx hb hts inX6 hown hK hM.1 rfl 2 (by decide) (hts (.fieldLink RX6 106 "TavernBenchModel" "laws" "I") (by decide +kernel)) (fun _ h9 => h9) rfl dX6_law_112 ?_
                    refine lv_iload hx hb dX6_law_115 (lv_at hl 4 rfl) ?_
                    refine q_mst hx hb hK hM hi hS 6 40 ⟨6, by decide, Or.inr (by decide), rfl⟩ ⟨by decide, by decide, by decide⟩ (S 2 0) f (fun _ => rfl) rfl ⟨by omega, by omega⟩ dX6_law_117 (fun H locs hM hS => ?_)
                    refine lv_aload_n hx hb dX6_law_118 rfl (lv_at hl 0 rfl) ?_
                    refine q_get (v := .ref (mad 7)) (C := RX6) (T := TX6) (N := 32) hx hb hts inX6 hown hK hM.1 rfl 7 (by decide) (hts (.fieldLink RX6 25 "TavernBenchModel" "lawTo" "[I") (by decide +kernel)) (fun _ h9 => h9) rfl dX6_law_119 ?_
                    refine lv_aload_n hx hb dX6_law_122 rfl (lv_at hl 0 rfl) ?_
                    refine q_get (v := .int (iI (S 2 0))) (C := RX6) (T := TX6) (N := 32) hx hb hts inX6 hown hK hM.1 rfl 2 (by decide) (hts (.fieldLink RX6 106 "TavernBenchModel" "laws" "I") (by decide +kernel)) (fun _ h9 => h9) rfl dX6_law_123 ?_
                    refine lv_iload hx hb dX6_law_126 (lv_at hl 5 rfl) ?_
                    refine q_mst hx hb hK hM hi hS 7 40 ⟨7, by decide, Or.inr (by decide), rfl⟩ ⟨by decide, by decide, by decide⟩ (S 2 0) t (fun _ => rfl) rfl ⟨by omega, by omega⟩ dX6_law_128 (fun H locs hM hS => ?_)
                    refine lv_aload_n hx hb dX6_law_129 rfl (lv_at hl 0 rfl) ?_
                    refine lv_dup hx hb dX6_law_130 rfl ?_
                    refine q_get (v := .int (iI (S 2 0))) (C := RX6) (T := TX6) (N := 32) hx hb hts inX6 hown hK hM.1 rfl 2 (by decide) (hts (.fieldLink RX6 106 "TavernBenchModel" "laws" "I") (by decide +kernel)) (fun _ h9 => h9) rfl dX6_law_131 ?_
                    refine lv_iconst (v := iI 1) hx hb dX6_law_134 rfl ?_
                    refine q_iadd hx hb dX6_law_135 ?_
                    refine q_mput hx hb hts inX6 hown hK hM hi hS ⟨0, by decide, Or.inl rfl, rfl⟩ 2 (by decide) rfl (hts (.fieldLink RX6 106 "TavernBenchModel" "laws" "I") (by decide +kernel)) (fun _ h9 => h9) rfl (by decide +kernel) ((S 2 0) + 1) rfl dX6_law_136 (fun H locs hM hS => ?_)
                    refine lv_aload_n hx hb dX6_law_139 rfl (lv_at hl 0 rfl) ?_
                    refine q_get (v := .int (iI ((S 2 0) + 1))) (C := RX6) (T := TX6) (N := 32) hx hb hts inX6 hown hK hM.1 rfl 2 (by decide) (hts (.fieldLink RX6 106 "TavernBenchModel" "laws" "I") (by decide +kernel)) (fun _ h9 => h9) rfl dX6_law_140 ?_
                    refine q_mreti hx hb hr hlocks hS dX6_law_143 ?_ ?_
                    · show _ = aLaw S d k w f t
                      unfold aLaw
                      rw [cI_t (by omega), cI_f (by omega)]
                    · unfold tLaw
                      rw [cI_t (by omega)]
                      exact hM
                  · refine q_bipush hx hb (-3) dX6_law_74 (by decide +kernel) ?_
                    refine q_mreti hx hb hr hlocks hS dX6_law_76 ?_ ?_
                    · show _ = aLaw S d k w f t
                      unfold aLaw
                      rw [cI_t (by omega), cI_t (by omega)]
                    · unfold tLaw
                      rw [cI_f (by omega)]
                      exact hM
                · refine lv_iconst (v := iI (-1)) hx hb dX6_law_63 rfl ?_
                  refine q_mreti hx hb hr hlocks hS dX6_law_64 ?_ ?_
                  · show _ = aLaw S d k w f t
                    unfold aLaw
                    rw [cI_f (by omega)]
                  · unfold tLaw
                    rw [cI_f (by omega)]
                    exact hM

set_option maxHeartbeats 4000000 in
set_option maxRecDepth 100000 in
theorem c6_rule (l : Launch) (g : GG) (mad : Nat → Nat) (S : St) (hI : Inv S) (what : Int) (v : Int) (r_what : R32 what) (r_v : R32 v) (hi : mInj mad)  : MetM l yX6_rule wsX6_rule ({ frames := 1, cells := 0, slots := 0, locals := 22 }) g [.ref (mad 0), .int (iI what), .int (iI v)] (fun H => RepM g mad S H) (aRule S what v) (fun H => RepM g mad (tRule S what v) H) (PM mad) 0 0 := by
  refine Met.ofW (cc := cX6_rule) (maxL := 4) (ret := (some .int)) (by decide) rfl ?_
  intro p e s m args below meth c s₁ B hml hv
  obtain ⟨rfl, hM, hK⟩ := hv
  have hx := B.exec
  have hb := B.bytes
  have hr := B.returns
  have hts := atoms_spec (ws := wsX6_rule) B.pre
  have hown : s.vm.findClass RX6 = some m.cls := findClass_of_methodNamed B.named
  have hlocks := B.notSynchronized
  have inX6 : ∀ w ∈ wsX60, w ∈ wsX6_rule := by decide +kernel
  have hl := lv_entry ([.ref (mad 0), .int (iI what), .int (iI v)]) (n := 4) (Nat.le_of_ble_eq_true rfl)
  rw [lg_entry_eq]
  generalize (lg_sl ([.ref (mad 0), .int (iI what), .int (iI v)]) ++ List.replicate (4 - (lg_sl ([.ref (mad 0), .int (iI what), .int (iI v)])).length) Slot.unset).toArray = ls at hl ⊢
  have hl : lv_has ls 4 [(0, .ref (mad 0)), (1, .int (iI what)), (2, .int (iI v))] := hl
  have hS : va_S (PM mad) s.heap s.heap [] := va_S.rf
  have hN := hI.nums
  refine lv_iload_n hx hb dX6_rule_0 rfl (lv_at hl 1 rfl) ?_
  refine lv_iconst (v := iI 0) hx hb dX6_rule_1 rfl ?_
  refine lv_iconst (v := iI 1) hx hb dX6_rule_2 rfl ?_
  refine q_cSi (As := [.int (iI what), .int (iI 0), .int (iI 1)]) (rest := []) ⟨hx, hb, hml, hown, hts⟩ (c6_in l g what 0 1 r_what (by decide) (by decide) ) (va_cwS 3 hts gX6_rule_X6_in rfl rfl rfl (by decide +kernel) ⟨Nat.le_of_ble_eq_true rfl, Nat.le_of_ble_eq_true rfl⟩) (q_pS hK trivial) rfl hl.1 rfl (Nat.le_of_ble_eq_true rfl) ⟨Nat.zero_le _, Nat.zero_le _⟩ dX6_rule_3 ?_
  refine q_ifb_eq (tgt := 30) hx hb dX6_rule_6 (by decide) (fun c6 => ?_) (fun c6 => ?_)
  · refine lv_iconst (v := iI (-1)) hx hb dX6_rule_30 rfl ?_
    refine q_mreti hx hb hr hlocks hS dX6_rule_31 ?_ ?_
    · show _ = aRule S what v
      unfold aRule
      rw [cI_f (by omega)]
    · unfold tRule
      rw [cI_f (by omega)]
      exact hM
  · refine lv_iload_n hx hb dX6_rule_9 rfl (lv_at hl 2 rfl) ?_
    refine lv_iconst (v := iI 0) hx hb dX6_rule_10 rfl ?_
    refine lv_iload_n hx hb dX6_rule_11 rfl (lv_at hl 1 rfl) ?_
    refine q_if_ne (tgt := 21) hx hb dX6_rule_12 (by decide) r_what (fun c12 => ?_) (fun c12 => ?_)
    · refine q_sipush hx hb 500 dX6_rule_21 (by decide +kernel) ?_
      refine q_cSi (As := [.int (iI v), .int (iI 0), .int (iI 500)]) (rest := []) ⟨hx, hb, hml, hown, hts⟩ (c6_in l g v 0 500 r_v (by decide) (by decide) ) (va_cwS 3 hts gX6_rule_X6_in rfl rfl rfl (by decide +kernel) ⟨Nat.le_of_ble_eq_true rfl, Nat.le_of_ble_eq_true rfl⟩) (q_pS hK trivial) rfl hl.1 rfl (Nat.le_of_ble_eq_true rfl) ⟨Nat.zero_le _, Nat.zero_le _⟩ dX6_rule_24 ?_
      refine q_ifb_ne (tgt := 32) hx hb dX6_rule_27 (by decide) (fun c27 => ?_) (fun c27 => ?_)
      · refine lv_iload_n hx hb dX6_rule_32 rfl (lv_at hl 1 rfl) ?_
        refine q_if_ne (tgt := 43) hx hb dX6_rule_33 (by decide) r_what (fun c33 => ?_) (fun c33 => ?_)
        · refine lv_aload_n hx hb dX6_rule_43 rfl (lv_at hl 0 rfl) ?_
          refine q_get (v := .int (iI (S 9 0))) (C := RX6) (T := TX6) (N := 32) hx hb hts inX6 hown hK hM.1 rfl 9 (by decide) (hts (.fieldLink RX6 32 "TavernBenchModel" "heard" "I") (by decide +kernel)) (fun _ h9 => h9) rfl dX6_rule_44 ?_
          refine lv_istore_n (lv' := [(3, .int (iI (S 9 0))), (0, .ref (mad 0)), (1, .int (iI what)), (2, .int (iI v))]) hx hb dX6_rule_47 rfl hl (by decide) rfl (fun ls hl => ?_)
          refine lv_aload_n hx hb dX6_rule_48 rfl (lv_at hl 1 rfl) ?_
          refine lv_iload_n hx hb dX6_rule_49 rfl (lv_at hl 2 rfl) ?_
          refine q_if_ne (tgt := 57) hx hb dX6_rule_50 (by decide) r_what (fun c50 => ?_) (fun c50 => ?_)
          · refine lv_aload_n hx hb dX6_rule_57 rfl (lv_at hl 1 rfl) ?_
            refine q_get (v := .int (iI (S 8 0))) (C := RX6) (T := TX6) (N := 32) hx hb hts inX6 hown hK hM.1 rfl 8 (by decide) (hts (.fieldLink RX6 28 "TavernBenchModel" "near" "I") (by decide +kernel)) (fun _ h9 => h9) rfl dX6_rule_58 ?_
            refine q_mput hx hb hts inX6 hown hK hM hi hS ⟨0, by decide, Or.inl rfl, rfl⟩ 8 (by decide) rfl (hts (.fieldLink RX6 28 "TavernBenchModel" "near" "I") (by decide +kernel)) (fun _ h9 => h9) rfl (by decide +kernel) (S 8 0) rfl dX6_rule_61 (fun H locs hM hS => ?_)
            refine lv_aload_n hx hb dX6_rule_64 rfl (lv_at hl 1 rfl) ?_
            refine lv_iload_n hx hb dX6_rule_65 rfl (lv_at hl 2 rfl) ?_
            refine lv_iconst (v := iI 1) hx hb dX6_rule_66 rfl ?_
            refine q_icmp_ne (tgt := 74) hx hb dX6_rule_67 (by decide) r_what (by decide) (fun c67 => ?_) (fun c67 => ?_)
            · refine lv_aload_n hx hb dX6_rule_74 rfl (lv_at hl 1 rfl) ?_
              refine q_get (v := .int (iI (S 9 0))) (C := RX6) (T := TX6) (N := 32) hx hb hts inX6 hown hK hM.1 rfl 9 (by decide) (hts (.fieldLink RX6 32 "TavernBenchModel" "heard" "I") (by decide +kernel)) (fun _ h9 => h9) rfl dX6_rule_75 ?_
              refine q_mput hx hb hts inX6 hown hK hM hi hS ⟨0, by decide, Or.inl rfl, rfl⟩ 9 (by decide) rfl (hts (.fieldLink RX6 32 "TavernBenchModel" "heard" "I") (by decide +kernel)) (fun _ h9 => h9) rfl (by decide +kernel) (S 9 0) rfl dX6_rule_78 (fun H locs hM hS => ?_)
              refine lv_iload_n hx hb dX6_rule_81 rfl (lv_at hl 0 rfl) ?_
              refine q_mreti hx hb hr hlocks hS dX6_rule_82 ?_ ?_
              · exfalso
                omega
              · exfalso
                omega
            · refine lv_iload_n hx hb dX6_rule_70 rfl (lv_at hl 3 rfl) ?_
              refine lv_goto (tgt := 78) hx hb dX6_rule_71 (by decide) ?_
              refine q_mput hx hb hts inX6 hown hK hM hi hS ⟨0, by decide, Or.inl rfl, rfl⟩ 9 (by decide) rfl (hts (.fieldLink RX6 32 "TavernBenchModel" "heard" "I") (by decide +kernel)) (fun _ h9 => h9) rfl (by decide +kernel) v rfl dX6_rule_78 (fun H locs hM hS => ?_)
              refine lv_iload_n hx hb dX6_rule_81 rfl (lv_at hl 0 rfl) ?_
              refine q_mreti hx hb hr hlocks hS dX6_rule_82 ?_ ?_
              · show _ = aRule S what v
                unfold aRule
                rw [cI_t (by omega)]
                first | rw [cI_t (by omega)] | rw [cI_f (by omega)]
              · unfold tRule
                rw [cI_t (by omega)]
                first | (rw [cI_t (by omega), cI_f (by omega)]; exact hM) | (rw [cI_f (by omega), cI_t (by omega)]; exact hM)
          · refine lv_iload_n hx hb dX6_rule_53 rfl (lv_at hl 3 rfl) ?_
            refine lv_goto (tgt := 61) hx hb dX6_rule_54 (by decide) ?_
            refine q_mput hx hb hts inX6 hown hK hM hi hS ⟨0, by decide, Or.inl rfl, rfl⟩ 8 (by decide) rfl (hts (.fieldLink RX6 28 "TavernBenchModel" "near" "I") (by decide +kernel)) (fun _ h9 => h9) rfl (by decide +kernel) v rfl dX6_rule_61 (fun H locs hM hS => ?_)
            refine lv_aload_n hx hb dX6_rule_64 rfl (lv_at hl 1 rfl) ?_
            refine lv_iload_n hx hb dX6_rule_65 rfl (lv_at hl 2 rfl) ?_
            refine lv_iconst (v := iI 1) hx hb dX6_rule_66 rfl ?_
            refine q_icmp_ne (tgt := 74) hx hb dX6_rule_67 (by decide) r_what (by decide) (fun c67_1 => ?_) (fun c67_1 => ?_)
            · refine lv_aload_n hx hb dX6_rule_74 rfl (lv_at hl 1 rfl) ?_
              refine q_get (v := .int (iI (S 9 0))) (C := RX6) (T := TX6) (N := 32) hx hb hts inX6 hown hK hM.1 rfl 9 (by decide) (hts (.fieldLink RX6 32 "TavernBenchModel" "heard" "I") (by decide +kernel)) (fun _ h9 => h9) rfl dX6_rule_75 ?_
              refine q_mput hx hb hts inX6 hown hK hM hi hS ⟨0, by decide, Or.inl rfl, rfl⟩ 9 (by decide) rfl (hts (.fieldLink RX6 32 "TavernBenchModel" "heard" "I") (by decide +kernel)) (fun _ h9 => h9) rfl (by decide +kernel) (S 9 0) rfl dX6_rule_78 (fun H locs hM hS => ?_)
              refine lv_iload_n hx hb dX6_rule_81 rfl (lv_at hl 0 rfl) ?_
              refine q_mreti hx hb hr hlocks hS dX6_rule_82 ?_ ?_
              · exfalso
                omega
              · exfalso
                omega
            · refine lv_iload_n hx hb dX6_rule_70 rfl (lv_at hl 3 rfl) ?_
              refine lv_goto (tgt := 78) hx hb dX6_rule_71 (by decide) ?_
              refine q_mput hx hb hts inX6 hown hK hM hi hS ⟨0, by decide, Or.inl rfl, rfl⟩ 9 (by decide) rfl (hts (.fieldLink RX6 32 "TavernBenchModel" "heard" "I") (by decide +kernel)) (fun _ h9 => h9) rfl (by decide +kernel) v rfl dX6_rule_78 (fun H locs hM hS => ?_)
              refine lv_iload_n hx hb dX6_rule_81 rfl (lv_at hl 0 rfl) ?_
              refine q_mreti hx hb hr hlocks hS dX6_rule_82 ?_ ?_
              · exfalso
                omega
              · exfalso
                omega
        · refine lv_aload_n hx hb dX6_rule_36 rfl (lv_at hl 0 rfl) ?_
          refine q_get (v := .int (iI (S 8 0))) (C := RX6) (T := TX6) (N := 32) hx hb hts inX6 hown hK hM.1 rfl 8 (by decide) (hts (.fieldLink RX6 28 "TavernBenchModel" "near" "I") (by decide +kernel)) (fun _ h9 => h9) rfl dX6_rule_37 ?_
          refine lv_goto (tgt := 47) hx hb dX6_rule_40 (by decide) ?_
          refine lv_istore_n (lv' := [(3, .int (iI (S 8 0))), (0, .ref (mad 0)), (1, .int (iI what)), (2, .int (iI v))]) hx hb dX6_rule_47 rfl hl (by decide) rfl (fun ls hl => ?_)
          refine lv_aload_n hx hb dX6_rule_48 rfl (lv_at hl 1 rfl) ?_
          refine lv_iload_n hx hb dX6_rule_49 rfl (lv_at hl 2 rfl) ?_
          refine q_if_ne (tgt := 57) hx hb dX6_rule_50 (by decide) r_what (fun c50_1 => ?_) (fun c50_1 => ?_)
          · refine lv_aload_n hx hb dX6_rule_57 rfl (lv_at hl 1 rfl) ?_
            refine q_get (v := .int (iI (S 8 0))) (C := RX6) (T := TX6) (N := 32) hx hb hts inX6 hown hK hM.1 rfl 8 (by decide) (hts (.fieldLink RX6 28 "TavernBenchModel" "near" "I") (by decide +kernel)) (fun _ h9 => h9) rfl dX6_rule_58 ?_
            refine q_mput hx hb hts inX6 hown hK hM hi hS ⟨0, by decide, Or.inl rfl, rfl⟩ 8 (by decide) rfl (hts (.fieldLink RX6 28 "TavernBenchModel" "near" "I") (by decide +kernel)) (fun _ h9 => h9) rfl (by decide +kernel) (S 8 0) rfl dX6_rule_61 (fun H locs hM hS => ?_)
            refine lv_aload_n hx hb dX6_rule_64 rfl (lv_at hl 1 rfl) ?_
            refine lv_iload_n hx hb dX6_rule_65 rfl (lv_at hl 2 rfl) ?_
            refine lv_iconst (v := iI 1) hx hb dX6_rule_66 rfl ?_
            refine q_icmp_ne (tgt := 74) hx hb dX6_rule_67 (by decide) r_what (by decide) (fun c67_2 => ?_) (fun c67_2 => ?_)
            · refine lv_aload_n hx hb dX6_rule_74 rfl (lv_at hl 1 rfl) ?_
              refine q_get (v := .int (iI (S 9 0))) (C := RX6) (T := TX6) (N := 32) hx hb hts inX6 hown hK hM.1 rfl 9 (by decide) (hts (.fieldLink RX6 32 "TavernBenchModel" "heard" "I") (by decide +kernel)) (fun _ h9 => h9) rfl dX6_rule_75 ?_
              refine q_mput hx hb hts inX6 hown hK hM hi hS ⟨0, by decide, Or.inl rfl, rfl⟩ 9 (by decide) rfl (hts (.fieldLink RX6 32 "TavernBenchModel" "heard" "I") (by decide +kernel)) (fun _ h9 => h9) rfl (by decide +kernel) (S 9 0) rfl dX6_rule_78 (fun H locs hM hS => ?_)
              refine lv_iload_n hx hb dX6_rule_81 rfl (lv_at hl 0 rfl) ?_
              refine q_mreti hx hb hr hlocks hS dX6_rule_82 ?_ ?_
              · exfalso
                omega
              · exfalso
                omega
            · refine lv_iload_n hx hb dX6_rule_70 rfl (lv_at hl 3 rfl) ?_
              refine lv_goto (tgt := 78) hx hb dX6_rule_71 (by decide) ?_
              refine q_mput hx hb hts inX6 hown hK hM hi hS ⟨0, by decide, Or.inl rfl, rfl⟩ 9 (by decide) rfl (hts (.fieldLink RX6 32 "TavernBenchModel" "heard" "I") (by decide +kernel)) (fun _ h9 => h9) rfl (by decide +kernel) v rfl dX6_rule_78 (fun H locs hM hS => ?_)
              refine lv_iload_n hx hb dX6_rule_81 rfl (lv_at hl 0 rfl) ?_
              refine q_mreti hx hb hr hlocks hS dX6_rule_82 ?_ ?_
              · exfalso
                omega
              · exfalso
                omega
          · refine lv_iload_n hx hb dX6_rule_53 rfl (lv_at hl 3 rfl) ?_
            refine lv_goto (tgt := 61) hx hb dX6_rule_54 (by decide) ?_
            refine q_mput hx hb hts inX6 hown hK hM hi hS ⟨0, by decide, Or.inl rfl, rfl⟩ 8 (by decide) rfl (hts (.fieldLink RX6 28 "TavernBenchModel" "near" "I") (by decide +kernel)) (fun _ h9 => h9) rfl (by decide +kernel) v rfl dX6_rule_61 (fun H locs hM hS => ?_)
            refine lv_aload_n hx hb dX6_rule_64 rfl (lv_at hl 1 rfl) ?_
            refine lv_iload_n hx hb dX6_rule_65 rfl (lv_at hl 2 rfl) ?_
            refine lv_iconst (v := iI 1) hx hb dX6_rule_66 rfl ?_
            refine q_icmp_ne (tgt := 74) hx hb dX6_rule_67 (by decide) r_what (by decide) (fun c67_3 => ?_) (fun c67_3 => ?_)
            · refine lv_aload_n hx hb dX6_rule_74 rfl (lv_at hl 1 rfl) ?_
              refine q_get (v := .int (iI (S 9 0))) (C := RX6) (T := TX6) (N := 32) hx hb hts inX6 hown hK hM.1 rfl 9 (by decide) (hts (.fieldLink RX6 32 "TavernBenchModel" "heard" "I") (by decide +kernel)) (fun _ h9 => h9) rfl dX6_rule_75 ?_
              refine q_mput hx hb hts inX6 hown hK hM hi hS ⟨0, by decide, Or.inl rfl, rfl⟩ 9 (by decide) rfl (hts (.fieldLink RX6 32 "TavernBenchModel" "heard" "I") (by decide +kernel)) (fun _ h9 => h9) rfl (by decide +kernel) (S 9 0) rfl dX6_rule_78 (fun H locs hM hS => ?_)
              refine lv_iload_n hx hb dX6_rule_81 rfl (lv_at hl 0 rfl) ?_
              refine q_mreti hx hb hr hlocks hS dX6_rule_82 ?_ ?_
              · exfalso
                omega
              · exfalso
                omega
            · refine lv_iload_n hx hb dX6_rule_70 rfl (lv_at hl 3 rfl) ?_
              refine lv_goto (tgt := 78) hx hb dX6_rule_71 (by decide) ?_
              refine q_mput hx hb hts inX6 hown hK hM hi hS ⟨0, by decide, Or.inl rfl, rfl⟩ 9 (by decide) rfl (hts (.fieldLink RX6 32 "TavernBenchModel" "heard" "I") (by decide +kernel)) (fun _ h9 => h9) rfl (by decide +kernel) v rfl dX6_rule_78 (fun H locs hM hS => ?_)
              refine lv_iload_n hx hb dX6_rule_81 rfl (lv_at hl 0 rfl) ?_
              refine q_mreti hx hb hr hlocks hS dX6_rule_82 ?_ ?_
              · exfalso
                omega
              · exfalso
                omega
      · refine lv_iconst (v := iI (-1)) hx hb dX6_rule_30 rfl ?_
        refine q_mreti hx hb hr hlocks hS dX6_rule_31 ?_ ?_
        · show _ = aRule S what v
          unfold aRule
          rw [cI_f (by omega)]
        · unfold tRule
          rw [cI_f (by omega)]
          exact hM
    · refine q_sipush hx hb 200 dX6_rule_15 (by decide +kernel) ?_
      refine lv_goto (tgt := 24) hx hb dX6_rule_18 (by decide) ?_
      refine q_cSi (As := [.int (iI v), .int (iI 0), .int (iI 200)]) (rest := []) ⟨hx, hb, hml, hown, hts⟩ (c6_in l g v 0 200 r_v (by decide) (by decide) ) (va_cwS 3 hts gX6_rule_X6_in rfl rfl rfl (by decide +kernel) ⟨Nat.le_of_ble_eq_true rfl, Nat.le_of_ble_eq_true rfl⟩) (q_pS hK trivial) rfl hl.1 rfl (Nat.le_of_ble_eq_true rfl) ⟨Nat.zero_le _, Nat.zero_le _⟩ dX6_rule_24 ?_
      refine q_ifb_ne (tgt := 32) hx hb dX6_rule_27 (by decide) (fun c27_1 => ?_) (fun c27_1 => ?_)
      · refine lv_iload_n hx hb dX6_rule_32 rfl (lv_at hl 1 rfl) ?_
        refine q_if_ne (tgt := 43) hx hb dX6_rule_33 (by decide) r_what (fun c33_1 => ?_) (fun c33_1 => ?_)
        · refine lv_aload_n hx hb dX6_rule_43 rfl (lv_at hl 0 rfl) ?_
          refine q_get (v := .int (iI (S 9 0))) (C := RX6) (T := TX6) (N := 32) hx hb hts inX6 hown hK hM.1 rfl 9 (by decide) (hts (.fieldLink RX6 32 "TavernBenchModel" "heard" "I") (by decide +kernel)) (fun _ h9 => h9) rfl dX6_rule_44 ?_
          refine lv_istore_n (lv' := [(3, .int (iI (S 9 0))), (0, .ref (mad 0)), (1, .int (iI what)), (2, .int (iI v))]) hx hb dX6_rule_47 rfl hl (by decide) rfl (fun ls hl => ?_)
          refine lv_aload_n hx hb dX6_rule_48 rfl (lv_at hl 1 rfl) ?_
          refine lv_iload_n hx hb dX6_rule_49 rfl (lv_at hl 2 rfl) ?_
          refine q_if_ne (tgt := 57) hx hb dX6_rule_50 (by decide) r_what (fun c50_2 => ?_) (fun c50_2 => ?_)
          · refine lv_aload_n hx hb dX6_rule_57 rfl (lv_at hl 1 rfl) ?_
            refine q_get (v := .int (iI (S 8 0))) (C := RX6) (T := TX6) (N := 32) hx hb hts inX6 hown hK hM.1 rfl 8 (by decide) (hts (.fieldLink RX6 28 "TavernBenchModel" "near" "I") (by decide +kernel)) (fun _ h9 => h9) rfl dX6_rule_58 ?_
            refine q_mput hx hb hts inX6 hown hK hM hi hS ⟨0, by decide, Or.inl rfl, rfl⟩ 8 (by decide) rfl (hts (.fieldLink RX6 28 "TavernBenchModel" "near" "I") (by decide +kernel)) (fun _ h9 => h9) rfl (by decide +kernel) (S 8 0) rfl dX6_rule_61 (fun H locs hM hS => ?_)
            refine lv_aload_n hx hb dX6_rule_64 rfl (lv_at hl 1 rfl) ?_
            refine lv_iload_n hx hb dX6_rule_65 rfl (lv_at hl 2 rfl) ?_
            refine lv_iconst (v := iI 1) hx hb dX6_rule_66 rfl ?_
            refine q_icmp_ne (tgt := 74) hx hb dX6_rule_67 (by decide) r_what (by decide) (fun c67_4 => ?_) (fun c67_4 => ?_)
            · refine lv_aload_n hx hb dX6_rule_74 rfl (lv_at hl 1 rfl) ?_
              refine q_get (v := .int (iI (S 9 0))) (C := RX6) (T := TX6) (N := 32) hx hb hts inX6 hown hK hM.1 rfl 9 (by decide) (hts (.fieldLink RX6 32 "TavernBenchModel" "heard" "I") (by decide +kernel)) (fun _ h9 => h9) rfl dX6_rule_75 ?_
              refine q_mput hx hb hts inX6 hown hK hM hi hS ⟨0, by decide, Or.inl rfl, rfl⟩ 9 (by decide) rfl (hts (.fieldLink RX6 32 "TavernBenchModel" "heard" "I") (by decide +kernel)) (fun _ h9 => h9) rfl (by decide +kernel) (S 9 0) rfl dX6_rule_78 (fun H locs hM hS => ?_)
              refine lv_iload_n hx hb dX6_rule_81 rfl (lv_at hl 0 rfl) ?_
              refine q_mreti hx hb hr hlocks hS dX6_rule_82 ?_ ?_
              · exfalso
                omega
              · exfalso
                omega
            · refine lv_iload_n hx hb dX6_rule_70 rfl (lv_at hl 3 rfl) ?_
              refine lv_goto (tgt := 78) hx hb dX6_rule_71 (by decide) ?_
              refine q_mput hx hb hts inX6 hown hK hM hi hS ⟨0, by decide, Or.inl rfl, rfl⟩ 9 (by decide) rfl (hts (.fieldLink RX6 32 "TavernBenchModel" "heard" "I") (by decide +kernel)) (fun _ h9 => h9) rfl (by decide +kernel) v rfl dX6_rule_78 (fun H locs hM hS => ?_)
              refine lv_iload_n hx hb dX6_rule_81 rfl (lv_at hl 0 rfl) ?_
              refine q_mreti hx hb hr hlocks hS dX6_rule_82 ?_ ?_
              · exfalso
                omega
              · exfalso
                omega
          · refine lv_iload_n hx hb dX6_rule_53 rfl (lv_at hl 3 rfl) ?_
            refine lv_goto (tgt := 61) hx hb dX6_rule_54 (by decide) ?_
            refine q_mput hx hb hts inX6 hown hK hM hi hS ⟨0, by decide, Or.inl rfl, rfl⟩ 8 (by decide) rfl (hts (.fieldLink RX6 28 "TavernBenchModel" "near" "I") (by decide +kernel)) (fun _ h9 => h9) rfl (by decide +kernel) v rfl dX6_rule_61 (fun H locs hM hS => ?_)
            refine lv_aload_n hx hb dX6_rule_64 rfl (lv_at hl 1 rfl) ?_
            refine lv_iload_n hx hb dX6_rule_65 rfl (lv_at hl 2 rfl) ?_
            refine lv_iconst (v := iI 1) hx hb dX6_rule_66 rfl ?_
            refine q_icmp_ne (tgt := 74) hx hb dX6_rule_67 (by decide) r_what (by decide) (fun c67_5 => ?_) (fun c67_5 => ?_)
            · refine lv_aload_n hx hb dX6_rule_74 rfl (lv_at hl 1 rfl) ?_
              refine q_get (v := .int (iI (S 9 0))) (C := RX6) (T := TX6) (N := 32) hx hb hts inX6 hown hK hM.1 rfl 9 (by decide) (hts (.fieldLink RX6 32 "TavernBenchModel" "heard" "I") (by decide +kernel)) (fun _ h9 => h9) rfl dX6_rule_75 ?_
              refine q_mput hx hb hts inX6 hown hK hM hi hS ⟨0, by decide, Or.inl rfl, rfl⟩ 9 (by decide) rfl (hts (.fieldLink RX6 32 "TavernBenchModel" "heard" "I") (by decide +kernel)) (fun _ h9 => h9) rfl (by decide +kernel) (S 9 0) rfl dX6_rule_78 (fun H locs hM hS => ?_)
              refine lv_iload_n hx hb dX6_rule_81 rfl (lv_at hl 0 rfl) ?_
              refine q_mreti hx hb hr hlocks hS dX6_rule_82 ?_ ?_
              · exfalso
                omega
              · exfalso
                omega
            · refine lv_iload_n hx hb dX6_rule_70 rfl (lv_at hl 3 rfl) ?_
              refine lv_goto (tgt := 78) hx hb dX6_rule_71 (by decide) ?_
              refine q_mput hx hb hts inX6 hown hK hM hi hS ⟨0, by decide, Or.inl rfl, rfl⟩ 9 (by decide) rfl (hts (.fieldLink RX6 32 "TavernBenchModel" "heard" "I") (by decide +kernel)) (fun _ h9 => h9) rfl (by decide +kernel) v rfl dX6_rule_78 (fun H locs hM hS => ?_)
              refine lv_iload_n hx hb dX6_rule_81 rfl (lv_at hl 0 rfl) ?_
              refine q_mreti hx hb hr hlocks hS dX6_rule_82 ?_ ?_
              · exfalso
                omega
              · exfalso
                omega
        · refine lv_aload_n hx hb dX6_rule_36 rfl (lv_at hl 0 rfl) ?_
          refine q_get (v := .int (iI (S 8 0))) (C := RX6) (T := TX6) (N := 32) hx hb hts inX6 hown hK hM.1 rfl 8 (by decide) (hts (.fieldLink RX6 28 "TavernBenchModel" "near" "I") (by decide +kernel)) (fun _ h9 => h9) rfl dX6_rule_37 ?_
          refine lv_goto (tgt := 47) hx hb dX6_rule_40 (by decide) ?_
          refine lv_istore_n (lv' := [(3, .int (iI (S 8 0))), (0, .ref (mad 0)), (1, .int (iI what)), (2, .int (iI v))]) hx hb dX6_rule_47 rfl hl (by decide) rfl (fun ls hl => ?_)
          refine lv_aload_n hx hb dX6_rule_48 rfl (lv_at hl 1 rfl) ?_
          refine lv_iload_n hx hb dX6_rule_49 rfl (lv_at hl 2 rfl) ?_
          refine q_if_ne (tgt := 57) hx hb dX6_rule_50 (by decide) r_what (fun c50_3 => ?_) (fun c50_3 => ?_)
          · refine lv_aload_n hx hb dX6_rule_57 rfl (lv_at hl 1 rfl) ?_
            refine q_get (v := .int (iI (S 8 0))) (C := RX6) (T := TX6) (N := 32) hx hb hts inX6 hown hK hM.1 rfl 8 (by decide) (hts (.fieldLink RX6 28 "TavernBenchModel" "near" "I") (by decide +kernel)) (fun _ h9 => h9) rfl dX6_rule_58 ?_
            refine q_mput hx hb hts inX6 hown hK hM hi hS ⟨0, by decide, Or.inl rfl, rfl⟩ 8 (by decide) rfl (hts (.fieldLink RX6 28 "TavernBenchModel" "near" "I") (by decide +kernel)) (fun _ h9 => h9) rfl (by decide +kernel) (S 8 0) rfl dX6_rule_61 (fun H locs hM hS => ?_)
            refine lv_aload_n hx hb dX6_rule_64 rfl (lv_at hl 1 rfl) ?_
            refine lv_iload_n hx hb dX6_rule_65 rfl (lv_at hl 2 rfl) ?_
            refine lv_iconst (v := iI 1) hx hb dX6_rule_66 rfl ?_
            refine q_icmp_ne (tgt := 74) hx hb dX6_rule_67 (by decide) r_what (by decide) (fun c67_6 => ?_) (fun c67_6 => ?_)
            · refine lv_aload_n hx hb dX6_rule_74 rfl (lv_at hl 1 rfl) ?_
              refine q_get (v := .int (iI (S 9 0))) (C := RX6) (T := TX6) (N := 32) hx hb hts inX6 hown hK hM.1 rfl 9 (by decide) (hts (.fieldLink RX6 32 "TavernBenchModel" "heard" "I") (by decide +kernel)) (fun _ h9 => h9) rfl dX6_rule_75 ?_
              refine q_mput hx hb hts inX6 hown hK hM hi hS ⟨0, by decide, Or.inl rfl, rfl⟩ 9 (by decide) rfl (hts (.fieldLink RX6 32 "TavernBenchModel" "heard" "I") (by decide +kernel)) (fun _ h9 => h9) rfl (by decide +kernel) (S 9 0) rfl dX6_rule_78 (fun H locs hM hS => ?_)
              refine lv_iload_n hx hb dX6_rule_81 rfl (lv_at hl 0 rfl) ?_
              refine q_mreti hx hb hr hlocks hS dX6_rule_82 ?_ ?_
              · exfalso
                omega
              · exfalso
                omega
            · refine lv_iload_n hx hb dX6_rule_70 rfl (lv_at hl 3 rfl) ?_
              refine lv_goto (tgt := 78) hx hb dX6_rule_71 (by decide) ?_
              refine q_mput hx hb hts inX6 hown hK hM hi hS ⟨0, by decide, Or.inl rfl, rfl⟩ 9 (by decide) rfl (hts (.fieldLink RX6 32 "TavernBenchModel" "heard" "I") (by decide +kernel)) (fun _ h9 => h9) rfl (by decide +kernel) v rfl dX6_rule_78 (fun H locs hM hS => ?_)
              refine lv_iload_n hx hb dX6_rule_81 rfl (lv_at hl 0 rfl) ?_
              refine q_mreti hx hb hr hlocks hS dX6_rule_82 ?_ ?_
              · exfalso
                omega
              · exfalso
                omega
          · refine lv_iload_n hx hb dX6_rule_53 rfl (lv_at hl 3 rfl) ?_
            refine lv_goto (tgt := 61) hx hb dX6_rule_54 (by decide) ?_
            refine q_mput hx hb hts inX6 hown hK hM hi hS ⟨0, by decide, Or.inl rfl, rfl⟩ 8 (by decide) rfl (hts (.fieldLink RX6 28 "TavernBenchModel" "near" "I") (by decide +kernel)) (fun _ h9 => h9) rfl (by decide +kernel) v rfl dX6_rule_61 (fun H locs hM hS => ?_)
            refine lv_aload_n hx hb dX6_rule_64 rfl (lv_at hl 1 rfl) ?_
            refine lv_iload_n hx hb dX6_rule_65 rfl (lv_at hl 2 rfl) ?_
            refine lv_iconst (v := iI 1) hx hb dX6_rule_66 rfl ?_
            refine q_icmp_ne (tgt := 74) hx hb dX6_rule_67 (by decide) r_what (by decide) (fun c67_7 => ?_) (fun c67_7 => ?_)
            · refine lv_aload_n hx hb dX6_rule_74 rfl (lv_at hl 1 rfl) ?_
              refine q_get (v := .int (iI (S 9 0))) (C := RX6) (T := TX6) (N := 32) hx hb hts inX6 hown hK hM.1 rfl 9 (by decide) (hts (.fieldLink RX6 32 "TavernBenchModel" "heard" "I") (by decide +kernel)) (fun _ h9 => h9) rfl dX6_rule_75 ?_
              refine q_mput hx hb hts inX6 hown hK hM hi hS ⟨0, by decide, Or.inl rfl, rfl⟩ 9 (by decide) rfl (hts (.fieldLink RX6 32 "TavernBenchModel" "heard" "I") (by decide +kernel)) (fun _ h9 => h9) rfl (by decide +kernel) (S 9 0) rfl dX6_rule_78 (fun H locs hM hS => ?_)
              refine lv_iload_n hx hb dX6_rule_81 rfl (lv_at hl 0 rfl) ?_
              refine q_mreti hx hb hr hlocks hS dX6_rule_82 ?_ ?_
              · show _ = aRule S what v
                unfold aRule
                rw [cI_t (by omega)]
                first | rw [cI_t (by omega)] | rw [cI_f (by omega)]
              · unfold tRule
                rw [cI_t (by omega)]
                first | (rw [cI_t (by omega), cI_f (by omega)]; exact hM) | (rw [cI_f (by omega), cI_t (by omega)]; exact hM)
            · refine lv_iload_n hx hb dX6_rule_70 rfl (lv_at hl 3 rfl) ?_
              refine lv_goto (tgt := 78) hx hb dX6_rule_71 (by decide) ?_
              refine q_mput hx hb hts inX6 hown hK hM hi hS ⟨0, by decide, Or.inl rfl, rfl⟩ 9 (by decide) rfl (hts (.fieldLink RX6 32 "TavernBenchModel" "heard" "I") (by decide +kernel)) (fun _ h9 => h9) rfl (by decide +kernel) v rfl dX6_rule_78 (fun H locs hM hS => ?_)
              refine lv_iload_n hx hb dX6_rule_81 rfl (lv_at hl 0 rfl) ?_
              refine q_mreti hx hb hr hlocks hS dX6_rule_82 ?_ ?_
              · exfalso
                omega
              · exfalso
                omega
      · refine lv_iconst (v := iI (-1)) hx hb dX6_rule_30 rfl ?_
        refine q_mreti hx hb hr hlocks hS dX6_rule_31 ?_ ?_
        · show _ = aRule S what v
          unfold aRule
          rw [cI_f (by omega)]
        · unfold tRule
          rw [cI_f (by omega)]
          exact hM

set_option maxHeartbeats 4000000 in
set_option maxRecDepth 100000 in
theorem c6_objector (l : Launch) (g : GG) (mad : Nat → Nat) (S : St) (hI : Inv S) (x : Int) (y : Int) (wt : Int) (r_x : R32 x) (r_y : R32 y) (r_wt : R32 wt) (hi : mInj mad)  : MetM l yX6_objector wsX6_objector ({ frames := 2, cells := 0, slots := 0, locals := 43 }) g [.ref (mad 0), .int (iI x), .int (iI y), .int (iI wt)] (fun H => RepM g mad S H) (aObj S x y wt) (fun H => RepM g mad (tObj S x y wt) H) (PM mad) 0 0 := by
  refine Met.ofW (cc := cX6_objector) (maxL := 4) (ret := (some .int)) (by decide) rfl ?_
  intro p e s m args below meth c s₁ B hml hv
  obtain ⟨rfl, hM, hK⟩ := hv
  have hx := B.exec
  have hb := B.bytes
  have hr := B.returns
  have hts := atoms_spec (ws := wsX6_objector) B.pre
  have hown : s.vm.findClass RX6 = some m.cls := findClass_of_methodNamed B.named
  have hlocks := B.notSynchronized
  have inX6 : ∀ w ∈ wsX60, w ∈ wsX6_objector := by decide +kernel
  have hl := lv_entry ([.ref (mad 0), .int (iI x), .int (iI y), .int (iI wt)]) (n := 4) (Nat.le_of_ble_eq_true rfl)
  rw [lg_entry_eq]
  generalize (lg_sl ([.ref (mad 0), .int (iI x), .int (iI y), .int (iI wt)]) ++ List.replicate (4 - (lg_sl ([.ref (mad 0), .int (iI x), .int (iI y), .int (iI wt)])).length) Slot.unset).toArray = ls at hl ⊢
  have hl : lv_has ls 4 [(0, .ref (mad 0)), (1, .int (iI x)), (2, .int (iI y)), (3, .int (iI wt))] := hl
  have hS : va_S (PM mad) s.heap s.heap [] := va_S.rf
  have hN := hI.nums
  refine lv_iload_n hx hb dX6_objector_0 rfl (lv_at hl 1 rfl) ?_
  refine lv_iload_n hx hb dX6_objector_1 rfl (lv_at hl 2 rfl) ?_
  refine q_cSi (As := [.int (iI x), .int (iI y)]) (rest := []) ⟨hx, hb, hml, hown, hts⟩ (c6_isPlace l g x y r_x r_y ) (va_cwS 2 hts gX6_objector_X6_isPlace rfl rfl rfl (by decide +kernel) ⟨Nat.le_of_ble_eq_true rfl, Nat.le_of_ble_eq_true rfl⟩) (q_pS hK trivial) rfl hl.1 rfl (Nat.le_of_ble_eq_true rfl) ⟨Nat.zero_le _, Nat.zero_le _⟩ dX6_objector_2 ?_
  refine q_ifb_eq (tgt := 18) hx hb dX6_objector_5 (by decide) (fun c5 => ?_) (fun c5 => ?_)
  · refine lv_iconst (v := iI (-1)) hx hb dX6_objector_18 rfl ?_
    refine q_mreti hx hb hr hlocks hS dX6_objector_19 ?_ ?_
    · show _ = aObj S x y wt
      unfold aObj
      rw [cI_f (by omega)]
    · unfold tObj
      rw [cI_f (by omega)]
      exact hM
  · refine lv_iload_n hx hb dX6_objector_8 rfl (lv_at hl 3 rfl) ?_
    refine lv_iconst (v := iI 1) hx hb dX6_objector_9 rfl ?_
    refine q_bipush hx hb 10 dX6_objector_10 (by decide +kernel) ?_
    refine q_cSi (As := [.int (iI wt), .int (iI 1), .int (iI 10)]) (rest := []) ⟨hx, hb, hml, hown, hts⟩ (c6_in l g wt 1 10 r_wt (by decide) (by decide) ) (va_cwS 3 hts gX6_objector_X6_in rfl rfl rfl (by decide +kernel) ⟨Nat.le_of_ble_eq_true rfl, Nat.le_of_ble_eq_true rfl⟩) (q_pS hK trivial) rfl hl.1 rfl (Nat.le_of_ble_eq_true rfl) ⟨Nat.zero_le _, Nat.zero_le _⟩ dX6_objector_12 ?_
    refine q_ifb_ne (tgt := 20) hx hb dX6_objector_15 (by decide) (fun c15 => ?_) (fun c15 => ?_)
    · refine lv_aload_n hx hb dX6_objector_20 rfl (lv_at hl 0 rfl) ?_
      refine q_get (v := .int (iI (S 10 0))) (C := RX6) (T := TX6) (N := 32) hx hb hts inX6 hown hK hM.1 rfl 10 (by decide) (hts (.fieldLink RX6 113 "TavernBenchModel" "objectors" "I") (by decide +kernel)) (fun _ h9 => h9) rfl dX6_objector_21 ?_
      refine q_bipush hx hb 20 dX6_objector_24 (by decide +kernel) ?_
      refine q_icmp_ne (tgt := 32) hx hb dX6_objector_26 (by decide) (hI.R (by decide)) (by decide) (fun c26 => ?_) (fun c26 => ?_)
      · refine lv_aload_n hx hb dX6_objector_32 rfl (lv_at hl 0 rfl) ?_
        refine q_get (v := .ref (mad 11)) (C := RX6) (T := TX6) (N := 32) hx hb hts inX6 hown hK hM.1 rfl 11 (by decide) (hts (.fieldLink RX6 35 "TavernBenchModel" "ox" "[I") (by decide +kernel)) (fun _ h9 => h9) rfl dX6_objector_33 ?_
        refine lv_aload_n hx hb dX6_objector_36 rfl (lv_at hl 0 rfl) ?_
        refine q_get (v := .int (iI (S 10 0))) (C := RX6) (T := TX6) (N := 32) hx hb hts inX6 hown hK hM.1 rfl 10 (by decide) (hts (.fieldLink RX6 113 "TavernBenchModel" "objectors" "I") (by decide +kernel)) (fun _ h9 => h9) rfl dX6_objector_37 ?_
        refine lv_iload_n hx hb dX6_objector_40 rfl (lv_at hl 1 rfl) ?_
        refine q_mst hx hb hK hM hi hS 11 20 ⟨11, by decide, Or.inr (by decide), rfl⟩ ⟨by decide, by decide, by decide⟩ (S 10 0) x (fun _ => rfl) rfl ⟨by omega, by omega⟩ dX6_objector_41 (fun H locs hM hS => ?_)
        refine lv_aload_n hx hb dX6_objector_42 rfl (lv_at hl 0 rfl) ?_
        refine q_get (v := .ref (mad 12)) (C := RX6) (T := TX6) (N := 32) hx hb hts inX6 hown hK hM.1 rfl 12 (by decide) (hts (.fieldLink RX6 38 "TavernBenchModel" "oy" "[I") (by decide +kernel)) (fun _ h9 => h9) rfl dX6_objector_43 ?_
        refine lv_aload_n hx hb dX6_objector_46 rfl (lv_at hl 0 rfl) ?_
        refine q_get (v := .int (iI (S 10 0))) (C := RX6) (T := TX6) (N := 32) hx hb hts inX6 hown hK hM.1 rfl 10 (by decide) (hts (.fieldLink RX6 113 "TavernBenchModel" "objectors" "I") (by decide +kernel)) (fun _ h9 => h9) rfl dX6_objector_47 ?_
        refine lv_iload_n hx hb dX6_objector_50 rfl (lv_at hl 2 rfl) ?_
        refine q_mst hx hb hK hM hi hS 12 20 ⟨12, by decide, Or.inr (by decide), rfl⟩ ⟨by decide, by decide, by decide⟩ (S 10 0) y (fun _ => rfl) rfl ⟨by omega, by omega⟩ dX6_objector_51 (fun H locs hM hS => ?_)
        refine lv_aload_n hx hb dX6_objector_52 rfl (lv_at hl 0 rfl) ?_
        refine q_get (v := .ref (mad 13)) (C := RX6) (T := TX6) (N := 32) hx hb hts inX6 hown hK hM.1 rfl 13 (by decide) (hts (.fieldLink RX6 41 "TavernBenchModel" "ow" "[I") (by decide +kernel)) (fun _ h9 => h9) rfl dX6_objector_53 ?_
        refine lv_aload_n hx hb dX6_objector_56 rfl (lv_at hl 0 rfl) ?_
        refine q_get (v := .int (iI (S 10 0))) (C := RX6) (T := TX6) (N := 32) hx hb hts inX6 hown hK hM.1 rfl 10 (by decide) (hts (.fieldLink RX6 113 "TavernBenchModel" "objectors" "I") (by decide +kernel)) (fun _ h9 => h9) rfl dX6_objector_57 ?_
        refine lv_iload_n hx hb dX6_objector_60 rfl (lv_at hl 3 rfl) ?_
        refine q_mst hx hb hK hM hi hS 13 20 ⟨13, by decide, Or.inr (by decide), rfl⟩ ⟨by decide, by decide, by decide⟩ (S 10 0) wt (fun _ => rfl) rfl ⟨by omega, by omega⟩ dX6_objector_61 (fun H locs hM hS => ?_)
        refine lv_aload_n hx hb dX6_objector_62 rfl (lv_at hl 0 rfl) ?_
        refine lv_dup hx hb dX6_objector_63 rfl ?_
        refine q_get (v := .int (iI (S 10 0))) (C := RX6) (T := TX6) (N := 32) hx hb hts inX6 hown hK hM.1 rfl 10 (by decide) (hts (.fieldLink RX6 113 "TavernBenchModel" "objectors" "I") (by decide +kernel)) (fun _ h9 => h9) rfl dX6_objector_64 ?_
        refine lv_iconst (v := iI 1) hx hb dX6_objector_67 rfl ?_
        refine q_iadd hx hb dX6_objector_68 ?_
        refine q_mput hx hb hts inX6 hown hK hM hi hS ⟨0, by decide, Or.inl rfl, rfl⟩ 10 (by decide) rfl (hts (.fieldLink RX6 113 "TavernBenchModel" "objectors" "I") (by decide +kernel)) (fun _ h9 => h9) rfl (by decide +kernel) ((S 10 0) + 1) rfl dX6_objector_69 (fun H locs hM hS => ?_)
        refine lv_aload_n hx hb dX6_objector_72 rfl (lv_at hl 0 rfl) ?_
        refine q_get (v := .int (iI ((S 10 0) + 1))) (C := RX6) (T := TX6) (N := 32) hx hb hts inX6 hown hK hM.1 rfl 10 (by decide) (hts (.fieldLink RX6 113 "TavernBenchModel" "objectors" "I") (by decide +kernel)) (fun _ h9 => h9) rfl dX6_objector_73 ?_
        refine q_mreti hx hb hr hlocks hS dX6_objector_76 ?_ ?_
        · show _ = aObj S x y wt
          unfold aObj
          rw [cI_t (by omega), cI_f (by omega)]
        · unfold tObj
          rw [cI_t (by omega)]
          exact hM
      · refine q_bipush hx hb (-3) dX6_objector_29 (by decide +kernel) ?_
        refine q_mreti hx hb hr hlocks hS dX6_objector_31 ?_ ?_
        · show _ = aObj S x y wt
          unfold aObj
          rw [cI_t (by omega), cI_t (by omega)]
        · unfold tObj
          rw [cI_f (by omega)]
          exact hM
    · refine lv_iconst (v := iI (-1)) hx hb dX6_objector_18 rfl ?_
      refine q_mreti hx hb hr hlocks hS dX6_objector_19 ?_ ?_
      · show _ = aObj S x y wt
        unfold aObj
        rw [cI_f (by omega)]
      · unfold tObj
        rw [cI_f (by omega)]
        exact hM

set_option maxHeartbeats 4000000 in
set_option maxRecDepth 100000 in
theorem c6_ask (l : Launch) (g : GG) (mad : Nat → Nat) (S : St) (hI : Inv S) (x : Int) (y : Int) (k : Int) (w : Int) (no : Int) (se : Int) (r_x : R32 x) (r_y : R32 y) (r_k : R32 k) (r_w : R32 w) (r_no : R32 no) (r_se : R32 se) (hi : mInj mad)  : MetM l yX6_ask wsX6_ask ({ frames := 5, cells := 0, slots := 0, locals := 125 }) g [.ref (mad 0), .int (iI x), .int (iI y), .int (iI k), .int (iI w), .int (iI no), .int (iI se)] (fun H => RepM g mad S H) (aAsk S x y k w no se) (fun H => RepM g mad (tAsk S x y k w no se) H) (PM mad) 0 0 := by
  refine Met.ofW (cc := cX6_ask) (maxL := 8) (ret := (some .int)) (by decide) rfl ?_
  intro p e s m args below meth c s₁ B hml hv
  obtain ⟨rfl, hM, hK⟩ := hv
  have hx := B.exec
  have hb := B.bytes
  have hr := B.returns
  have hts := atoms_spec (ws := wsX6_ask) B.pre
  have hown : s.vm.findClass RX6 = some m.cls := findClass_of_methodNamed B.named
  have hlocks := B.notSynchronized
  have inX6 : ∀ w ∈ wsX60, w ∈ wsX6_ask := by decide +kernel
  have hl := lv_entry ([.ref (mad 0), .int (iI x), .int (iI y), .int (iI k), .int (iI w), .int (iI no), .int (iI se)]) (n := 8) (Nat.le_of_ble_eq_true rfl)
  rw [lg_entry_eq]
  generalize (lg_sl ([.ref (mad 0), .int (iI x), .int (iI y), .int (iI k), .int (iI w), .int (iI no), .int (iI se)]) ++ List.replicate (8 - (lg_sl ([.ref (mad 0), .int (iI x), .int (iI y), .int (iI k), .int (iI w), .int (iI no), .int (iI se)])).length) Slot.unset).toArray = ls at hl ⊢
  have hl : lv_has ls 8 [(0, .ref (mad 0)), (1, .int (iI x)), (2, .int (iI y)), (3, .int (iI k)), (4, .int (iI w)), (5, .int (iI no)), (6, .int (iI se))] := hl
  have hS : va_S (PM mad) s.heap s.heap [] := va_S.rf
  have hN := hI.nums
  have hjb := sJudge_b S x y no se
  refine lv_iload_n hx hb dX6_ask_0 rfl (lv_at hl 1 rfl) ?_
  refine lv_iload_n hx hb dX6_ask_1 rfl (lv_at hl 2 rfl) ?_
  refine q_cSi (As := [.int (iI x), .int (iI y)]) (rest := []) ⟨hx, hb, hml, hown, hts⟩ (c6_isPlace l g x y r_x r_y ) (va_cwS 2 hts gX6_ask_X6_isPlace rfl rfl rfl (by decide +kernel) ⟨Nat.le_of_ble_eq_true rfl, Nat.le_of_ble_eq_true rfl⟩) (q_pS hK trivial) rfl hl.1 rfl (Nat.le_of_ble_eq_true rfl) ⟨Nat.zero_le _, Nat.zero_le _⟩ dX6_ask_2 ?_
  refine q_ifb_eq (tgt := 51) hx hb dX6_ask_5 (by decide) (fun c5 => ?_) (fun c5 => ?_)
  · refine lv_iconst (v := iI (-1)) hx hb dX6_ask_51 rfl ?_
    refine q_mreti hx hb hr hlocks hS dX6_ask_52 ?_ ?_
    · show _ = aAsk S x y k w no se
      unfold aAsk
      rw [cI_f (by omega)]
    · unfold tAsk
      rw [cI_f (fun z => by have z2 := z.1; omega)]
      exact hM
  · refine lv_iload_n hx hb dX6_ask_8 rfl (lv_at hl 3 rfl) ?_
    refine lv_iconst (v := iI 0) hx hb dX6_ask_9 rfl ?_
    refine lv_iconst (v := iI 2) hx hb dX6_ask_10 rfl ?_
    refine q_cSi (As := [.int (iI k), .int (iI 0), .int (iI 2)]) (rest := []) ⟨hx, hb, hml, hown, hts⟩ (c6_in l g k 0 2 r_k (by decide) (by decide) ) (va_cwS 3 hts gX6_ask_X6_in rfl rfl rfl (by decide +kernel) ⟨Nat.le_of_ble_eq_true rfl, Nat.le_of_ble_eq_true rfl⟩) (q_pS hK trivial) rfl hl.1 rfl (Nat.le_of_ble_eq_true rfl) ⟨Nat.zero_le _, Nat.zero_le _⟩ dX6_ask_11 ?_
    refine q_ifb_eq (tgt := 51) hx hb dX6_ask_14 (by decide) (fun c14 => ?_) (fun c14 => ?_)
    · refine lv_iconst (v := iI (-1)) hx hb dX6_ask_51 rfl ?_
      refine q_mreti hx hb hr hlocks hS dX6_ask_52 ?_ ?_
      · show _ = aAsk S x y k w no se
        unfold aAsk
        rw [cI_f (by omega)]
      · unfold tAsk
        rw [cI_f (fun z => by have z2 := z.1; omega)]
        exact hM
    · refine lv_iload hx hb dX6_ask_17 (lv_at hl 4 rfl) ?_
      refine lv_iconst (v := iI 1) hx hb dX6_ask_19 rfl ?_
      refine q_ldc hx hb 100000 hown (hts (.constant RX6 126 (100000)) (by decide +kernel)) (by decide +kernel) dX6_ask_20 ?_
      refine q_cSi (As := [.int (iI w), .int (iI 1), .int (iI 100000)]) (rest := []) ⟨hx, hb, hml, hown, hts⟩ (c6_in l g w 1 100000 r_w (by decide) (by decide) ) (va_cwS 3 hts gX6_ask_X6_in rfl rfl rfl (by decide +kernel) ⟨Nat.le_of_ble_eq_true rfl, Nat.le_of_ble_eq_true rfl⟩) (q_pS hK trivial) rfl hl.1 rfl (Nat.le_of_ble_eq_true rfl) ⟨Nat.zero_le _, Nat.zero_le _⟩ dX6_ask_22 ?_
      refine q_ifb_eq (tgt := 51) hx hb dX6_ask_25 (by decide) (fun c25 => ?_) (fun c25 => ?_)
      · refine lv_iconst (v := iI (-1)) hx hb dX6_ask_51 rfl ?_
        refine q_mreti hx hb hr hlocks hS dX6_ask_52 ?_ ?_
        · show _ = aAsk S x y k w no se
          unfold aAsk
          rw [cI_f (by omega)]
        · unfold tAsk
          rw [cI_f (fun z => by have z2 := z.1; omega)]
          exact hM
      · refine lv_iload hx hb dX6_ask_28 (lv_at hl 5 rfl) ?_
        refine q_cSi (As := [.int (iI no)]) (rest := []) ⟨hx, hb, hml, hown, hts⟩ (c6_isDay l g no r_no ) (va_cwS 1 hts gX6_ask_X6_isDay rfl rfl rfl (by decide +kernel) ⟨Nat.le_of_ble_eq_true rfl, Nat.le_of_ble_eq_true rfl⟩) (q_pS hK trivial) rfl hl.1 rfl (Nat.le_of_ble_eq_true rfl) ⟨Nat.zero_le _, Nat.zero_le _⟩ dX6_ask_30 ?_
        refine q_ifb_eq (tgt := 51) hx hb dX6_ask_33 (by decide) (fun c33 => ?_) (fun c33 => ?_)
        · refine lv_iconst (v := iI (-1)) hx hb dX6_ask_51 rfl ?_
          refine q_mreti hx hb hr hlocks hS dX6_ask_52 ?_ ?_
          · show _ = aAsk S x y k w no se
            unfold aAsk
            rw [cI_f (by omega)]
          · unfold tAsk
            rw [cI_f (fun z => by have z2 := z.1; omega)]
            exact hM
        · refine lv_iload hx hb dX6_ask_36 (lv_at hl 6 rfl) ?_
          refine q_cSi (As := [.int (iI se)]) (rest := []) ⟨hx, hb, hml, hown, hts⟩ (c6_isDay l g se r_se ) (va_cwS 1 hts gX6_ask_X6_isDay rfl rfl rfl (by decide +kernel) ⟨Nat.le_of_ble_eq_true rfl, Nat.le_of_ble_eq_true rfl⟩) (q_pS hK trivial) rfl hl.1 rfl (Nat.le_of_ble_eq_true rfl) ⟨Nat.zero_le _, Nat.zero_le _⟩ dX6_ask_38 ?_
          refine q_ifb_eq (tgt := 51) hx hb dX6_ask_41 (by decide) (fun c41 => ?_) (fun c41 => ?_)
          · refine lv_iconst (v := iI (-1)) hx hb dX6_ask_51 rfl ?_
            refine q_mreti hx hb hr hlocks hS dX6_ask_52 ?_ ?_
            · show _ = aAsk S x y k w no se
              unfold aAsk
              rw [cI_f (by omega)]
            · unfold tAsk
              rw [cI_f (fun z => by have z2 := z.1; omega)]
              exact hM
          · refine lv_iload hx hb dX6_ask_44 (lv_at hl 5 rfl) ?_
            refine lv_iload hx hb dX6_ask_46 (lv_at hl 6 rfl) ?_
            refine q_icmp_le (tgt := 53) hx hb dX6_ask_48 (by decide) r_no r_se (fun c48 => ?_) (fun c48 => ?_)
            · refine lv_aload_n hx hb dX6_ask_53 rfl (lv_at hl 0 rfl) ?_
              refine q_get (v := .int (iI (S 14 0))) (C := RX6) (T := TX6) (N := 32) hx hb hts inX6 hown hK hM.1 rfl 14 (by decide) (hts (.fieldLink RX6 116 "TavernBenchModel" "houses" "I") (by decide +kernel)) (fun _ h9 => h9) rfl dX6_ask_54 ?_
              refine q_bipush hx hb 30 dX6_ask_57 (by decide +kernel) ?_
              refine q_icmp_ne (tgt := 65) hx hb dX6_ask_59 (by decide) (hI.R (by decide)) (by decide) (fun c59 => ?_) (fun c59 => ?_)
              · refine lv_aload_n hx hb dX6_ask_65 rfl (lv_at hl 0 rfl) ?_
                refine lv_iload_n hx hb dX6_ask_66 rfl (lv_at hl 1 rfl) ?_
                refine lv_iload_n hx hb dX6_ask_67 rfl (lv_at hl 2 rfl) ?_
                refine lv_iload hx hb dX6_ask_68 (lv_at hl 5 rfl) ?_
                refine lv_iload hx hb dX6_ask_70 (lv_at hl 6 rfl) ?_
                refine q_cVi (As := [.int (iI x), .int (iI y), .int (iI no), .int (iI se)]) (rest := []) ⟨hx, hb, hml, hown, hts⟩ (c6_judged l g mad S hI x y no se r_x r_y r_no r_se (by omega) (by omega) (by omega)) (cwV 4 hts gX6_ask_X6_judged rfl rfl rfl (by decide +kernel) ⟨Nat.le_of_ble_eq_true rfl, Nat.le_of_ble_eq_true rfl⟩) (q_pV hK hM.1 rfl hM) rfl hl.1 rfl (Nat.le_of_ble_eq_true rfl) ⟨Nat.zero_le _, Nat.zero_le _⟩ dX6_ask_72 ?_
                refine lv_istore (lv' := [(7, .int (iI (sJudge S x y no se))), (0, .ref (mad 0)), (1, .int (iI x)), (2, .int (iI y)), (3, .int (iI k)), (4, .int (iI w)), (5, .int (iI no)), (6, .int (iI se))]) hx hb dX6_ask_75 hl (by decide) rfl (fun ls hl => ?_)
                refine lv_iload hx hb dX6_ask_77 (lv_at hl 0 rfl) ?_
                refine q_if_le (tgt := 98) hx hb dX6_ask_79 (by decide) (by omega) (fun c79 => ?_) (fun c79 => ?_)
                · refine lv_aload_n hx hb dX6_ask_98 rfl (lv_at hl 1 rfl) ?_
                  refine q_get (v := .ref (mad 15)) (C := RX6) (T := TX6) (N := 32) hx hb hts inX6 hown hK hM.1 rfl 15 (by decide) (hts (.fieldLink RX6 44 "TavernBenchModel" "hx" "[I") (by decide +kernel)) (fun _ h9 => h9) rfl dX6_ask_99 ?_
                  refine lv_aload_n hx hb dX6_ask_102 rfl (lv_at hl 1 rfl) ?_
                  refine q_get (v := .int (iI (S 14 0))) (C := RX6) (T := TX6) (N := 32) hx hb hts inX6 hown hK hM.1 rfl 14 (by decide) (hts (.fieldLink RX6 116 "TavernBenchModel" "houses" "I") (by decide +kernel)) (fun _ h9 => h9) rfl dX6_ask_103 ?_
                  refine lv_iload_n hx hb dX6_ask_106 rfl (lv_at hl 2 rfl) ?_
                  refine q_mst hx hb hK hM hi hS 15 30 ⟨15, by decide, Or.inr (by decide), rfl⟩ ⟨by decide, by decide, by decide⟩ (S 14 0) x (fun _ => rfl) rfl ⟨by omega, by omega⟩ dX6_ask_107 (fun H locs hM hS => ?_)
                  refine lv_aload_n hx hb dX6_ask_108 rfl (lv_at hl 1 rfl) ?_
                  refine q_get (v := .ref (mad 16)) (C := RX6) (T := TX6) (N := 32) hx hb hts inX6 hown hK hM.1 rfl 16 (by decide) (hts (.fieldLink RX6 47 "TavernBenchModel" "hy" "[I") (by decide +kernel)) (fun _ h9 => h9) rfl dX6_ask_109 ?_
                  refine lv_aload_n hx hb dX6_ask_112 rfl (lv_at hl 1 rfl) ?_
                  refine q_get (v := .int (iI (S 14 0))) (C := RX6) (T := TX6) (N := 32) hx hb hts inX6 hown hK hM.1 rfl 14 (by decide) (hts (.fieldLink RX6 116 "TavernBenchModel" "houses" "I") (by decide +kernel)) (fun _ h9 => h9) rfl dX6_ask_113 ?_
                  refine lv_iload_n hx hb dX6_ask_116 rfl (lv_at hl 3 rfl) ?_
                  refine q_mst hx hb hK hM hi hS 16 30 ⟨16, by decide, Or.inr (by decide), rfl⟩ ⟨by decide, by decide, by decide⟩ (S 14 0) y (fun _ => rfl) rfl ⟨by omega, by omega⟩ dX6_ask_117 (fun H locs hM hS => ?_)
                  refine lv_aload_n hx hb dX6_ask_118 rfl (lv_at hl 1 rfl) ?_
                  refine q_get (v := .ref (mad 17)) (C := RX6) (T := TX6) (N := 32) hx hb hts inX6 hown hK hM.1 rfl 17 (by decide) (hts (.fieldLink RX6 50 "TavernBenchModel" "kind" "[I") (by decide +kernel)) (fun _ h9 => h9) rfl dX6_ask_119 ?_
                  refine lv_aload_n hx hb dX6_ask_122 rfl (lv_at hl 1 rfl) ?_
                  refine q_get (v := .int (iI (S 14 0))) (C := RX6) (T := TX6) (N := 32) hx hb hts inX6 hown hK hM.1 rfl 14 (by decide) (hts (.fieldLink RX6 116 "TavernBenchModel" "houses" "I") (by decide +kernel)) (fun _ h9 => h9) rfl dX6_ask_123 ?_
                  refine lv_iload_n hx hb dX6_ask_126 rfl (lv_at hl 4 rfl) ?_
                  refine q_mst hx hb hK hM hi hS 17 30 ⟨17, by decide, Or.inr (by decide), rfl⟩ ⟨by decide, by decide, by decide⟩ (S 14 0) k (fun _ => rfl) rfl ⟨by omega, by omega⟩ dX6_ask_127 (fun H locs hM hS => ?_)
                  refine lv_aload_n hx hb dX6_ask_128 rfl (lv_at hl 1 rfl) ?_
                  refine q_get (v := .ref (mad 18)) (C := RX6) (T := TX6) (N := 32) hx hb hts inX6 hown hK hM.1 rfl 18 (by decide) (hts (.fieldLink RX6 53 "TavernBenchModel" "granted" "[I") (by decide +kernel)) (fun _ h9 => h9) rfl dX6_ask_129 ?_
                  refine lv_aload_n hx hb dX6_ask_132 rfl (lv_at hl 1 rfl) ?_
                  refine q_get (v := .int (iI (S 14 0))) (C := RX6) (T := TX6) (N := 32) hx hb hts inX6 hown hK hM.1 rfl 14 (by decide) (hts (.fieldLink RX6 116 "TavernBenchModel" "houses" "I") (by decide +kernel)) (fun _ h9 => h9) rfl dX6_ask_133 ?_
                  refine lv_iload hx hb dX6_ask_136 (lv_at hl 7 rfl) ?_
                  refine q_mst hx hb hK hM hi hS 18 30 ⟨18, by decide, Or.inr (by decide), rfl⟩ ⟨by decide, by decide, by decide⟩ (S 14 0) se (fun _ => rfl) rfl ⟨by omega, by omega⟩ dX6_ask_138 (fun H locs hM hS => ?_)
                  refine lv_aload_n hx hb dX6_ask_139 rfl (lv_at hl 1 rfl) ?_
                  refine q_get (v := .ref (mad 23)) (C := RX6) (T := TX6) (N := 32) hx hb hts inX6 hown hK hM.1 rfl 23 (by decide) (hts (.fieldLink RX6 68 "TavernBenchModel" "worths" "[I") (by decide +kernel)) (fun _ h9 => h9) rfl dX6_ask_140 ?_
                  refine lv_aload_n hx hb dX6_ask_143 rfl (lv_at hl 1 rfl) ?_
                  refine q_get (v := .int (iI (S 14 0))) (C := RX6) (T := TX6) (N := 32) hx hb hts inX6 hown hK hM.1 rfl 14 (by decide) (hts (.fieldLink RX6 116 "TavernBenchModel" "houses" "I") (by decide +kernel)) (fun _ h9 => h9) rfl dX6_ask_144 ?_
                  refine lv_iconst (v := iI 1) hx hb dX6_ask_147 rfl ?_
                  refine q_mst hx hb hK hM hi hS 23 30 ⟨23, by decide, Or.inr (by decide), rfl⟩ ⟨by decide, by decide, by decide⟩ (S 14 0) 1 (fun _ => rfl) rfl ⟨by omega, by omega⟩ dX6_ask_148 (fun H locs hM hS => ?_)
                  refine lv_aload_n hx hb dX6_ask_149 rfl (lv_at hl 1 rfl) ?_
                  refine q_get (v := .ref (mad 24)) (C := RX6) (T := TX6) (N := 32) hx hb hts inX6 hown hK hM.1 rfl 24 (by decide) (hts (.fieldLink RX6 71 "TavernBenchModel" "worthDay" "[I") (by decide +kernel)) (fun _ h9 => h9) rfl dX6_ask_150 ?_
                  refine q_bipush hx hb 8 dX6_ask_153 (by decide +kernel) ?_
                  refine lv_aload_n hx hb dX6_ask_155 rfl (lv_at hl 1 rfl) ?_
                  refine q_get (v := .int (iI (S 14 0))) (C := RX6) (T := TX6) (N := 32) hx hb hts inX6 hown hK hM.1 rfl 14 (by decide) (hts (.fieldLink RX6 116 "TavernBenchModel" "houses" "I") (by decide +kernel)) (fun _ h9 => h9) rfl dX6_ask_156 ?_
                  refine q_imul hx hb dX6_ask_159 ?_
                  refine lv_iload hx hb dX6_ask_160 (lv_at hl 7 rfl) ?_
                  refine q_mst hx hb hK hM hi hS 24 240 ⟨24, by decide, Or.inr (by decide), rfl⟩ ⟨by decide, by decide, by decide⟩ (8 * (S 14 0)) se (fun _ => rfl) rfl ⟨by omega, by omega⟩ dX6_ask_162 (fun H locs hM hS => ?_)
                  refine lv_aload_n hx hb dX6_ask_163 rfl (lv_at hl 1 rfl) ?_
                  refine q_get (v := .ref (mad 25)) (C := RX6) (T := TX6) (N := 32) hx hb hts inX6 hown hK hM.1 rfl 25 (by decide) (hts (.fieldLink RX6 74 "TavernBenchModel" "worth" "[I") (by decide +kernel)) (fun _ h9 => h9) rfl dX6_ask_164 ?_
                  refine q_bipush hx hb 8 dX6_ask_167 (by decide +kernel) ?_
                  refine lv_aload_n hx hb dX6_ask_169 rfl (lv_at hl 1 rfl) ?_
                  refine q_get (v := .int (iI (S 14 0))) (C := RX6) (T := TX6) (N := 32) hx hb hts inX6 hown hK hM.1 rfl 14 (by decide) (hts (.fieldLink RX6 116 "TavernBenchModel" "houses" "I") (by decide +kernel)) (fun _ h9 => h9) rfl dX6_ask_170 ?_
                  refine q_imul hx hb dX6_ask_173 ?_
                  refine lv_iload hx hb dX6_ask_174 (lv_at hl 5 rfl) ?_
                  refine q_mst hx hb hK hM hi hS 25 240 ⟨25, by decide, Or.inr (by decide), rfl⟩ ⟨by decide, by decide, by decide⟩ (8 * (S 14 0)) w (fun _ => rfl) rfl ⟨by omega, by omega⟩ dX6_ask_176 (fun H locs hM hS => ?_)
                  refine lv_aload_n hx hb dX6_ask_177 rfl (lv_at hl 1 rfl) ?_
                  refine lv_dup hx hb dX6_ask_178 rfl ?_
                  refine q_get (v := .int (iI (S 14 0))) (C := RX6) (T := TX6) (N := 32) hx hb hts inX6 hown hK hM.1 rfl 14 (by decide) (hts (.fieldLink RX6 116 "TavernBenchModel" "houses" "I") (by decide +kernel)) (fun _ h9 => h9) rfl dX6_ask_179 ?_
                  refine lv_iconst (v := iI 1) hx hb dX6_ask_182 rfl ?_
                  refine q_iadd hx hb dX6_ask_183 ?_
                  refine q_mput hx hb hts inX6 hown hK hM hi hS ⟨0, by decide, Or.inl rfl, rfl⟩ 14 (by decide) rfl (hts (.fieldLink RX6 116 "TavernBenchModel" "houses" "I") (by decide +kernel)) (fun _ h9 => h9) rfl (by decide +kernel) ((S 14 0) + 1) rfl dX6_ask_184 (fun H locs hM hS => ?_)
                  refine lv_aload_n hx hb dX6_ask_187 rfl (lv_at hl 1 rfl) ?_
                  refine q_get (v := .int (iI ((S 14 0) + 1))) (C := RX6) (T := TX6) (N := 32) hx hb hts inX6 hown hK hM.1 rfl 14 (by decide) (hts (.fieldLink RX6 116 "TavernBenchModel" "houses" "I") (by decide +kernel)) (fun _ h9 => h9) rfl dX6_ask_188 ?_
                  refine lv_iconst (v := iI 1) hx hb dX6_ask_191 rfl ?_
                  refine q_isub hx hb dX6_ask_192 ?_
                  refine q_mreti hx hb hr hlocks hS dX6_ask_193 ?_ ?_
                  · show _ = aAsk S x y k w no se
                    unfold aAsk
                    rw [cI_t (by omega), cI_f (by omega), cI_f (by omega)]
                    omega
                  · unfold tAsk
                    rw [cI_t (by omega), cI_f (by omega)]
                    exact hM
                · refine lv_aload_n hx hb dX6_ask_82 rfl (lv_at hl 1 rfl) ?_
                  refine lv_dup hx hb dX6_ask_83 rfl ?_
                  refine q_get (v := .int (iI (S 28 0))) (C := RX6) (T := TX6) (N := 32) hx hb hts inX6 hown hK hM.1 rfl 28 (by decide) (hts (.fieldLink RX6 130 "TavernBenchModel" "refused" "I") (by decide +kernel)) (fun _ h9 => h9) rfl dX6_ask_84 ?_
                  refine lv_iconst (v := iI 1) hx hb dX6_ask_87 rfl ?_
                  refine q_iadd hx hb dX6_ask_88 ?_
                  refine q_mput hx hb hts inX6 hown hK hM hi hS ⟨0, by decide, Or.inl rfl, rfl⟩ 28 (by decide) rfl (hts (.fieldLink RX6 130 "TavernBenchModel" "refused" "I") (by decide +kernel)) (fun _ h9 => h9) rfl (by decide +kernel) ((S 28 0) + 1) rfl dX6_ask_89 (fun H locs hM hS => ?_)
                  refine q_bipush hx hb (-10) dX6_ask_92 (by decide +kernel) ?_
                  refine lv_iload hx hb dX6_ask_94 (lv_at hl 0 rfl) ?_
                  refine q_isub hx hb dX6_ask_96 ?_
                  refine q_mreti hx hb hr hlocks hS dX6_ask_97 ?_ ?_
                  · show _ = aAsk S x y k w no se
                    unfold aAsk
                    rw [cI_t (by omega), cI_f (by omega), cI_t (by omega)]
                  · unfold tAsk
                    rw [cI_t (by omega), cI_t (by omega)]
                    exact hM
              · refine q_bipush hx hb (-3) dX6_ask_62 (by decide +kernel) ?_
                refine q_mreti hx hb hr hlocks hS dX6_ask_64 ?_ ?_
                · show _ = aAsk S x y k w no se
                  unfold aAsk
                  rw [cI_t (by omega), cI_t (by omega)]
                · unfold tAsk
                  rw [cI_f (fun z => z.2 (by omega))]
                  exact hM
            · refine lv_iconst (v := iI (-1)) hx hb dX6_ask_51 rfl ?_
              refine q_mreti hx hb hr hlocks hS dX6_ask_52 ?_ ?_
              · show _ = aAsk S x y k w no se
                unfold aAsk
                rw [cI_f (by omega)]
              · unfold tAsk
                rw [cI_f (fun z => by have z2 := z.1; omega)]
                exact hM

set_option maxHeartbeats 4000000 in
set_option maxRecDepth 100000 in
theorem c6_event (l : Launch) (g : GG) (mad : Nat → Nat) (S : St) (hI : Inv S) (h : Int) (d : Int) (k : Int) (v : Int) (r_h : R32 h) (r_d : R32 d) (r_k : R32 k) (r_v : R32 v) (hi : mInj mad)  : MetM l yX6_event wsX6_event ({ frames := 2, cells := 0, slots := 0, locals := 43 }) g [.ref (mad 0), .int (iI h), .int (iI d), .int (iI k), .int (iI v)] (fun H => RepM g mad S H) (aEvent S h d k v) (fun H => RepM g mad (tEvent S h d k v) H) (PM mad) 0 0 := by
  refine Met.ofW (cc := cX6_event) (maxL := 7) (ret := (some .int)) (by decide) rfl ?_
  intro p e s m args below meth c s₁ B hml hv
  obtain ⟨rfl, hM, hK⟩ := hv
  have hx := B.exec
  have hb := B.bytes
  have hr := B.returns
  have hts := atoms_spec (ws := wsX6_event) B.pre
  have hown : s.vm.findClass RX6 = some m.cls := findClass_of_methodNamed B.named
  have hlocks := B.notSynchronized
  have inX6 : ∀ w ∈ wsX60, w ∈ wsX6_event := by decide +kernel
  have hl := lv_entry ([.ref (mad 0), .int (iI h), .int (iI d), .int (iI k), .int (iI v)]) (n := 7) (Nat.le_of_ble_eq_true rfl)
  rw [lg_entry_eq]
  generalize (lg_sl ([.ref (mad 0), .int (iI h), .int (iI d), .int (iI k), .int (iI v)]) ++ List.replicate (7 - (lg_sl ([.ref (mad 0), .int (iI h), .int (iI d), .int (iI k), .int (iI v)])).length) Slot.unset).toArray = ls at hl ⊢
  have hl : lv_has ls 7 [(0, .ref (mad 0)), (1, .int (iI h)), (2, .int (iI d)), (3, .int (iI k)), (4, .int (iI v))] := hl
  have hS : va_S (PM mad) s.heap s.heap [] := va_S.rf
  have hN := hI.nums
  refine q_join (nL := 7) 44 [.int (iI (bI (vEv k v)))] [(0, .ref (mad 0)), (1, .int (iI h)), (2, .int (iI d)), (3, .int (iI k)), (4, .int (iI v))] (fun ls hl => ?_) (fun J44 => ?_)
  · refine lv_istore (lv' := [(5, .int (iI (bI (vEv k v)))), (0, .ref (mad 0)), (1, .int (iI h)), (2, .int (iI d)), (3, .int (iI k)), (4, .int (iI v))]) hx hb dX6_event_44 hl (by decide) rfl (fun ls hl => ?_)
    refine lv_aload_n hx hb dX6_event_46 rfl (lv_at hl 1 rfl) ?_
    refine lv_iload_n hx hb dX6_event_47 rfl (lv_at hl 2 rfl) ?_
    refine q_cVi (As := [.int (iI h)]) (rest := []) ⟨hx, hb, hml, hown, hts⟩ (c6_isHouse l g mad S hI h r_h ) (cwV 1 hts gX6_event_X6_isHouse rfl rfl rfl (by decide +kernel) ⟨Nat.le_of_ble_eq_true rfl, Nat.le_of_ble_eq_true rfl⟩) (q_pV hK hM.1 rfl hM) rfl hl.1 rfl (Nat.le_of_ble_eq_true rfl) ⟨Nat.zero_le _, Nat.zero_le _⟩ dX6_event_48 ?_
    refine q_ifb_eq (tgt := 66) hx hb dX6_event_51 (by decide) (fun c51 => ?_) (fun c51 => ?_)
    · refine lv_iconst (v := iI (-1)) hx hb dX6_event_66 rfl ?_
      refine q_mreti hx hb hr hlocks hS dX6_event_67 ?_ ?_
      · show _ = aEvent S h d k v
        unfold aEvent
        rw [cI_f (by omega)]
      · unfold tEvent
        rw [cI_f (fun z => by have z2 := z.1; omega)]
        exact hM
    · refine lv_iload_n hx hb dX6_event_54 rfl (lv_at hl 3 rfl) ?_
      refine q_cSi (As := [.int (iI d)]) (rest := []) ⟨hx, hb, hml, hown, hts⟩ (c6_isDay l g d r_d ) (va_cwS 1 hts gX6_event_X6_isDay rfl rfl rfl (by decide +kernel) ⟨Nat.le_of_ble_eq_true rfl, Nat.le_of_ble_eq_true rfl⟩) (q_pS hK trivial) rfl hl.1 rfl (Nat.le_of_ble_eq_true rfl) ⟨Nat.zero_le _, Nat.zero_le _⟩ dX6_event_55 ?_
      refine q_ifb_eq (tgt := 66) hx hb dX6_event_58 (by decide) (fun c58 => ?_) (fun c58 => ?_)
      · refine lv_iconst (v := iI (-1)) hx hb dX6_event_66 rfl ?_
        refine q_mreti hx hb hr hlocks hS dX6_event_67 ?_ ?_
        · show _ = aEvent S h d k v
          unfold aEvent
          rw [cI_f (by omega)]
        · unfold tEvent
          rw [cI_f (fun z => by have z2 := z.1; omega)]
          exact hM
      · refine lv_iload hx hb dX6_event_61 (lv_at hl 0 rfl) ?_
        refine q_ifb_ne (tgt := 68) hx hb dX6_event_63 (by decide) (fun c63 => ?_) (fun c63 => ?_)
        · have h0 : 0 ≤ h ∧ h < S 14 0 := by assumption
          have hH := hI.house h0.1 h0.2
          refine lv_iload_n hx hb dX6_event_68 rfl (lv_at hl 3 rfl) ?_
          refine lv_aload_n hx hb dX6_event_69 rfl (lv_at hl 1 rfl) ?_
          refine q_get (v := .ref (mad 18)) (C := RX6) (T := TX6) (N := 32) hx hb hts inX6 hown hK hM.1 rfl 18 (by decide) (hts (.fieldLink RX6 53 "TavernBenchModel" "granted" "[I") (by decide +kernel)) (fun _ h9 => h9) rfl dX6_event_70 ?_
          refine lv_iload_n hx hb dX6_event_73 rfl (lv_at hl 2 rfl) ?_
          refine q_mld hx hb hK hM 18 30 ⟨by decide, by decide, by decide⟩ rfl ⟨by omega, by omega⟩ dX6_event_74 ?_
          refine q_icmp_lt (tgt := 107) hx hb dX6_event_75 (by decide) r_d (hI.R (by decide)) (fun c75 => ?_) (fun c75 => ?_)
          · refine q_bipush hx hb (-2) dX6_event_107 (by decide +kernel) ?_
            refine q_mreti hx hb hr hlocks hS dX6_event_109 ?_ ?_
            · show _ = aEvent S h d k v
              unfold aEvent
              have hnv : nEv S h d k v := by
                first | exact Or.inl (by omega) | exact Or.inr (Or.inl ⟨by omega, by assumption⟩) | exact Or.inr (Or.inr ⟨by omega, by assumption⟩)
              rw [cI_t (by omega), cI_t hnv]
            · unfold tEvent
              have hnv : nEv S h d k v := by
                first | exact Or.inl (by omega) | exact Or.inr (Or.inl ⟨by omega, by assumption⟩) | exact Or.inr (Or.inr ⟨by omega, by assumption⟩)
              rw [cI_f (fun z => absurd hnv z.2.1)]
              exact hM
          · refine lv_iload_n hx hb dX6_event_78 rfl (lv_at hl 4 rfl) ?_
            refine q_if_ne (tgt := 92) hx hb dX6_event_79 (by decide) r_k (fun c79 => ?_) (fun c79 => ?_)
            · refine lv_iload_n hx hb dX6_event_92 rfl (lv_at hl 4 rfl) ?_
              refine lv_iconst (v := iI 1) hx hb dX6_event_93 rfl ?_
              refine q_icmp_ne (tgt := 110) hx hb dX6_event_94 (by decide) r_k (by decide) (fun c94 => ?_) (fun c94 => ?_)
              · refine lv_aload_n hx hb dX6_event_110 rfl (lv_at hl 1 rfl) ?_
                refine q_get (v := .ref (mad 19)) (C := RX6) (T := TX6) (N := 32) hx hb hts inX6 hown hK hM.1 rfl 19 (by decide) (hts (.fieldLink RX6 56 "TavernBenchModel" "events" "[I") (by decide +kernel)) (fun _ h9 => h9) rfl dX6_event_111 ?_
                refine lv_iload_n hx hb dX6_event_114 rfl (lv_at hl 2 rfl) ?_
                refine q_mld hx hb hK hM 19 30 ⟨by decide, by decide, by decide⟩ rfl ⟨by omega, by omega⟩ dX6_event_115 ?_
                refine q_bipush hx hb 16 dX6_event_116 (by decide +kernel) ?_
                refine q_icmp_ne (tgt := 124) hx hb dX6_event_118 (by decide) (hI.R (by decide)) (by decide) (fun c118 => ?_) (fun c118 => ?_)
                · refine q_bipush hx hb 16 dX6_event_124 (by decide +kernel) ?_
                  refine lv_iload_n hx hb dX6_event_126 rfl (lv_at hl 2 rfl) ?_
                  refine q_imul hx hb dX6_event_127 ?_
                  refine lv_aload_n hx hb dX6_event_128 rfl (lv_at hl 1 rfl) ?_
                  refine q_get (v := .ref (mad 19)) (C := RX6) (T := TX6) (N := 32) hx hb hts inX6 hown hK hM.1 rfl 19 (by decide) (hts (.fieldLink RX6 56 "TavernBenchModel" "events" "[I") (by decide +kernel)) (fun _ h9 => h9) rfl dX6_event_129 ?_
                  refine lv_iload_n hx hb dX6_event_132 rfl (lv_at hl 2 rfl) ?_
                  refine q_mld hx hb hK hM 19 30 ⟨by decide, by decide, by decide⟩ rfl ⟨by omega, by omega⟩ dX6_event_133 ?_
                  refine q_iadd hx hb dX6_event_134 ?_
                  refine lv_istore (lv' := [(6, .int (iI ((16 * h) + (S 19 h)))), (5, .int (iI (bI (vEv k v)))), (0, .ref (mad 0)), (1, .int (iI h)), (2, .int (iI d)), (3, .int (iI k)), (4, .int (iI v))]) hx hb dX6_event_135 hl (by decide) rfl (fun ls hl => ?_)
                  refine lv_aload_n hx hb dX6_event_137 rfl (lv_at hl 2 rfl) ?_
                  refine q_get (v := .ref (mad 20)) (C := RX6) (T := TX6) (N := 32) hx hb hts inX6 hown hK hM.1 rfl 20 (by decide) (hts (.fieldLink RX6 59 "TavernBenchModel" "eventDay" "[I") (by decide +kernel)) (fun _ h9 => h9) rfl dX6_event_138 ?_
                  refine lv_iload hx hb dX6_event_141 (lv_at hl 0 rfl) ?_
                  refine lv_iload_n hx hb dX6_event_143 rfl (lv_at hl 4 rfl) ?_
                  refine q_mst hx hb hK hM hi hS 20 480 ⟨20, by decide, Or.inr (by decide), rfl⟩ ⟨by decide, by decide, by decide⟩ ((16 * h) + (S 19 h)) d (fun _ => rfl) rfl ⟨by omega, by omega⟩ dX6_event_144 (fun H locs hM hS => ?_)
                  refine lv_aload_n hx hb dX6_event_145 rfl (lv_at hl 2 rfl) ?_
                  refine q_get (v := .ref (mad 21)) (C := RX6) (T := TX6) (N := 32) hx hb hts inX6 hown hK hM.1 rfl 21 (by decide) (hts (.fieldLink RX6 62 "TavernBenchModel" "eventKind" "[I") (by decide +kernel)) (fun _ h9 => h9) rfl dX6_event_146 ?_
                  refine lv_iload hx hb dX6_event_149 (lv_at hl 0 rfl) ?_
                  refine lv_iload_n hx hb dX6_event_151 rfl (lv_at hl 5 rfl) ?_
                  refine q_mst hx hb hK hM hi hS 21 480 ⟨21, by decide, Or.inr (by decide), rfl⟩ ⟨by decide, by decide, by decide⟩ ((16 * h) + (S 19 h)) k (fun _ => rfl) rfl ⟨by omega, by omega⟩ dX6_event_152 (fun H locs hM hS => ?_)
                  refine lv_aload_n hx hb dX6_event_153 rfl (lv_at hl 2 rfl) ?_
                  refine q_get (v := .ref (mad 22)) (C := RX6) (T := TX6) (N := 32) hx hb hts inX6 hown hK hM.1 rfl 22 (by decide) (hts (.fieldLink RX6 65 "TavernBenchModel" "eventValue" "[I") (by decide +kernel)) (fun _ h9 => h9) rfl dX6_event_154 ?_
                  refine lv_iload hx hb dX6_event_157 (lv_at hl 0 rfl) ?_
                  refine lv_iload hx hb dX6_event_159 (lv_at hl 6 rfl) ?_
                  refine q_mst hx hb hK hM hi hS 22 480 ⟨22, by decide, Or.inr (by decide), rfl⟩ ⟨by decide, by decide, by decide⟩ ((16 * h) + (S 19 h)) v (fun _ => rfl) rfl ⟨by omega, by omega⟩ dX6_event_161 (fun H locs hM hS => ?_)
                  refine lv_aload_n hx hb dX6_event_162 rfl (lv_at hl 2 rfl) ?_
                  refine q_get (v := .ref (mad 19)) (C := RX6) (T := TX6) (N := 32) hx hb hts inX6 hown hK hM.1 rfl 19 (by decide) (hts (.fieldLink RX6 56 "TavernBenchModel" "events" "[I") (by decide +kernel)) (fun _ h9 => h9) rfl dX6_event_163 ?_
                  refine lv_iload_n hx hb dX6_event_166 rfl (lv_at hl 3 rfl) ?_
                  refine lv_dup2_11 hx hb dX6_event_167 rfl rfl ?_
                  refine q_mld hx hb hK hM 19 30 ⟨by decide, by decide, by decide⟩ rfl ⟨by omega, by omega⟩ dX6_event_168 ?_
                  refine q_top (z := S 19 h) rfl ?_
                  refine lv_iconst (v := iI 1) hx hb dX6_event_169 rfl ?_
                  refine q_iadd hx hb dX6_event_170 ?_
                  refine q_mst hx hb hK hM hi hS 19 30 ⟨19, by decide, Or.inr (by decide), rfl⟩ ⟨by decide, by decide, by decide⟩ h ((S 19 h) + 1) (fun _ => rfl) rfl ⟨by omega, by omega⟩ dX6_event_171 (fun H locs hM hS => ?_)
                  refine lv_aload_n hx hb dX6_event_172 rfl (lv_at hl 2 rfl) ?_
                  refine q_get (v := .ref (mad 19)) (C := RX6) (T := TX6) (N := 32) hx hb hts inX6 hown hK hM.1 rfl 19 (by decide) (hts (.fieldLink RX6 56 "TavernBenchModel" "events" "[I") (by decide +kernel)) (fun _ h9 => h9) rfl dX6_event_173 ?_
                  refine lv_iload_n hx hb dX6_event_176 rfl (lv_at hl 3 rfl) ?_
                  refine q_mld hx hb hK hM 19 30 ⟨by decide, by decide, by decide⟩ rfl ⟨by omega, by omega⟩ dX6_event_177 ?_
                  refine q_mreti hx hb hr hlocks hS dX6_event_178 ?_ ?_
                  · show _ = aEvent S h d k v
                    unfold aEvent
                    have hnv : ¬ nEv S h d k v := (fun z => by
                      rcases z with z | z | z
                      · omega
                      · first | (have z1 := z.1; omega) | exact absurd z.2 (by assumption)
                      · first | (have z1 := z.1; omega) | exact absurd (by assumption) z.2)
                    rw [cI_t (by omega), cI_f hnv, cI_f (by omega)]
                    exact up_s _ _ _ _
                  · unfold tEvent
                    have hnv : ¬ nEv S h d k v := (fun z => by
                      rcases z with z | z | z
                      · omega
                      · first | (have z1 := z.1; omega) | exact absurd z.2 (by assumption)
                      · first | (have z1 := z.1; omega) | exact absurd (by assumption) z.2)
                    rw [cI_t ⟨by omega, hnv, by omega⟩]
                    exact hM
                · refine q_bipush hx hb (-3) dX6_event_121 (by decide +kernel) ?_
                  refine q_mreti hx hb hr hlocks hS dX6_event_123 ?_ ?_
                  · show _ = aEvent S h d k v
                    unfold aEvent
                    have hnv : ¬ nEv S h d k v := (fun z => by
                      rcases z with z | z | z
                      · omega
                      · first | (have z1 := z.1; omega) | exact absurd z.2 (by assumption)
                      · first | (have z1 := z.1; omega) | exact absurd (by assumption) z.2)
                    rw [cI_t (by omega), cI_f hnv, cI_t (by omega)]
                  · unfold tEvent
                    rw [cI_f (fun z => z.2.2 (by omega))]
                    exact hM
              · refine lv_aload_n hx hb dX6_event_97 rfl (lv_at hl 1 rfl) ?_
                refine lv_iload_n hx hb dX6_event_98 rfl (lv_at hl 2 rfl) ?_
                refine lv_iload hx hb dX6_event_99 (lv_at hl 5 rfl) ?_
                refine q_cVi (As := [.int (iI h), .int (iI v)]) (rest := []) ⟨hx, hb, hml, hown, hts⟩ (c6_isTold l g mad S hI h v r_h r_v h0) (cwV 2 hts gX6_event_X6_isTold rfl rfl rfl (by decide +kernel) ⟨Nat.le_of_ble_eq_true rfl, Nat.le_of_ble_eq_true rfl⟩) (q_pV hK hM.1 rfl hM) rfl hl.1 rfl (Nat.le_of_ble_eq_true rfl) ⟨Nat.zero_le _, Nat.zero_le _⟩ dX6_event_101 ?_
                refine q_ifb_ne (tgt := 110) hx hb dX6_event_104 (by decide) (fun c104 => ?_) (fun c104 => ?_)
                · refine lv_aload_n hx hb dX6_event_110 rfl (lv_at hl 1 rfl) ?_
                  refine q_get (v := .ref (mad 19)) (C := RX6) (T := TX6) (N := 32) hx hb hts inX6 hown hK hM.1 rfl 19 (by decide) (hts (.fieldLink RX6 56 "TavernBenchModel" "events" "[I") (by decide +kernel)) (fun _ h9 => h9) rfl dX6_event_111 ?_
                  refine lv_iload_n hx hb dX6_event_114 rfl (lv_at hl 2 rfl) ?_
                  refine q_mld hx hb hK hM 19 30 ⟨by decide, by decide, by decide⟩ rfl ⟨by omega, by omega⟩ dX6_event_115 ?_
                  refine q_bipush hx hb 16 dX6_event_116 (by decide +kernel) ?_
                  refine q_icmp_ne (tgt := 124) hx hb dX6_event_118 (by decide) (hI.R (by decide)) (by decide) (fun c118_1 => ?_) (fun c118_1 => ?_)
                  · refine q_bipush hx hb 16 dX6_event_124 (by decide +kernel) ?_
                    refine lv_iload_n hx hb dX6_event_126 rfl (lv_at hl 2 rfl) ?_
                    refine q_imul hx hb dX6_event_127 ?_
                    refine lv_aload_n hx hb dX6_event_128 rfl (lv_at hl 1 rfl) ?_
                    refine q_get (v := .ref (mad 19)) (C := RX6) (T := TX6) (N := 32) hx hb hts inX6 hown hK hM.1 rfl 19 (by decide) (hts (.fieldLink RX6 56 "TavernBenchModel" "events" "[I") (by decide +kernel)) (fun _ h9 => h9) rfl dX6_event_129 ?_
                    refine lv_iload_n hx hb dX6_event_132 rfl (lv_at hl 2 rfl) ?_
                    refine q_mld hx hb hK hM 19 30 ⟨by decide, by decide, by decide⟩ rfl ⟨by omega, by omega⟩ dX6_event_133 ?_
                    refine q_iadd hx hb dX6_event_134 ?_
                    refine lv_istore (lv' := [(6, .int (iI ((16 * h) + (S 19 h)))), (5, .int (iI (bI (vEv k v)))), (0, .ref (mad 0)), (1, .int (iI h)), (2, .int (iI d)), (3, .int (iI k)), (4, .int (iI v))]) hx hb dX6_event_135 hl (by decide) rfl (fun ls hl => ?_)
                    refine lv_aload_n hx hb dX6_event_137 rfl (lv_at hl 2 rfl) ?_
                    refine q_get (v := .ref (mad 20)) (C := RX6) (T := TX6) (N := 32) hx hb hts inX6 hown hK hM.1 rfl 20 (by decide) (hts (.fieldLink RX6 59 "TavernBenchModel" "eventDay" "[I") (by decide +kernel)) (fun _ h9 => h9) rfl dX6_event_138 ?_
                    refine lv_iload hx hb dX6_event_141 (lv_at hl 0 rfl) ?_
                    refine lv_iload_n hx hb dX6_event_143 rfl (lv_at hl 4 rfl) ?_
                    refine q_mst hx hb hK hM hi hS 20 480 ⟨20, by decide, Or.inr (by decide), rfl⟩ ⟨by decide, by decide, by decide⟩ ((16 * h) + (S 19 h)) d (fun _ => rfl) rfl ⟨by omega, by omega⟩ dX6_event_144 (fun H locs hM hS => ?_)
                    refine lv_aload_n hx hb dX6_event_145 rfl (lv_at hl 2 rfl) ?_
                    refine q_get (v := .ref (mad 21)) (C := RX6) (T := TX6) (N := 32) hx hb hts inX6 hown hK hM.1 rfl 21 (by decide) (hts (.fieldLink RX6 62 "TavernBenchModel" "eventKind" "[I") (by decide +kernel)) (fun _ h9 => h9) rfl dX6_event_146 ?_
                    refine lv_iload hx hb dX6_event_149 (lv_at hl 0 rfl) ?_
                    refine lv_iload_n hx hb dX6_event_151 rfl (lv_at hl 5 rfl) ?_
                    refine q_mst hx hb hK hM hi hS 21 480 ⟨21, by decide, Or.inr (by decide), rfl⟩ ⟨by decide, by decide, by decide⟩ ((16 * h) + (S 19 h)) k (fun _ => rfl) rfl ⟨by omega, by omega⟩ dX6_event_152 (fun H locs hM hS => ?_)
                    refine lv_aload_n hx hb dX6_event_153 rfl (lv_at hl 2 rfl) ?_
                    refine q_get (v := .ref (mad 22)) (C := RX6) (T := TX6) (N := 32) hx hb hts inX6 hown hK hM.1 rfl 22 (by decide) (hts (.fieldLink RX6 65 "TavernBenchModel" "eventValue" "[I") (by decide +kernel)) (fun _ h9 => h9) rfl dX6_event_154 ?_
                    refine lv_iload hx hb dX6_event_157 (lv_at hl 0 rfl) ?_
                    refine lv_iload hx hb dX6_event_159 (lv_at hl 6 rfl) ?_
                    refine q_mst hx hb hK hM hi hS 22 480 ⟨22, by decide, Or.inr (by decide), rfl⟩ ⟨by decide, by decide, by decide⟩ ((16 * h) + (S 19 h)) v (fun _ => rfl) rfl ⟨by omega, by omega⟩ dX6_event_161 (fun H locs hM hS => ?_)
                    refine lv_aload_n hx hb dX6_event_162 rfl (lv_at hl 2 rfl) ?_
                    refine q_get (v := .ref (mad 19)) (C := RX6) (T := TX6) (N := 32) hx hb hts inX6 hown hK hM.1 rfl 19 (by decide) (hts (.fieldLink RX6 56 "TavernBenchModel" "events" "[I") (by decide +kernel)) (fun _ h9 => h9) rfl dX6_event_163 ?_
                    refine lv_iload_n hx hb dX6_event_166 rfl (lv_at hl 3 rfl) ?_
                    refine lv_dup2_11 hx hb dX6_event_167 rfl rfl ?_
                    refine q_mld hx hb hK hM 19 30 ⟨by decide, by decide, by decide⟩ rfl ⟨by omega, by omega⟩ dX6_event_168 ?_
                    refine q_top (z := S 19 h) rfl ?_
                    refine lv_iconst (v := iI 1) hx hb dX6_event_169 rfl ?_
                    refine q_iadd hx hb dX6_event_170 ?_
                    refine q_mst hx hb hK hM hi hS 19 30 ⟨19, by decide, Or.inr (by decide), rfl⟩ ⟨by decide, by decide, by decide⟩ h ((S 19 h) + 1) (fun _ => rfl) rfl ⟨by omega, by omega⟩ dX6_event_171 (fun H locs hM hS => ?_)
                    refine lv_aload_n hx hb dX6_event_172 rfl (lv_at hl 2 rfl) ?_
                    refine q_get (v := .ref (mad 19)) (C := RX6) (T := TX6) (N := 32) hx hb hts inX6 hown hK hM.1 rfl 19 (by decide) (hts (.fieldLink RX6 56 "TavernBenchModel" "events" "[I") (by decide +kernel)) (fun _ h9 => h9) rfl dX6_event_173 ?_
                    refine lv_iload_n hx hb dX6_event_176 rfl (lv_at hl 3 rfl) ?_
                    refine q_mld hx hb hK hM 19 30 ⟨by decide, by decide, by decide⟩ rfl ⟨by omega, by omega⟩ dX6_event_177 ?_
                    refine q_mreti hx hb hr hlocks hS dX6_event_178 ?_ ?_
                    · show _ = aEvent S h d k v
                      unfold aEvent
                      have hnv : ¬ nEv S h d k v := (fun z => by
                        rcases z with z | z | z
                        · omega
                        · first | (have z1 := z.1; omega) | exact absurd z.2 (by assumption)
                        · first | (have z1 := z.1; omega) | exact absurd (by assumption) z.2)
                      rw [cI_t (by omega), cI_f hnv, cI_f (by omega)]
                      exact up_s _ _ _ _
                    · unfold tEvent
                      have hnv : ¬ nEv S h d k v := (fun z => by
                        rcases z with z | z | z
                        · omega
                        · first | (have z1 := z.1; omega) | exact absurd z.2 (by assumption)
                        · first | (have z1 := z.1; omega) | exact absurd (by assumption) z.2)
                      rw [cI_t ⟨by omega, hnv, by omega⟩]
                      exact hM
                  · refine q_bipush hx hb (-3) dX6_event_121 (by decide +kernel) ?_
                    refine q_mreti hx hb hr hlocks hS dX6_event_123 ?_ ?_
                    · show _ = aEvent S h d k v
                      unfold aEvent
                      have hnv : ¬ nEv S h d k v := (fun z => by
                        rcases z with z | z | z
                        · omega
                        · first | (have z1 := z.1; omega) | exact absurd z.2 (by assumption)
                        · first | (have z1 := z.1; omega) | exact absurd (by assumption) z.2)
                      rw [cI_t (by omega), cI_f hnv, cI_t (by omega)]
                    · unfold tEvent
                      rw [cI_f (fun z => z.2.2 (by omega))]
                      exact hM
                · refine q_bipush hx hb (-2) dX6_event_107 (by decide +kernel) ?_
                  refine q_mreti hx hb hr hlocks hS dX6_event_109 ?_ ?_
                  · show _ = aEvent S h d k v
                    unfold aEvent
                    have hnv : nEv S h d k v := by
                      first | exact Or.inl (by omega) | exact Or.inr (Or.inl ⟨by omega, by assumption⟩) | exact Or.inr (Or.inr ⟨by omega, by assumption⟩)
                    rw [cI_t (by omega), cI_t hnv]
                  · unfold tEvent
                    have hnv : nEv S h d k v := by
                      first | exact Or.inl (by omega) | exact Or.inr (Or.inl ⟨by omega, by assumption⟩) | exact Or.inr (Or.inr ⟨by omega, by assumption⟩)
                    rw [cI_f (fun z => absurd hnv z.2.1)]
                    exact hM
            · refine lv_aload_n hx hb dX6_event_82 rfl (lv_at hl 1 rfl) ?_
              refine lv_iload_n hx hb dX6_event_83 rfl (lv_at hl 2 rfl) ?_
              refine lv_iload hx hb dX6_event_84 (lv_at hl 5 rfl) ?_
              refine q_cVi (As := [.int (iI h), .int (iI v)]) (rest := []) ⟨hx, hb, hml, hown, hts⟩ (c6_isTold l g mad S hI h v r_h r_v h0) (cwV 2 hts gX6_event_X6_isTold rfl rfl rfl (by decide +kernel) ⟨Nat.le_of_ble_eq_true rfl, Nat.le_of_ble_eq_true rfl⟩) (q_pV hK hM.1 rfl hM) rfl hl.1 rfl (Nat.le_of_ble_eq_true rfl) ⟨Nat.zero_le _, Nat.zero_le _⟩ dX6_event_86 ?_
              refine q_ifb_ne (tgt := 107) hx hb dX6_event_89 (by decide) (fun c89 => ?_) (fun c89 => ?_)
              · refine q_bipush hx hb (-2) dX6_event_107 (by decide +kernel) ?_
                refine q_mreti hx hb hr hlocks hS dX6_event_109 ?_ ?_
                · show _ = aEvent S h d k v
                  unfold aEvent
                  have hnv : nEv S h d k v := by
                    first | exact Or.inl (by omega) | exact Or.inr (Or.inl ⟨by omega, by assumption⟩) | exact Or.inr (Or.inr ⟨by omega, by assumption⟩)
                  rw [cI_t (by omega), cI_t hnv]
                · unfold tEvent
                  have hnv : nEv S h d k v := by
                    first | exact Or.inl (by omega) | exact Or.inr (Or.inl ⟨by omega, by assumption⟩) | exact Or.inr (Or.inr ⟨by omega, by assumption⟩)
                  rw [cI_f (fun z => absurd hnv z.2.1)]
                  exact hM
              · refine lv_iload_n hx hb dX6_event_92 rfl (lv_at hl 4 rfl) ?_
                refine lv_iconst (v := iI 1) hx hb dX6_event_93 rfl ?_
                refine q_icmp_ne (tgt := 110) hx hb dX6_event_94 (by decide) r_k (by decide) (fun c94_1 => ?_) (fun c94_1 => ?_)
                · refine lv_aload_n hx hb dX6_event_110 rfl (lv_at hl 1 rfl) ?_
                  refine q_get (v := .ref (mad 19)) (C := RX6) (T := TX6) (N := 32) hx hb hts inX6 hown hK hM.1 rfl 19 (by decide) (hts (.fieldLink RX6 56 "TavernBenchModel" "events" "[I") (by decide +kernel)) (fun _ h9 => h9) rfl dX6_event_111 ?_
                  refine lv_iload_n hx hb dX6_event_114 rfl (lv_at hl 2 rfl) ?_
                  refine q_mld hx hb hK hM 19 30 ⟨by decide, by decide, by decide⟩ rfl ⟨by omega, by omega⟩ dX6_event_115 ?_
                  refine q_bipush hx hb 16 dX6_event_116 (by decide +kernel) ?_
                  refine q_icmp_ne (tgt := 124) hx hb dX6_event_118 (by decide) (hI.R (by decide)) (by decide) (fun c118_2 => ?_) (fun c118_2 => ?_)
                  · refine q_bipush hx hb 16 dX6_event_124 (by decide +kernel) ?_
                    refine lv_iload_n hx hb dX6_event_126 rfl (lv_at hl 2 rfl) ?_
                    refine q_imul hx hb dX6_event_127 ?_
                    refine lv_aload_n hx hb dX6_event_128 rfl (lv_at hl 1 rfl) ?_
                    refine q_get (v := .ref (mad 19)) (C := RX6) (T := TX6) (N := 32) hx hb hts inX6 hown hK hM.1 rfl 19 (by decide) (hts (.fieldLink RX6 56 "TavernBenchModel" "events" "[I") (by decide +kernel)) (fun _ h9 => h9) rfl dX6_event_129 ?_
                    refine lv_iload_n hx hb dX6_event_132 rfl (lv_at hl 2 rfl) ?_
                    refine q_mld hx hb hK hM 19 30 ⟨by decide, by decide, by decide⟩ rfl ⟨by omega, by omega⟩ dX6_event_133 ?_
                    refine q_iadd hx hb dX6_event_134 ?_
                    refine lv_istore (lv' := [(6, .int (iI ((16 * h) + (S 19 h)))), (5, .int (iI (bI (vEv k v)))), (0, .ref (mad 0)), (1, .int (iI h)), (2, .int (iI d)), (3, .int (iI k)), (4, .int (iI v))]) hx hb dX6_event_135 hl (by decide) rfl (fun ls hl => ?_)
                    refine lv_aload_n hx hb dX6_event_137 rfl (lv_at hl 2 rfl) ?_
                    refine q_get (v := .ref (mad 20)) (C := RX6) (T := TX6) (N := 32) hx hb hts inX6 hown hK hM.1 rfl 20 (by decide) (hts (.fieldLink RX6 59 "TavernBenchModel" "eventDay" "[I") (by decide +kernel)) (fun _ h9 => h9) rfl dX6_event_138 ?_
                    refine lv_iload hx hb dX6_event_141 (lv_at hl 0 rfl) ?_
                    refine lv_iload_n hx hb dX6_event_143 rfl (lv_at hl 4 rfl) ?_
                    refine q_mst hx hb hK hM hi hS 20 480 ⟨20, by decide, Or.inr (by decide), rfl⟩ ⟨by decide, by decide, by decide⟩ ((16 * h) + (S 19 h)) d (fun _ => rfl) rfl ⟨by omega, by omega⟩ dX6_event_144 (fun H locs hM hS => ?_)
                    refine lv_aload_n hx hb dX6_event_145 rfl (lv_at hl 2 rfl) ?_
                    refine q_get (v := .ref (mad 21)) (C := RX6) (T := TX6) (N := 32) hx hb hts inX6 hown hK hM.1 rfl 21 (by decide) (hts (.fieldLink RX6 62 "TavernBenchModel" "eventKind" "[I") (by decide +kernel)) (fun _ h9 => h9) rfl dX6_event_146 ?_
                    refine lv_iload hx hb dX6_event_149 (lv_at hl 0 rfl) ?_
                    refine lv_iload_n hx hb dX6_event_151 rfl (lv_at hl 5 rfl) ?_
                    refine q_mst hx hb hK hM hi hS 21 480 ⟨21, by decide, Or.inr (by decide), rfl⟩ ⟨by decide, by decide, by decide⟩ ((16 * h) + (S 19 h)) k (fun _ => rfl) rfl ⟨by omega, by omega⟩ dX6_event_152 (fun H locs hM hS => ?_)
                    refine lv_aload_n hx hb dX6_event_153 rfl (lv_at hl 2 rfl) ?_
                    refine q_get (v := .ref (mad 22)) (C := RX6) (T := TX6) (N := 32) hx hb hts inX6 hown hK hM.1 rfl 22 (by decide) (hts (.fieldLink RX6 65 "TavernBenchModel" "eventValue" "[I") (by decide +kernel)) (fun _ h9 => h9) rfl dX6_event_154 ?_
                    refine lv_iload hx hb dX6_event_157 (lv_at hl 0 rfl) ?_
                    refine lv_iload hx hb dX6_event_159 (lv_at hl 6 rfl) ?_
                    refine q_mst hx hb hK hM hi hS 22 480 ⟨22, by decide, Or.inr (by decide), rfl⟩ ⟨by decide, by decide, by decide⟩ ((16 * h) + (S 19 h)) v (fun _ => rfl) rfl ⟨by omega, by omega⟩ dX6_event_161 (fun H locs hM hS => ?_)
                    refine lv_aload_n hx hb dX6_event_162 rfl (lv_at hl 2 rfl) ?_
                    refine q_get (v := .ref (mad 19)) (C := RX6) (T := TX6) (N := 32) hx hb hts inX6 hown hK hM.1 rfl 19 (by decide) (hts (.fieldLink RX6 56 "TavernBenchModel" "events" "[I") (by decide +kernel)) (fun _ h9 => h9) rfl dX6_event_163 ?_
                    refine lv_iload_n hx hb dX6_event_166 rfl (lv_at hl 3 rfl) ?_
                    refine lv_dup2_11 hx hb dX6_event_167 rfl rfl ?_
                    refine q_mld hx hb hK hM 19 30 ⟨by decide, by decide, by decide⟩ rfl ⟨by omega, by omega⟩ dX6_event_168 ?_
                    refine q_top (z := S 19 h) rfl ?_
                    refine lv_iconst (v := iI 1) hx hb dX6_event_169 rfl ?_
                    refine q_iadd hx hb dX6_event_170 ?_
                    refine q_mst hx hb hK hM hi hS 19 30 ⟨19, by decide, Or.inr (by decide), rfl⟩ ⟨by decide, by decide, by decide⟩ h ((S 19 h) + 1) (fun _ => rfl) rfl ⟨by omega, by omega⟩ dX6_event_171 (fun H locs hM hS => ?_)
                    refine lv_aload_n hx hb dX6_event_172 rfl (lv_at hl 2 rfl) ?_
                    refine q_get (v := .ref (mad 19)) (C := RX6) (T := TX6) (N := 32) hx hb hts inX6 hown hK hM.1 rfl 19 (by decide) (hts (.fieldLink RX6 56 "TavernBenchModel" "events" "[I") (by decide +kernel)) (fun _ h9 => h9) rfl dX6_event_173 ?_
                    refine lv_iload_n hx hb dX6_event_176 rfl (lv_at hl 3 rfl) ?_
                    refine q_mld hx hb hK hM 19 30 ⟨by decide, by decide, by decide⟩ rfl ⟨by omega, by omega⟩ dX6_event_177 ?_
                    refine q_mreti hx hb hr hlocks hS dX6_event_178 ?_ ?_
                    · show _ = aEvent S h d k v
                      unfold aEvent
                      have hnv : ¬ nEv S h d k v := (fun z => by
                        rcases z with z | z | z
                        · omega
                        · first | (have z1 := z.1; omega) | exact absurd z.2 (by assumption)
                        · first | (have z1 := z.1; omega) | exact absurd (by assumption) z.2)
                      rw [cI_t (by omega), cI_f hnv, cI_f (by omega)]
                      exact up_s _ _ _ _
                    · unfold tEvent
                      have hnv : ¬ nEv S h d k v := (fun z => by
                        rcases z with z | z | z
                        · omega
                        · first | (have z1 := z.1; omega) | exact absurd z.2 (by assumption)
                        · first | (have z1 := z.1; omega) | exact absurd (by assumption) z.2)
                      rw [cI_t ⟨by omega, hnv, by omega⟩]
                      exact hM
                  · refine q_bipush hx hb (-3) dX6_event_121 (by decide +kernel) ?_
                    refine q_mreti hx hb hr hlocks hS dX6_event_123 ?_ ?_
                    · show _ = aEvent S h d k v
                      unfold aEvent
                      have hnv : ¬ nEv S h d k v := (fun z => by
                        rcases z with z | z | z
                        · omega
                        · first | (have z1 := z.1; omega) | exact absurd z.2 (by assumption)
                        · first | (have z1 := z.1; omega) | exact absurd (by assumption) z.2)
                      rw [cI_t (by omega), cI_f hnv, cI_t (by omega)]
                    · unfold tEvent
                      rw [cI_f (fun z => z.2.2 (by omega))]
                      exact hM
                · refine lv_aload_n hx hb dX6_event_97 rfl (lv_at hl 1 rfl) ?_
                  refine lv_iload_n hx hb dX6_event_98 rfl (lv_at hl 2 rfl) ?_
                  refine lv_iload hx hb dX6_event_99 (lv_at hl 5 rfl) ?_
                  refine q_cVi (As := [.int (iI h), .int (iI v)]) (rest := []) ⟨hx, hb, hml, hown, hts⟩ (c6_isTold l g mad S hI h v r_h r_v h0) (cwV 2 hts gX6_event_X6_isTold rfl rfl rfl (by decide +kernel) ⟨Nat.le_of_ble_eq_true rfl, Nat.le_of_ble_eq_true rfl⟩) (q_pV hK hM.1 rfl hM) rfl hl.1 rfl (Nat.le_of_ble_eq_true rfl) ⟨Nat.zero_le _, Nat.zero_le _⟩ dX6_event_101 ?_
                  refine q_ifb_ne (tgt := 110) hx hb dX6_event_104 (by decide) (fun c104_1 => ?_) (fun c104_1 => ?_)
                  · refine lv_aload_n hx hb dX6_event_110 rfl (lv_at hl 1 rfl) ?_
                    refine q_get (v := .ref (mad 19)) (C := RX6) (T := TX6) (N := 32) hx hb hts inX6 hown hK hM.1 rfl 19 (by decide) (hts (.fieldLink RX6 56 "TavernBenchModel" "events" "[I") (by decide +kernel)) (fun _ h9 => h9) rfl dX6_event_111 ?_
                    refine lv_iload_n hx hb dX6_event_114 rfl (lv_at hl 2 rfl) ?_
                    refine q_mld hx hb hK hM 19 30 ⟨by decide, by decide, by decide⟩ rfl ⟨by omega, by omega⟩ dX6_event_115 ?_
                    refine q_bipush hx hb 16 dX6_event_116 (by decide +kernel) ?_
                    refine q_icmp_ne (tgt := 124) hx hb dX6_event_118 (by decide) (hI.R (by decide)) (by decide) (fun c118_3 => ?_) (fun c118_3 => ?_)
                    · refine q_bipush hx hb 16 dX6_event_124 (by decide +kernel) ?_
                      refine lv_iload_n hx hb dX6_event_126 rfl (lv_at hl 2 rfl) ?_
                      refine q_imul hx hb dX6_event_127 ?_
                      refine lv_aload_n hx hb dX6_event_128 rfl (lv_at hl 1 rfl) ?_
                      refine q_get (v := .ref (mad 19)) (C := RX6) (T := TX6) (N := 32) hx hb hts inX6 hown hK hM.1 rfl 19 (by decide) (hts (.fieldLink RX6 56 "TavernBenchModel" "events" "[I") (by decide +kernel)) (fun _ h9 => h9) rfl dX6_event_129 ?_
                      refine lv_iload_n hx hb dX6_event_132 rfl (lv_at hl 2 rfl) ?_
                      refine q_mld hx hb hK hM 19 30 ⟨by decide, by decide, by decide⟩ rfl ⟨by omega, by omega⟩ dX6_event_133 ?_
                      refine q_iadd hx hb dX6_event_134 ?_
                      refine lv_istore (lv' := [(6, .int (iI ((16 * h) + (S 19 h)))), (5, .int (iI (bI (vEv k v)))), (0, .ref (mad 0)), (1, .int (iI h)), (2, .int (iI d)), (3, .int (iI k)), (4, .int (iI v))]) hx hb dX6_event_135 hl (by decide) rfl (fun ls hl => ?_)
                      refine lv_aload_n hx hb dX6_event_137 rfl (lv_at hl 2 rfl) ?_
                      refine q_get (v := .ref (mad 20)) (C := RX6) (T := TX6) (N := 32) hx hb hts inX6 hown hK hM.1 rfl 20 (by decide) (hts (.fieldLink RX6 59 "TavernBenchModel" "eventDay" "[I") (by decide +kernel)) (fun _ h9 => h9) rfl dX6_event_138 ?_
                      refine lv_iload hx hb dX6_event_141 (lv_at hl 0 rfl) ?_
                      refine lv_iload_n hx hb dX6_event_143 rfl (lv_at hl 4 rfl) ?_
                      refine q_mst hx hb hK hM hi hS 20 480 ⟨20, by decide, Or.inr (by decide), rfl⟩ ⟨by decide, by decide, by decide⟩ ((16 * h) + (S 19 h)) d (fun _ => rfl) rfl ⟨by omega, by omega⟩ dX6_event_144 (fun H locs hM hS => ?_)
                      refine lv_aload_n hx hb dX6_event_145 rfl (lv_at hl 2 rfl) ?_
                      refine q_get (v := .ref (mad 21)) (C := RX6) (T := TX6) (N := 32) hx hb hts inX6 hown hK hM.1 rfl 21 (by decide) (hts (.fieldLink RX6 62 "TavernBenchModel" "eventKind" "[I") (by decide +kernel)) (fun _ h9 => h9) rfl dX6_event_146 ?_
                      refine lv_iload hx hb dX6_event_149 (lv_at hl 0 rfl) ?_
                      refine lv_iload_n hx hb dX6_event_151 rfl (lv_at hl 5 rfl) ?_
                      refine q_mst hx hb hK hM hi hS 21 480 ⟨21, by decide, Or.inr (by decide), rfl⟩ ⟨by decide, by decide, by decide⟩ ((16 * h) + (S 19 h)) k (fun _ => rfl) rfl ⟨by omega, by omega⟩ dX6_event_152 (fun H locs hM hS => ?_)
                      refine lv_aload_n hx hb dX6_event_153 rfl (lv_at hl 2 rfl) ?_
                      refine q_get (v := .ref (mad 22)) (C := RX6) (T := TX6) (N := 32) hx hb hts inX6 hown hK hM.1 rfl 22 (by decide) (hts (.fieldLink RX6 65 "TavernBenchModel" "eventValue" "[I") (by decide +kernel)) (fun _ h9 => h9) rfl dX6_event_154 ?_
                      refine lv_iload hx hb dX6_event_157 (lv_at hl 0 rfl) ?_
                      refine lv_iload hx hb dX6_event_159 (lv_at hl 6 rfl) ?_
                      refine q_mst hx hb hK hM hi hS 22 480 ⟨22, by decide, Or.inr (by decide), rfl⟩ ⟨by decide, by decide, by decide⟩ ((16 * h) + (S 19 h)) v (fun _ => rfl) rfl ⟨by omega, by omega⟩ dX6_event_161 (fun H locs hM hS => ?_)
                      refine lv_aload_n hx hb dX6_event_162 rfl (lv_at hl 2 rfl) ?_
                      refine q_get (v := .ref (mad 19)) (C := RX6) (T := TX6) (N := 32) hx hb hts inX6 hown hK hM.1 rfl 19 (by decide) (hts (.fieldLink RX6 56 "TavernBenchModel" "events" "[I") (by decide +kernel)) (fun _ h9 => h9) rfl dX6_event_163 ?_
                      refine lv_iload_n hx hb dX6_event_166 rfl (lv_at hl 3 rfl) ?_
                      refine lv_dup2_11 hx hb dX6_event_167 rfl rfl ?_
                      refine q_mld hx hb hK hM 19 30 ⟨by decide, by decide, by decide⟩ rfl ⟨by omega, by omega⟩ dX6_event_168 ?_
                      refine q_top (z := S 19 h) rfl ?_
                      refine lv_iconst (v := iI 1) hx hb dX6_event_169 rfl ?_
                      refine q_iadd hx hb dX6_event_170 ?_
                      refine q_mst hx hb hK hM hi hS 19 30 ⟨19, by decide, Or.inr (by decide), rfl⟩ ⟨by decide, by decide, by decide⟩ h ((S 19 h) + 1) (fun _ => rfl) rfl ⟨by omega, by omega⟩ dX6_event_171 (fun H locs hM hS => ?_)
                      refine lv_aload_n hx hb dX6_event_172 rfl (lv_at hl 2 rfl) ?_
                      refine q_get (v := .ref (mad 19)) (C := RX6) (T := TX6) (N := 32) hx hb hts inX6 hown hK hM.1 rfl 19 (by decide) (hts (.fieldLink RX6 56 "TavernBenchModel" "events" "[I") (by decide +kernel)) (fun _ h9 => h9) rfl dX6_event_173 ?_
                      refine lv_iload_n hx hb dX6_event_176 rfl (lv_at hl 3 rfl) ?_
                      refine q_mld hx hb hK hM 19 30 ⟨by decide, by decide, by decide⟩ rfl ⟨by omega, by omega⟩ dX6_event_177 ?_
                      refine q_mreti hx hb hr hlocks hS dX6_event_178 ?_ ?_
                      · show _ = aEvent S h d k v
                        unfold aEvent
                        have hnv : ¬ nEv S h d k v := (fun z => by
                          rcases z with z | z | z
                          · omega
                          · first | (have z1 := z.1; omega) | exact absurd z.2 (by assumption)
                          · first | (have z1 := z.1; omega) | exact absurd (by assumption) z.2)
                        rw [cI_t (by omega), cI_f hnv, cI_f (by omega)]
                        exact up_s _ _ _ _
                      · unfold tEvent
                        have hnv : ¬ nEv S h d k v := (fun z => by
                          rcases z with z | z | z
                          · omega
                          · first | (have z1 := z.1; omega) | exact absurd z.2 (by assumption)
                          · first | (have z1 := z.1; omega) | exact absurd (by assumption) z.2)
                        rw [cI_t ⟨by omega, hnv, by omega⟩]
                        exact hM
                    · refine q_bipush hx hb (-3) dX6_event_121 (by decide +kernel) ?_
                      refine q_mreti hx hb hr hlocks hS dX6_event_123 ?_ ?_
                      · show _ = aEvent S h d k v
                        unfold aEvent
                        have hnv : ¬ nEv S h d k v := (fun z => by
                          rcases z with z | z | z
                          · omega
                          · first | (have z1 := z.1; omega) | exact absurd z.2 (by assumption)
                          · first | (have z1 := z.1; omega) | exact absurd (by assumption) z.2)
                        rw [cI_t (by omega), cI_f hnv, cI_t (by omega)]
                      · unfold tEvent
                        rw [cI_f (fun z => z.2.2 (by omega))]
                        exact hM
                  · refine q_bipush hx hb (-2) dX6_event_107 (by decide +kernel) ?_
                    refine q_mreti hx hb hr hlocks hS dX6_event_109 ?_ ?_
                    · show _ = aEvent S h d k v
                      unfold aEvent
                      have hnv : nEv S h d k v := by
                        first | exact Or.inl (by omega) | exact Or.inr (Or.inl ⟨by omega, by assumption⟩) | exact Or.inr (Or.inr ⟨by omega, by assumption⟩)
                      rw [cI_t (by omega), cI_t hnv]
                    · unfold tEvent
                      have hnv : nEv S h d k v := by
                        first | exact Or.inl (by omega) | exact Or.inr (Or.inl ⟨by omega, by assumption⟩) | exact Or.inr (Or.inr ⟨by omega, by assumption⟩)
                      rw [cI_f (fun z => absurd hnv z.2.1)]
                      exact hM
        · refine lv_iconst (v := iI (-1)) hx hb dX6_event_66 rfl ?_
          refine q_mreti hx hb hr hlocks hS dX6_event_67 ?_ ?_
          · show _ = aEvent S h d k v
            unfold aEvent
            rw [cI_f (by omega)]
          · unfold tEvent
            rw [cI_f (fun z => by have z2 := z.1; omega)]
            exact hM
  · refine lv_iload_n hx hb dX6_event_0 rfl (lv_at hl 3 rfl) ?_
    refine q_if_eq (tgt := 9) hx hb dX6_event_1 (by decide) r_k (fun c1 => ?_) (fun c1 => ?_)
    · refine lv_iload hx hb dX6_event_9 (lv_at hl 4 rfl) ?_
      refine lv_iconst (v := iI 0) hx hb dX6_event_11 rfl ?_
      refine q_bipush hx hb 99 dX6_event_12 (by decide +kernel) ?_
      refine q_cSi (As := [.int (iI v), .int (iI 0), .int (iI 99)]) (rest := []) ⟨hx, hb, hml, hown, hts⟩ (c6_in l g v 0 99 r_v (by decide) (by decide) ) (va_cwS 3 hts gX6_event_X6_in rfl rfl rfl (by decide +kernel) ⟨Nat.le_of_ble_eq_true rfl, Nat.le_of_ble_eq_true rfl⟩) (q_pS hK trivial) rfl hl.1 rfl (Nat.le_of_ble_eq_true rfl) ⟨Nat.zero_le _, Nat.zero_le _⟩ dX6_event_14 ?_
      refine lv_goto (tgt := 44) hx hb dX6_event_17 (by decide) ?_
      refine q_top (z := bI (vEv k v)) (by
        exact bI_iff (by omega)) ?_
      exact J44 ls (lv_sub hl [0, 1, 2, 3, 4] rfl)
    · refine lv_iload_n hx hb dX6_event_4 rfl (lv_at hl 3 rfl) ?_
      refine lv_iconst (v := iI 1) hx hb dX6_event_5 rfl ?_
      refine q_icmp_ne (tgt := 20) hx hb dX6_event_6 (by decide) r_k (by decide) (fun c6 => ?_) (fun c6 => ?_)
      · refine lv_iload_n hx hb dX6_event_20 rfl (lv_at hl 3 rfl) ?_
        refine lv_iconst (v := iI 4) hx hb dX6_event_21 rfl ?_
        refine q_icmp_ne (tgt := 37) hx hb dX6_event_22 (by decide) r_k (by decide) (fun c22 => ?_) (fun c22 => ?_)
        · refine lv_iload_n hx hb dX6_event_37 rfl (lv_at hl 3 rfl) ?_
          refine lv_iconst (v := iI 2) hx hb dX6_event_38 rfl ?_
          refine q_bipush hx hb 6 dX6_event_39 (by decide +kernel) ?_
          refine q_cSi (As := [.int (iI k), .int (iI 2), .int (iI 6)]) (rest := []) ⟨hx, hb, hml, hown, hts⟩ (c6_in l g k 2 6 r_k (by decide) (by decide) ) (va_cwS 3 hts gX6_event_X6_in rfl rfl rfl (by decide +kernel) ⟨Nat.le_of_ble_eq_true rfl, Nat.le_of_ble_eq_true rfl⟩) (q_pS hK trivial) rfl hl.1 rfl (Nat.le_of_ble_eq_true rfl) ⟨Nat.zero_le _, Nat.zero_le _⟩ dX6_event_41 ?_
          refine q_top (z := bI (vEv k v)) (by
            exact bI_iff (by omega)) ?_
          exact J44 ls (lv_sub hl [0, 1, 2, 3, 4] rfl)
        · refine lv_iload hx hb dX6_event_25 (lv_at hl 4 rfl) ?_
          refine lv_iconst (v := iI 0) hx hb dX6_event_27 rfl ?_
          refine q_sipush hx hb 1439 dX6_event_28 (by decide +kernel) ?_
          refine q_cSi (As := [.int (iI v), .int (iI 0), .int (iI 1439)]) (rest := []) ⟨hx, hb, hml, hown, hts⟩ (c6_in l g v 0 1439 r_v (by decide) (by decide) ) (va_cwS 3 hts gX6_event_X6_in rfl rfl rfl (by decide +kernel) ⟨Nat.le_of_ble_eq_true rfl, Nat.le_of_ble_eq_true rfl⟩) (q_pS hK trivial) rfl hl.1 rfl (Nat.le_of_ble_eq_true rfl) ⟨Nat.zero_le _, Nat.zero_le _⟩ dX6_event_31 ?_
          refine lv_goto (tgt := 44) hx hb dX6_event_34 (by decide) ?_
          refine q_top (z := bI (vEv k v)) (by
            exact bI_iff (by omega)) ?_
          exact J44 ls (lv_sub hl [0, 1, 2, 3, 4] rfl)
      · refine lv_iload hx hb dX6_event_9 (lv_at hl 4 rfl) ?_
        refine lv_iconst (v := iI 0) hx hb dX6_event_11 rfl ?_
        refine q_bipush hx hb 99 dX6_event_12 (by decide +kernel) ?_
        refine q_cSi (As := [.int (iI v), .int (iI 0), .int (iI 99)]) (rest := []) ⟨hx, hb, hml, hown, hts⟩ (c6_in l g v 0 99 r_v (by decide) (by decide) ) (va_cwS 3 hts gX6_event_X6_in rfl rfl rfl (by decide +kernel) ⟨Nat.le_of_ble_eq_true rfl, Nat.le_of_ble_eq_true rfl⟩) (q_pS hK trivial) rfl hl.1 rfl (Nat.le_of_ble_eq_true rfl) ⟨Nat.zero_le _, Nat.zero_le _⟩ dX6_event_14 ?_
        refine lv_goto (tgt := 44) hx hb dX6_event_17 (by decide) ?_
        refine q_top (z := bI (vEv k v)) (by
          exact bI_iff (by omega)) ?_
        exact J44 ls (lv_sub hl [0, 1, 2, 3, 4] rfl)

set_option maxHeartbeats 4000000 in
set_option maxRecDepth 100000 in
theorem c6_worth (l : Launch) (g : GG) (mad : Nat → Nat) (S : St) (hI : Inv S) (h : Int) (d : Int) (w : Int) (r_h : R32 h) (r_d : R32 d) (r_w : R32 w) (hi : mInj mad)  : MetM l yX6_worth wsX6_worth ({ frames := 2, cells := 0, slots := 0, locals := 43 }) g [.ref (mad 0), .int (iI h), .int (iI d), .int (iI w)] (fun H => RepM g mad S H) (aWorth S h d w) (fun H => RepM g mad (tWorth S h d w) H) (PM mad) 0 0 := by
  refine Met.ofW (cc := cX6_worth) (maxL := 4) (ret := (some .int)) (by decide) rfl ?_
  intro p e s m args below meth c s₁ B hml hv
  obtain ⟨rfl, hM, hK⟩ := hv
  have hx := B.exec
  have hb := B.bytes
  have hr := B.returns
  have hts := atoms_spec (ws := wsX6_worth) B.pre
  have hown : s.vm.findClass RX6 = some m.cls := findClass_of_methodNamed B.named
  have hlocks := B.notSynchronized
  have inX6 : ∀ w ∈ wsX60, w ∈ wsX6_worth := by decide +kernel
  have hl := lv_entry ([.ref (mad 0), .int (iI h), .int (iI d), .int (iI w)]) (n := 4) (Nat.le_of_ble_eq_true rfl)
  rw [lg_entry_eq]
  generalize (lg_sl ([.ref (mad 0), .int (iI h), .int (iI d), .int (iI w)]) ++ List.replicate (4 - (lg_sl ([.ref (mad 0), .int (iI h), .int (iI d), .int (iI w)])).length) Slot.unset).toArray = ls at hl ⊢
  have hl : lv_has ls 4 [(0, .ref (mad 0)), (1, .int (iI h)), (2, .int (iI d)), (3, .int (iI w))] := hl
  have hS : va_S (PM mad) s.heap s.heap [] := va_S.rf
  have hN := hI.nums
  refine lv_aload_n hx hb dX6_worth_0 rfl (lv_at hl 0 rfl) ?_
  refine lv_iload_n hx hb dX6_worth_1 rfl (lv_at hl 1 rfl) ?_
  refine q_cVi (As := [.int (iI h)]) (rest := []) ⟨hx, hb, hml, hown, hts⟩ (c6_isHouse l g mad S hI h r_h ) (cwV 1 hts gX6_worth_X6_isHouse rfl rfl rfl (by decide +kernel) ⟨Nat.le_of_ble_eq_true rfl, Nat.le_of_ble_eq_true rfl⟩) (q_pV hK hM.1 rfl hM) rfl hl.1 rfl (Nat.le_of_ble_eq_true rfl) ⟨Nat.zero_le _, Nat.zero_le _⟩ dX6_worth_2 ?_
  refine q_ifb_eq (tgt := 25) hx hb dX6_worth_5 (by decide) (fun c5 => ?_) (fun c5 => ?_)
  · refine lv_iconst (v := iI (-1)) hx hb dX6_worth_25 rfl ?_
    refine q_mreti hx hb hr hlocks hS dX6_worth_26 ?_ ?_
    · show _ = aWorth S h d w
      unfold aWorth
      rw [cI_f (by omega)]
    · unfold tWorth
      rw [cI_f (fun z => by have z2 := z.1; omega)]
      exact hM
  · refine lv_iload_n hx hb dX6_worth_8 rfl (lv_at hl 2 rfl) ?_
    refine q_cSi (As := [.int (iI d)]) (rest := []) ⟨hx, hb, hml, hown, hts⟩ (c6_isDay l g d r_d ) (va_cwS 1 hts gX6_worth_X6_isDay rfl rfl rfl (by decide +kernel) ⟨Nat.le_of_ble_eq_true rfl, Nat.le_of_ble_eq_true rfl⟩) (q_pS hK trivial) rfl hl.1 rfl (Nat.le_of_ble_eq_true rfl) ⟨Nat.zero_le _, Nat.zero_le _⟩ dX6_worth_9 ?_
    refine q_ifb_eq (tgt := 25) hx hb dX6_worth_12 (by decide) (fun c12 => ?_) (fun c12 => ?_)
    · refine lv_iconst (v := iI (-1)) hx hb dX6_worth_25 rfl ?_
      refine q_mreti hx hb hr hlocks hS dX6_worth_26 ?_ ?_
      · show _ = aWorth S h d w
        unfold aWorth
        rw [cI_f (by omega)]
      · unfold tWorth
        rw [cI_f (fun z => by have z2 := z.1; omega)]
        exact hM
    · refine lv_iload_n hx hb dX6_worth_15 rfl (lv_at hl 3 rfl) ?_
      refine lv_iconst (v := iI 1) hx hb dX6_worth_16 rfl ?_
      refine q_ldc hx hb 100000 hown (hts (.constant RX6 126 (100000)) (by decide +kernel)) (by decide +kernel) dX6_worth_17 ?_
      refine q_cSi (As := [.int (iI w), .int (iI 1), .int (iI 100000)]) (rest := []) ⟨hx, hb, hml, hown, hts⟩ (c6_in l g w 1 100000 r_w (by decide) (by decide) ) (va_cwS 3 hts gX6_worth_X6_in rfl rfl rfl (by decide +kernel) ⟨Nat.le_of_ble_eq_true rfl, Nat.le_of_ble_eq_true rfl⟩) (q_pS hK trivial) rfl hl.1 rfl (Nat.le_of_ble_eq_true rfl) ⟨Nat.zero_le _, Nat.zero_le _⟩ dX6_worth_19 ?_
      refine q_ifb_ne (tgt := 27) hx hb dX6_worth_22 (by decide) (fun c22 => ?_) (fun c22 => ?_)
      · have h0 : 0 ≤ h ∧ h < S 14 0 := by assumption
        have hH := hI.house h0.1 h0.2
        refine lv_aload_n hx hb dX6_worth_27 rfl (lv_at hl 0 rfl) ?_
        refine q_get (v := .ref (mad 23)) (C := RX6) (T := TX6) (N := 32) hx hb hts inX6 hown hK hM.1 rfl 23 (by decide) (hts (.fieldLink RX6 68 "TavernBenchModel" "worths" "[I") (by decide +kernel)) (fun _ h9 => h9) rfl dX6_worth_28 ?_
        refine lv_iload_n hx hb dX6_worth_31 rfl (lv_at hl 1 rfl) ?_
        refine q_mld hx hb hK hM 23 30 ⟨by decide, by decide, by decide⟩ rfl ⟨by omega, by omega⟩ dX6_worth_32 ?_
        refine q_bipush hx hb 8 dX6_worth_33 (by decide +kernel) ?_
        refine q_icmp_ne (tgt := 41) hx hb dX6_worth_35 (by decide) (hI.R (by decide)) (by decide) (fun c35 => ?_) (fun c35 => ?_)
        · refine lv_aload_n hx hb dX6_worth_41 rfl (lv_at hl 0 rfl) ?_
          refine q_get (v := .ref (mad 24)) (C := RX6) (T := TX6) (N := 32) hx hb hts inX6 hown hK hM.1 rfl 24 (by decide) (hts (.fieldLink RX6 71 "TavernBenchModel" "worthDay" "[I") (by decide +kernel)) (fun _ h9 => h9) rfl dX6_worth_42 ?_
          refine q_bipush hx hb 8 dX6_worth_45 (by decide +kernel) ?_
          refine lv_iload_n hx hb dX6_worth_47 rfl (lv_at hl 1 rfl) ?_
          refine q_imul hx hb dX6_worth_48 ?_
          refine lv_aload_n hx hb dX6_worth_49 rfl (lv_at hl 0 rfl) ?_
          refine q_get (v := .ref (mad 23)) (C := RX6) (T := TX6) (N := 32) hx hb hts inX6 hown hK hM.1 rfl 23 (by decide) (hts (.fieldLink RX6 68 "TavernBenchModel" "worths" "[I") (by decide +kernel)) (fun _ h9 => h9) rfl dX6_worth_50 ?_
          refine lv_iload_n hx hb dX6_worth_53 rfl (lv_at hl 1 rfl) ?_
          refine q_mld hx hb hK hM 23 30 ⟨by decide, by decide, by decide⟩ rfl ⟨by omega, by omega⟩ dX6_worth_54 ?_
          refine q_iadd hx hb dX6_worth_55 ?_
          refine lv_iload_n hx hb dX6_worth_56 rfl (lv_at hl 2 rfl) ?_
          refine lv_aload_n hx hb dX6_worth_57 rfl (lv_at hl 0 rfl) ?_
          refine q_get (v := .ref (mad 18)) (C := RX6) (T := TX6) (N := 32) hx hb hts inX6 hown hK hM.1 rfl 18 (by decide) (hts (.fieldLink RX6 53 "TavernBenchModel" "granted" "[I") (by decide +kernel)) (fun _ h9 => h9) rfl dX6_worth_58 ?_
          refine lv_iload_n hx hb dX6_worth_61 rfl (lv_at hl 1 rfl) ?_
          refine q_mld hx hb hK hM 18 30 ⟨by decide, by decide, by decide⟩ rfl ⟨by omega, by omega⟩ dX6_worth_62 ?_
          refine q_icmp_ge (tgt := 75) hx hb dX6_worth_63 (by decide) r_d (hI.R (by decide)) (fun c63 => ?_) (fun c63 => ?_)
          · refine lv_iload_n hx hb dX6_worth_75 rfl (lv_at hl 2 rfl) ?_
            refine q_mst hx hb hK hM hi hS 24 240 ⟨24, by decide, Or.inr (by decide), rfl⟩ ⟨by decide, by decide, by decide⟩ ((8 * h) + (S 23 h)) d (fun _ => rfl) rfl ⟨by omega, by omega⟩ dX6_worth_76 (fun H locs hM hS => ?_)
            refine lv_aload_n hx hb dX6_worth_77 rfl (lv_at hl 0 rfl) ?_
            refine q_get (v := .ref (mad 25)) (C := RX6) (T := TX6) (N := 32) hx hb hts inX6 hown hK hM.1 rfl 25 (by decide) (hts (.fieldLink RX6 74 "TavernBenchModel" "worth" "[I") (by decide +kernel)) (fun _ h9 => h9) rfl dX6_worth_78 ?_
            refine q_bipush hx hb 8 dX6_worth_81 (by decide +kernel) ?_
            refine lv_iload_n hx hb dX6_worth_83 rfl (lv_at hl 1 rfl) ?_
            refine q_imul hx hb dX6_worth_84 ?_
            refine lv_aload_n hx hb dX6_worth_85 rfl (lv_at hl 0 rfl) ?_
            refine q_get (v := .ref (mad 23)) (C := RX6) (T := TX6) (N := 32) hx hb hts inX6 hown hK hM.1 rfl 23 (by decide) (hts (.fieldLink RX6 68 "TavernBenchModel" "worths" "[I") (by decide +kernel)) (fun _ h9 => h9) rfl dX6_worth_86 ?_
            refine lv_iload_n hx hb dX6_worth_89 rfl (lv_at hl 1 rfl) ?_
            refine q_mld hx hb hK hM 23 30 ⟨by decide, by decide, by decide⟩ rfl ⟨by omega, by omega⟩ dX6_worth_90 ?_
            refine q_top (z := S 23 h) rfl ?_
            refine q_iadd hx hb dX6_worth_91 ?_
            refine lv_iload_n hx hb dX6_worth_92 rfl (lv_at hl 3 rfl) ?_
            refine q_mst hx hb hK hM hi hS 25 240 ⟨25, by decide, Or.inr (by decide), rfl⟩ ⟨by decide, by decide, by decide⟩ ((8 * h) + (S 23 h)) w (fun _ => rfl) rfl ⟨by omega, by omega⟩ dX6_worth_93 (fun H locs hM hS => ?_)
            refine lv_aload_n hx hb dX6_worth_94 rfl (lv_at hl 0 rfl) ?_
            refine q_get (v := .ref (mad 23)) (C := RX6) (T := TX6) (N := 32) hx hb hts inX6 hown hK hM.1 rfl 23 (by decide) (hts (.fieldLink RX6 68 "TavernBenchModel" "worths" "[I") (by decide +kernel)) (fun _ h9 => h9) rfl dX6_worth_95 ?_
            refine lv_iload_n hx hb dX6_worth_98 rfl (lv_at hl 1 rfl) ?_
            refine lv_dup2_11 hx hb dX6_worth_99 rfl rfl ?_
            refine q_mld hx hb hK hM 23 30 ⟨by decide, by decide, by decide⟩ rfl ⟨by omega, by omega⟩ dX6_worth_100 ?_
            refine q_top (z := S 23 h) rfl ?_
            refine lv_iconst (v := iI 1) hx hb dX6_worth_101 rfl ?_
            refine q_iadd hx hb dX6_worth_102 ?_
            refine q_mst hx hb hK hM hi hS 23 30 ⟨23, by decide, Or.inr (by decide), rfl⟩ ⟨by decide, by decide, by decide⟩ h ((S 23 h) + 1) (fun _ => rfl) rfl ⟨by omega, by omega⟩ dX6_worth_103 (fun H locs hM hS => ?_)
            refine lv_aload_n hx hb dX6_worth_104 rfl (lv_at hl 0 rfl) ?_
            refine q_get (v := .ref (mad 23)) (C := RX6) (T := TX6) (N := 32) hx hb hts inX6 hown hK hM.1 rfl 23 (by decide) (hts (.fieldLink RX6 68 "TavernBenchModel" "worths" "[I") (by decide +kernel)) (fun _ h9 => h9) rfl dX6_worth_105 ?_
            refine lv_iload_n hx hb dX6_worth_108 rfl (lv_at hl 1 rfl) ?_
            refine q_mld hx hb hK hM 23 30 ⟨by decide, by decide, by decide⟩ rfl ⟨by omega, by omega⟩ dX6_worth_109 ?_
            refine q_mreti hx hb hr hlocks hS dX6_worth_110 ?_ ?_
            · show _ = aWorth S h d w
              unfold aWorth
              rw [cI_t (by omega), cI_f (by omega)]
              exact up_s _ _ _ _
            · unfold tWorth
              rw [cI_t (by omega)]
              unfold newWorth
              first | rw [cI_t (by omega)] | rw [cI_f (by omega)]
              exact hM
          · refine lv_aload_n hx hb dX6_worth_66 rfl (lv_at hl 0 rfl) ?_
            refine q_get (v := .ref (mad 18)) (C := RX6) (T := TX6) (N := 32) hx hb hts inX6 hown hK hM.1 rfl 18 (by decide) (hts (.fieldLink RX6 53 "TavernBenchModel" "granted" "[I") (by decide +kernel)) (fun _ h9 => h9) rfl dX6_worth_67 ?_
            refine lv_iload_n hx hb dX6_worth_70 rfl (lv_at hl 1 rfl) ?_
            refine q_mld hx hb hK hM 18 30 ⟨by decide, by decide, by decide⟩ rfl ⟨by omega, by omega⟩ dX6_worth_71 ?_
            refine lv_goto (tgt := 76) hx hb dX6_worth_72 (by decide) ?_
            refine q_mst hx hb hK hM hi hS 24 240 ⟨24, by decide, Or.inr (by decide), rfl⟩ ⟨by decide, by decide, by decide⟩ ((8 * h) + (S 23 h)) (S 18 h) (fun _ => rfl) rfl ⟨by omega, by omega⟩ dX6_worth_76 (fun H locs hM hS => ?_)
            refine lv_aload_n hx hb dX6_worth_77 rfl (lv_at hl 0 rfl) ?_
            refine q_get (v := .ref (mad 25)) (C := RX6) (T := TX6) (N := 32) hx hb hts inX6 hown hK hM.1 rfl 25 (by decide) (hts (.fieldLink RX6 74 "TavernBenchModel" "worth" "[I") (by decide +kernel)) (fun _ h9 => h9) rfl dX6_worth_78 ?_
            refine q_bipush hx hb 8 dX6_worth_81 (by decide +kernel) ?_
            refine lv_iload_n hx hb dX6_worth_83 rfl (lv_at hl 1 rfl) ?_
            refine q_imul hx hb dX6_worth_84 ?_
            refine lv_aload_n hx hb dX6_worth_85 rfl (lv_at hl 0 rfl) ?_
            refine q_get (v := .ref (mad 23)) (C := RX6) (T := TX6) (N := 32) hx hb hts inX6 hown hK hM.1 rfl 23 (by decide) (hts (.fieldLink RX6 68 "TavernBenchModel" "worths" "[I") (by decide +kernel)) (fun _ h9 => h9) rfl dX6_worth_86 ?_
            refine lv_iload_n hx hb dX6_worth_89 rfl (lv_at hl 1 rfl) ?_
            refine q_mld hx hb hK hM 23 30 ⟨by decide, by decide, by decide⟩ rfl ⟨by omega, by omega⟩ dX6_worth_90 ?_
            refine q_top (z := S 23 h) rfl ?_
            refine q_iadd hx hb dX6_worth_91 ?_
            refine lv_iload_n hx hb dX6_worth_92 rfl (lv_at hl 3 rfl) ?_
            refine q_mst hx hb hK hM hi hS 25 240 ⟨25, by decide, Or.inr (by decide), rfl⟩ ⟨by decide, by decide, by decide⟩ ((8 * h) + (S 23 h)) w (fun _ => rfl) rfl ⟨by omega, by omega⟩ dX6_worth_93 (fun H locs hM hS => ?_)
            refine lv_aload_n hx hb dX6_worth_94 rfl (lv_at hl 0 rfl) ?_
            refine q_get (v := .ref (mad 23)) (C := RX6) (T := TX6) (N := 32) hx hb hts inX6 hown hK hM.1 rfl 23 (by decide) (hts (.fieldLink RX6 68 "TavernBenchModel" "worths" "[I") (by decide +kernel)) (fun _ h9 => h9) rfl dX6_worth_95 ?_
            refine lv_iload_n hx hb dX6_worth_98 rfl (lv_at hl 1 rfl) ?_
            refine lv_dup2_11 hx hb dX6_worth_99 rfl rfl ?_
            refine q_mld hx hb hK hM 23 30 ⟨by decide, by decide, by decide⟩ rfl ⟨by omega, by omega⟩ dX6_worth_100 ?_
            refine q_top (z := S 23 h) rfl ?_
            refine lv_iconst (v := iI 1) hx hb dX6_worth_101 rfl ?_
            refine q_iadd hx hb dX6_worth_102 ?_
            refine q_mst hx hb hK hM hi hS 23 30 ⟨23, by decide, Or.inr (by decide), rfl⟩ ⟨by decide, by decide, by decide⟩ h ((S 23 h) + 1) (fun _ => rfl) rfl ⟨by omega, by omega⟩ dX6_worth_103 (fun H locs hM hS => ?_)
            refine lv_aload_n hx hb dX6_worth_104 rfl (lv_at hl 0 rfl) ?_
            refine q_get (v := .ref (mad 23)) (C := RX6) (T := TX6) (N := 32) hx hb hts inX6 hown hK hM.1 rfl 23 (by decide) (hts (.fieldLink RX6 68 "TavernBenchModel" "worths" "[I") (by decide +kernel)) (fun _ h9 => h9) rfl dX6_worth_105 ?_
            refine lv_iload_n hx hb dX6_worth_108 rfl (lv_at hl 1 rfl) ?_
            refine q_mld hx hb hK hM 23 30 ⟨by decide, by decide, by decide⟩ rfl ⟨by omega, by omega⟩ dX6_worth_109 ?_
            refine q_mreti hx hb hr hlocks hS dX6_worth_110 ?_ ?_
            · show _ = aWorth S h d w
              unfold aWorth
              rw [cI_t (by omega), cI_f (by omega)]
              exact up_s _ _ _ _
            · unfold tWorth
              rw [cI_t (by omega)]
              unfold newWorth
              first | rw [cI_t (by omega)] | rw [cI_f (by omega)]
              exact hM
        · refine q_bipush hx hb (-3) dX6_worth_38 (by decide +kernel) ?_
          refine q_mreti hx hb hr hlocks hS dX6_worth_40 ?_ ?_
          · show _ = aWorth S h d w
            unfold aWorth
            rw [cI_t (by omega), cI_t (by omega)]
          · unfold tWorth
            rw [cI_f (fun z => z.2 (by omega))]
            exact hM
      · refine lv_iconst (v := iI (-1)) hx hb dX6_worth_25 rfl ?_
        refine q_mreti hx hb hr hlocks hS dX6_worth_26 ?_ ?_
        · show _ = aWorth S h d w
          unfold aWorth
          rw [cI_f (by omega)]
        · unfold tWorth
          rw [cI_f (fun z => by have z2 := z.1; omega)]
          exact hM
