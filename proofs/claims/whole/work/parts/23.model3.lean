set_option maxHeartbeats 4000000 in
set_option maxRecDepth 100000 in
theorem c6_round (l : Launch) (g : GG) (mad : Nat → Nat) (S : St)   (hi : mInj mad)  : MetV l yX6_round wsX6_round ({ frames := 0, cells := 0, slots := 0, locals := 0 }) g [.ref (mad 0)] (fun H => RepM g mad S H) (fun H => RepM g mad (tRound S) H) (PM mad) 0 0 := by
  refine Met.ofW (cc := cX6_round) (maxL := 2) (ret := none) (by decide) rfl ?_
  intro p e s m args below meth c s₁ B hml hv
  obtain ⟨rfl, hM, hK⟩ := hv
  have hx := B.exec
  have hb := B.bytes
  have hr := B.returns
  have hts := atoms_spec (ws := wsX6_round) B.pre
  have hown : s.vm.findClass RX6 = some m.cls := findClass_of_methodNamed B.named
  have hlocks := B.notSynchronized
  have inX6 : ∀ w ∈ wsX60, w ∈ wsX6_round := by decide +kernel
  have hl := lv_entry ([.ref (mad 0)]) (n := 2) (Nat.le_of_ble_eq_true rfl)
  rw [lg_entry_eq]
  generalize (lg_sl ([.ref (mad 0)]) ++ List.replicate (2 - (lg_sl ([.ref (mad 0)])).length) Slot.unset).toArray = ls at hl ⊢
  have hl : lv_has ls 2 [(0, .ref (mad 0))] := hl
  have hS : va_S (PM mad) s.heap s.heap [] := va_S.rf
  refine lv_iconst (v := iI 0) hx hb dX6_round_0 rfl ?_
  refine lv_istore_n (lv' := [(1, .int (iI 0)), (0, .ref (mad 0))]) hx hb dX6_round_1 rfl hl (by decide) rfl (fun ls hl => ?_)
  have e0 : (((0 : Nat) : Int) : Int) = 0 := by
    rfl
  refine q_loopW (nL := 2) (A := PM mad) (fun (u : Nat) H => u ≤ 30 ∧ RepM g mad (clr S (u : Int)) H) (fun u => 30 - u) (fun (u : Nat) => [(0, .ref (mad 0)), (1, .int (iI ((u : Nat) : Int)))]) 0 ⟨Nat.zero_le _, by rw [clr_0]; exact hM⟩ hS (lv_sub hl [1, 0] (by simp only [e0]; rfl)) (fun u H locs hu2 hS ihu ls hl => ?_)
  have hl : lv_has ls 2 [(0, .ref (mad 0)), (1, .int (iI ((u : Nat) : Int)))] := hl
  have hu1 : u ≤ 30 := hu2.1
  have hM := hu2.2
  refine lv_iload_n hx hb dX6_round_2 rfl (lv_at hl 1 rfl) ?_
  refine q_bipush hx hb 30 dX6_round_3 (by decide +kernel) ?_
  refine q_icmp_ge (tgt := 21) hx hb dX6_round_5 (by decide) (by omega) (by decide) (fun c5 => ?_) (fun c5 => ?_)
  · have eu : u = 30 := by omega
    subst eu
    have hM : RepM g mad (clr S 30) H := hM
    refine lv_aload_n hx hb dX6_round_21 rfl (lv_at hl 0 rfl) ?_
    refine lv_iconst (v := iI 0) hx hb dX6_round_22 rfl ?_
    refine q_mput hx hb hts inX6 hown hK hM hi hS ⟨0, by decide, Or.inl rfl, rfl⟩ 27 (by decide) rfl (hts (.fieldLink RX6 178 "TavernBenchModel" "visits" "I") (by decide +kernel)) (fun _ h9 => h9) rfl (by decide +kernel) 0 rfl dX6_round_23 (fun H locs hM hS => ?_)
    refine q_mretv hx hb hr hlocks hS dX6_round_26 ?_
    · exact hM
  · refine lv_aload_n hx hb dX6_round_8 rfl (lv_at hl 0 rfl) ?_
    refine q_get (v := .ref (mad 26)) (C := RX6) (T := TX6) (N := 32) hx hb hts inX6 hown hK hM.1 rfl 26 (by decide) (hts (.fieldLink RX6 77 "TavernBenchModel" "isVisited" "[Z") (by decide +kernel)) (fun _ h9 => h9) rfl dX6_round_9 ?_
    refine lv_iload_n hx hb dX6_round_12 rfl (lv_at hl 1 rfl) ?_
    refine lv_iconst (v := iI 0) hx hb dX6_round_13 rfl ?_
    refine q_mstz hx hb hK hM hi hS ⟨26, by decide, Or.inr (by decide), rfl⟩ ((u : Nat) : Int) 0 (Or.inl rfl) ⟨by omega, by omega⟩ dX6_round_14 (fun H locs hM hS => ?_)
    refine lv_iinc (v := iI (((u : Nat) : Int) + 1)) (lv' := [(1, .int (iI (((u : Nat) : Int) + 1))), (0, .ref (mad 0))]) hx hb dX6_round_15 hl (k := 1) rfl (iI_add _ _) (by decide) rfl (fun ls hl => ?_)
    refine lv_goto (tgt := 2) hx hb dX6_round_18 (by decide) ?_
    have e0 : ((((u + 1) : Nat) : Int) : Int) = ((u : Nat) : Int) + 1 := by
      omega
    exact ihu (u + 1) _ _ ⟨by omega, by rw [← clr_s]; exact hM⟩ hS (by show 30 - (u + 1) < 30 - u; omega) ls (lv_sub hl [1, 0] (by simp only [e0]; rfl))

set_option maxHeartbeats 4000000 in
set_option maxRecDepth 100000 in
theorem c6_seed (l : Launch) (g : GG) (mad : Nat → Nat) (S : St) (hI : Inv S) (v : Int) (r_v : R32 v) (hi : mInj mad)  : MetM l yX6_seed wsX6_seed ({ frames := 1, cells := 0, slots := 0, locals := 22 }) g [.ref (mad 0), .int (iI v)] (fun H => RepM g mad S H) (aSeed v) (fun H => RepM g mad (tSeed S v) H) (PM mad) 0 0 := by
  refine Met.ofW (cc := cX6_seed) (maxL := 2) (ret := (some .int)) (by decide) rfl ?_
  intro p e s m args below meth c s₁ B hml hv
  obtain ⟨rfl, hM, hK⟩ := hv
  have hx := B.exec
  have hb := B.bytes
  have hr := B.returns
  have hts := atoms_spec (ws := wsX6_seed) B.pre
  have hown : s.vm.findClass RX6 = some m.cls := findClass_of_methodNamed B.named
  have hlocks := B.notSynchronized
  have inX6 : ∀ w ∈ wsX60, w ∈ wsX6_seed := by decide +kernel
  have hl := lv_entry ([.ref (mad 0), .int (iI v)]) (n := 2) (Nat.le_of_ble_eq_true rfl)
  rw [lg_entry_eq]
  generalize (lg_sl ([.ref (mad 0), .int (iI v)]) ++ List.replicate (2 - (lg_sl ([.ref (mad 0), .int (iI v)])).length) Slot.unset).toArray = ls at hl ⊢
  have hl : lv_has ls 2 [(0, .ref (mad 0)), (1, .int (iI v))] := hl
  have hS : va_S (PM mad) s.heap s.heap [] := va_S.rf
  refine lv_iload_n hx hb dX6_seed_0 rfl (lv_at hl 1 rfl) ?_
  refine lv_iconst (v := iI 1) hx hb dX6_seed_1 rfl ?_
  refine q_ldc hx hb 2147483646 hown (hts (.constant RX6 192 (2147483646)) (by decide +kernel)) (by decide +kernel) dX6_seed_2 ?_
  refine q_cSi (As := [.int (iI v), .int (iI 1), .int (iI 2147483646)]) (rest := []) ⟨hx, hb, hml, hown, hts⟩ (c6_in l g v 1 2147483646 r_v (by decide) (by decide) ) (va_cwS 3 hts gX6_seed_X6_in rfl rfl rfl (by decide +kernel) ⟨Nat.le_of_ble_eq_true rfl, Nat.le_of_ble_eq_true rfl⟩) (q_pS hK trivial) rfl hl.1 rfl (Nat.le_of_ble_eq_true rfl) ⟨Nat.zero_le _, Nat.zero_le _⟩ dX6_seed_4 ?_
  refine q_ifb_ne (tgt := 12) hx hb dX6_seed_7 (by decide) (fun c7 => ?_) (fun c7 => ?_)
  · refine lv_aload_n hx hb dX6_seed_12 rfl (lv_at hl 0 rfl) ?_
    refine lv_iload_n hx hb dX6_seed_13 rfl (lv_at hl 1 rfl) ?_
    refine q_i2l hx hb r_v dX6_seed_14 ?_
    refine q_mputj hx hb hts inX6 hown hK hM hi hS ⟨0, by decide, Or.inl rfl, rfl⟩ 29 (by decide) rfl (hts (.fieldLink RX6 81 "TavernBenchModel" "seed" "J") (by decide +kernel)) (fun _ h9 => h9) rfl (by decide +kernel) v rfl dX6_seed_15 (fun H locs hM hS => ?_)
    refine lv_aload_n hx hb dX6_seed_18 rfl (lv_at hl 0 rfl) ?_
    refine q_cMVv (As := []) (rest := []) ⟨hx, hb, hml, hown, hts⟩ (c6_round l g mad (up S 29 0 v) hi) (cwV 0 hts gX6_seed_X6_round rfl rfl rfl (by decide +kernel) ⟨Nat.le_of_ble_eq_true rfl, Nat.le_of_ble_eq_true rfl⟩) (q_pV hK hM.1 rfl hM) rfl hl.1 rfl (Nat.le_of_ble_eq_true rfl) ⟨Nat.zero_le _, Nat.zero_le _⟩ dX6_seed_19 hS (fun _ h => h) (fun H locs hM hz1 hk1 hS => ?_)
    refine lv_iconst (v := iI 0) hx hb dX6_seed_22 rfl ?_
    refine q_mreti hx hb hr hlocks hS dX6_seed_23 ?_ ?_
    · show _ = aSeed v
      unfold aSeed
      rw [cI_t (by omega)]
    · unfold tSeed
      rw [cI_t (by omega)]
      exact hM
  · refine lv_iconst (v := iI (-1)) hx hb dX6_seed_10 rfl ?_
    refine q_mreti hx hb hr hlocks hS dX6_seed_11 ?_ ?_
    · show _ = aSeed v
      unfold aSeed
      rw [cI_f (by omega)]
    · unfold tSeed
      rw [cI_f (by omega)]
      exact hM

theorem vis_pos {S : St} (hI : Inv S) {day : Int} (hd : isD day) (h : sMany S day 1 (S 14 0).toNat ≠ 0) : 0 < sMany (tVis2 S day) day 0 ((tVis2 S day) 14 0).toNat := by
  have e14 : (tVis2 S day) 14 0 = S 14 0 := by
    unfold tVis2 tVis1
    by_cases c : sMany S day 0 (S 14 0).toNat = 0
    · rw [cI_t c]; rfl
    · rw [cI_f c]; rfl
  rw [e14]
  have hall : qMany (up (tRound S) 29 0 (S 29 0 * 16807 % 2147483647)) day 0 = qMany (up (tRound S) 29 0 (S 29 0 * 16807 % 2147483647)) day 0 := rfl
  unfold tVis2 tVis1
  by_cases c : sMany S day 0 (S 14 0).toNat = 0
  · rw [cI_t c]
    have e : sMany (up (tRound S) 29 0 (S 29 0 * 16807 % 2147483647)) day 0 (S 14 0).toNat = sMany S day 1 (S 14 0).toNat := by
      have hN := hI.nums
      refine cnt_congr (fun k hk => ?_)
      have e1 : sHas (up (tRound S) 29 0 (S 29 0 * 16807 % 2147483647)) (k : Int) day ↔ sHas S (k : Int) day := by
        show sState _ _ _ _ = 1 ↔ sState _ _ _ _ = 1
        rw [sHas_congr (S' := up (tRound S) 29 0 (S 29 0 * 16807 % 2147483647)) (S := S) rfl rfl rfl rfl rfl]
      have e2 : (up (tRound S) 29 0 (S 29 0 * 16807 % 2147483647)) 26 (k : Int) = 0 := by
        show (if 0 ≤ (k : Int) ∧ (k : Int) < 30 then 0 else S 26 (k : Int)) = 0
        rw [if_pos (by omega)]
      exact ⟨fun z => ⟨e1.mp z.1, Or.inl (by decide)⟩, fun z => ⟨e1.mpr z.1, Or.inr e2⟩⟩
    rw [e]
    have := sMany_b S day 1 (S 14 0).toNat
    omega
  · rw [cI_f c]
    have e : sMany (up S 29 0 (S 29 0 * 16807 % 2147483647)) day 0 (S 14 0).toNat = sMany S day 0 (S 14 0).toNat := by
      show cnt _ _ = cnt _ _
      rw [qMany_congr (S' := up S 29 0 (S 29 0 * 16807 % 2147483647)) (S := S) rfl rfl rfl rfl rfl rfl]
    rw [e]
    have := sMany_b S day 0 (S 14 0).toNat
    omega

set_option maxHeartbeats 4000000 in
set_option maxRecDepth 100000 in
theorem c6_visit (l : Launch) (g : GG) (mad : Nat → Nat) (S : St) (hI : Inv S) (day : Int) (r_day : R32 day) (hi : mInj mad)  : MetM l yX6_visit wsX6_visit ({ frames := 5, cells := 0, slots := 0, locals := 123 }) g [.ref (mad 0), .int (iI day)] (fun H => RepM g mad S H) (aVisit S day) (fun H => RepM g mad (tVisit S day) H) (PM mad) 0 0 := by
  refine Met.ofW (cc := cX6_visit) (maxL := 5) (ret := (some .int)) (by decide) rfl ?_
  intro p e s m args below meth c s₁ B hml hv
  obtain ⟨rfl, hM, hK⟩ := hv
  have hx := B.exec
  have hb := B.bytes
  have hr := B.returns
  have hts := atoms_spec (ws := wsX6_visit) B.pre
  have hown : s.vm.findClass RX6 = some m.cls := findClass_of_methodNamed B.named
  have hlocks := B.notSynchronized
  have inX6 : ∀ w ∈ wsX60, w ∈ wsX6_visit := by decide +kernel
  have hl := lv_entry ([.ref (mad 0), .int (iI day)]) (n := 5) (Nat.le_of_ble_eq_true rfl)
  rw [lg_entry_eq]
  generalize (lg_sl ([.ref (mad 0), .int (iI day)]) ++ List.replicate (5 - (lg_sl ([.ref (mad 0), .int (iI day)])).length) Slot.unset).toArray = ls at hl ⊢
  have hl : lv_has ls 5 [(0, .ref (mad 0)), (1, .int (iI day))] := hl
  have hS : va_S (PM mad) s.heap s.heap [] := va_S.rf
  have hN := hI.nums
  have hsd := hI.seed
  have hso := seed_ok hsd
  refine lv_iload_n hx hb dX6_visit_0 rfl (lv_at hl 1 rfl) ?_
  refine q_cSi (As := [.int (iI day)]) (rest := []) ⟨hx, hb, hml, hown, hts⟩ (c6_isDay l g day r_day ) (va_cwS 1 hts gX6_visit_X6_isDay rfl rfl rfl (by decide +kernel) ⟨Nat.le_of_ble_eq_true rfl, Nat.le_of_ble_eq_true rfl⟩) (q_pS hK trivial) rfl hl.1 rfl (Nat.le_of_ble_eq_true rfl) ⟨Nat.zero_le _, Nat.zero_le _⟩ dX6_visit_1 ?_
  refine q_ifb_ne (tgt := 9) hx hb dX6_visit_4 (by decide) (fun c4 => ?_) (fun c4 => ?_)
  · have hm1 := sMany_b S day 1 (S 14 0).toNat
    have hm0 := sMany_b S day 0 (S 14 0).toNat
    refine lv_aload_n hx hb dX6_visit_9 rfl (lv_at hl 0 rfl) ?_
    refine lv_iload_n hx hb dX6_visit_10 rfl (lv_at hl 1 rfl) ?_
    refine lv_iconst (v := iI 1) hx hb dX6_visit_11 rfl ?_
    refine q_cVi (As := [.int (iI day), .int (iI 1)]) (rest := []) ⟨hx, hb, hml, hown, hts⟩ (c6_many l g mad S hI day 1 r_day (by decide)) (cwV 2 hts gX6_visit_X6_many rfl rfl rfl (by decide +kernel) ⟨Nat.le_of_ble_eq_true rfl, Nat.le_of_ble_eq_true rfl⟩) (q_pV hK hM.1 rfl hM) rfl hl.1 rfl (Nat.le_of_ble_eq_true rfl) ⟨Nat.zero_le _, Nat.zero_le _⟩ dX6_visit_12 ?_
    refine q_if_ne (tgt := 21) hx hb dX6_visit_15 (by decide) (by omega) (fun c15 => ?_) (fun c15 => ?_)
    · refine lv_aload_n hx hb dX6_visit_21 rfl (lv_at hl 0 rfl) ?_
      refine lv_iload_n hx hb dX6_visit_22 rfl (lv_at hl 1 rfl) ?_
      refine lv_iconst (v := iI 0) hx hb dX6_visit_23 rfl ?_
      refine q_cVi (As := [.int (iI day), .int (iI 0)]) (rest := []) ⟨hx, hb, hml, hown, hts⟩ (c6_many l g mad S hI day 0 r_day (by decide)) (cwV 2 hts gX6_visit_X6_many rfl rfl rfl (by decide +kernel) ⟨Nat.le_of_ble_eq_true rfl, Nat.le_of_ble_eq_true rfl⟩) (q_pV hK hM.1 rfl hM) rfl hl.1 rfl (Nat.le_of_ble_eq_true rfl) ⟨Nat.zero_le _, Nat.zero_le _⟩ dX6_visit_24 ?_
      refine q_if_ne (tgt := 34) hx hb dX6_visit_27 (by decide) (by omega) (fun c27 => ?_) (fun c27 => ?_)
      · have hxx : True := trivial
        refine lv_aload_n hx hb dX6_visit_34 rfl (lv_at hl 0 rfl) ?_
        refine lv_aload_n hx hb dX6_visit_35 rfl (lv_at hl 0 rfl) ?_
        refine q_get (v := .long (lI (S 29 0))) (C := RX6) (T := TX6) (N := 32) hx hb hts inX6 hown hK hM.1 rfl 29 (by decide) (hts (.fieldLink RX6 81 "TavernBenchModel" "seed" "J") (by decide +kernel)) (fun _ h9 => h9) rfl dX6_visit_36 ?_
        refine q_ldc2 hx hb 16807 hown (hts (.constantLong RX6 188 (16807)) (by decide +kernel)) (by decide +kernel) dX6_visit_39 ?_
        refine q_lmul hx hb dX6_visit_42 ?_
        refine q_ldc2 hx hb 2147483647 hown (hts (.constantLong RX6 190 (2147483647)) (by decide +kernel)) (by decide +kernel) dX6_visit_43 ?_
        refine q_lrem hx hb ⟨by omega, by omega⟩ ⟨by decide, by decide⟩ dX6_visit_46 ?_
        refine q_mputj hx hb hts inX6 hown hK hM hi hS ⟨0, by decide, Or.inl rfl, rfl⟩ 29 (by decide) rfl (hts (.fieldLink RX6 81 "TavernBenchModel" "seed" "J") (by decide +kernel)) (fun _ h9 => h9) rfl (by decide +kernel) (((S 29 0) * 16807) % 2147483647) rfl dX6_visit_47 (fun H locs hM hS => ?_)
        have e2 : (up S 29 0 (((S 29 0) * 16807) % 2147483647)) = tVis2 S day := by
          unfold tVis2 tVis1
          rw [cI_f c27]
          try rfl
        rw [e2] at hM
        have hI2 := hI.xVis2 (day := day)
        have hm2 := sMany_b (tVis2 S day) day 0 ((tVis2 S day) 14 0).toNat
        have hN2 : (tVis2 S day) 14 0 = S 14 0 ∧ (tVis2 S day) 29 0 = (S 29 0) * 16807 % 2147483647 := by
          rw [← e2]
          exact ⟨rfl, rfl⟩
        refine lv_aload_n hx hb dX6_visit_50 rfl (lv_at hl 0 rfl) ?_
        refine q_get (v := .long (lI ((tVis2 S day) 29 0))) (C := RX6) (T := TX6) (N := 32) hx hb hts inX6 hown hK hM.1 rfl 29 (by decide) (hts (.fieldLink RX6 81 "TavernBenchModel" "seed" "J") (by decide +kernel)) (fun _ h9 => h9) rfl dX6_visit_51 ?_
        refine lv_aload_n hx hb dX6_visit_54 rfl (lv_at hl 0 rfl) ?_
        refine lv_iload_n hx hb dX6_visit_55 rfl (lv_at hl 1 rfl) ?_
        refine lv_iconst (v := iI 0) hx hb dX6_visit_56 rfl ?_
        refine q_cVi (As := [.int (iI day), .int (iI 0)]) (rest := [.long (lI ((tVis2 S day) 29 0))]) ⟨hx, hb, hml, hown, hts⟩ (c6_many l g mad (tVis2 S day) hI2 day 0 r_day (by decide)) (cwV 2 hts gX6_visit_X6_many rfl rfl rfl (by decide +kernel) ⟨Nat.le_of_ble_eq_true rfl, Nat.le_of_ble_eq_true rfl⟩) (q_pV hK hM.1 rfl hM) rfl hl.1 rfl (Nat.le_of_ble_eq_true rfl) ⟨Nat.zero_le _, Nat.zero_le _⟩ dX6_visit_57 ?_
        refine q_i2l hx hb (by omega) dX6_visit_60 ?_
        have hvp := vis_pos hI (day := day) (by omega) (by omega)
        have hlf : 0 ≤ ((tVis2 S day) 29 0) % (sMany (tVis2 S day) day 0 ((tVis2 S day) 14 0).toNat) ∧ ((tVis2 S day) 29 0) % (sMany (tVis2 S day) day 0 ((tVis2 S day) 14 0).toNat) < sMany (tVis2 S day) day 0 ((tVis2 S day) 14 0).toNat := ⟨Int.emod_nonneg _ (by omega), Int.emod_lt_of_pos _ hvp⟩
        refine q_lrem hx hb ⟨by omega, by omega⟩ ⟨by omega, by omega⟩ dX6_visit_61 ?_
        refine q_l2i hx hb dX6_visit_62 ?_
        refine lv_istore_n (lv' := [(2, .int (iI (((tVis2 S day) 29 0) % (sMany (tVis2 S day) day 0 ((tVis2 S day) 14 0).toNat)))), (0, .ref (mad 0)), (1, .int (iI day))]) hx hb dX6_visit_63 rfl hl (by decide) rfl (fun ls hl => ?_)
        refine lv_iconst (v := iI (-1)) hx hb dX6_visit_64 rfl ?_
        refine lv_istore_n (lv' := [(3, .int (iI (-1))), (2, .int (iI (((tVis2 S day) 29 0) % (sMany (tVis2 S day) day 0 ((tVis2 S day) 14 0).toNat)))), (0, .ref (mad 0)), (1, .int (iI day))]) hx hb dX6_visit_65 rfl hl (by decide) rfl (fun ls hl => ?_)
        refine lv_iconst (v := iI 0) hx hb dX6_visit_66 rfl ?_
        refine lv_istore (lv' := [(4, .int (iI 0)), (3, .int (iI (-1))), (2, .int (iI (((tVis2 S day) 29 0) % (sMany (tVis2 S day) day 0 ((tVis2 S day) 14 0).toNat)))), (0, .ref (mad 0)), (1, .int (iI day))]) hx hb dX6_visit_67 hl (by decide) rfl (fun ls hl => ?_)
        have e0 : ((((tVis2 S day) 29 0) % (sMany (tVis2 S day) day 0 ((tVis2 S day) 14 0).toNat)) - cnt (qMany (tVis2 S day) day 0) 0 : Int) = ((tVis2 S day) 29 0) % (sMany (tVis2 S day) day 0 ((tVis2 S day) 14 0).toNat) := by
          show _ - 0 = _
          omega
        have e1 : (pkN (qMany (tVis2 S day) day 0) (((tVis2 S day) 29 0) % (sMany (tVis2 S day) day 0 ((tVis2 S day) 14 0).toNat)) 0 : Int) = (-1) := by
          rfl
        have e2 : (((0 : Nat) : Int) : Int) = 0 := by
          rfl
        refine q_loop (nL := 5) (fun (u : Nat) => u ≤ ((tVis2 S day) 14 0).toNat) (fun u => ((tVis2 S day) 14 0).toNat - u) (fun (u : Nat) => [(0, .ref (mad 0)), (1, .int (iI day)), (2, .int (iI ((((tVis2 S day) 29 0) % (sMany (tVis2 S day) day 0 ((tVis2 S day) 14 0).toNat)) - cnt (qMany (tVis2 S day) day 0) u))), (3, .int (iI (pkN (qMany (tVis2 S day) day 0) (((tVis2 S day) 29 0) % (sMany (tVis2 S day) day 0 ((tVis2 S day) 14 0).toNat)) u))), (4, .int (iI ((u : Nat) : Int)))]) 0 (Nat.zero_le _) (lv_sub hl [3, 4, 2, 1, 0] (by simp only [e0, e1, e2]; rfl)) (fun u hu ihu ls hl => ?_)
        have hl : lv_has ls 5 [(0, .ref (mad 0)), (1, .int (iI day)), (2, .int (iI ((((tVis2 S day) 29 0) % (sMany (tVis2 S day) day 0 ((tVis2 S day) 14 0).toNat)) - cnt (qMany (tVis2 S day) day 0) u))), (3, .int (iI (pkN (qMany (tVis2 S day) day 0) (((tVis2 S day) 29 0) % (sMany (tVis2 S day) day 0 ((tVis2 S day) 14 0).toNat)) u))), (4, .int (iI ((u : Nat) : Int)))] := hl
        have hcl := cnt_le (qMany (tVis2 S day) day 0) u
        have hpm0 := pkN_m (qMany (tVis2 S day) day 0) (((tVis2 S day) 29 0) % (sMany (tVis2 S day) day 0 ((tVis2 S day) 14 0).toNat)) u
        refine lv_iload hx hb dX6_visit_69 (lv_at hl 4 rfl) ?_
        refine lv_aload_n hx hb dX6_visit_71 rfl (lv_at hl 0 rfl) ?_
        refine q_get (v := .int (iI ((tVis2 S day) 14 0))) (C := RX6) (T := TX6) (N := 32) hx hb hts inX6 hown hK hM.1 rfl 14 (by decide) (hts (.fieldLink RX6 116 "TavernBenchModel" "houses" "I") (by decide +kernel)) (fun _ h9 => h9) rfl dX6_visit_72 ?_
        refine q_icmp_ge (tgt := 122) hx hb dX6_visit_75 (by decide) (by omega) (hI2.R (by decide)) (fun c75 => ?_) (fun c75 => ?_)
        · have hpm := pkN_m (qMany (tVis2 S day) day 0) (((tVis2 S day) 29 0) % (sMany (tVis2 S day) day 0 ((tVis2 S day) 14 0).toNat)) u
          have hpx := pkN_ex (qMany (tVis2 S day) day 0) (((tVis2 S day) 29 0) % (sMany (tVis2 S day) day 0 ((tVis2 S day) 14 0).toNat)) ((tVis2 S day) 14 0).toNat (by rw [hN2.2] at hlf ⊢; omega) (by rw [hN2.2] at hlf ⊢; exact hlf.2)
          have efin : pkN (qMany (tVis2 S day) day 0) (((tVis2 S day) 29 0) % (sMany (tVis2 S day) day 0 ((tVis2 S day) 14 0).toNat)) u = pkN (qMany (tVis2 S day) day 0) (((tVis2 S day) 29 0) % (sMany (tVis2 S day) day 0 ((tVis2 S day) 14 0).toNat)) ((tVis2 S day) 14 0).toNat := by
            first
            | (have eu : u = ((tVis2 S day) 14 0).toNat := by omega
               rw [eu])
            | (have hk := pkN_stay (qMany (tVis2 S day) day 0) (((tVis2 S day) 29 0) % (sMany (tVis2 S day) day 0 ((tVis2 S day) 14 0).toNat)) u (by assumption) (((tVis2 S day) 14 0).toNat - u)
               rw [Nat.add_sub_cancel' hu] at hk
               exact hk.symm)
          have efnd : pkN (qMany (tVis2 S day) day 0) (((tVis2 S day) 29 0) % (sMany (tVis2 S day) day 0 ((tVis2 S day) 14 0).toNat)) u = sVis S day := by
            rw [efin]
            unfold sVis
            rw [hN2.1, hN2.2]
          refine lv_aload_n hx hb dX6_visit_122 rfl (lv_at hl 0 rfl) ?_
          refine q_get (v := .ref (mad 26)) (C := RX6) (T := TX6) (N := 32) hx hb hts inX6 hown hK hM.1 rfl 26 (by decide) (hts (.fieldLink RX6 77 "TavernBenchModel" "isVisited" "[Z") (by decide +kernel)) (fun _ h9 => h9) rfl dX6_visit_123 ?_
          refine lv_iload_n hx hb dX6_visit_126 rfl (lv_at hl 3 rfl) ?_
          refine lv_iconst (v := iI 1) hx hb dX6_visit_127 rfl ?_
          refine q_mstz hx hb hK hM hi hS ⟨26, by decide, Or.inr (by decide), rfl⟩ (pkN (qMany (tVis2 S day) day 0) (((tVis2 S day) 29 0) % (sMany (tVis2 S day) day 0 ((tVis2 S day) 14 0).toNat)) u) 1 (Or.inr rfl) ⟨by omega, by omega⟩ dX6_visit_128 (fun H locs hM hS => ?_)
          refine lv_aload_n hx hb dX6_visit_129 rfl (lv_at hl 0 rfl) ?_
          refine lv_dup hx hb dX6_visit_130 rfl ?_
          refine q_get (v := .int (iI ((up (tVis2 S day) 26 (pkN (qMany (tVis2 S day) day 0) (((tVis2 S day) 29 0) % (sMany (tVis2 S day) day 0 ((tVis2 S day) 14 0).toNat)) u) 1) 27 0))) (C := RX6) (T := TX6) (N := 32) hx hb hts inX6 hown hK hM.1 rfl 27 (by decide) (hts (.fieldLink RX6 178 "TavernBenchModel" "visits" "I") (by decide +kernel)) (fun _ h9 => h9) rfl dX6_visit_131 ?_
          refine lv_iconst (v := iI 1) hx hb dX6_visit_134 rfl ?_
          refine q_iadd hx hb dX6_visit_135 ?_
          refine q_mput hx hb hts inX6 hown hK hM hi hS ⟨0, by decide, Or.inl rfl, rfl⟩ 27 (by decide) rfl (hts (.fieldLink RX6 178 "TavernBenchModel" "visits" "I") (by decide +kernel)) (fun _ h9 => h9) rfl (by decide +kernel) (((up (tVis2 S day) 26 (pkN (qMany (tVis2 S day) day 0) (((tVis2 S day) 29 0) % (sMany (tVis2 S day) day 0 ((tVis2 S day) 14 0).toNat)) u) 1) 27 0) + 1) rfl dX6_visit_136 (fun H locs hM hS => ?_)
          refine lv_iload_n hx hb dX6_visit_139 rfl (lv_at hl 3 rfl) ?_
          refine q_mreti hx hb hr hlocks hS dX6_visit_140 ?_ ?_
          · rw [efnd]
            show _ = aVisit S day
            unfold aVisit
            rw [cI_t (by omega), cI_f (by omega)]
          · rw [efnd] at hM
            unfold tVisit
            rw [cI_t ⟨by omega, by omega⟩]
            exact hM
        · refine lv_iload_n hx hb dX6_visit_78 rfl (lv_at hl 3 rfl) ?_
          refine q_if_ge (tgt := 122) hx hb dX6_visit_79 (by decide) (by omega) (fun c79 => ?_) (fun c79 => ?_)
          · have hpm := pkN_m (qMany (tVis2 S day) day 0) (((tVis2 S day) 29 0) % (sMany (tVis2 S day) day 0 ((tVis2 S day) 14 0).toNat)) u
            have hpx := pkN_ex (qMany (tVis2 S day) day 0) (((tVis2 S day) 29 0) % (sMany (tVis2 S day) day 0 ((tVis2 S day) 14 0).toNat)) ((tVis2 S day) 14 0).toNat (by rw [hN2.2] at hlf ⊢; omega) (by rw [hN2.2] at hlf ⊢; exact hlf.2)
            have efin : pkN (qMany (tVis2 S day) day 0) (((tVis2 S day) 29 0) % (sMany (tVis2 S day) day 0 ((tVis2 S day) 14 0).toNat)) u = pkN (qMany (tVis2 S day) day 0) (((tVis2 S day) 29 0) % (sMany (tVis2 S day) day 0 ((tVis2 S day) 14 0).toNat)) ((tVis2 S day) 14 0).toNat := by
              first
              | (have eu : u = ((tVis2 S day) 14 0).toNat := by omega
                 rw [eu])
              | (have hk := pkN_stay (qMany (tVis2 S day) day 0) (((tVis2 S day) 29 0) % (sMany (tVis2 S day) day 0 ((tVis2 S day) 14 0).toNat)) u (by assumption) (((tVis2 S day) 14 0).toNat - u)
                 rw [Nat.add_sub_cancel' hu] at hk
                 exact hk.symm)
            have efnd : pkN (qMany (tVis2 S day) day 0) (((tVis2 S day) 29 0) % (sMany (tVis2 S day) day 0 ((tVis2 S day) 14 0).toNat)) u = sVis S day := by
              rw [efin]
              unfold sVis
              rw [hN2.1, hN2.2]
            refine lv_aload_n hx hb dX6_visit_122 rfl (lv_at hl 0 rfl) ?_
            refine q_get (v := .ref (mad 26)) (C := RX6) (T := TX6) (N := 32) hx hb hts inX6 hown hK hM.1 rfl 26 (by decide) (hts (.fieldLink RX6 77 "TavernBenchModel" "isVisited" "[Z") (by decide +kernel)) (fun _ h9 => h9) rfl dX6_visit_123 ?_
            refine lv_iload_n hx hb dX6_visit_126 rfl (lv_at hl 3 rfl) ?_
            refine lv_iconst (v := iI 1) hx hb dX6_visit_127 rfl ?_
            refine q_mstz hx hb hK hM hi hS ⟨26, by decide, Or.inr (by decide), rfl⟩ (pkN (qMany (tVis2 S day) day 0) (((tVis2 S day) 29 0) % (sMany (tVis2 S day) day 0 ((tVis2 S day) 14 0).toNat)) u) 1 (Or.inr rfl) ⟨by omega, by omega⟩ dX6_visit_128 (fun H locs hM hS => ?_)
            refine lv_aload_n hx hb dX6_visit_129 rfl (lv_at hl 0 rfl) ?_
            refine lv_dup hx hb dX6_visit_130 rfl ?_
            refine q_get (v := .int (iI ((up (tVis2 S day) 26 (pkN (qMany (tVis2 S day) day 0) (((tVis2 S day) 29 0) % (sMany (tVis2 S day) day 0 ((tVis2 S day) 14 0).toNat)) u) 1) 27 0))) (C := RX6) (T := TX6) (N := 32) hx hb hts inX6 hown hK hM.1 rfl 27 (by decide) (hts (.fieldLink RX6 178 "TavernBenchModel" "visits" "I") (by decide +kernel)) (fun _ h9 => h9) rfl dX6_visit_131 ?_
            refine lv_iconst (v := iI 1) hx hb dX6_visit_134 rfl ?_
            refine q_iadd hx hb dX6_visit_135 ?_
            refine q_mput hx hb hts inX6 hown hK hM hi hS ⟨0, by decide, Or.inl rfl, rfl⟩ 27 (by decide) rfl (hts (.fieldLink RX6 178 "TavernBenchModel" "visits" "I") (by decide +kernel)) (fun _ h9 => h9) rfl (by decide +kernel) (((up (tVis2 S day) 26 (pkN (qMany (tVis2 S day) day 0) (((tVis2 S day) 29 0) % (sMany (tVis2 S day) day 0 ((tVis2 S day) 14 0).toNat)) u) 1) 27 0) + 1) rfl dX6_visit_136 (fun H locs hM hS => ?_)
            refine lv_iload_n hx hb dX6_visit_139 rfl (lv_at hl 3 rfl) ?_
            refine q_mreti hx hb hr hlocks hS dX6_visit_140 ?_ ?_
            · rw [efnd]
              show _ = aVisit S day
              unfold aVisit
              rw [cI_t (by omega), cI_f (by omega)]
            · rw [efnd] at hM
              unfold tVisit
              rw [cI_t ⟨by omega, by omega⟩]
              exact hM
          · have hH := hI2.house (h := ((u : Nat) : Int)) (by omega) (by omega)
            refine lv_aload_n hx hb dX6_visit_82 rfl (lv_at hl 0 rfl) ?_
            refine lv_iload hx hb dX6_visit_83 (lv_at hl 4 rfl) ?_
            refine lv_iload_n hx hb dX6_visit_85 rfl (lv_at hl 1 rfl) ?_
            refine q_cVi (As := [.int (iI ((u : Nat) : Int)), .int (iI day)]) (rest := []) ⟨hx, hb, hml, hown, hts⟩ (c6_has l g mad (tVis2 S day) hI2 ((u : Nat) : Int) day (by omega) r_day (⟨by omega, by omega⟩)) (cwV 2 hts gX6_visit_X6_has rfl rfl rfl (by decide +kernel) ⟨Nat.le_of_ble_eq_true rfl, Nat.le_of_ble_eq_true rfl⟩) (q_pV hK hM.1 rfl hM) rfl hl.1 rfl (Nat.le_of_ble_eq_true rfl) ⟨Nat.zero_le _, Nat.zero_le _⟩ dX6_visit_86 ?_
            refine q_ifb_eq (tgt := 116) hx hb dX6_visit_89 (by decide) (fun c89 => ?_) (fun c89 => ?_)
            · refine lv_iinc (v := iI (((u : Nat) : Int) + 1)) (lv' := [(4, .int (iI (((u : Nat) : Int) + 1))), (0, .ref (mad 0)), (1, .int (iI day)), (2, .int (iI ((((tVis2 S day) 29 0) % (sMany (tVis2 S day) day 0 ((tVis2 S day) 14 0).toNat)) - cnt (qMany (tVis2 S day) day 0) u))), (3, .int (iI (pkN (qMany (tVis2 S day) day 0) (((tVis2 S day) 29 0) % (sMany (tVis2 S day) day 0 ((tVis2 S day) 14 0).toNat)) u)))]) hx hb dX6_visit_116 hl (k := 4) rfl (iI_add _ _) (by decide) rfl (fun ls hl => ?_)
              refine lv_goto (tgt := 69) hx hb dX6_visit_119 (by decide) ?_
              have e0 : ((((tVis2 S day) 29 0) % (sMany (tVis2 S day) day 0 ((tVis2 S day) 14 0).toNat)) - cnt (qMany (tVis2 S day) day 0) (u + 1) : Int) = (((tVis2 S day) 29 0) % (sMany (tVis2 S day) day 0 ((tVis2 S day) 14 0).toNat)) - cnt (qMany (tVis2 S day) day 0) u := by
                first | (rw [cnt_1 ⟨by assumption, Or.inr (by assumption)⟩]; omega) | (rw [cnt_0 (fun z => absurd z.1 (by assumption))]; omega) | (rw [cnt_0 (fun z => z.2.elim (fun y => y rfl) (fun y => absurd y (by assumption)))]; omega)
              have e1 : (pkN (qMany (tVis2 S day) day 0) (((tVis2 S day) 29 0) % (sMany (tVis2 S day) day 0 ((tVis2 S day) 14 0).toNat)) (u + 1) : Int) = pkN (qMany (tVis2 S day) day 0) (((tVis2 S day) 29 0) % (sMany (tVis2 S day) day 0 ((tVis2 S day) 14 0).toNat)) u := by
                rw [pkN_s]
                first | exact cI_t ⟨by omega, ⟨by assumption, Or.inr (by assumption)⟩, by omega⟩ | (rw [cI_f (fun z => by have z2 := z.2.2; omega)]; omega) | (rw [cI_f (fun z => absurd z.2.1.1 (by assumption))]) | (rw [cI_f (fun z => z.2.1.2.elim (fun y => y rfl) (fun y => absurd y (by assumption)))])
              have e2 : ((((u + 1) : Nat) : Int) : Int) = ((u : Nat) : Int) + 1 := by
                omega
              exact ihu (u + 1) (by omega) (by show ((tVis2 S day) 14 0).toNat - (u + 1) < ((tVis2 S day) 14 0).toNat - u; omega) ls (lv_sub hl [1, 2, 3, 4, 0] (by simp only [e0, e1, e2]; rfl))
            · refine lv_aload_n hx hb dX6_visit_92 rfl (lv_at hl 0 rfl) ?_
              refine q_get (v := .ref (mad 26)) (C := RX6) (T := TX6) (N := 32) hx hb hts inX6 hown hK hM.1 rfl 26 (by decide) (hts (.fieldLink RX6 77 "TavernBenchModel" "isVisited" "[Z") (by decide +kernel)) (fun _ h9 => h9) rfl dX6_visit_93 ?_
              refine lv_iload hx hb dX6_visit_96 (lv_at hl 4 rfl) ?_
              refine q_mldz hx hb hK hM ⟨by omega, by omega⟩ dX6_visit_98 ?_
              refine q_if_ne (tgt := 116) hx hb dX6_visit_99 (by decide) (by omega) (fun c99 => ?_) (fun c99 => ?_)
              · refine lv_iinc (v := iI (((u : Nat) : Int) + 1)) (lv' := [(4, .int (iI (((u : Nat) : Int) + 1))), (0, .ref (mad 0)), (1, .int (iI day)), (2, .int (iI ((((tVis2 S day) 29 0) % (sMany (tVis2 S day) day 0 ((tVis2 S day) 14 0).toNat)) - cnt (qMany (tVis2 S day) day 0) u))), (3, .int (iI (pkN (qMany (tVis2 S day) day 0) (((tVis2 S day) 29 0) % (sMany (tVis2 S day) day 0 ((tVis2 S day) 14 0).toNat)) u)))]) hx hb dX6_visit_116 hl (k := 4) rfl (iI_add _ _) (by decide) rfl (fun ls hl => ?_)
                refine lv_goto (tgt := 69) hx hb dX6_visit_119 (by decide) ?_
                have e0 : ((((tVis2 S day) 29 0) % (sMany (tVis2 S day) day 0 ((tVis2 S day) 14 0).toNat)) - cnt (qMany (tVis2 S day) day 0) (u + 1) : Int) = (((tVis2 S day) 29 0) % (sMany (tVis2 S day) day 0 ((tVis2 S day) 14 0).toNat)) - cnt (qMany (tVis2 S day) day 0) u := by
                  first | (rw [cnt_1 ⟨by assumption, Or.inr (by assumption)⟩]; omega) | (rw [cnt_0 (fun z => absurd z.1 (by assumption))]; omega) | (rw [cnt_0 (fun z => z.2.elim (fun y => y rfl) (fun y => absurd y (by assumption)))]; omega)
                have e1 : (pkN (qMany (tVis2 S day) day 0) (((tVis2 S day) 29 0) % (sMany (tVis2 S day) day 0 ((tVis2 S day) 14 0).toNat)) (u + 1) : Int) = pkN (qMany (tVis2 S day) day 0) (((tVis2 S day) 29 0) % (sMany (tVis2 S day) day 0 ((tVis2 S day) 14 0).toNat)) u := by
                  rw [pkN_s]
                  first | exact cI_t ⟨by omega, ⟨by assumption, Or.inr (by assumption)⟩, by omega⟩ | (rw [cI_f (fun z => by have z2 := z.2.2; omega)]; omega) | (rw [cI_f (fun z => absurd z.2.1.1 (by assumption))]) | (rw [cI_f (fun z => z.2.1.2.elim (fun y => y rfl) (fun y => absurd y (by assumption)))])
                have e2 : ((((u + 1) : Nat) : Int) : Int) = ((u : Nat) : Int) + 1 := by
                  omega
                exact ihu (u + 1) (by omega) (by show ((tVis2 S day) 14 0).toNat - (u + 1) < ((tVis2 S day) 14 0).toNat - u; omega) ls (lv_sub hl [1, 2, 3, 4, 0] (by simp only [e0, e1, e2]; rfl))
              · refine lv_iload_n hx hb dX6_visit_102 rfl (lv_at hl 2 rfl) ?_
                refine q_if_ne (tgt := 111) hx hb dX6_visit_103 (by decide) (by omega) (fun c103 => ?_) (fun c103 => ?_)
                · refine lv_iconst (v := iI (-1)) hx hb dX6_visit_111 rfl ?_
                  refine lv_istore_n (lv' := [(3, .int (iI (-1))), (0, .ref (mad 0)), (1, .int (iI day)), (2, .int (iI ((((tVis2 S day) 29 0) % (sMany (tVis2 S day) day 0 ((tVis2 S day) 14 0).toNat)) - cnt (qMany (tVis2 S day) day 0) u))), (4, .int (iI ((u : Nat) : Int)))]) hx hb dX6_visit_112 rfl hl (by decide) rfl (fun ls hl => ?_)
                  refine lv_iinc (v := iI (((((tVis2 S day) 29 0) % (sMany (tVis2 S day) day 0 ((tVis2 S day) 14 0).toNat)) - cnt (qMany (tVis2 S day) day 0) u) + (-1))) (lv' := [(2, .int (iI (((((tVis2 S day) 29 0) % (sMany (tVis2 S day) day 0 ((tVis2 S day) 14 0).toNat)) - cnt (qMany (tVis2 S day) day 0) u) + (-1)))), (3, .int (iI (-1))), (0, .ref (mad 0)), (1, .int (iI day)), (4, .int (iI ((u : Nat) : Int)))]) hx hb dX6_visit_113 hl (k := 3) rfl (iI_add _ _) (by decide) rfl (fun ls hl => ?_)
                  refine lv_iinc (v := iI (((u : Nat) : Int) + 1)) (lv' := [(4, .int (iI (((u : Nat) : Int) + 1))), (2, .int (iI (((((tVis2 S day) 29 0) % (sMany (tVis2 S day) day 0 ((tVis2 S day) 14 0).toNat)) - cnt (qMany (tVis2 S day) day 0) u) + (-1)))), (3, .int (iI (-1))), (0, .ref (mad 0)), (1, .int (iI day))]) hx hb dX6_visit_116 hl (k := 4) rfl (iI_add _ _) (by decide) rfl (fun ls hl => ?_)
                  refine lv_goto (tgt := 69) hx hb dX6_visit_119 (by decide) ?_
                  have e0 : ((((tVis2 S day) 29 0) % (sMany (tVis2 S day) day 0 ((tVis2 S day) 14 0).toNat)) - cnt (qMany (tVis2 S day) day 0) (u + 1) : Int) = ((((tVis2 S day) 29 0) % (sMany (tVis2 S day) day 0 ((tVis2 S day) 14 0).toNat)) - cnt (qMany (tVis2 S day) day 0) u) + (-1) := by
                    first | (rw [cnt_1 ⟨by assumption, Or.inr (by assumption)⟩]; omega) | (rw [cnt_0 (fun z => absurd z.1 (by assumption))]; omega) | (rw [cnt_0 (fun z => z.2.elim (fun y => y rfl) (fun y => absurd y (by assumption)))]; omega)
                  have e1 : (pkN (qMany (tVis2 S day) day 0) (((tVis2 S day) 29 0) % (sMany (tVis2 S day) day 0 ((tVis2 S day) 14 0).toNat)) (u + 1) : Int) = (-1) := by
                    rw [pkN_s]
                    first | exact cI_t ⟨by omega, ⟨by assumption, Or.inr (by assumption)⟩, by omega⟩ | (rw [cI_f (fun z => by have z2 := z.2.2; omega)]; omega) | (rw [cI_f (fun z => absurd z.2.1.1 (by assumption))]) | (rw [cI_f (fun z => z.2.1.2.elim (fun y => y rfl) (fun y => absurd y (by assumption)))])
                  have e2 : ((((u + 1) : Nat) : Int) : Int) = ((u : Nat) : Int) + 1 := by
                    omega
                  exact ihu (u + 1) (by omega) (by show ((tVis2 S day) 14 0).toNat - (u + 1) < ((tVis2 S day) 14 0).toNat - u; omega) ls (lv_sub hl [3, 4, 1, 2, 0] (by simp only [e0, e1, e2]; rfl))
                · refine lv_iload hx hb dX6_visit_106 (lv_at hl 4 rfl) ?_
                  refine lv_goto (tgt := 112) hx hb dX6_visit_108 (by decide) ?_
                  refine lv_istore_n (lv' := [(3, .int (iI ((u : Nat) : Int))), (0, .ref (mad 0)), (1, .int (iI day)), (2, .int (iI ((((tVis2 S day) 29 0) % (sMany (tVis2 S day) day 0 ((tVis2 S day) 14 0).toNat)) - cnt (qMany (tVis2 S day) day 0) u))), (4, .int (iI ((u : Nat) : Int)))]) hx hb dX6_visit_112 rfl hl (by decide) rfl (fun ls hl => ?_)
                  refine lv_iinc (v := iI (((((tVis2 S day) 29 0) % (sMany (tVis2 S day) day 0 ((tVis2 S day) 14 0).toNat)) - cnt (qMany (tVis2 S day) day 0) u) + (-1))) (lv' := [(2, .int (iI (((((tVis2 S day) 29 0) % (sMany (tVis2 S day) day 0 ((tVis2 S day) 14 0).toNat)) - cnt (qMany (tVis2 S day) day 0) u) + (-1)))), (3, .int (iI ((u : Nat) : Int))), (0, .ref (mad 0)), (1, .int (iI day)), (4, .int (iI ((u : Nat) : Int)))]) hx hb dX6_visit_113 hl (k := 3) rfl (iI_add _ _) (by decide) rfl (fun ls hl => ?_)
                  refine lv_iinc (v := iI (((u : Nat) : Int) + 1)) (lv' := [(4, .int (iI (((u : Nat) : Int) + 1))), (2, .int (iI (((((tVis2 S day) 29 0) % (sMany (tVis2 S day) day 0 ((tVis2 S day) 14 0).toNat)) - cnt (qMany (tVis2 S day) day 0) u) + (-1)))), (3, .int (iI ((u : Nat) : Int))), (0, .ref (mad 0)), (1, .int (iI day))]) hx hb dX6_visit_116 hl (k := 4) rfl (iI_add _ _) (by decide) rfl (fun ls hl => ?_)
                  refine lv_goto (tgt := 69) hx hb dX6_visit_119 (by decide) ?_
                  have e0 : ((((tVis2 S day) 29 0) % (sMany (tVis2 S day) day 0 ((tVis2 S day) 14 0).toNat)) - cnt (qMany (tVis2 S day) day 0) (u + 1) : Int) = ((((tVis2 S day) 29 0) % (sMany (tVis2 S day) day 0 ((tVis2 S day) 14 0).toNat)) - cnt (qMany (tVis2 S day) day 0) u) + (-1) := by
                    first | (rw [cnt_1 ⟨by assumption, Or.inr (by assumption)⟩]; omega) | (rw [cnt_0 (fun z => absurd z.1 (by assumption))]; omega) | (rw [cnt_0 (fun z => z.2.elim (fun y => y rfl) (fun y => absurd y (by assumption)))]; omega)
                  have e1 : (pkN (qMany (tVis2 S day) day 0) (((tVis2 S day) 29 0) % (sMany (tVis2 S day) day 0 ((tVis2 S day) 14 0).toNat)) (u + 1) : Int) = ((u : Nat) : Int) := by
                    rw [pkN_s]
                    first | exact cI_t ⟨by omega, ⟨by assumption, Or.inr (by assumption)⟩, by omega⟩ | (rw [cI_f (fun z => by have z2 := z.2.2; omega)]; omega) | (rw [cI_f (fun z => absurd z.2.1.1 (by assumption))]) | (rw [cI_f (fun z => z.2.1.2.elim (fun y => y rfl) (fun y => absurd y (by assumption)))])
                  have e2 : ((((u + 1) : Nat) : Int) : Int) = ((u : Nat) : Int) + 1 := by
                    omega
                  exact ihu (u + 1) (by omega) (by show ((tVis2 S day) 14 0).toNat - (u + 1) < ((tVis2 S day) 14 0).toNat - u; omega) ls (lv_sub hl [3, 4, 1, 2, 0] (by simp only [e0, e1, e2]; rfl))
      · refine lv_aload_n hx hb dX6_visit_30 rfl (lv_at hl 0 rfl) ?_
        refine q_cMVv (As := []) (rest := []) ⟨hx, hb, hml, hown, hts⟩ (c6_round l g mad S hi) (cwV 0 hts gX6_visit_X6_round rfl rfl rfl (by decide +kernel) ⟨Nat.le_of_ble_eq_true rfl, Nat.le_of_ble_eq_true rfl⟩) (q_pV hK hM.1 rfl hM) rfl hl.1 rfl (Nat.le_of_ble_eq_true rfl) ⟨Nat.zero_le _, Nat.zero_le _⟩ dX6_visit_31 hS (fun _ h => h) (fun H locs hM hz1 hk1 hS => ?_)
        have hxx : True := trivial
        refine lv_aload_n hx hb dX6_visit_34 rfl (lv_at hl 0 rfl) ?_
        refine lv_aload_n hx hb dX6_visit_35 rfl (lv_at hl 0 rfl) ?_
        refine q_get (v := .long (lI (S 29 0))) (C := RX6) (T := TX6) (N := 32) hx hb hts inX6 hown hK hM.1 rfl 29 (by decide) (hts (.fieldLink RX6 81 "TavernBenchModel" "seed" "J") (by decide +kernel)) (fun _ h9 => h9) rfl dX6_visit_36 ?_
        refine q_ldc2 hx hb 16807 hown (hts (.constantLong RX6 188 (16807)) (by decide +kernel)) (by decide +kernel) dX6_visit_39 ?_
        refine q_lmul hx hb dX6_visit_42 ?_
        refine q_ldc2 hx hb 2147483647 hown (hts (.constantLong RX6 190 (2147483647)) (by decide +kernel)) (by decide +kernel) dX6_visit_43 ?_
        refine q_lrem hx hb ⟨by omega, by omega⟩ ⟨by decide, by decide⟩ dX6_visit_46 ?_
        refine q_mputj hx hb hts inX6 hown hK hM hi hS ⟨0, by decide, Or.inl rfl, rfl⟩ 29 (by decide) rfl (hts (.fieldLink RX6 81 "TavernBenchModel" "seed" "J") (by decide +kernel)) (fun _ h9 => h9) rfl (by decide +kernel) (((S 29 0) * 16807) % 2147483647) rfl dX6_visit_47 (fun H locs hM hS => ?_)
        have e2 : (up (tRound S) 29 0 (((S 29 0) * 16807) % 2147483647)) = tVis2 S day := by
          unfold tVis2 tVis1
          rw [cI_t c27]
          try rfl
        rw [e2] at hM
        have hI2 := hI.xVis2 (day := day)
        have hm2 := sMany_b (tVis2 S day) day 0 ((tVis2 S day) 14 0).toNat
        have hN2 : (tVis2 S day) 14 0 = S 14 0 ∧ (tVis2 S day) 29 0 = (S 29 0) * 16807 % 2147483647 := by
          rw [← e2]
          exact ⟨rfl, rfl⟩
        refine lv_aload_n hx hb dX6_visit_50 rfl (lv_at hl 0 rfl) ?_
        refine q_get (v := .long (lI ((tVis2 S day) 29 0))) (C := RX6) (T := TX6) (N := 32) hx hb hts inX6 hown hK hM.1 rfl 29 (by decide) (hts (.fieldLink RX6 81 "TavernBenchModel" "seed" "J") (by decide +kernel)) (fun _ h9 => h9) rfl dX6_visit_51 ?_
        refine lv_aload_n hx hb dX6_visit_54 rfl (lv_at hl 0 rfl) ?_
        refine lv_iload_n hx hb dX6_visit_55 rfl (lv_at hl 1 rfl) ?_
        refine lv_iconst (v := iI 0) hx hb dX6_visit_56 rfl ?_
        refine q_cVi (As := [.int (iI day), .int (iI 0)]) (rest := [.long (lI ((tVis2 S day) 29 0))]) ⟨hx, hb, hml, hown, hts⟩ (c6_many l g mad (tVis2 S day) hI2 day 0 r_day (by decide)) (cwV 2 hts gX6_visit_X6_many rfl rfl rfl (by decide +kernel) ⟨Nat.le_of_ble_eq_true rfl, Nat.le_of_ble_eq_true rfl⟩) (q_pV hK hM.1 rfl hM) rfl hl.1 rfl (Nat.le_of_ble_eq_true rfl) ⟨Nat.zero_le _, Nat.zero_le _⟩ dX6_visit_57 ?_
        refine q_i2l hx hb (by omega) dX6_visit_60 ?_
        have hvp := vis_pos hI (day := day) (by omega) (by omega)
        have hlf : 0 ≤ ((tVis2 S day) 29 0) % (sMany (tVis2 S day) day 0 ((tVis2 S day) 14 0).toNat) ∧ ((tVis2 S day) 29 0) % (sMany (tVis2 S day) day 0 ((tVis2 S day) 14 0).toNat) < sMany (tVis2 S day) day 0 ((tVis2 S day) 14 0).toNat := ⟨Int.emod_nonneg _ (by omega), Int.emod_lt_of_pos _ hvp⟩
        refine q_lrem hx hb ⟨by omega, by omega⟩ ⟨by omega, by omega⟩ dX6_visit_61 ?_
        refine q_l2i hx hb dX6_visit_62 ?_
        refine lv_istore_n (lv' := [(2, .int (iI (((tVis2 S day) 29 0) % (sMany (tVis2 S day) day 0 ((tVis2 S day) 14 0).toNat)))), (0, .ref (mad 0)), (1, .int (iI day))]) hx hb dX6_visit_63 rfl hl (by decide) rfl (fun ls hl => ?_)
        refine lv_iconst (v := iI (-1)) hx hb dX6_visit_64 rfl ?_
        refine lv_istore_n (lv' := [(3, .int (iI (-1))), (2, .int (iI (((tVis2 S day) 29 0) % (sMany (tVis2 S day) day 0 ((tVis2 S day) 14 0).toNat)))), (0, .ref (mad 0)), (1, .int (iI day))]) hx hb dX6_visit_65 rfl hl (by decide) rfl (fun ls hl => ?_)
        refine lv_iconst (v := iI 0) hx hb dX6_visit_66 rfl ?_
        refine lv_istore (lv' := [(4, .int (iI 0)), (3, .int (iI (-1))), (2, .int (iI (((tVis2 S day) 29 0) % (sMany (tVis2 S day) day 0 ((tVis2 S day) 14 0).toNat)))), (0, .ref (mad 0)), (1, .int (iI day))]) hx hb dX6_visit_67 hl (by decide) rfl (fun ls hl => ?_)
        have e0 : ((((tVis2 S day) 29 0) % (sMany (tVis2 S day) day 0 ((tVis2 S day) 14 0).toNat)) - cnt (qMany (tVis2 S day) day 0) 0 : Int) = ((tVis2 S day) 29 0) % (sMany (tVis2 S day) day 0 ((tVis2 S day) 14 0).toNat) := by
          show _ - 0 = _
          omega
        have e1 : (pkN (qMany (tVis2 S day) day 0) (((tVis2 S day) 29 0) % (sMany (tVis2 S day) day 0 ((tVis2 S day) 14 0).toNat)) 0 : Int) = (-1) := by
          rfl
        have e2 : (((0 : Nat) : Int) : Int) = 0 := by
          rfl
        refine q_loop (nL := 5) (fun (u : Nat) => u ≤ ((tVis2 S day) 14 0).toNat) (fun u => ((tVis2 S day) 14 0).toNat - u) (fun (u : Nat) => [(0, .ref (mad 0)), (1, .int (iI day)), (2, .int (iI ((((tVis2 S day) 29 0) % (sMany (tVis2 S day) day 0 ((tVis2 S day) 14 0).toNat)) - cnt (qMany (tVis2 S day) day 0) u))), (3, .int (iI (pkN (qMany (tVis2 S day) day 0) (((tVis2 S day) 29 0) % (sMany (tVis2 S day) day 0 ((tVis2 S day) 14 0).toNat)) u))), (4, .int (iI ((u : Nat) : Int)))]) 0 (Nat.zero_le _) (lv_sub hl [3, 4, 2, 1, 0] (by simp only [e0, e1, e2]; rfl)) (fun u hu ihu ls hl => ?_)
        have hl : lv_has ls 5 [(0, .ref (mad 0)), (1, .int (iI day)), (2, .int (iI ((((tVis2 S day) 29 0) % (sMany (tVis2 S day) day 0 ((tVis2 S day) 14 0).toNat)) - cnt (qMany (tVis2 S day) day 0) u))), (3, .int (iI (pkN (qMany (tVis2 S day) day 0) (((tVis2 S day) 29 0) % (sMany (tVis2 S day) day 0 ((tVis2 S day) 14 0).toNat)) u))), (4, .int (iI ((u : Nat) : Int)))] := hl
        have hcl := cnt_le (qMany (tVis2 S day) day 0) u
        have hpm0 := pkN_m (qMany (tVis2 S day) day 0) (((tVis2 S day) 29 0) % (sMany (tVis2 S day) day 0 ((tVis2 S day) 14 0).toNat)) u
        refine lv_iload hx hb dX6_visit_69 (lv_at hl 4 rfl) ?_
        refine lv_aload_n hx hb dX6_visit_71 rfl (lv_at hl 0 rfl) ?_
        refine q_get (v := .int (iI ((tVis2 S day) 14 0))) (C := RX6) (T := TX6) (N := 32) hx hb hts inX6 hown hK hM.1 rfl 14 (by decide) (hts (.fieldLink RX6 116 "TavernBenchModel" "houses" "I") (by decide +kernel)) (fun _ h9 => h9) rfl dX6_visit_72 ?_
        refine q_icmp_ge (tgt := 122) hx hb dX6_visit_75 (by decide) (by omega) (hI2.R (by decide)) (fun c75_1 => ?_) (fun c75_1 => ?_)
        · have hpm := pkN_m (qMany (tVis2 S day) day 0) (((tVis2 S day) 29 0) % (sMany (tVis2 S day) day 0 ((tVis2 S day) 14 0).toNat)) u
          have hpx := pkN_ex (qMany (tVis2 S day) day 0) (((tVis2 S day) 29 0) % (sMany (tVis2 S day) day 0 ((tVis2 S day) 14 0).toNat)) ((tVis2 S day) 14 0).toNat (by rw [hN2.2] at hlf ⊢; omega) (by rw [hN2.2] at hlf ⊢; exact hlf.2)
          have efin : pkN (qMany (tVis2 S day) day 0) (((tVis2 S day) 29 0) % (sMany (tVis2 S day) day 0 ((tVis2 S day) 14 0).toNat)) u = pkN (qMany (tVis2 S day) day 0) (((tVis2 S day) 29 0) % (sMany (tVis2 S day) day 0 ((tVis2 S day) 14 0).toNat)) ((tVis2 S day) 14 0).toNat := by
            first
            | (have eu : u = ((tVis2 S day) 14 0).toNat := by omega
               rw [eu])
            | (have hk := pkN_stay (qMany (tVis2 S day) day 0) (((tVis2 S day) 29 0) % (sMany (tVis2 S day) day 0 ((tVis2 S day) 14 0).toNat)) u (by assumption) (((tVis2 S day) 14 0).toNat - u)
               rw [Nat.add_sub_cancel' hu] at hk
               exact hk.symm)
          have efnd : pkN (qMany (tVis2 S day) day 0) (((tVis2 S day) 29 0) % (sMany (tVis2 S day) day 0 ((tVis2 S day) 14 0).toNat)) u = sVis S day := by
            rw [efin]
            unfold sVis
            rw [hN2.1, hN2.2]
          refine lv_aload_n hx hb dX6_visit_122 rfl (lv_at hl 0 rfl) ?_
          refine q_get (v := .ref (mad 26)) (C := RX6) (T := TX6) (N := 32) hx hb hts inX6 hown hK hM.1 rfl 26 (by decide) (hts (.fieldLink RX6 77 "TavernBenchModel" "isVisited" "[Z") (by decide +kernel)) (fun _ h9 => h9) rfl dX6_visit_123 ?_
          refine lv_iload_n hx hb dX6_visit_126 rfl (lv_at hl 3 rfl) ?_
          refine lv_iconst (v := iI 1) hx hb dX6_visit_127 rfl ?_
          refine q_mstz hx hb hK hM hi hS ⟨26, by decide, Or.inr (by decide), rfl⟩ (pkN (qMany (tVis2 S day) day 0) (((tVis2 S day) 29 0) % (sMany (tVis2 S day) day 0 ((tVis2 S day) 14 0).toNat)) u) 1 (Or.inr rfl) ⟨by omega, by omega⟩ dX6_visit_128 (fun H locs hM hS => ?_)
          refine lv_aload_n hx hb dX6_visit_129 rfl (lv_at hl 0 rfl) ?_
          refine lv_dup hx hb dX6_visit_130 rfl ?_
          refine q_get (v := .int (iI ((up (tVis2 S day) 26 (pkN (qMany (tVis2 S day) day 0) (((tVis2 S day) 29 0) % (sMany (tVis2 S day) day 0 ((tVis2 S day) 14 0).toNat)) u) 1) 27 0))) (C := RX6) (T := TX6) (N := 32) hx hb hts inX6 hown hK hM.1 rfl 27 (by decide) (hts (.fieldLink RX6 178 "TavernBenchModel" "visits" "I") (by decide +kernel)) (fun _ h9 => h9) rfl dX6_visit_131 ?_
          refine lv_iconst (v := iI 1) hx hb dX6_visit_134 rfl ?_
          refine q_iadd hx hb dX6_visit_135 ?_
          refine q_mput hx hb hts inX6 hown hK hM hi hS ⟨0, by decide, Or.inl rfl, rfl⟩ 27 (by decide) rfl (hts (.fieldLink RX6 178 "TavernBenchModel" "visits" "I") (by decide +kernel)) (fun _ h9 => h9) rfl (by decide +kernel) (((up (tVis2 S day) 26 (pkN (qMany (tVis2 S day) day 0) (((tVis2 S day) 29 0) % (sMany (tVis2 S day) day 0 ((tVis2 S day) 14 0).toNat)) u) 1) 27 0) + 1) rfl dX6_visit_136 (fun H locs hM hS => ?_)
          refine lv_iload_n hx hb dX6_visit_139 rfl (lv_at hl 3 rfl) ?_
          refine q_mreti hx hb hr hlocks hS dX6_visit_140 ?_ ?_
          · rw [efnd]
            show _ = aVisit S day
            unfold aVisit
            rw [cI_t (by omega), cI_f (by omega)]
          · rw [efnd] at hM
            unfold tVisit
            rw [cI_t ⟨by omega, by omega⟩]
            exact hM
        · refine lv_iload_n hx hb dX6_visit_78 rfl (lv_at hl 3 rfl) ?_
          refine q_if_ge (tgt := 122) hx hb dX6_visit_79 (by decide) (by omega) (fun c79_1 => ?_) (fun c79_1 => ?_)
          · have hpm := pkN_m (qMany (tVis2 S day) day 0) (((tVis2 S day) 29 0) % (sMany (tVis2 S day) day 0 ((tVis2 S day) 14 0).toNat)) u
            have hpx := pkN_ex (qMany (tVis2 S day) day 0) (((tVis2 S day) 29 0) % (sMany (tVis2 S day) day 0 ((tVis2 S day) 14 0).toNat)) ((tVis2 S day) 14 0).toNat (by rw [hN2.2] at hlf ⊢; omega) (by rw [hN2.2] at hlf ⊢; exact hlf.2)
            have efin : pkN (qMany (tVis2 S day) day 0) (((tVis2 S day) 29 0) % (sMany (tVis2 S day) day 0 ((tVis2 S day) 14 0).toNat)) u = pkN (qMany (tVis2 S day) day 0) (((tVis2 S day) 29 0) % (sMany (tVis2 S day) day 0 ((tVis2 S day) 14 0).toNat)) ((tVis2 S day) 14 0).toNat := by
              first
              | (have eu : u = ((tVis2 S day) 14 0).toNat := by omega
                 rw [eu])
              | (have hk := pkN_stay (qMany (tVis2 S day) day 0) (((tVis2 S day) 29 0) % (sMany (tVis2 S day) day 0 ((tVis2 S day) 14 0).toNat)) u (by assumption) (((tVis2 S day) 14 0).toNat - u)
                 rw [Nat.add_sub_cancel' hu] at hk
                 exact hk.symm)
            have efnd : pkN (qMany (tVis2 S day) day 0) (((tVis2 S day) 29 0) % (sMany (tVis2 S day) day 0 ((tVis2 S day) 14 0).toNat)) u = sVis S day := by
              rw [efin]
              unfold sVis
              rw [hN2.1, hN2.2]
            refine lv_aload_n hx hb dX6_visit_122 rfl (lv_at hl 0 rfl) ?_
            refine q_get (v := .ref (mad 26)) (C := RX6) (T := TX6) (N := 32) hx hb hts inX6 hown hK hM.1 rfl 26 (by decide) (hts (.fieldLink RX6 77 "TavernBenchModel" "isVisited" "[Z") (by decide +kernel)) (fun _ h9 => h9) rfl dX6_visit_123 ?_
            refine lv_iload_n hx hb dX6_visit_126 rfl (lv_at hl 3 rfl) ?_
            refine lv_iconst (v := iI 1) hx hb dX6_visit_127 rfl ?_
            refine q_mstz hx hb hK hM hi hS ⟨26, by decide, Or.inr (by decide), rfl⟩ (pkN (qMany (tVis2 S day) day 0) (((tVis2 S day) 29 0) % (sMany (tVis2 S day) day 0 ((tVis2 S day) 14 0).toNat)) u) 1 (Or.inr rfl) ⟨by omega, by omega⟩ dX6_visit_128 (fun H locs hM hS => ?_)
            refine lv_aload_n hx hb dX6_visit_129 rfl (lv_at hl 0 rfl) ?_
            refine lv_dup hx hb dX6_visit_130 rfl ?_
            refine q_get (v := .int (iI ((up (tVis2 S day) 26 (pkN (qMany (tVis2 S day) day 0) (((tVis2 S day) 29 0) % (sMany (tVis2 S day) day 0 ((tVis2 S day) 14 0).toNat)) u) 1) 27 0))) (C := RX6) (T := TX6) (N := 32) hx hb hts inX6 hown hK hM.1 rfl 27 (by decide) (hts (.fieldLink RX6 178 "TavernBenchModel" "visits" "I") (by decide +kernel)) (fun _ h9 => h9) rfl dX6_visit_131 ?_
            refine lv_iconst (v := iI 1) hx hb dX6_visit_134 rfl ?_
            refine q_iadd hx hb dX6_visit_135 ?_
            refine q_mput hx hb hts inX6 hown hK hM hi hS ⟨0, by decide, Or.inl rfl, rfl⟩ 27 (by decide) rfl (hts (.fieldLink RX6 178 "TavernBenchModel" "visits" "I") (by decide +kernel)) (fun _ h9 => h9) rfl (by decide +kernel) (((up (tVis2 S day) 26 (pkN (qMany (tVis2 S day) day 0) (((tVis2 S day) 29 0) % (sMany (tVis2 S day) day 0 ((tVis2 S day) 14 0).toNat)) u) 1) 27 0) + 1) rfl dX6_visit_136 (fun H locs hM hS => ?_)
            refine lv_iload_n hx hb dX6_visit_139 rfl (lv_at hl 3 rfl) ?_
            refine q_mreti hx hb hr hlocks hS dX6_visit_140 ?_ ?_
            · rw [efnd]
              show _ = aVisit S day
              unfold aVisit
              rw [cI_t (by omega), cI_f (by omega)]
            · rw [efnd] at hM
              unfold tVisit
              rw [cI_t ⟨by omega, by omega⟩]
              exact hM
          · have hH := hI2.house (h := ((u : Nat) : Int)) (by omega) (by omega)
            refine lv_aload_n hx hb dX6_visit_82 rfl (lv_at hl 0 rfl) ?_
            refine lv_iload hx hb dX6_visit_83 (lv_at hl 4 rfl) ?_
            refine lv_iload_n hx hb dX6_visit_85 rfl (lv_at hl 1 rfl) ?_
            refine q_cVi (As := [.int (iI ((u : Nat) : Int)), .int (iI day)]) (rest := []) ⟨hx, hb, hml, hown, hts⟩ (c6_has l g mad (tVis2 S day) hI2 ((u : Nat) : Int) day (by omega) r_day (⟨by omega, by omega⟩)) (cwV 2 hts gX6_visit_X6_has rfl rfl rfl (by decide +kernel) ⟨Nat.le_of_ble_eq_true rfl, Nat.le_of_ble_eq_true rfl⟩) (q_pV hK hM.1 rfl hM) rfl hl.1 rfl (Nat.le_of_ble_eq_true rfl) ⟨Nat.zero_le _, Nat.zero_le _⟩ dX6_visit_86 ?_
            refine q_ifb_eq (tgt := 116) hx hb dX6_visit_89 (by decide) (fun c89_1 => ?_) (fun c89_1 => ?_)
            · refine lv_iinc (v := iI (((u : Nat) : Int) + 1)) (lv' := [(4, .int (iI (((u : Nat) : Int) + 1))), (0, .ref (mad 0)), (1, .int (iI day)), (2, .int (iI ((((tVis2 S day) 29 0) % (sMany (tVis2 S day) day 0 ((tVis2 S day) 14 0).toNat)) - cnt (qMany (tVis2 S day) day 0) u))), (3, .int (iI (pkN (qMany (tVis2 S day) day 0) (((tVis2 S day) 29 0) % (sMany (tVis2 S day) day 0 ((tVis2 S day) 14 0).toNat)) u)))]) hx hb dX6_visit_116 hl (k := 4) rfl (iI_add _ _) (by decide) rfl (fun ls hl => ?_)
              refine lv_goto (tgt := 69) hx hb dX6_visit_119 (by decide) ?_
              have e0 : ((((tVis2 S day) 29 0) % (sMany (tVis2 S day) day 0 ((tVis2 S day) 14 0).toNat)) - cnt (qMany (tVis2 S day) day 0) (u + 1) : Int) = (((tVis2 S day) 29 0) % (sMany (tVis2 S day) day 0 ((tVis2 S day) 14 0).toNat)) - cnt (qMany (tVis2 S day) day 0) u := by
                first | (rw [cnt_1 ⟨by assumption, Or.inr (by assumption)⟩]; omega) | (rw [cnt_0 (fun z => absurd z.1 (by assumption))]; omega) | (rw [cnt_0 (fun z => z.2.elim (fun y => y rfl) (fun y => absurd y (by assumption)))]; omega)
              have e1 : (pkN (qMany (tVis2 S day) day 0) (((tVis2 S day) 29 0) % (sMany (tVis2 S day) day 0 ((tVis2 S day) 14 0).toNat)) (u + 1) : Int) = pkN (qMany (tVis2 S day) day 0) (((tVis2 S day) 29 0) % (sMany (tVis2 S day) day 0 ((tVis2 S day) 14 0).toNat)) u := by
                rw [pkN_s]
                first | exact cI_t ⟨by omega, ⟨by assumption, Or.inr (by assumption)⟩, by omega⟩ | (rw [cI_f (fun z => by have z2 := z.2.2; omega)]; omega) | (rw [cI_f (fun z => absurd z.2.1.1 (by assumption))]) | (rw [cI_f (fun z => z.2.1.2.elim (fun y => y rfl) (fun y => absurd y (by assumption)))])
              have e2 : ((((u + 1) : Nat) : Int) : Int) = ((u : Nat) : Int) + 1 := by
                omega
              exact ihu (u + 1) (by omega) (by show ((tVis2 S day) 14 0).toNat - (u + 1) < ((tVis2 S day) 14 0).toNat - u; omega) ls (lv_sub hl [1, 2, 3, 4, 0] (by simp only [e0, e1, e2]; rfl))
            · refine lv_aload_n hx hb dX6_visit_92 rfl (lv_at hl 0 rfl) ?_
              refine q_get (v := .ref (mad 26)) (C := RX6) (T := TX6) (N := 32) hx hb hts inX6 hown hK hM.1 rfl 26 (by decide) (hts (.fieldLink RX6 77 "TavernBenchModel" "isVisited" "[Z") (by decide +kernel)) (fun _ h9 => h9) rfl dX6_visit_93 ?_
              refine lv_iload hx hb dX6_visit_96 (lv_at hl 4 rfl) ?_
              refine q_mldz hx hb hK hM ⟨by omega, by omega⟩ dX6_visit_98 ?_
              refine q_if_ne (tgt := 116) hx hb dX6_visit_99 (by decide) (by omega) (fun c99_1 => ?_) (fun c99_1 => ?_)
              · refine lv_iinc (v := iI (((u : Nat) : Int) + 1)) (lv' := [(4, .int (iI (((u : Nat) : Int) + 1))), (0, .ref (mad 0)), (1, .int (iI day)), (2, .int (iI ((((tVis2 S day) 29 0) % (sMany (tVis2 S day) day 0 ((tVis2 S day) 14 0).toNat)) - cnt (qMany (tVis2 S day) day 0) u))), (3, .int (iI (pkN (qMany (tVis2 S day) day 0) (((tVis2 S day) 29 0) % (sMany (tVis2 S day) day 0 ((tVis2 S day) 14 0).toNat)) u)))]) hx hb dX6_visit_116 hl (k := 4) rfl (iI_add _ _) (by decide) rfl (fun ls hl => ?_)
                refine lv_goto (tgt := 69) hx hb dX6_visit_119 (by decide) ?_
                have e0 : ((((tVis2 S day) 29 0) % (sMany (tVis2 S day) day 0 ((tVis2 S day) 14 0).toNat)) - cnt (qMany (tVis2 S day) day 0) (u + 1) : Int) = (((tVis2 S day) 29 0) % (sMany (tVis2 S day) day 0 ((tVis2 S day) 14 0).toNat)) - cnt (qMany (tVis2 S day) day 0) u := by
                  first | (rw [cnt_1 ⟨by assumption, Or.inr (by assumption)⟩]; omega) | (rw [cnt_0 (fun z => absurd z.1 (by assumption))]; omega) | (rw [cnt_0 (fun z => z.2.elim (fun y => y rfl) (fun y => absurd y (by assumption)))]; omega)
                have e1 : (pkN (qMany (tVis2 S day) day 0) (((tVis2 S day) 29 0) % (sMany (tVis2 S day) day 0 ((tVis2 S day) 14 0).toNat)) (u + 1) : Int) = pkN (qMany (tVis2 S day) day 0) (((tVis2 S day) 29 0) % (sMany (tVis2 S day) day 0 ((tVis2 S day) 14 0).toNat)) u := by
                  rw [pkN_s]
                  first | exact cI_t ⟨by omega, ⟨by assumption, Or.inr (by assumption)⟩, by omega⟩ | (rw [cI_f (fun z => by have z2 := z.2.2; omega)]; omega) | (rw [cI_f (fun z => absurd z.2.1.1 (by assumption))]) | (rw [cI_f (fun z => z.2.1.2.elim (fun y => y rfl) (fun y => absurd y (by assumption)))])
                have e2 : ((((u + 1) : Nat) : Int) : Int) = ((u : Nat) : Int) + 1 := by
                  omega
                exact ihu (u + 1) (by omega) (by show ((tVis2 S day) 14 0).toNat - (u + 1) < ((tVis2 S day) 14 0).toNat - u; omega) ls (lv_sub hl [1, 2, 3, 4, 0] (by simp only [e0, e1, e2]; rfl))
              · refine lv_iload_n hx hb dX6_visit_102 rfl (lv_at hl 2 rfl) ?_
                refine q_if_ne (tgt := 111) hx hb dX6_visit_103 (by decide) (by omega) (fun c103_1 => ?_) (fun c103_1 => ?_)
                · refine lv_iconst (v := iI (-1)) hx hb dX6_visit_111 rfl ?_
                  refine lv_istore_n (lv' := [(3, .int (iI (-1))), (0, .ref (mad 0)), (1, .int (iI day)), (2, .int (iI ((((tVis2 S day) 29 0) % (sMany (tVis2 S day) day 0 ((tVis2 S day) 14 0).toNat)) - cnt (qMany (tVis2 S day) day 0) u))), (4, .int (iI ((u : Nat) : Int)))]) hx hb dX6_visit_112 rfl hl (by decide) rfl (fun ls hl => ?_)
                  refine lv_iinc (v := iI (((((tVis2 S day) 29 0) % (sMany (tVis2 S day) day 0 ((tVis2 S day) 14 0).toNat)) - cnt (qMany (tVis2 S day) day 0) u) + (-1))) (lv' := [(2, .int (iI (((((tVis2 S day) 29 0) % (sMany (tVis2 S day) day 0 ((tVis2 S day) 14 0).toNat)) - cnt (qMany (tVis2 S day) day 0) u) + (-1)))), (3, .int (iI (-1))), (0, .ref (mad 0)), (1, .int (iI day)), (4, .int (iI ((u : Nat) : Int)))]) hx hb dX6_visit_113 hl (k := 3) rfl (iI_add _ _) (by decide) rfl (fun ls hl => ?_)
                  refine lv_iinc (v := iI (((u : Nat) : Int) + 1)) (lv' := [(4, .int (iI (((u : Nat) : Int) + 1))), (2, .int (iI (((((tVis2 S day) 29 0) % (sMany (tVis2 S day) day 0 ((tVis2 S day) 14 0).toNat)) - cnt (qMany (tVis2 S day) day 0) u) + (-1)))), (3, .int (iI (-1))), (0, .ref (mad 0)), (1, .int (iI day))]) hx hb dX6_visit_116 hl (k := 4) rfl (iI_add _ _) (by decide) rfl (fun ls hl => ?_)
                  refine lv_goto (tgt := 69) hx hb dX6_visit_119 (by decide) ?_
                  have e0 : ((((tVis2 S day) 29 0) % (sMany (tVis2 S day) day 0 ((tVis2 S day) 14 0).toNat)) - cnt (qMany (tVis2 S day) day 0) (u + 1) : Int) = ((((tVis2 S day) 29 0) % (sMany (tVis2 S day) day 0 ((tVis2 S day) 14 0).toNat)) - cnt (qMany (tVis2 S day) day 0) u) + (-1) := by
                    first | (rw [cnt_1 ⟨by assumption, Or.inr (by assumption)⟩]; omega) | (rw [cnt_0 (fun z => absurd z.1 (by assumption))]; omega) | (rw [cnt_0 (fun z => z.2.elim (fun y => y rfl) (fun y => absurd y (by assumption)))]; omega)
                  have e1 : (pkN (qMany (tVis2 S day) day 0) (((tVis2 S day) 29 0) % (sMany (tVis2 S day) day 0 ((tVis2 S day) 14 0).toNat)) (u + 1) : Int) = (-1) := by
                    rw [pkN_s]
                    first | exact cI_t ⟨by omega, ⟨by assumption, Or.inr (by assumption)⟩, by omega⟩ | (rw [cI_f (fun z => by have z2 := z.2.2; omega)]; omega) | (rw [cI_f (fun z => absurd z.2.1.1 (by assumption))]) | (rw [cI_f (fun z => z.2.1.2.elim (fun y => y rfl) (fun y => absurd y (by assumption)))])
                  have e2 : ((((u + 1) : Nat) : Int) : Int) = ((u : Nat) : Int) + 1 := by
                    omega
                  exact ihu (u + 1) (by omega) (by show ((tVis2 S day) 14 0).toNat - (u + 1) < ((tVis2 S day) 14 0).toNat - u; omega) ls (lv_sub hl [3, 4, 1, 2, 0] (by simp only [e0, e1, e2]; rfl))
                · refine lv_iload hx hb dX6_visit_106 (lv_at hl 4 rfl) ?_
                  refine lv_goto (tgt := 112) hx hb dX6_visit_108 (by decide) ?_
                  refine lv_istore_n (lv' := [(3, .int (iI ((u : Nat) : Int))), (0, .ref (mad 0)), (1, .int (iI day)), (2, .int (iI ((((tVis2 S day) 29 0) % (sMany (tVis2 S day) day 0 ((tVis2 S day) 14 0).toNat)) - cnt (qMany (tVis2 S day) day 0) u))), (4, .int (iI ((u : Nat) : Int)))]) hx hb dX6_visit_112 rfl hl (by decide) rfl (fun ls hl => ?_)
                  refine lv_iinc (v := iI (((((tVis2 S day) 29 0) % (sMany (tVis2 S day) day 0 ((tVis2 S day) 14 0).toNat)) - cnt (qMany (tVis2 S day) day 0) u) + (-1))) (lv' := [(2, .int (iI (((((tVis2 S day) 29 0) % (sMany (tVis2 S day) day 0 ((tVis2 S day) 14 0).toNat)) - cnt (qMany (tVis2 S day) day 0) u) + (-1)))), (3, .int (iI ((u : Nat) : Int))), (0, .ref (mad 0)), (1, .int (iI day)), (4, .int (iI ((u : Nat) : Int)))]) hx hb dX6_visit_113 hl (k := 3) rfl (iI_add _ _) (by decide) rfl (fun ls hl => ?_)
                  refine lv_iinc (v := iI (((u : Nat) : Int) + 1)) (lv' := [(4, .int (iI (((u : Nat) : Int) + 1))), (2, .int (iI (((((tVis2 S day) 29 0) % (sMany (tVis2 S day) day 0 ((tVis2 S day) 14 0).toNat)) - cnt (qMany (tVis2 S day) day 0) u) + (-1)))), (3, .int (iI ((u : Nat) : Int))), (0, .ref (mad 0)), (1, .int (iI day))]) hx hb dX6_visit_116 hl (k := 4) rfl (iI_add _ _) (by decide) rfl (fun ls hl => ?_)
                  refine lv_goto (tgt := 69) hx hb dX6_visit_119 (by decide) ?_
                  have e0 : ((((tVis2 S day) 29 0) % (sMany (tVis2 S day) day 0 ((tVis2 S day) 14 0).toNat)) - cnt (qMany (tVis2 S day) day 0) (u + 1) : Int) = ((((tVis2 S day) 29 0) % (sMany (tVis2 S day) day 0 ((tVis2 S day) 14 0).toNat)) - cnt (qMany (tVis2 S day) day 0) u) + (-1) := by
                    first | (rw [cnt_1 ⟨by assumption, Or.inr (by assumption)⟩]; omega) | (rw [cnt_0 (fun z => absurd z.1 (by assumption))]; omega) | (rw [cnt_0 (fun z => z.2.elim (fun y => y rfl) (fun y => absurd y (by assumption)))]; omega)
                  have e1 : (pkN (qMany (tVis2 S day) day 0) (((tVis2 S day) 29 0) % (sMany (tVis2 S day) day 0 ((tVis2 S day) 14 0).toNat)) (u + 1) : Int) = ((u : Nat) : Int) := by
                    rw [pkN_s]
                    first | exact cI_t ⟨by omega, ⟨by assumption, Or.inr (by assumption)⟩, by omega⟩ | (rw [cI_f (fun z => by have z2 := z.2.2; omega)]; omega) | (rw [cI_f (fun z => absurd z.2.1.1 (by assumption))]) | (rw [cI_f (fun z => z.2.1.2.elim (fun y => y rfl) (fun y => absurd y (by assumption)))])
                  have e2 : ((((u + 1) : Nat) : Int) : Int) = ((u : Nat) : Int) + 1 := by
                    omega
                  exact ihu (u + 1) (by omega) (by show ((tVis2 S day) 14 0).toNat - (u + 1) < ((tVis2 S day) 14 0).toNat - u; omega) ls (lv_sub hl [3, 4, 1, 2, 0] (by simp only [e0, e1, e2]; rfl))
    · refine q_bipush hx hb (-2) dX6_visit_18 (by decide +kernel) ?_
      refine q_mreti hx hb hr hlocks hS dX6_visit_20 ?_ ?_
      · show _ = aVisit S day
        unfold aVisit
        rw [cI_t (by omega), cI_t (by omega)]
      · unfold tVisit
        rw [cI_f (fun z => z.2 (by omega))]
        exact hM
  · refine lv_iconst (v := iI (-1)) hx hb dX6_visit_7 rfl ?_
    refine q_mreti hx hb hr hlocks hS dX6_visit_8 ?_ ?_
    · show _ = aVisit S day
      unfold aVisit
      rw [cI_f (by omega)]
    · unfold tVisit
      rw [cI_f (fun z => by have z2 := z.1; omega)]
      exact hM
