theorem cnt_exN {q : Nat → Prop} {n : Nat} : cnt q n = 0 ↔ ¬ exN q n := by
  induction n with
  | zero => exact ⟨fun _ => exN_0, fun _ => rfl⟩
  | succ n ih =>
    have e : cnt q (n + 1) = cnt q n + bI (q n) := rfl
    have h1 := cnt_le q n
    have h2 := bI_le (q n)
    rw [e, exN_s]
    by_cases c : q n
    · rw [bI_t c]
      exact ⟨fun z => by omega, fun z => absurd (Or.inr c) z⟩
    · rw [bI_f c]
      exact ⟨fun z y => y.elim (ih.mp (by omega)) c, fun z => by rw [ih.mpr (fun y => z (Or.inl y))]; rfl⟩
theorem many1 {S : St} {day : Int} {n : Nat} : sMany S day 1 n = 0 ↔ ¬ exN (fun (k : Nat) => sHas S (k : Int) day) n := by
  have e : qMany S day 1 = fun (k : Nat) => sHas S (k : Int) day := funext fun k => propext ⟨fun z => z.1, fun z => ⟨z, Or.inl (by decide)⟩⟩
  show cnt (qMany S day 1) n = 0 ↔ _
  rw [e]
  exact cnt_exN
theorem vis1_eq (S : St) (day : Int) : (tVis1 S day) 14 0 = S 14 0 ∧ (tVis1 S day) 29 0 = S 29 0 := by
  unfold tVis1
  by_cases c : sMany S day 0 (S 14 0).toNat = 0
  · rw [cI_t c]; exact ⟨rfl, rfl⟩
  · rw [cI_f c]; exact ⟨rfl, rfl⟩
theorem vis2_eq (S : St) (day : Int) : (tVis2 S day) 14 0 = S 14 0 ∧ (tVis2 S day) 29 0 = S 29 0 * 16807 % 2147483647 := ⟨(vis1_eq S day).1, rfl⟩
theorem vis12 (S : St) (day a : Int) (n : Nat) : sMany (tVis1 S day) day a n = sMany (tVis2 S day) day a n := by
  show cnt _ _ = cnt _ _
  rw [qMany_congr (S' := tVis2 S day) (S := tVis1 S day) rfl rfl rfl rfl rfl rfl]
theorem Inv.xVis1 {S : St} {day : Int} (hI : Inv S) : Inv (tVis1 S day) := by
  unfold tVis1
  by_cases c : sMany S day 0 (S 14 0).toNat = 0
  · rw [cI_t c]; exact hI.xRound
  · rw [cI_f c]; exact hI
theorem InvC.same {S S' : St} (h14 : S' 14 = S 14) (h19 : S' 19 = S 19) (h20 : S' 20 = S 20) (h21 : S' 21 = S 21) (h22 : S' 22 = S 22) (h40 : S' 40 = S 40) (h : InvC S) : InvC S' := by
  intro z z0 z1
  rw [h14] at z1
  have h9 := h z z0 z1
  unfold iQf at h9 ⊢
  intro j hj
  rw [h19] at hj
  have h8 := h9 j hj
  have eQ : ∀ day, sQuash S' z (16 * z + j) day = sQuash S z (16 * z + j) day := fun day => by
    funext q
    unfold sQuash
    rw [h20, h21, h22]
  rw [h19, h21, h40]
  refine ⟨h8.1, fun a day hd => ?_⟩
  rw [eQ]
  exact h8.2 a day hd
theorem InvC.xVis1 {S : St} {day : Int} (hQ : InvC S) : InvC (tVis1 S day) := by
  unfold tVis1
  by_cases c : sMany S day 0 (S 14 0).toNat = 0
  · rw [cI_t c]; exact hQ.same (S' := tRound S) rfl rfl rfl rfl rfl rfl
  · rw [cI_f c]; exact hQ
theorem InvC.xVis2 {S : St} {day : Int} (hQ : InvC S) : InvC (tVis2 S day) := hQ.xVis1.same (S' := tVis2 S day) rfl rfl rfl rfl rfl rfl

set_option maxHeartbeats 4000000 in
set_option maxRecDepth 100000 in
theorem cw_visit (l : Launch) (g : GG) (x : XX) (P : Nat → Prop) (ad : AD) (S : St) (hI : Inv S) (hQ : InvC S) (sz : Nat) (hPb : ∀ q, P q → x.2.2 ≤ q) (hPs : ∀ q, sz ≤ q → P q) (day : Int) (r_day : R32 day)  : MetXM l yX5_visit wsX5_visit ({ frames := 8, cells := 0, slots := 0, locals := 186 }) g x [.ref (ad 0 0 0), .int (iI day)] (fun H => H.size = sz ∧ RepC g x.2.1 P ad S H) (aVisit S day) (fun H => ∃ ad', ad' 0 0 0 = ad 0 0 0 ∧ RepC g x.2.1 P ad' (tVisit S day) H) P 0 0 := by
  refine Met.ofW (cc := cX5_visit) (maxL := 3) (ret := (some .int)) (by decide) rfl ?_
  intro p e s m args below meth c s₁ B hml hv
  obtain ⟨rfl, hP, hK, hX⟩ := hv
  have hx := B.exec
  have hb := B.bytes
  have hr := B.returns
  have hts := atoms_spec (ws := wsX5_visit) B.pre
  have hown : s.vm.findClass RX5 = some m.cls := findClass_of_methodNamed B.named
  have hlocks := B.notSynchronized
  have inX5 : ∀ w ∈ wsX50, w ∈ wsX5_visit := by decide +kernel
  have hl := lv_entry ([.ref (ad 0 0 0), .int (iI day)]) (n := 3) (Nat.le_of_ble_eq_true rfl)
  rw [lg_entry_eq]
  generalize (lg_sl ([.ref (ad 0 0 0), .int (iI day)]) ++ List.replicate (3 - (lg_sl ([.ref (ad 0 0 0), .int (iI day)])).length) Slot.unset).toArray = ls at hl ⊢
  have hl : lv_has ls 3 [(0, .ref (ad 0 0 0)), (1, .int (iI day))] := hl
  have hS : va_S (P) s.heap s.heap [] := va_S.rf
  have hAb : ∀ q, (P) q → x.2.2 ≤ q := hPb
  obtain ⟨hsz0, hC⟩ := hP
  have hC0 := hC
  have hkp : KP s.heap s.heap := KP.rf
  have hN := hI.nums
  refine lv_iload_n hx hb dX5_visit_0 rfl (lv_at hl 1 rfl) ?_
  refine q_cSi (As := [.int (iI day)]) (rest := []) ⟨hx, hb, hml, hown, hts⟩ (c5_isDay l g day r_day ) (va_cwS 1 hts gX5_visit_X5_isDay rfl rfl rfl (by decide +kernel) ⟨Nat.le_of_ble_eq_true rfl, Nat.le_of_ble_eq_true rfl⟩) (q_pS hK trivial) rfl hl.1 rfl (Nat.le_of_ble_eq_true rfl) ⟨Nat.le_of_ble_eq_true rfl, Nat.le_of_ble_eq_true rfl⟩ dX5_visit_1 ?_
  refine q_ifb_ne (tgt := 9) hx hb dX5_visit_4 (by decide) (fun c4 => ?_) (fun c4 => ?_)
  · refine lv_aload_n hx hb dX5_visit_9 rfl (lv_at hl 0 rfl) ?_
    refine lv_iload_n hx hb dX5_visit_10 rfl (lv_at hl 1 rfl) ?_
    refine q_cVi (As := [.int (iI day)]) (rest := []) ⟨hx, hb, hml, hown, hts⟩ (c5_anyLicence l g x.2.1 P ad S hI hQ day r_day (by omega)) (cwV 1 hts gX5_visit_X5_anyLicence rfl rfl rfl (by decide +kernel) ⟨Nat.le_of_ble_eq_true rfl, Nat.le_of_ble_eq_true rfl⟩) (q_pV hK hC.obj rfl hC) rfl hl.1 rfl (Nat.le_of_ble_eq_true rfl) ⟨Nat.le_of_ble_eq_true rfl, Nat.le_of_ble_eq_true rfl⟩ dX5_visit_11 ?_
    refine q_ifb_ne (tgt := 20) hx hb dX5_visit_14 (by decide) (fun c14 => ?_) (fun c14 => ?_)
    · have hm0 := sMany_b S day 0 (S 14 0).toNat
      refine lv_aload_n hx hb dX5_visit_20 rfl (lv_at hl 0 rfl) ?_
      refine lv_iload_n hx hb dX5_visit_21 rfl (lv_at hl 1 rfl) ?_
      refine q_cVi (As := [.int (iI day)]) (rest := []) ⟨hx, hb, hml, hown, hts⟩ (c5_unvisitedOn l g x.2.1 P ad S hI hQ day r_day (by omega)) (cwV 1 hts gX5_visit_X5_unvisitedOn rfl rfl rfl (by decide +kernel) ⟨Nat.le_of_ble_eq_true rfl, Nat.le_of_ble_eq_true rfl⟩) (q_pV hK hC.obj rfl hC) rfl hl.1 rfl (Nat.le_of_ble_eq_true rfl) ⟨Nat.le_of_ble_eq_true rfl, Nat.le_of_ble_eq_true rfl⟩ dX5_visit_22 ?_
      refine q_if_ne (tgt := 32) hx hb dX5_visit_25 (by decide) (by omega) (fun c25 => ?_) (fun c25 => ?_)
      · have hC : RepC g x.2.1 P ad (tVis1 S day) s.heap := by
          unfold tVis1
          rw [cI_f c25]
          exact hC
        have hI1 := hI.xVis1 (day := day)
        have hQ1 := hQ.xVis1 (day := day)
        have e1 := vis1_eq S day
        have e2 := vis2_eq S day
        have hm1 := sMany_b (tVis1 S day) day 0 ((tVis1 S day) 14 0).toNat
        have hvp := vis_pos hI (day := day) (by omega) (fun z => absurd (by assumption) (many1.mp z))
        rw [← vis12, e2.1, ← e1.1] at hvp
        have hso := seed_ok hI.seed
        have hsd := hI.seed
        refine lv_aload_n hx hb dX5_visit_32 rfl (lv_at hl 0 rfl) ?_
        refine lv_iload_n hx hb dX5_visit_33 rfl (lv_at hl 1 rfl) ?_
        refine q_cVi (As := [.int (iI day)]) (rest := []) ⟨hx, hb, hml, hown, hts⟩ (c5_unvisitedOn l g x.2.1 P ad (tVis1 S day) hI1 hQ1 day r_day (by omega)) (cwV 1 hts gX5_visit_X5_unvisitedOn rfl rfl rfl (by decide +kernel) ⟨Nat.le_of_ble_eq_true rfl, Nat.le_of_ble_eq_true rfl⟩) (q_pV hK hC.obj rfl hC) rfl hl.1 rfl (Nat.le_of_ble_eq_true rfl) ⟨Nat.le_of_ble_eq_true rfl, Nat.le_of_ble_eq_true rfl⟩ dX5_visit_34 ?_
        refine lv_istore_n (lv' := [(2, .int (iI (sMany (tVis1 S day) day 0 ((tVis1 S day) 14 0).toNat))), (0, .ref (ad 0 0 0)), (1, .int (iI day))]) hx hb dX5_visit_37 rfl hl (by decide) rfl (fun ls hl => ?_)
        refine lv_iload_n hx hb dX5_visit_38 rfl (lv_at hl 0 rfl) ?_
        refine q_if_gt (tgt := 45) hx hb dX5_visit_39 (by decide) (by omega) (fun c39 => ?_) (fun c39 => ?_)
        · refine lv_aload_n hx hb dX5_visit_45 rfl (lv_at hl 1 rfl) ?_
          refine lv_aload_n hx hb dX5_visit_46 rfl (lv_at hl 1 rfl) ?_
          refine q_get (v := .long (lI ((tVis1 S day) 29 0))) (C := RX5) (T := TX5) (N := 11) hx hb hts inX5 hown hK hC.obj rfl 10 (by decide) (hts (.fieldLink RX5 42 "TavernBench" "lastSeed" "J") (by decide +kernel)) (fun _ h9 => h9) rfl dX5_visit_47 ?_
          refine q_ldc2 hx hb 16807 hown (hts (.constantLong RX5 184 (16807)) (by decide +kernel)) (by decide +kernel) dX5_visit_50 ?_
          refine q_lmul hx hb dX5_visit_53 ?_
          refine q_ldc2 hx hb 2147483647 hown (hts (.constantLong RX5 186 (2147483647)) (by decide +kernel)) (by decide +kernel) dX5_visit_54 ?_
          refine q_lrem hx hb ⟨by omega, by omega⟩ ⟨by decide, by decide⟩ dX5_visit_57 ?_
          refine q_put (ty := .long) (v := .long (lI ((((tVis1 S day) 29 0) * 16807) % 2147483647))) hx hb hts inX5 tyX5 tyX5_ok nmX5 hown hK hC.obj rfl 10 (by decide) (hts (.fieldLink RX5 42 "TavernBench" "lastSeed" "J") (by decide +kernel)) (fun _ h9 => h9) rfl rfl rfl rfl (Nat.le_of_ble_eq_true rfl) dX5_visit_58 (fun H i1 hO1 hz1 ho1 => ?_)
          have hS := hS.put (k := i1) hz1 ho1 (hC.1 0 0 0 (live0 _)).2
          have hC : RepC g x.2.1 P ad (up (tVis1 S day) 29 0 ((((tVis1 S day) 29 0) * 16807) % 2147483647)) H := hC.top (fun k z0 z8 z9 z27 z28 z29 => up_ne _ 0 _ z29) hO1 ho1
          have hC : RepC g x.2.1 P ad (tVis2 S day) H := by
            have h9 := hC
            rw [e1.2] at h9
            exact h9
          have hI2 := hI.xVis2 (day := day)
          have hQ2 := hQ.xVis2 (day := day)
          have hm12 : sMany (tVis1 S day) day 0 ((tVis1 S day) 14 0).toNat = sMany (tVis2 S day) day 0 ((tVis2 S day) 14 0).toNat := by rw [vis12, e1.1, e2.1]
          have hlf : 0 ≤ (tVis2 S day) 29 0 % sMany (tVis1 S day) day 0 ((tVis1 S day) 14 0).toNat ∧ (tVis2 S day) 29 0 % sMany (tVis1 S day) day 0 ((tVis1 S day) 14 0).toNat < sMany (tVis1 S day) day 0 ((tVis1 S day) 14 0).toNat := ⟨Int.emod_nonneg _ (by omega), Int.emod_lt_of_pos _ hvp⟩
          rw [e2.2] at hlf
          refine lv_aload_n hx hb dX5_visit_61 rfl (lv_at hl 1 rfl) ?_
          refine lv_iload_n hx hb dX5_visit_62 rfl (lv_at hl 2 rfl) ?_
          refine lv_aload_n hx hb dX5_visit_63 rfl (lv_at hl 1 rfl) ?_
          refine q_get (v := .long (lI ((tVis2 S day) 29 0))) (C := RX5) (T := TX5) (N := 11) hx hb hts inX5 hown hK hC.obj rfl 10 (by decide) (hts (.fieldLink RX5 42 "TavernBench" "lastSeed" "J") (by decide +kernel)) (fun _ h9 => h9) rfl dX5_visit_64 ?_
          refine lv_iload_n hx hb dX5_visit_67 rfl (lv_at hl 0 rfl) ?_
          refine q_i2l hx hb (by omega) dX5_visit_68 ?_
          refine q_lrem hx hb ⟨by rw [e2.2]; omega, by rw [e2.2]; omega⟩ ⟨by omega, by omega⟩ dX5_visit_69 ?_
          refine q_l2i hx hb dX5_visit_70 ?_
          refine q_xVi (As := [.int (iI day), .int (iI (((tVis2 S day) 29 0) % (sMany (tVis1 S day) day 0 ((tVis1 S day) 14 0).toNat)))]) (rest := []) ⟨hx, hb, hml, hown, hts⟩ (cw_visitUnvisited l g x P ad (tVis2 S day) hI2 hQ2 _ hPb (fun q h => hPs _ (by omega)) day (((tVis2 S day) 29 0) % (sMany (tVis1 S day) day 0 ((tVis1 S day) 14 0).toNat)) r_day (by rw [e2.2]; omega) (by omega) ⟨by rw [e2.2]; omega, by rw [e2.2, ← hm12]; omega⟩) (cwV 2 hts gX5_visit_X5_visitUnvisited rfl rfl rfl (by decide +kernel) ⟨Nat.le_of_ble_eq_true rfl, Nat.le_of_ble_eq_true rfl⟩) (q_pVX hK hX hS hAb hC.obj rfl ⟨rfl, hC⟩) rfl hl.1 rfl (Nat.le_of_ble_eq_true rfl) ⟨Nat.le_of_ble_eq_true rfl, Nat.le_of_ble_eq_true rfl⟩ dX5_visit_71 hS (fun _ h => h) (fun H locs hV hz1 hk1 hS => ?_)
          refine W.widen (k := 0) (n := 0) (by omega) (by omega) ?_
          refine q_mreti hx hb hr hlocks hS dX5_visit_74 ?_ ?_
          · have efnd : pkN (qMany (tVis2 S day) day 0) (((tVis2 S day) 29 0) % (sMany (tVis1 S day) day 0 ((tVis1 S day) 14 0).toNat)) ((tVis2 S day) 14 0).toNat = sVis S day := by
              unfold sVis
              rw [hm12, e2.1, e2.2]
            rw [efnd]
            show _ = aVisit S day
            unfold aVisit
            rw [cI_t (by omega), cI_f (fun z => absurd (by assumption) (many1.mp z))]
          · have efnd : pkN (qMany (tVis2 S day) day 0) (((tVis2 S day) 29 0) % (sMany (tVis1 S day) day 0 ((tVis1 S day) 14 0).toNat)) ((tVis2 S day) 14 0).toNat = sVis S day := by
              unfold sVis
              rw [hm12, e2.1, e2.2]
            rw [efnd] at hV
            unfold tVisit
            rw [cI_t ⟨by omega, (fun z => absurd (by assumption) (many1.mp z))⟩]
            exact hV
        · exact absurd c39 (by omega)
      · refine lv_aload_n hx hb dX5_visit_28 rfl (lv_at hl 0 rfl) ?_
        refine q_xVv (As := []) (rest := []) ⟨hx, hb, hml, hown, hts⟩ (cw_beginRound l g x P ad S hI hQ _ hPb (fun q h => hPs _ (by omega))) (cwV 0 hts gX5_visit_X5_beginRound rfl rfl rfl (by decide +kernel) ⟨Nat.le_of_ble_eq_true rfl, Nat.le_of_ble_eq_true rfl⟩) (q_pVX hK hX hS hAb hC.obj rfl ⟨rfl, hC⟩) rfl hl.1 rfl (Nat.le_of_ble_eq_true rfl) ⟨Nat.le_of_ble_eq_true rfl, Nat.le_of_ble_eq_true rfl⟩ dX5_visit_29 hS (fun _ h => h) (fun H locs hC hz1 hk1 hS => ?_)
        have hC : RepC g x.2.1 P ad (tVis1 S day) H := by
          unfold tVis1
          rw [cI_t (by omega)]
          exact hC
        have hI1 := hI.xVis1 (day := day)
        have hQ1 := hQ.xVis1 (day := day)
        have e1 := vis1_eq S day
        have e2 := vis2_eq S day
        have hm1 := sMany_b (tVis1 S day) day 0 ((tVis1 S day) 14 0).toNat
        have hvp := vis_pos hI (day := day) (by omega) (fun z => absurd (by assumption) (many1.mp z))
        rw [← vis12, e2.1, ← e1.1] at hvp
        have hso := seed_ok hI.seed
        have hsd := hI.seed
        refine lv_aload_n hx hb dX5_visit_32 rfl (lv_at hl 0 rfl) ?_
        refine lv_iload_n hx hb dX5_visit_33 rfl (lv_at hl 1 rfl) ?_
        refine q_cVi (As := [.int (iI day)]) (rest := []) ⟨hx, hb, hml, hown, hts⟩ (c5_unvisitedOn l g x.2.1 P ad (tVis1 S day) hI1 hQ1 day r_day (by omega)) (cwV 1 hts gX5_visit_X5_unvisitedOn rfl rfl rfl (by decide +kernel) ⟨Nat.le_of_ble_eq_true rfl, Nat.le_of_ble_eq_true rfl⟩) (q_pV hK hC.obj rfl hC) rfl hl.1 rfl (Nat.le_of_ble_eq_true rfl) ⟨Nat.le_of_ble_eq_true rfl, Nat.le_of_ble_eq_true rfl⟩ dX5_visit_34 ?_
        refine lv_istore_n (lv' := [(2, .int (iI (sMany (tVis1 S day) day 0 ((tVis1 S day) 14 0).toNat))), (0, .ref (ad 0 0 0)), (1, .int (iI day))]) hx hb dX5_visit_37 rfl hl (by decide) rfl (fun ls hl => ?_)
        refine lv_iload_n hx hb dX5_visit_38 rfl (lv_at hl 0 rfl) ?_
        refine q_if_gt (tgt := 45) hx hb dX5_visit_39 (by decide) (by omega) (fun c39_1 => ?_) (fun c39_1 => ?_)
        · refine lv_aload_n hx hb dX5_visit_45 rfl (lv_at hl 1 rfl) ?_
          refine lv_aload_n hx hb dX5_visit_46 rfl (lv_at hl 1 rfl) ?_
          refine q_get (v := .long (lI ((tVis1 S day) 29 0))) (C := RX5) (T := TX5) (N := 11) hx hb hts inX5 hown hK hC.obj rfl 10 (by decide) (hts (.fieldLink RX5 42 "TavernBench" "lastSeed" "J") (by decide +kernel)) (fun _ h9 => h9) rfl dX5_visit_47 ?_
          refine q_ldc2 hx hb 16807 hown (hts (.constantLong RX5 184 (16807)) (by decide +kernel)) (by decide +kernel) dX5_visit_50 ?_
          refine q_lmul hx hb dX5_visit_53 ?_
          refine q_ldc2 hx hb 2147483647 hown (hts (.constantLong RX5 186 (2147483647)) (by decide +kernel)) (by decide +kernel) dX5_visit_54 ?_
          refine q_lrem hx hb ⟨by omega, by omega⟩ ⟨by decide, by decide⟩ dX5_visit_57 ?_
          refine q_put (ty := .long) (v := .long (lI ((((tVis1 S day) 29 0) * 16807) % 2147483647))) hx hb hts inX5 tyX5 tyX5_ok nmX5 hown hK hC.obj rfl 10 (by decide) (hts (.fieldLink RX5 42 "TavernBench" "lastSeed" "J") (by decide +kernel)) (fun _ h9 => h9) rfl rfl rfl rfl (Nat.le_of_ble_eq_true rfl) dX5_visit_58 (fun H i1 hO1 hz1 ho1 => ?_)
          have hS := hS.put (k := i1) hz1 ho1 (hC.1 0 0 0 (live0 _)).2
          have hC : RepC g x.2.1 P ad (up (tVis1 S day) 29 0 ((((tVis1 S day) 29 0) * 16807) % 2147483647)) H := hC.top (fun k z0 z8 z9 z27 z28 z29 => up_ne _ 0 _ z29) hO1 ho1
          have hC : RepC g x.2.1 P ad (tVis2 S day) H := by
            have h9 := hC
            rw [e1.2] at h9
            exact h9
          have hI2 := hI.xVis2 (day := day)
          have hQ2 := hQ.xVis2 (day := day)
          have hm12 : sMany (tVis1 S day) day 0 ((tVis1 S day) 14 0).toNat = sMany (tVis2 S day) day 0 ((tVis2 S day) 14 0).toNat := by rw [vis12, e1.1, e2.1]
          have hlf : 0 ≤ (tVis2 S day) 29 0 % sMany (tVis1 S day) day 0 ((tVis1 S day) 14 0).toNat ∧ (tVis2 S day) 29 0 % sMany (tVis1 S day) day 0 ((tVis1 S day) 14 0).toNat < sMany (tVis1 S day) day 0 ((tVis1 S day) 14 0).toNat := ⟨Int.emod_nonneg _ (by omega), Int.emod_lt_of_pos _ hvp⟩
          rw [e2.2] at hlf
          refine lv_aload_n hx hb dX5_visit_61 rfl (lv_at hl 1 rfl) ?_
          refine lv_iload_n hx hb dX5_visit_62 rfl (lv_at hl 2 rfl) ?_
          refine lv_aload_n hx hb dX5_visit_63 rfl (lv_at hl 1 rfl) ?_
          refine q_get (v := .long (lI ((tVis2 S day) 29 0))) (C := RX5) (T := TX5) (N := 11) hx hb hts inX5 hown hK hC.obj rfl 10 (by decide) (hts (.fieldLink RX5 42 "TavernBench" "lastSeed" "J") (by decide +kernel)) (fun _ h9 => h9) rfl dX5_visit_64 ?_
          refine lv_iload_n hx hb dX5_visit_67 rfl (lv_at hl 0 rfl) ?_
          refine q_i2l hx hb (by omega) dX5_visit_68 ?_
          refine q_lrem hx hb ⟨by rw [e2.2]; omega, by rw [e2.2]; omega⟩ ⟨by omega, by omega⟩ dX5_visit_69 ?_
          refine q_l2i hx hb dX5_visit_70 ?_
          refine q_xVi (As := [.int (iI day), .int (iI (((tVis2 S day) 29 0) % (sMany (tVis1 S day) day 0 ((tVis1 S day) 14 0).toNat)))]) (rest := []) ⟨hx, hb, hml, hown, hts⟩ (cw_visitUnvisited l g x P ad (tVis2 S day) hI2 hQ2 _ hPb (fun q h => hPs _ (by omega)) day (((tVis2 S day) 29 0) % (sMany (tVis1 S day) day 0 ((tVis1 S day) 14 0).toNat)) r_day (by rw [e2.2]; omega) (by omega) ⟨by rw [e2.2]; omega, by rw [e2.2, ← hm12]; omega⟩) (cwV 2 hts gX5_visit_X5_visitUnvisited rfl rfl rfl (by decide +kernel) ⟨Nat.le_of_ble_eq_true rfl, Nat.le_of_ble_eq_true rfl⟩) (q_pVX hK hX hS hAb hC.obj rfl ⟨rfl, hC⟩) rfl hl.1 rfl (Nat.le_of_ble_eq_true rfl) ⟨Nat.le_of_ble_eq_true rfl, Nat.le_of_ble_eq_true rfl⟩ dX5_visit_71 hS (fun _ h => h) (fun H locs hV hz1 hk1 hS => ?_)
          refine W.widen (k := 0) (n := 0) (by omega) (by omega) ?_
          refine q_mreti hx hb hr hlocks hS dX5_visit_74 ?_ ?_
          · have efnd : pkN (qMany (tVis2 S day) day 0) (((tVis2 S day) 29 0) % (sMany (tVis1 S day) day 0 ((tVis1 S day) 14 0).toNat)) ((tVis2 S day) 14 0).toNat = sVis S day := by
              unfold sVis
              rw [hm12, e2.1, e2.2]
            rw [efnd]
            show _ = aVisit S day
            unfold aVisit
            rw [cI_t (by omega), cI_f (fun z => absurd (by assumption) (many1.mp z))]
          · have efnd : pkN (qMany (tVis2 S day) day 0) (((tVis2 S day) 29 0) % (sMany (tVis1 S day) day 0 ((tVis1 S day) 14 0).toNat)) ((tVis2 S day) 14 0).toNat = sVis S day := by
              unfold sVis
              rw [hm12, e2.1, e2.2]
            rw [efnd] at hV
            unfold tVisit
            rw [cI_t ⟨by omega, (fun z => absurd (by assumption) (many1.mp z))⟩]
            exact hV
        · exact absurd c39_1 (by omega)
    · refine q_bipush hx hb (-2) dX5_visit_17 (by decide +kernel) ?_
      refine W.widen (k := 0) (n := 0) (by omega) (by omega) ?_
      refine q_mreti hx hb hr hlocks hS dX5_visit_19 ?_ ?_
      · show _ = aVisit S day
        unfold aVisit
        rw [cI_t (by omega), cI_t (many1.mpr (by assumption))]
      · refine ⟨ad, rfl, ?_⟩
        unfold tVisit
        rw [cI_f (fun z => z.2 (many1.mpr (by assumption)))]
        exact hC
  · refine lv_iconst (v := iI (-1)) hx hb dX5_visit_7 rfl ?_
    refine W.widen (k := 0) (n := 0) (by omega) (by omega) ?_
    refine q_mreti hx hb hr hlocks hS dX5_visit_8 ?_ ?_
    · show _ = aVisit S day
      unfold aVisit
      rw [cI_f (by omega)]
    · refine ⟨ad, rfl, ?_⟩
      unfold tVisit
      rw [cI_f (fun z => by have z2 := z.1; omega)]
      exact hC
