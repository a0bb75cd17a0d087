theorem sg_lt {a b : Int} : sg a b < 0 ↔ a < b := by
  unfold sg
  by_cases h : a < b
  · rw [if_pos h]; omega
  · rw [if_neg h]
    by_cases h2 : a = b
    · rw [if_pos h2]; omega
    · rw [if_neg h2]; omega
theorem clr_eq {S : St} (hI : Inv S) : clr S (S 14 0) = clr S 30 := by
  have hN := hI.nums
  funext a b
  unfold clr
  by_cases h : a = 26
  · subst h
    rw [if_pos rfl, if_pos rfl]
    by_cases h1 : 0 ≤ b ∧ b < S 14 0
    · rw [if_pos h1, if_pos (by omega)]
    · rw [if_neg h1]
      by_cases h2 : 0 ≤ b ∧ b < 30
      · rw [if_pos h2]
        exact (hI.out (h := b) (by omega)).2
      · rw [if_neg h2]
  · rw [if_neg h, if_neg h]

set_option maxHeartbeats 4000000 in
set_option maxRecDepth 100000 in
theorem cw_beginRound (l : Launch) (g : GG) (x : XX) (P : Nat → Prop) (ad : AD) (S : St) (hI : Inv S) (hQ : InvC S) (sz : Nat) (hPb : ∀ q, P q → x.2.2 ≤ q) (hPs : ∀ q, sz ≤ q → P q)    : MetXV l yX5_beginRound wsX5_beginRound ({ frames := 3, cells := 0, slots := 0, locals := 64 }) g x [.ref (ad 0 0 0)] (fun H => H.size = sz ∧ RepC g x.2.1 P ad S H) (fun H => RepC g x.2.1 P ad (tRound S) H) P 0 0 := by
  refine Met.ofW (cc := cX5_beginRound) (maxL := 2) (ret := none) (by decide) rfl ?_
  intro p e s m args below meth c s₁ B hml hv
  obtain ⟨rfl, hP, hK, hX⟩ := hv
  have hx := B.exec
  have hb := B.bytes
  have hr := B.returns
  have hts := atoms_spec (ws := wsX5_beginRound) B.pre
  have hown : s.vm.findClass RX5 = some m.cls := findClass_of_methodNamed B.named
  have hlocks := B.notSynchronized
  have inX1 : ∀ w ∈ wsX10, w ∈ wsX5_beginRound := by decide +kernel
  have inX5 : ∀ w ∈ wsX50, w ∈ wsX5_beginRound := by decide +kernel
  have hl := lv_entry ([.ref (ad 0 0 0)]) (n := 2) (Nat.le_of_ble_eq_true rfl)
  rw [lg_entry_eq]
  generalize (lg_sl ([.ref (ad 0 0 0)]) ++ List.replicate (2 - (lg_sl ([.ref (ad 0 0 0)])).length) Slot.unset).toArray = ls at hl ⊢
  have hl : lv_has ls 2 [(0, .ref (ad 0 0 0))] := hl
  have hS : va_S (P) s.heap s.heap [] := va_S.rf
  have hAb : ∀ q, (P) q → x.2.2 ≤ q := hPb
  obtain ⟨hsz0, hC⟩ := hP
  have hC0 := hC
  have hkp : KP s.heap s.heap := KP.rf
  have hN := hI.nums
  refine lv_iconst (v := iI 0) hx hb dX5_beginRound_0 rfl ?_
  refine lv_istore_n (lv' := [(1, .int (iI 0)), (0, .ref (ad 0 0 0))]) hx hb dX5_beginRound_1 rfl hl (by decide) rfl (fun ls hl => ?_)
  have e0 : (((0 : Nat) : Int) : Int) = 0 := by
    rfl
  refine q_loopW (nL := 2) (A := P) (fun (u : Nat) H => u ≤ (S 14 0).toNat ∧ RepC g x.2.1 P ad (clr S (u : Int)) H) (fun u => (S 14 0).toNat - u) (fun (u : Nat) => [(0, .ref (ad 0 0 0)), (1, .int (iI ((u : Nat) : Int)))]) 0 ⟨Nat.zero_le _, by rw [clr_0]; exact hC⟩ hS (lv_sub hl [1, 0] (by simp only [e0]; rfl)) (fun u H locs hu2 hS ihu ls hl => ?_)
  have hl : lv_has ls 2 [(0, .ref (ad 0 0 0)), (1, .int (iI ((u : Nat) : Int)))] := hl
  have hu1 : u ≤ (S 14 0).toNat := hu2.1
  have hC := hu2.2
  refine lv_iload_n hx hb dX5_beginRound_2 rfl (lv_at hl 1 rfl) ?_
  refine lv_aload_n hx hb dX5_beginRound_3 rfl (lv_at hl 0 rfl) ?_
  refine q_get (v := .ref (ad 3 2 0)) (C := RX5) (T := TX5) (N := 11) hx hb hts inX5 hown hK hC.obj rfl 2 (by decide) (hts (.fieldLink RX5 19 "TavernBench" "houses" "Ljava/util/ArrayList;") (by decide +kernel)) (fun _ h9 => h9) rfl dX5_beginRound_4 ?_
  refine q_cVi (As := []) (rest := [.int (iI ((u : Nat) : Int))]) ⟨hx, hb, hml, hown, hts⟩ (c0_size l g x.2.1 (ad 3 2 0) (ad 4 2 0) (S 14 0)) (cwV 0 hts gX5_beginRound_Jx4a65c_size_8abf5 rfl rfl rfl (by decide +kernel) ⟨Nat.le_of_ble_eq_true rfl, Nat.le_of_ble_eq_true rfl⟩) (q_pV hK (hC.lst (k := 2) (by decide)) rfl (hC.lst (k := 2) (by decide))) rfl hl.1 rfl (Nat.le_of_ble_eq_true rfl) ⟨Nat.le_of_ble_eq_true rfl, Nat.le_of_ble_eq_true rfl⟩ dX5_beginRound_7 ?_
  refine q_icmp_ge (tgt := 34) hx hb dX5_beginRound_10 (by decide) (by omega) (hI.R (by decide)) (fun c10 => ?_) (fun c10 => ?_)
  · have eu : ((u : Nat) : Int) = S 14 0 := by omega
    rw [eu, clr_eq hI] at hC
    refine lv_aload_n hx hb dX5_beginRound_34 rfl (lv_at hl 0 rfl) ?_
    refine lv_iconst (v := iI 0) hx hb dX5_beginRound_35 rfl ?_
    refine q_put (ty := .int) (v := .int (iI 0)) hx hb hts inX5 tyX5 tyX5_ok nmX5 hown hK hC.obj rfl 9 (by decide) (hts (.fieldLink RX5 191 "TavernBench" "visitsInRound" "I") (by decide +kernel)) (fun _ h9 => h9) rfl rfl rfl rfl (Nat.le_of_ble_eq_true rfl) dX5_beginRound_36 (fun H i1 hO1 hz1 ho1 => ?_)
    have hS := hS.put (k := i1) hz1 ho1 (hC.1 0 0 0 (live0 _)).2
    have hC : RepC g x.2.1 P ad (up (clr S 30) 27 0 0) H := hC.top (fun k z0 z8 z9 z27 z28 z29 => up_ne _ 0 _ z27) hO1 ho1
    refine W.widen (k := 0) (n := 0) (by omega) (by omega) ?_
    refine q_mretv hx hb hr hlocks hS dX5_beginRound_39 ?_
    · exact hC
  · refine lv_aload_n hx hb dX5_beginRound_13 rfl (lv_at hl 0 rfl) ?_
    refine q_get (v := .ref (ad 3 2 0)) (C := RX5) (T := TX5) (N := 11) hx hb hts inX5 hown hK hC.obj rfl 2 (by decide) (hts (.fieldLink RX5 19 "TavernBench" "houses" "Ljava/util/ArrayList;") (by decide +kernel)) (fun _ h9 => h9) rfl dX5_beginRound_14 ?_
    refine lv_iload_n hx hb dX5_beginRound_17 rfl (lv_at hl 1 rfl) ?_
    refine q_cVr (As := [.int (iI ((u : Nat) : Int))]) (rest := []) ⟨hx, hb, hml, hown, hts⟩ (c0_get l g x.2.1 (ad 3 2 0) (ad 4 2 0) (S 14 0) (fun q => ad 7 q 0) ((u : Nat) : Int) (by omega) ⟨by omega, by omega⟩ (by omega)) (cwV 1 hts gX5_beginRound_Jx4a65c_get_915e3 rfl rfl rfl (by decide +kernel) ⟨Nat.le_of_ble_eq_true rfl, Nat.le_of_ble_eq_true rfl⟩) (q_pV hK (hC.lst (k := 2) (by decide)) rfl ⟨(hC.lst (k := 2) (by decide)), (hC.arr (k := 2) (by decide) (by show 0 < S 14 0; omega))⟩) rfl hl.1 rfl (Nat.le_of_ble_eq_true rfl) ⟨Nat.le_of_ble_eq_true rfl, Nat.le_of_ble_eq_true rfl⟩ dX5_beginRound_18 ?_
    refine q_cast (C := RX1) (T := TX1) (N := 7) hx hb hown (hts (.classLink RX5 93 RX1) (by decide +kernel)) hK (hC.house (k := ((u : Nat) : Int)) ⟨by omega, (show _ < S 14 0 by omega)⟩) rfl dX5_beginRound_21 ?_
    refine lv_iconst (v := iI 0) hx hb dX5_beginRound_24 rfl ?_
    refine q_put (ty := .boolean) (v := .int (iI 0)) hx hb hts inX1 tyX1 tyX1_ok nmX1 hown hK (hC.house (k := ((u : Nat) : Int)) ⟨by omega, (show _ < S 14 0 by omega)⟩) rfl 6 (by decide) (hts (.fieldLink RX5 233 "TavernBench$House" "visited" "Z") (by decide +kernel)) (fun _ h9 => h9) rfl rfl rfl rfl (Nat.le_of_ble_eq_true rfl) dX5_beginRound_25 (fun H i1 hO1 hz1 ho1 => ?_)
    have hS := hS.put (k := i1) hz1 ho1 (hC.1 7 ((u : Nat) : Int) 0 (live7 ⟨by omega, (show _ < S 14 0 by omega)⟩)).2
    have hC : RepC g x.2.1 P ad (up (clr S ((u : Nat) : Int)) 26 ((u : Nat) : Int) 0) H := hC.visput ⟨by omega, (show _ < S 14 0 by omega)⟩ hO1 ho1
    refine lv_iinc (v := iI (((u : Nat) : Int) + 1)) (lv' := [(1, .int (iI (((u : Nat) : Int) + 1))), (0, .ref (ad 0 0 0))]) hx hb dX5_beginRound_28 hl (k := 1) rfl (iI_add _ _) (by decide) rfl (fun ls hl => ?_)
    refine lv_goto (tgt := 2) hx hb dX5_beginRound_31 (by decide) ?_
    have e0 : ((((u + 1) : Nat) : Int) : Int) = ((u : Nat) : Int) + 1 := by
      omega
    exact ihu (u + 1) _ _ ⟨by omega, by rw [← clr_s]; exact hC⟩ hS (by show (S 14 0).toNat - (u + 1) < (S 14 0).toNat - u; omega) ls (lv_sub hl [1, 0] (by simp only [e0]; rfl))

set_option maxHeartbeats 4000000 in
set_option maxRecDepth 100000 in
theorem cw_seed (l : Launch) (g : GG) (x : XX) (P : Nat → Prop) (ad : AD) (S : St) (hI : Inv S) (hQ : InvC S) (sz : Nat) (hPb : ∀ q, P q → x.2.2 ≤ q) (hPs : ∀ q, sz ≤ q → P q) (v : Int) (r_v : R32 v)  : MetXM l yX5_seed wsX5_seed ({ frames := 4, cells := 0, slots := 0, locals := 85 }) g x [.ref (ad 0 0 0), .int (iI v)] (fun H => H.size = sz ∧ RepC g x.2.1 P ad S H) (aSeed v) (fun H => ∃ ad', ad' 0 0 0 = ad 0 0 0 ∧ RepC g x.2.1 P ad' (tSeed S v) H) P 0 0 := by
  refine Met.ofW (cc := cX5_seed) (maxL := 2) (ret := (some .int)) (by decide) rfl ?_
  intro p e s m args below meth c s₁ B hml hv
  obtain ⟨rfl, hP, hK, hX⟩ := hv
  have hx := B.exec
  have hb := B.bytes
  have hr := B.returns
  have hts := atoms_spec (ws := wsX5_seed) B.pre
  have hown : s.vm.findClass RX5 = some m.cls := findClass_of_methodNamed B.named
  have hlocks := B.notSynchronized
  have inX5 : ∀ w ∈ wsX50, w ∈ wsX5_seed := by decide +kernel
  have hl := lv_entry ([.ref (ad 0 0 0), .int (iI v)]) (n := 2) (Nat.le_of_ble_eq_true rfl)
  rw [lg_entry_eq]
  generalize (lg_sl ([.ref (ad 0 0 0), .int (iI v)]) ++ List.replicate (2 - (lg_sl ([.ref (ad 0 0 0), .int (iI v)])).length) Slot.unset).toArray = ls at hl ⊢
  have hl : lv_has ls 2 [(0, .ref (ad 0 0 0)), (1, .int (iI v))] := hl
  have hS : va_S (P) s.heap s.heap [] := va_S.rf
  have hAb : ∀ q, (P) q → x.2.2 ≤ q := hPb
  obtain ⟨hsz0, hC⟩ := hP
  have hC0 := hC
  have hkp : KP s.heap s.heap := KP.rf
  have hN := hI.nums
  refine lv_iload_n hx hb dX5_seed_0 rfl (lv_at hl 1 rfl) ?_
  refine lv_iconst (v := iI 1) hx hb dX5_seed_1 rfl ?_
  refine q_icmp_lt (tgt := 14) hx hb dX5_seed_2 (by decide) r_v (by decide) (fun c2 => ?_) (fun c2 => ?_)
  · refine lv_iconst (v := iI (-1)) hx hb dX5_seed_14 rfl ?_
    refine W.widen (k := 0) (n := 0) (by omega) (by omega) ?_
    refine q_mreti hx hb hr hlocks hS dX5_seed_15 ?_ ?_
    · show _ = aSeed v
      unfold aSeed
      rw [cI_f (by omega)]
    · refine ⟨ad, rfl, ?_⟩
      unfold tSeed
      rw [cI_f (by omega)]
      exact hC
  · refine lv_iload_n hx hb dX5_seed_5 rfl (lv_at hl 1 rfl) ?_
    refine q_i2l hx hb r_v dX5_seed_6 ?_
    refine q_ldc2 hx hb 2147483647 hown (hts (.constantLong RX5 186 (2147483647)) (by decide +kernel)) (by decide +kernel) dX5_seed_7 ?_
    refine q_lcmp hx hb (by omega) (by omega) dX5_seed_10 ?_
    have hsl := sg_le (a := v) (b := 2147483647)
    have hslt := sg_lt (a := v) (b := 2147483647)
    refine q_if_lt (tgt := 16) hx hb dX5_seed_11 (by decide) (sg_R _ _) (fun c11 => ?_) (fun c11 => ?_)
    · refine lv_aload_n hx hb dX5_seed_16 rfl (lv_at hl 0 rfl) ?_
      refine lv_iload_n hx hb dX5_seed_17 rfl (lv_at hl 1 rfl) ?_
      refine q_i2l hx hb r_v dX5_seed_18 ?_
      refine q_put (ty := .long) (v := .long (lI v)) hx hb hts inX5 tyX5 tyX5_ok nmX5 hown hK hC.obj rfl 10 (by decide) (hts (.fieldLink RX5 42 "TavernBench" "lastSeed" "J") (by decide +kernel)) (fun _ h9 => h9) rfl rfl rfl rfl (Nat.le_of_ble_eq_true rfl) dX5_seed_19 (fun H i1 hO1 hz1 ho1 => ?_)
      have hS := hS.put (k := i1) hz1 ho1 (hC.1 0 0 0 (live0 _)).2
      have hC : RepC g x.2.1 P ad (up S 29 0 v) H := hC.top (fun k z0 z8 z9 z27 z28 z29 => up_ne _ 0 _ z29) hO1 ho1
      have hI2 := hI.up29 (v := v) (by omega)
      have hQ2 : InvC (up S 29 0 v) := hQ
      refine lv_aload_n hx hb dX5_seed_22 rfl (lv_at hl 0 rfl) ?_
      refine q_xVv (As := []) (rest := []) ⟨hx, hb, hml, hown, hts⟩ (cw_beginRound l g x P ad (up S 29 0 v) hI2 hQ2 _ hPb (fun q h => hPs _ (by omega))) (cwV 0 hts gX5_seed_X5_beginRound rfl rfl rfl (by decide +kernel) ⟨Nat.le_of_ble_eq_true rfl, Nat.le_of_ble_eq_true rfl⟩) (q_pVX hK hX hS hAb hC.obj rfl ⟨rfl, hC⟩) rfl hl.1 rfl (Nat.le_of_ble_eq_true rfl) ⟨Nat.le_of_ble_eq_true rfl, Nat.le_of_ble_eq_true rfl⟩ dX5_seed_23 hS (fun _ h => h) (fun H locs hC hz1 hk1 hS => ?_)
      refine lv_iconst (v := iI 0) hx hb dX5_seed_26 rfl ?_
      refine W.widen (k := 0) (n := 0) (by omega) (by omega) ?_
      refine q_mreti hx hb hr hlocks hS dX5_seed_27 ?_ ?_
      · show _ = aSeed v
        unfold aSeed
        rw [cI_t (by omega)]
      · refine ⟨ad, rfl, ?_⟩
        unfold tSeed
        rw [cI_t (by omega)]
        exact hC
    · refine lv_iconst (v := iI (-1)) hx hb dX5_seed_14 rfl ?_
      refine W.widen (k := 0) (n := 0) (by omega) (by omega) ?_
      refine q_mreti hx hb hr hlocks hS dX5_seed_15 ?_ ?_
      · show _ = aSeed v
        unfold aSeed
        rw [cI_f (by omega)]
      · refine ⟨ad, rfl, ?_⟩
        unfold tSeed
        rw [cI_f (by omega)]
        exact hC

set_option maxHeartbeats 4000000 in
set_option maxRecDepth 100000 in
theorem cw_visitUnvisited (l : Launch) (g : GG) (x : XX) (P : Nat → Prop) (ad : AD) (S : St) (hI : Inv S) (hQ : InvC S) (sz : Nat) (hPb : ∀ q, P q → x.2.2 ≤ q) (hPs : ∀ q, sz ≤ q → P q) (day : Int) (r : Int) (r_day : R32 day) (r_r : R32 r) (hd : isD day) (hrr : 0 ≤ r ∧ r < sMany S day 0 (S 14 0).toNat) : MetXM l yX5_visitUnvisited wsX5_visitUnvisited ({ frames := 7, cells := 0, slots := 0, locals := 161 }) g x [.ref (ad 0 0 0), .int (iI day), .int (iI r)] (fun H => H.size = sz ∧ RepC g x.2.1 P ad S H) (pkN (qMany S day 0) r (S 14 0).toNat) (fun H => ∃ ad', ad' 0 0 0 = ad 0 0 0 ∧ RepC g x.2.1 P ad' (up (up S 26 (pkN (qMany S day 0) r (S 14 0).toNat) 1) 27 0 (S 27 0 + 1)) H) P 0 0 := by
  refine Met.ofW (cc := cX5_visitUnvisited) (maxL := 6) (ret := (some .int)) (by decide) rfl ?_
  intro p e s m args below meth c s₁ B hml hv
  obtain ⟨rfl, hP, hK, hX⟩ := hv
  have hx := B.exec
  have hb := B.bytes
  have hr := B.returns
  have hts := atoms_spec (ws := wsX5_visitUnvisited) B.pre
  have hown : s.vm.findClass RX5 = some m.cls := findClass_of_methodNamed B.named
  have hlocks := B.notSynchronized
  have inX1 : ∀ w ∈ wsX10, w ∈ wsX5_visitUnvisited := by decide +kernel
  have inX5 : ∀ w ∈ wsX50, w ∈ wsX5_visitUnvisited := by decide +kernel
  have hl := lv_entry ([.ref (ad 0 0 0), .int (iI day), .int (iI r)]) (n := 6) (Nat.le_of_ble_eq_true rfl)
  rw [lg_entry_eq]
  generalize (lg_sl ([.ref (ad 0 0 0), .int (iI day), .int (iI r)]) ++ List.replicate (6 - (lg_sl ([.ref (ad 0 0 0), .int (iI day), .int (iI r)])).length) Slot.unset).toArray = ls at hl ⊢
  have hl : lv_has ls 6 [(0, .ref (ad 0 0 0)), (1, .int (iI day)), (2, .int (iI r))] := hl
  have hS : va_S (P) s.heap s.heap [] := va_S.rf
  have hAb : ∀ q, (P) q → x.2.2 ≤ q := hPb
  obtain ⟨hsz0, hC⟩ := hP
  have hC0 := hC
  have hkp : KP s.heap s.heap := KP.rf
  have hN := hI.nums
  refine lv_iload_n hx hb dX5_visitUnvisited_0 rfl (lv_at hl 2 rfl) ?_
  refine lv_istore_n (lv' := [(3, .int (iI r)), (0, .ref (ad 0 0 0)), (1, .int (iI day)), (2, .int (iI r))]) hx hb dX5_visitUnvisited_1 rfl hl (by decide) rfl (fun ls hl => ?_)
  refine lv_iconst (v := iI 0) hx hb dX5_visitUnvisited_2 rfl ?_
  refine lv_istore (lv' := [(4, .int (iI 0)), (3, .int (iI r)), (0, .ref (ad 0 0 0)), (1, .int (iI day)), (2, .int (iI r))]) hx hb dX5_visitUnvisited_3 hl (by decide) rfl (fun ls hl => ?_)
  have e0 : (r - cnt (qMany S day 0) 0 : Int) = r := by
    show _ - 0 = _
    omega
  have e1 : (((0 : Nat) : Int) : Int) = 0 := by
    rfl
  refine q_loop (nL := 6) (fun (u : Nat) => u ≤ (S 14 0).toNat ∧ pkN (qMany S day 0) r u = -1 ∧ cnt (qMany S day 0) u ≤ r) (fun u => (S 14 0).toNat - u) (fun (u : Nat) => [(0, .ref (ad 0 0 0)), (1, .int (iI day)), (2, .int (iI r)), (3, .int (iI (r - cnt (qMany S day 0) u))), (4, .int (iI ((u : Nat) : Int)))]) 0 ⟨Nat.zero_le _, rfl, hrr.1⟩ (lv_sub hl [2, 3, 4, 1, 0] (by simp only [e0, e1]; rfl)) (fun u hu2 ihu ls hl => ?_)
  have hl : lv_has ls 6 [(0, .ref (ad 0 0 0)), (1, .int (iI day)), (2, .int (iI r)), (3, .int (iI (r - cnt (qMany S day 0) u))), (4, .int (iI ((u : Nat) : Int)))] := hl
  have hu1 : u ≤ (S 14 0).toNat := hu2.1
  have hcl := cnt_le (qMany S day 0) u
  refine lv_iload hx hb dX5_visitUnvisited_5 (lv_at hl 4 rfl) ?_
  refine lv_aload_n hx hb dX5_visitUnvisited_7 rfl (lv_at hl 0 rfl) ?_
  refine q_get (v := .ref (ad 3 2 0)) (C := RX5) (T := TX5) (N := 11) hx hb hts inX5 hown hK hC.obj rfl 2 (by decide) (hts (.fieldLink RX5 19 "TavernBench" "houses" "Ljava/util/ArrayList;") (by decide +kernel)) (fun _ h9 => h9) rfl dX5_visitUnvisited_8 ?_
  refine q_cVi (As := []) (rest := [.int (iI ((u : Nat) : Int))]) ⟨hx, hb, hml, hown, hts⟩ (c0_size l g x.2.1 (ad 3 2 0) (ad 4 2 0) (S 14 0)) (cwV 0 hts gX5_visitUnvisited_Jx4a65c_size_8abf5 rfl rfl rfl (by decide +kernel) ⟨Nat.le_of_ble_eq_true rfl, Nat.le_of_ble_eq_true rfl⟩) (q_pV hK (hC.lst (k := 2) (by decide)) rfl (hC.lst (k := 2) (by decide))) rfl hl.1 rfl (Nat.le_of_ble_eq_true rfl) ⟨Nat.le_of_ble_eq_true rfl, Nat.le_of_ble_eq_true rfl⟩ dX5_visitUnvisited_11 ?_
  refine q_icmp_ge (tgt := 80) hx hb dX5_visitUnvisited_14 (by decide) (by omega) (hI.R (by decide)) (fun c14 => ?_) (fun c14 => ?_)
  · have eu : u = (S 14 0).toNat := by omega
    have h8 := hu2.2.2
    rw [eu] at h8
    exact absurd h8 (Int.not_le.mpr hrr.2)
  · refine lv_aload_n hx hb dX5_visitUnvisited_17 rfl (lv_at hl 0 rfl) ?_
    refine q_get (v := .ref (ad 3 2 0)) (C := RX5) (T := TX5) (N := 11) hx hb hts inX5 hown hK hC.obj rfl 2 (by decide) (hts (.fieldLink RX5 19 "TavernBench" "houses" "Ljava/util/ArrayList;") (by decide +kernel)) (fun _ h9 => h9) rfl dX5_visitUnvisited_18 ?_
    refine lv_iload hx hb dX5_visitUnvisited_21 (lv_at hl 4 rfl) ?_
    refine q_cVr (As := [.int (iI ((u : Nat) : Int))]) (rest := []) ⟨hx, hb, hml, hown, hts⟩ (c0_get l g x.2.1 (ad 3 2 0) (ad 4 2 0) (S 14 0) (fun q => ad 7 q 0) ((u : Nat) : Int) (by omega) ⟨by omega, by omega⟩ (by omega)) (cwV 1 hts gX5_visitUnvisited_Jx4a65c_get_915e3 rfl rfl rfl (by decide +kernel) ⟨Nat.le_of_ble_eq_true rfl, Nat.le_of_ble_eq_true rfl⟩) (q_pV hK (hC.lst (k := 2) (by decide)) rfl ⟨(hC.lst (k := 2) (by decide)), (hC.arr (k := 2) (by decide) (by show 0 < S 14 0; omega))⟩) rfl hl.1 rfl (Nat.le_of_ble_eq_true rfl) ⟨Nat.le_of_ble_eq_true rfl, Nat.le_of_ble_eq_true rfl⟩ dX5_visitUnvisited_23 ?_
    refine q_cast (C := RX1) (T := TX1) (N := 7) hx hb hown (hts (.classLink RX5 93 RX1) (by decide +kernel)) hK (hC.house (k := ((u : Nat) : Int)) ⟨by omega, by omega⟩) rfl dX5_visitUnvisited_26 ?_
    refine lv_astore (lv' := [(5, .ref (ad 7 ((u : Nat) : Int) 0)), (0, .ref (ad 0 0 0)), (1, .int (iI day)), (2, .int (iI r)), (3, .int (iI (r - cnt (qMany S day 0) u))), (4, .int (iI ((u : Nat) : Int)))]) hx hb dX5_visitUnvisited_29 hl (by decide) rfl (fun ls hl => ?_)
    have hH := hI.house (h := ((u : Nat) : Int)) (by omega) (by omega)
    refine q_aload hx hb dX5_visitUnvisited_31 (lv_at hl 0 rfl) ?_
    refine q_get (v := .int (iI (S 26 ((u : Nat) : Int)))) (C := RX1) (T := TX1) (N := 7) hx hb hts inX1 hown hK (hC.house (k := ((u : Nat) : Int)) ⟨by omega, by omega⟩) rfl 6 (by decide) (hts (.fieldLink RX5 233 "TavernBench$House" "visited" "Z") (by decide +kernel)) (fun _ h9 => h9) rfl dX5_visitUnvisited_33 ?_
    refine q_if_ne (tgt := 74) hx hb dX5_visitUnvisited_36 (by decide) (by omega) (fun c36 => ?_) (fun c36 => ?_)
    · refine lv_iinc (v := iI (((u : Nat) : Int) + 1)) (lv' := [(4, .int (iI (((u : Nat) : Int) + 1))), (5, .ref (ad 7 ((u : Nat) : Int) 0)), (0, .ref (ad 0 0 0)), (1, .int (iI day)), (2, .int (iI r)), (3, .int (iI (r - cnt (qMany S day 0) u)))]) hx hb dX5_visitUnvisited_74 hl (k := 5) rfl (iI_add _ _) (by decide) rfl (fun ls hl => ?_)
      refine lv_goto (tgt := 5) hx hb dX5_visitUnvisited_77 (by decide) ?_
      have e0 : (r - cnt (qMany S day 0) (u + 1) : Int) = r - cnt (qMany S day 0) u := by
        first | (rw [cnt_1 ⟨by assumption, Or.inr (by omega)⟩]; omega) | (rw [cnt_0 (fun z => absurd z.1 (by assumption))]; omega) | (rw [cnt_0 (fun z => z.2.elim (fun y => y rfl) (fun y => absurd y (by assumption)))]; omega)
      have e1 : ((((u + 1) : Nat) : Int) : Int) = ((u : Nat) : Int) + 1 := by
        omega
      exact ihu (u + 1) ⟨by omega, by
    rw [pkN_s]
    first | (rw [cI_f (fun z => by have z2 := z.2.2; omega)]; exact hu2.2.1) | (rw [cI_f (fun z => absurd z.2.1.1 (by assumption))]; exact hu2.2.1) | (rw [cI_f (fun z => z.2.1.2.elim (fun y => y rfl) (fun y => absurd y (by assumption)))]; exact hu2.2.1), by
    first | (rw [cnt_1 ⟨by assumption, Or.inr (by omega)⟩]; omega) | (rw [cnt_0 (fun z => absurd z.1 (by assumption)), Int.add_zero]; exact hu2.2.2) | (rw [cnt_0 (fun z => z.2.elim (fun y => y rfl) (fun y => absurd y (by assumption))), Int.add_zero]; exact hu2.2.2)⟩ (by show (S 14 0).toNat - (u + 1) < (S 14 0).toNat - u; omega) ls (lv_sub hl [2, 3, 4, 5, 0] (by simp only [e0, e1]; rfl))
    · refine q_aload hx hb dX5_visitUnvisited_39 (lv_at hl 0 rfl) ?_
      refine lv_iload_n hx hb dX5_visitUnvisited_41 rfl (lv_at hl 2 rfl) ?_
      refine q_cVi (As := [.int (iI day)]) (rest := []) ⟨hx, hb, hml, hown, hts⟩ (c1_hasLicence l g x.2.1 P ad S hI hQ ((u : Nat) : Int) ⟨by omega, by omega⟩ day r_day (by omega)) (cwV 1 hts gX5_visitUnvisited_X1_hasLicence rfl rfl rfl (by decide +kernel) ⟨Nat.le_of_ble_eq_true rfl, Nat.le_of_ble_eq_true rfl⟩) (q_pV hK (hC.house (k := ((u : Nat) : Int)) ⟨by omega, by omega⟩) rfl hC) rfl hl.1 rfl (Nat.le_of_ble_eq_true rfl) ⟨Nat.le_of_ble_eq_true rfl, Nat.le_of_ble_eq_true rfl⟩ dX5_visitUnvisited_42 ?_
      refine q_ifb_eq (tgt := 74) hx hb dX5_visitUnvisited_45 (by decide) (fun c45 => ?_) (fun c45 => ?_)
      · refine lv_iinc (v := iI (((u : Nat) : Int) + 1)) (lv' := [(4, .int (iI (((u : Nat) : Int) + 1))), (5, .ref (ad 7 ((u : Nat) : Int) 0)), (0, .ref (ad 0 0 0)), (1, .int (iI day)), (2, .int (iI r)), (3, .int (iI (r - cnt (qMany S day 0) u)))]) hx hb dX5_visitUnvisited_74 hl (k := 5) rfl (iI_add _ _) (by decide) rfl (fun ls hl => ?_)
        refine lv_goto (tgt := 5) hx hb dX5_visitUnvisited_77 (by decide) ?_
        have e0 : (r - cnt (qMany S day 0) (u + 1) : Int) = r - cnt (qMany S day 0) u := by
          first | (rw [cnt_1 ⟨by assumption, Or.inr (by omega)⟩]; omega) | (rw [cnt_0 (fun z => absurd z.1 (by assumption))]; omega) | (rw [cnt_0 (fun z => z.2.elim (fun y => y rfl) (fun y => absurd y (by assumption)))]; omega)
        have e1 : ((((u + 1) : Nat) : Int) : Int) = ((u : Nat) : Int) + 1 := by
          omega
        exact ihu (u + 1) ⟨by omega, by
    rw [pkN_s]
    first | (rw [cI_f (fun z => by have z2 := z.2.2; omega)]; exact hu2.2.1) | (rw [cI_f (fun z => absurd z.2.1.1 (by assumption))]; exact hu2.2.1) | (rw [cI_f (fun z => z.2.1.2.elim (fun y => y rfl) (fun y => absurd y (by assumption)))]; exact hu2.2.1), by
    first | (rw [cnt_1 ⟨by assumption, Or.inr (by omega)⟩]; omega) | (rw [cnt_0 (fun z => absurd z.1 (by assumption)), Int.add_zero]; exact hu2.2.2) | (rw [cnt_0 (fun z => z.2.elim (fun y => y rfl) (fun y => absurd y (by assumption))), Int.add_zero]; exact hu2.2.2)⟩ (by show (S 14 0).toNat - (u + 1) < (S 14 0).toNat - u; omega) ls (lv_sub hl [2, 3, 4, 5, 0] (by simp only [e0, e1]; rfl))
      · refine lv_iload_n hx hb dX5_visitUnvisited_48 rfl (lv_at hl 4 rfl) ?_
        refine q_if_ne (tgt := 71) hx hb dX5_visitUnvisited_49 (by decide) (by omega) (fun c49 => ?_) (fun c49 => ?_)
        · refine lv_iinc (v := iI ((r - cnt (qMany S day 0) u) + (-1))) (lv' := [(3, .int (iI ((r - cnt (qMany S day 0) u) + (-1)))), (5, .ref (ad 7 ((u : Nat) : Int) 0)), (0, .ref (ad 0 0 0)), (1, .int (iI day)), (2, .int (iI r)), (4, .int (iI ((u : Nat) : Int)))]) hx hb dX5_visitUnvisited_71 hl (k := 4) rfl (iI_add _ _) (by decide) rfl (fun ls hl => ?_)
          refine lv_iinc (v := iI (((u : Nat) : Int) + 1)) (lv' := [(4, .int (iI (((u : Nat) : Int) + 1))), (3, .int (iI ((r - cnt (qMany S day 0) u) + (-1)))), (5, .ref (ad 7 ((u : Nat) : Int) 0)), (0, .ref (ad 0 0 0)), (1, .int (iI day)), (2, .int (iI r))]) hx hb dX5_visitUnvisited_74 hl (k := 5) rfl (iI_add _ _) (by decide) rfl (fun ls hl => ?_)
          refine lv_goto (tgt := 5) hx hb dX5_visitUnvisited_77 (by decide) ?_
          have e0 : (r - cnt (qMany S day 0) (u + 1) : Int) = (r - cnt (qMany S day 0) u) + (-1) := by
            first | (rw [cnt_1 ⟨by assumption, Or.inr (by omega)⟩]; omega) | (rw [cnt_0 (fun z => absurd z.1 (by assumption))]; omega) | (rw [cnt_0 (fun z => z.2.elim (fun y => y rfl) (fun y => absurd y (by assumption)))]; omega)
          have e1 : ((((u + 1) : Nat) : Int) : Int) = ((u : Nat) : Int) + 1 := by
            omega
          exact ihu (u + 1) ⟨by omega, by
    rw [pkN_s]
    first | (rw [cI_f (fun z => by have z2 := z.2.2; omega)]; exact hu2.2.1) | (rw [cI_f (fun z => absurd z.2.1.1 (by assumption))]; exact hu2.2.1) | (rw [cI_f (fun z => z.2.1.2.elim (fun y => y rfl) (fun y => absurd y (by assumption)))]; exact hu2.2.1), by
    first | (rw [cnt_1 ⟨by assumption, Or.inr (by omega)⟩]; omega) | (rw [cnt_0 (fun z => absurd z.1 (by assumption)), Int.add_zero]; exact hu2.2.2) | (rw [cnt_0 (fun z => z.2.elim (fun y => y rfl) (fun y => absurd y (by assumption))), Int.add_zero]; exact hu2.2.2)⟩ (by show (S 14 0).toNat - (u + 1) < (S 14 0).toNat - u; omega) ls (lv_sub hl [3, 4, 5, 1, 0] (by simp only [e0, e1]; rfl))
        · refine q_aload hx hb dX5_visitUnvisited_52 (lv_at hl 0 rfl) ?_
          refine lv_iconst (v := iI 1) hx hb dX5_visitUnvisited_54 rfl ?_
          refine q_put (ty := .boolean) (v := .int (iI 1)) hx hb hts inX1 tyX1 tyX1_ok nmX1 hown hK (hC.house (k := ((u : Nat) : Int)) ⟨by omega, by omega⟩) rfl 6 (by decide) (hts (.fieldLink RX5 233 "TavernBench$House" "visited" "Z") (by decide +kernel)) (fun _ h9 => h9) rfl rfl rfl rfl (Nat.le_of_ble_eq_true rfl) dX5_visitUnvisited_55 (fun H i1 hO1 hz1 ho1 => ?_)
          have hS := hS.put (k := i1) hz1 ho1 (hC.1 7 ((u : Nat) : Int) 0 (live7 ⟨by omega, by omega⟩)).2
          have hC : RepC g x.2.1 P ad (up S 26 ((u : Nat) : Int) 1) H := hC.visput ⟨by omega, by omega⟩ hO1 ho1
          refine lv_aload_n hx hb dX5_visitUnvisited_58 rfl (lv_at hl 1 rfl) ?_
          refine lv_dup hx hb dX5_visitUnvisited_59 rfl ?_
          refine q_get (v := .int (iI (S 27 0))) (C := RX5) (T := TX5) (N := 11) hx hb hts inX5 hown hK hC.obj rfl 9 (by decide) (hts (.fieldLink RX5 191 "TavernBench" "visitsInRound" "I") (by decide +kernel)) (fun _ h9 => h9) rfl dX5_visitUnvisited_60 ?_
          refine lv_iconst (v := iI 1) hx hb dX5_visitUnvisited_63 rfl ?_
          refine q_iadd hx hb dX5_visitUnvisited_64 ?_
          refine q_put (ty := .int) (v := .int (iI ((S 27 0) + 1))) hx hb hts inX5 tyX5 tyX5_ok nmX5 hown hK hC.obj rfl 9 (by decide) (hts (.fieldLink RX5 191 "TavernBench" "visitsInRound" "I") (by decide +kernel)) (fun _ h9 => h9) rfl rfl rfl rfl (Nat.le_of_ble_eq_true rfl) dX5_visitUnvisited_65 (fun H i1 hO1 hz1 ho1 => ?_)
          have hS := hS.put (k := i1) hz1 ho1 (hC.1 0 0 0 (live0 _)).2
          have hC : RepC g x.2.1 P ad (up (up S 26 ((u : Nat) : Int) 1) 27 0 ((S 27 0) + 1)) H := hC.top (fun k z0 z8 z9 z27 z28 z29 => up_ne _ 0 _ z27) hO1 ho1
          refine lv_iload hx hb dX5_visitUnvisited_68 (lv_at hl 5 rfl) ?_
          refine W.widen (k := 0) (n := 0) (by omega) (by omega) ?_
          refine q_mreti hx hb hr hlocks hS dX5_visitUnvisited_70 ?_ ?_
          · have e1 : pkN (qMany S day 0) r (u + 1) = ((u : Nat) : Int) := by
              rw [pkN_s]
              exact cI_t ⟨by have := hu2.2.1; omega, ⟨by assumption, Or.inr (by omega)⟩, by omega⟩
            have e2 := pkN_stay (qMany S day 0) r (u + 1) (by omega) ((S 14 0).toNat - (u + 1))
            rw [Nat.add_sub_cancel' (by omega), e1] at e2
            exact e2.symm
          · have e1 : pkN (qMany S day 0) r (u + 1) = ((u : Nat) : Int) := by
              rw [pkN_s]
              exact cI_t ⟨by have := hu2.2.1; omega, ⟨by assumption, Or.inr (by omega)⟩, by omega⟩
            have e2 := pkN_stay (qMany S day 0) r (u + 1) (by omega) ((S 14 0).toNat - (u + 1))
            rw [Nat.add_sub_cancel' (by omega), e1] at e2
            refine ⟨ad, rfl, ?_⟩
            rw [e2]
            exact hC
