set_option maxHeartbeats 4000000 in
set_option maxRecDepth 100000 in
theorem cw_feast (l : Launch) (g : GG) (x : XX) (P : Nat → Prop) (ad : AD) (S : St) (hI : Inv S) (hQ : InvC S) (sz : Nat) (hPb : ∀ q, P q → x.2.2 ≤ q) (hPs : ∀ q, sz ≤ q → P q) (d : Int) (r_d : R32 d)  : MetXM l yX5_feast wsX5_feast ({ frames := 2, cells := 0, slots := 0, locals := 42 }) g x [.ref (ad 0 0 0), .int (iI d)] (fun H => H.size = sz ∧ RepC g x.2.1 P ad S H) (aFeast S d) (fun H => ∃ ad', ad' 0 0 0 = ad 0 0 0 ∧ RepC g x.2.1 P ad' (tFeast S d) H) P 0 0 := by
  refine Met.ofW (cc := cX5_feast) (maxL := 2) (ret := (some .int)) (by decide) rfl ?_
  intro p e s m args below meth c s₁ B hml hv
  obtain ⟨rfl, hP, hK, hX⟩ := hv
  have hx := B.exec
  have hb := B.bytes
  have hr := B.returns
  have hts := atoms_spec (ws := wsX5_feast) B.pre
  have hown : s.vm.findClass RX5 = some m.cls := findClass_of_methodNamed B.named
  have hlocks := B.notSynchronized
  have inX5 : ∀ w ∈ wsX50, w ∈ wsX5_feast := by decide +kernel
  have hl := lv_entry ([.ref (ad 0 0 0), .int (iI d)]) (n := 2) (Nat.le_of_ble_eq_true rfl)
  rw [lg_entry_eq]
  generalize (lg_sl ([.ref (ad 0 0 0), .int (iI d)]) ++ List.replicate (2 - (lg_sl ([.ref (ad 0 0 0), .int (iI d)])).length) Slot.unset).toArray = ls at hl ⊢
  have hl : lv_has ls 2 [(0, .ref (ad 0 0 0)), (1, .int (iI d))] := hl
  have hS : va_S (P) s.heap s.heap [] := va_S.rf
  have hAb : ∀ q, (P) q → x.2.2 ≤ q := hPb
  obtain ⟨hsz0, hC⟩ := hP
  have hC0 := hC
  have hkp : KP s.heap s.heap := KP.rf
  have hN := hI.nums
  refine lv_iload_n hx hb dX5_feast_0 rfl (lv_at hl 1 rfl) ?_
  refine q_cSi (As := [.int (iI d)]) (rest := []) ⟨hx, hb, hml, hown, hts⟩ (c5_isDay l g d r_d ) (va_cwS 1 hts gX5_feast_X5_isDay rfl rfl rfl (by decide +kernel) ⟨Nat.le_of_ble_eq_true rfl, Nat.le_of_ble_eq_true rfl⟩) (q_pS hK trivial) rfl hl.1 rfl (Nat.le_of_ble_eq_true rfl) ⟨Nat.le_of_ble_eq_true rfl, Nat.le_of_ble_eq_true rfl⟩ dX5_feast_1 ?_
  refine q_ifb_ne (tgt := 9) hx hb dX5_feast_4 (by decide) (fun c4 => ?_) (fun c4 => ?_)
  · refine lv_aload_n hx hb dX5_feast_9 rfl (lv_at hl 0 rfl) ?_
    refine lv_iload_n hx hb dX5_feast_10 rfl (lv_at hl 1 rfl) ?_
    refine q_cVi (As := [.int (iI d)]) (rest := []) ⟨hx, hb, hml, hown, hts⟩ (c5_isFeast l g x.2.1 P ad S hI hQ d r_d ) (cwV 1 hts gX5_feast_X5_isFeast rfl rfl rfl (by decide +kernel) ⟨Nat.le_of_ble_eq_true rfl, Nat.le_of_ble_eq_true rfl⟩) (q_pV hK hC.obj rfl hC) rfl hl.1 rfl (Nat.le_of_ble_eq_true rfl) ⟨Nat.le_of_ble_eq_true rfl, Nat.le_of_ble_eq_true rfl⟩ dX5_feast_11 ?_
    refine q_ifb_eq (tgt := 20) hx hb dX5_feast_14 (by decide) (fun c14 => ?_) (fun c14 => ?_)
    · refine lv_aload_n hx hb dX5_feast_20 rfl (lv_at hl 0 rfl) ?_
      refine q_get (v := .int (iI (S 0 0))) (C := RX5) (T := TX5) (N := 11) hx hb hts inX5 hown hK hC.obj rfl 5 (by decide) (hts (.fieldLink RX5 53 "TavernBench" "feasts" "I") (by decide +kernel)) (fun _ h9 => h9) rfl dX5_feast_21 ?_
      refine lv_aload_n hx hb dX5_feast_24 rfl (lv_at hl 0 rfl) ?_
      refine q_get (v := .ref (ad 1 0 0)) (C := RX5) (T := TX5) (N := 11) hx hb hts inX5 hown hK hC.obj rfl 3 (by decide) (hts (.fieldLink RX5 22 "TavernBench" "feastDays" "[I") (by decide +kernel)) (fun _ h9 => h9) rfl dX5_feast_25 ?_
      refine q_alen (t0 := 0) (z := 20) hx hb hK hC.feasts rfl rfl dX5_feast_28 ?_
      refine q_icmp_lt (tgt := 35) hx hb dX5_feast_29 (by decide) (hI.R (by decide)) (by decide) (fun c29 => ?_) (fun c29 => ?_)
      · refine lv_aload_n hx hb dX5_feast_35 rfl (lv_at hl 0 rfl) ?_
        refine q_get (v := .ref (ad 1 0 0)) (C := RX5) (T := TX5) (N := 11) hx hb hts inX5 hown hK hC.obj rfl 3 (by decide) (hts (.fieldLink RX5 22 "TavernBench" "feastDays" "[I") (by decide +kernel)) (fun _ h9 => h9) rfl dX5_feast_36 ?_
        refine lv_aload_n hx hb dX5_feast_39 rfl (lv_at hl 0 rfl) ?_
        refine q_get (v := .int (iI (S 0 0))) (C := RX5) (T := TX5) (N := 11) hx hb hts inX5 hown hK hC.obj rfl 5 (by decide) (hts (.fieldLink RX5 53 "TavernBench" "feasts" "I") (by decide +kernel)) (fun _ h9 => h9) rfl dX5_feast_40 ?_
        refine lv_iload_n hx hb dX5_feast_43 rfl (lv_at hl 1 rfl) ?_
        refine q_iast (f := S 1) (z := S 0 0) (v := d) hx hb hK hC.feasts (by decide) ⟨by omega, by omega⟩ dX5_feast_44 (fun H i1 hO1 hz1 ho1 => ?_)
        have hS := hS.put (k := i1) hz1 ho1 (hC.1 1 0 0 (live1 _)).2
        have hC : RepC g x.2.1 P ad (up S 1 (S 0 0) d) H := hC.feastput hO1 ho1
        refine lv_aload_n hx hb dX5_feast_45 rfl (lv_at hl 0 rfl) ?_
        refine lv_dup hx hb dX5_feast_46 rfl ?_
        refine q_get (v := .int (iI (S 0 0))) (C := RX5) (T := TX5) (N := 11) hx hb hts inX5 hown hK hC.obj rfl 5 (by decide) (hts (.fieldLink RX5 53 "TavernBench" "feasts" "I") (by decide +kernel)) (fun _ h9 => h9) rfl dX5_feast_47 ?_
        refine lv_iconst (v := iI 1) hx hb dX5_feast_50 rfl ?_
        refine q_iadd hx hb dX5_feast_51 ?_
        refine q_put (ty := .int) (v := .int (iI ((S 0 0) + 1))) hx hb hts inX5 tyX5 tyX5_ok nmX5 hown hK hC.obj rfl 5 (by decide) (hts (.fieldLink RX5 53 "TavernBench" "feasts" "I") (by decide +kernel)) (fun _ h9 => h9) rfl rfl rfl rfl (Nat.le_of_ble_eq_true rfl) dX5_feast_52 (fun H i1 hO1 hz1 ho1 => ?_)
        have hS := hS.put (k := i1) hz1 ho1 (hC.1 0 0 0 (live0 _)).2
        have hC : RepC g x.2.1 P ad (up (up S 1 (S 0 0) d) 0 0 ((S 0 0) + 1)) H := hC.top (fun k z0 z8 z9 z27 z28 z29 => up_ne _ 0 _ z0) hO1 ho1
        refine lv_aload_n hx hb dX5_feast_55 rfl (lv_at hl 0 rfl) ?_
        refine q_get (v := .int (iI ((S 0 0) + 1))) (C := RX5) (T := TX5) (N := 11) hx hb hts inX5 hown hK hC.obj rfl 5 (by decide) (hts (.fieldLink RX5 53 "TavernBench" "feasts" "I") (by decide +kernel)) (fun _ h9 => h9) rfl dX5_feast_56 ?_
        refine W.widen (k := 0) (n := 0) (by omega) (by omega) ?_
        refine q_mreti hx hb hr hlocks hS dX5_feast_59 ?_ ?_
        · show _ = aFeast S d
          unfold aFeast
          rw [cI_t (by omega), cI_f (by assumption), cI_f (by omega)]
        · refine ⟨ad, rfl, ?_⟩
          unfold tFeast
          rw [cI_t ⟨by omega, by assumption, by omega⟩]
          exact hC
      · refine q_bipush hx hb (-3) dX5_feast_32 (by decide +kernel) ?_
        refine W.widen (k := 0) (n := 0) (by omega) (by omega) ?_
        refine q_mreti hx hb hr hlocks hS dX5_feast_34 ?_ ?_
        · show _ = aFeast S d
          unfold aFeast
          rw [cI_t (by omega), cI_f (by assumption), cI_t (by omega)]
        · refine ⟨ad, rfl, ?_⟩
          unfold tFeast
          rw [cI_f (fun z => z.2.2 (by omega))]
          exact hC
    · refine q_bipush hx hb (-2) dX5_feast_17 (by decide +kernel) ?_
      refine W.widen (k := 0) (n := 0) (by omega) (by omega) ?_
      refine q_mreti hx hb hr hlocks hS dX5_feast_19 ?_ ?_
      · show _ = aFeast S d
        unfold aFeast
        rw [cI_t (by omega), cI_t (by assumption)]
      · refine ⟨ad, rfl, ?_⟩
        unfold tFeast
        rw [cI_f (fun z => absurd (by assumption) z.2.1)]
        exact hC
  · refine lv_iconst (v := iI (-1)) hx hb dX5_feast_7 rfl ?_
    refine W.widen (k := 0) (n := 0) (by omega) (by omega) ?_
    refine q_mreti hx hb hr hlocks hS dX5_feast_8 ?_ ?_
    · show _ = aFeast S d
      unfold aFeast
      rw [cI_f (by omega)]
    · refine ⟨ad, rfl, ?_⟩
      unfold tFeast
      rw [cI_f (fun z => by have z2 := z.1; omega)]
      exact hC

theorem up_self (S : St) (k : Nat) (z : Int) : up S k z (S k z) = S := by
  funext a b
  unfold up
  by_cases h : a = k
  · subst h
    by_cases h2 : b = z
    · subst h2; simp
    · simp [h2]
  · simp [h]

set_option maxHeartbeats 4000000 in
set_option maxRecDepth 100000 in
theorem cw_rule (l : Launch) (g : GG) (x : XX) (P : Nat → Prop) (ad : AD) (S : St) (hI : Inv S) (hQ : InvC S) (sz : Nat) (hPb : ∀ q, P q → x.2.2 ≤ q) (hPs : ∀ q, sz ≤ q → P q) (what : Int) (v : Int) (r_what : R32 what) (r_v : R32 v)  : MetXM l yX5_rule wsX5_rule ({ frames := 1, cells := 0, slots := 0, locals := 22 }) g x [.ref (ad 0 0 0), .int (iI what), .int (iI v)] (fun H => H.size = sz ∧ RepC g x.2.1 P ad S H) (aRule S what v) (fun H => ∃ ad', ad' 0 0 0 = ad 0 0 0 ∧ RepC g x.2.1 P ad' (tRule S what v) H) P 0 0 := by
  refine Met.ofW (cc := cX5_rule) (maxL := 4) (ret := (some .int)) (by decide) rfl ?_
  intro p e s m args below meth c s₁ B hml hv
  obtain ⟨rfl, hP, hK, hX⟩ := hv
  have hx := B.exec
  have hb := B.bytes
  have hr := B.returns
  have hts := atoms_spec (ws := wsX5_rule) B.pre
  have hown : s.vm.findClass RX5 = some m.cls := findClass_of_methodNamed B.named
  have hlocks := B.notSynchronized
  have inX5 : ∀ w ∈ wsX50, w ∈ wsX5_rule := by decide +kernel
  have hl := lv_entry ([.ref (ad 0 0 0), .int (iI what), .int (iI v)]) (n := 4) (Nat.le_of_ble_eq_true rfl)
  rw [lg_entry_eq]
  generalize (lg_sl ([.ref (ad 0 0 0), .int (iI what), .int (iI v)]) ++ List.replicate (4 - (lg_sl ([.ref (ad 0 0 0), .int (iI what), .int (iI v)])).length) Slot.unset).toArray = ls at hl ⊢
  have hl : lv_has ls 4 [(0, .ref (ad 0 0 0)), (1, .int (iI what)), (2, .int (iI v))] := hl
  have hS : va_S (P) s.heap s.heap [] := va_S.rf
  have hAb : ∀ q, (P) q → x.2.2 ≤ q := hPb
  obtain ⟨hsz0, hC⟩ := hP
  have hC0 := hC
  have hkp : KP s.heap s.heap := KP.rf
  have hN := hI.nums
  refine lv_iload_n hx hb dX5_rule_0 rfl (lv_at hl 1 rfl) ?_
  refine q_if_ne (tgt := 27) hx hb dX5_rule_1 (by decide) r_what (fun c1 => ?_) (fun c1 => ?_)
  · refine lv_iload_n hx hb dX5_rule_27 rfl (lv_at hl 1 rfl) ?_
    refine lv_iconst (v := iI 1) hx hb dX5_rule_28 rfl ?_
    refine q_icmp_ne (tgt := 55) hx hb dX5_rule_29 (by decide) r_what (by decide) (fun c29 => ?_) (fun c29 => ?_)
    · refine lv_iconst (v := iI (-1)) hx hb dX5_rule_55 rfl ?_
      refine W.widen (k := 0) (n := 0) (by omega) (by omega) ?_
      refine q_mreti hx hb hr hlocks hS dX5_rule_56 ?_ ?_
      · show _ = aRule S what v
        unfold aRule
        rw [cI_f (by omega)]
      · refine ⟨ad, rfl, ?_⟩
        unfold tRule
        rw [cI_f (by omega)]
        exact hC
    · refine lv_iload_n hx hb dX5_rule_32 rfl (lv_at hl 2 rfl) ?_
      refine lv_iconst (v := iI 0) hx hb dX5_rule_33 rfl ?_
      refine q_sipush hx hb 500 dX5_rule_34 (by decide +kernel) ?_
      refine q_cSi (As := [.int (iI v), .int (iI 0), .int (iI 500)]) (rest := []) ⟨hx, hb, hml, hown, hts⟩ (c5_isIn l g v 0 500 r_v (by decide) (by decide) ) (va_cwS 3 hts gX5_rule_X5_isIn rfl rfl rfl (by decide +kernel) ⟨Nat.le_of_ble_eq_true rfl, Nat.le_of_ble_eq_true rfl⟩) (q_pS hK trivial) rfl hl.1 rfl (Nat.le_of_ble_eq_true rfl) ⟨Nat.le_of_ble_eq_true rfl, Nat.le_of_ble_eq_true rfl⟩ dX5_rule_37 ?_
      refine q_ifb_eq (tgt := 55) hx hb dX5_rule_40 (by decide) (fun c40 => ?_) (fun c40 => ?_)
      · refine lv_iconst (v := iI (-1)) hx hb dX5_rule_55 rfl ?_
        refine W.widen (k := 0) (n := 0) (by omega) (by omega) ?_
        refine q_mreti hx hb hr hlocks hS dX5_rule_56 ?_ ?_
        · show _ = aRule S what v
          unfold aRule
          rw [cI_f (by omega)]
        · refine ⟨ad, rfl, ?_⟩
          unfold tRule
          rw [cI_f (by omega)]
          exact hC
      · refine lv_aload_n hx hb dX5_rule_43 rfl (lv_at hl 0 rfl) ?_
        refine q_get (v := .int (iI (S 9 0))) (C := RX5) (T := TX5) (N := 11) hx hb hts inX5 hown hK hC.obj rfl 7 (by decide) (hts (.fieldLink RX5 39 "TavernBench" "heard" "I") (by decide +kernel)) (fun _ h9 => h9) rfl dX5_rule_44 ?_
        refine lv_istore_n (lv' := [(3, .int (iI (S 9 0))), (0, .ref (ad 0 0 0)), (1, .int (iI what)), (2, .int (iI v))]) hx hb dX5_rule_47 rfl hl (by decide) rfl (fun ls hl => ?_)
        refine lv_aload_n hx hb dX5_rule_48 rfl (lv_at hl 1 rfl) ?_
        refine lv_iload_n hx hb dX5_rule_49 rfl (lv_at hl 3 rfl) ?_
        refine q_put (ty := .int) (v := .int (iI v)) hx hb hts inX5 tyX5 tyX5_ok nmX5 hown hK hC.obj rfl 7 (by decide) (hts (.fieldLink RX5 39 "TavernBench" "heard" "I") (by decide +kernel)) (fun _ h9 => h9) rfl rfl rfl rfl (Nat.le_of_ble_eq_true rfl) dX5_rule_50 (fun H i1 hO1 hz1 ho1 => ?_)
        have hS := hS.put (k := i1) hz1 ho1 (hC.1 0 0 0 (live0 _)).2
        have hC : RepC g x.2.1 P ad (up S 9 0 v) H := hC.top (fun k z0 z8 z9 z27 z28 z29 => up_ne _ 0 _ z9) hO1 ho1
        refine lv_iload_n hx hb dX5_rule_53 rfl (lv_at hl 0 rfl) ?_
        refine W.widen (k := 0) (n := 0) (by omega) (by omega) ?_
        refine q_mreti hx hb hr hlocks hS dX5_rule_54 ?_ ?_
        · show _ = aRule S what v
          unfold aRule
          rw [cI_t (by omega), cI_f (by omega)]
        · refine ⟨ad, rfl, ?_⟩
          unfold tRule
          rw [cI_t (by omega), cI_f (by omega), cI_t (by omega)]
          rw [show up S 8 0 (S 8 0) = S from up_self _ 8 0]
          exact hC
  · refine lv_iload_n hx hb dX5_rule_4 rfl (lv_at hl 2 rfl) ?_
    refine lv_iconst (v := iI 0) hx hb dX5_rule_5 rfl ?_
    refine q_sipush hx hb 200 dX5_rule_6 (by decide +kernel) ?_
    refine q_cSi (As := [.int (iI v), .int (iI 0), .int (iI 200)]) (rest := []) ⟨hx, hb, hml, hown, hts⟩ (c5_isIn l g v 0 200 r_v (by decide) (by decide) ) (va_cwS 3 hts gX5_rule_X5_isIn rfl rfl rfl (by decide +kernel) ⟨Nat.le_of_ble_eq_true rfl, Nat.le_of_ble_eq_true rfl⟩) (q_pS hK trivial) rfl hl.1 rfl (Nat.le_of_ble_eq_true rfl) ⟨Nat.le_of_ble_eq_true rfl, Nat.le_of_ble_eq_true rfl⟩ dX5_rule_9 ?_
    refine q_ifb_eq (tgt := 27) hx hb dX5_rule_12 (by decide) (fun c12 => ?_) (fun c12 => ?_)
    · refine lv_iload_n hx hb dX5_rule_27 rfl (lv_at hl 1 rfl) ?_
      refine lv_iconst (v := iI 1) hx hb dX5_rule_28 rfl ?_
      refine q_icmp_ne (tgt := 55) hx hb dX5_rule_29 (by decide) r_what (by decide) (fun c29_1 => ?_) (fun c29_1 => ?_)
      · refine lv_iconst (v := iI (-1)) hx hb dX5_rule_55 rfl ?_
        refine W.widen (k := 0) (n := 0) (by omega) (by omega) ?_
        refine q_mreti hx hb hr hlocks hS dX5_rule_56 ?_ ?_
        · show _ = aRule S what v
          unfold aRule
          rw [cI_f (by omega)]
        · refine ⟨ad, rfl, ?_⟩
          unfold tRule
          rw [cI_f (by omega)]
          exact hC
      · refine lv_iload_n hx hb dX5_rule_32 rfl (lv_at hl 2 rfl) ?_
        refine lv_iconst (v := iI 0) hx hb dX5_rule_33 rfl ?_
        refine q_sipush hx hb 500 dX5_rule_34 (by decide +kernel) ?_
        refine q_cSi (As := [.int (iI v), .int (iI 0), .int (iI 500)]) (rest := []) ⟨hx, hb, hml, hown, hts⟩ (c5_isIn l g v 0 500 r_v (by decide) (by decide) ) (va_cwS 3 hts gX5_rule_X5_isIn rfl rfl rfl (by decide +kernel) ⟨Nat.le_of_ble_eq_true rfl, Nat.le_of_ble_eq_true rfl⟩) (q_pS hK trivial) rfl hl.1 rfl (Nat.le_of_ble_eq_true rfl) ⟨Nat.le_of_ble_eq_true rfl, Nat.le_of_ble_eq_true rfl⟩ dX5_rule_37 ?_
        refine q_ifb_eq (tgt := 55) hx hb dX5_rule_40 (by decide) (fun c40_1 => ?_) (fun c40_1 => ?_)
        · refine lv_iconst (v := iI (-1)) hx hb dX5_rule_55 rfl ?_
          refine W.widen (k := 0) (n := 0) (by omega) (by omega) ?_
          refine q_mreti hx hb hr hlocks hS dX5_rule_56 ?_ ?_
          · show _ = aRule S what v
            unfold aRule
            rw [cI_f (by omega)]
          · refine ⟨ad, rfl, ?_⟩
            unfold tRule
            rw [cI_f (by omega)]
            exact hC
        · refine lv_aload_n hx hb dX5_rule_43 rfl (lv_at hl 0 rfl) ?_
          refine q_get (v := .int (iI (S 9 0))) (C := RX5) (T := TX5) (N := 11) hx hb hts inX5 hown hK hC.obj rfl 7 (by decide) (hts (.fieldLink RX5 39 "TavernBench" "heard" "I") (by decide +kernel)) (fun _ h9 => h9) rfl dX5_rule_44 ?_
          refine lv_istore_n (lv' := [(3, .int (iI (S 9 0))), (0, .ref (ad 0 0 0)), (1, .int (iI what)), (2, .int (iI v))]) hx hb dX5_rule_47 rfl hl (by decide) rfl (fun ls hl => ?_)
          refine lv_aload_n hx hb dX5_rule_48 rfl (lv_at hl 1 rfl) ?_
          refine lv_iload_n hx hb dX5_rule_49 rfl (lv_at hl 3 rfl) ?_
          refine q_put (ty := .int) (v := .int (iI v)) hx hb hts inX5 tyX5 tyX5_ok nmX5 hown hK hC.obj rfl 7 (by decide) (hts (.fieldLink RX5 39 "TavernBench" "heard" "I") (by decide +kernel)) (fun _ h9 => h9) rfl rfl rfl rfl (Nat.le_of_ble_eq_true rfl) dX5_rule_50 (fun H i1 hO1 hz1 ho1 => ?_)
          have hS := hS.put (k := i1) hz1 ho1 (hC.1 0 0 0 (live0 _)).2
          have hC : RepC g x.2.1 P ad (up S 9 0 v) H := hC.top (fun k z0 z8 z9 z27 z28 z29 => up_ne _ 0 _ z9) hO1 ho1
          refine lv_iload_n hx hb dX5_rule_53 rfl (lv_at hl 0 rfl) ?_
          refine W.widen (k := 0) (n := 0) (by omega) (by omega) ?_
          refine q_mreti hx hb hr hlocks hS dX5_rule_54 ?_ ?_
          · show _ = aRule S what v
            unfold aRule
            rw [cI_t (by omega), cI_f (by omega)]
          · refine ⟨ad, rfl, ?_⟩
            unfold tRule
            rw [cI_t (by omega), cI_f (by omega), cI_t (by omega)]
            rw [show up S 8 0 (S 8 0) = S from up_self _ 8 0]
            exact hC
    · refine lv_aload_n hx hb dX5_rule_15 rfl (lv_at hl 0 rfl) ?_
      refine q_get (v := .int (iI (S 8 0))) (C := RX5) (T := TX5) (N := 11) hx hb hts inX5 hown hK hC.obj rfl 6 (by decide) (hts (.fieldLink RX5 35 "TavernBench" "near" "I") (by decide +kernel)) (fun _ h9 => h9) rfl dX5_rule_16 ?_
      refine lv_istore_n (lv' := [(3, .int (iI (S 8 0))), (0, .ref (ad 0 0 0)), (1, .int (iI what)), (2, .int (iI v))]) hx hb dX5_rule_19 rfl hl (by decide) rfl (fun ls hl => ?_)
      refine lv_aload_n hx hb dX5_rule_20 rfl (lv_at hl 1 rfl) ?_
      refine lv_iload_n hx hb dX5_rule_21 rfl (lv_at hl 3 rfl) ?_
      refine q_put (ty := .int) (v := .int (iI v)) hx hb hts inX5 tyX5 tyX5_ok nmX5 hown hK hC.obj rfl 6 (by decide) (hts (.fieldLink RX5 35 "TavernBench" "near" "I") (by decide +kernel)) (fun _ h9 => h9) rfl rfl rfl rfl (Nat.le_of_ble_eq_true rfl) dX5_rule_22 (fun H i1 hO1 hz1 ho1 => ?_)
      have hS := hS.put (k := i1) hz1 ho1 (hC.1 0 0 0 (live0 _)).2
      have hC : RepC g x.2.1 P ad (up S 8 0 v) H := hC.top (fun k z0 z8 z9 z27 z28 z29 => up_ne _ 0 _ z8) hO1 ho1
      refine lv_iload_n hx hb dX5_rule_25 rfl (lv_at hl 0 rfl) ?_
      refine W.widen (k := 0) (n := 0) (by omega) (by omega) ?_
      refine q_mreti hx hb hr hlocks hS dX5_rule_26 ?_ ?_
      · show _ = aRule S what v
        unfold aRule
        rw [cI_t (by omega), cI_t (by omega)]
      · refine ⟨ad, rfl, ?_⟩
        unfold tRule
        rw [cI_t (by omega), cI_t (by omega), cI_f (by omega)]
        rw [show up (up S 8 0 v) 9 0 (S 9 0) = up S 8 0 v from up_self _ 9 0]
        exact hC

set_option maxHeartbeats 4000000 in
set_option maxRecDepth 100000 in
theorem cw_law (l : Launch) (g : GG) (x : XX) (P : Nat → Prop) (ad : AD) (S : St) (hI : Inv S) (hQ : InvC S) (sz : Nat) (hPb : ∀ q, P q → x.2.2 ≤ q) (hPs : ∀ q, sz ≤ q → P q) (d : Int) (k : Int) (w : Int) (f : Int) (t : Int) (r_d : R32 d) (r_k : R32 k) (r_w : R32 w) (r_f : R32 f) (r_t : R32 t)  : MetXM l yX5_law wsX5_law ({ frames := 7, cells := 2, slots := 54, locals := 191 }) g x [.ref (ad 0 0 0), .int (iI d), .int (iI k), .int (iI w), .int (iI f), .int (iI t)] (fun H => H.size = sz ∧ RepC g x.2.1 P ad S H) (aLaw S d k w f t) (fun H => ∃ ad', ad' 0 0 0 = ad 0 0 0 ∧ RepC g x.2.1 P ad' (tLaw S d k w f t) H) P 2 54 := by
  refine Met.ofW (cc := cX5_law) (maxL := 6) (ret := (some .int)) (by decide) rfl ?_
  intro p e s m args below meth c s₁ B hml hv
  obtain ⟨rfl, hP, hK, hX⟩ := hv
  have hx := B.exec
  have hb := B.bytes
  have hr := B.returns
  have hts := atoms_spec (ws := wsX5_law) B.pre
  have hown : s.vm.findClass RX5 = some m.cls := findClass_of_methodNamed B.named
  have hlocks := B.notSynchronized
  have inX2 : ∀ w ∈ wsX20, w ∈ wsX5_law := by decide +kernel
  have inX5 : ∀ w ∈ wsX50, w ∈ wsX5_law := by decide +kernel
  have hl := lv_entry ([.ref (ad 0 0 0), .int (iI d), .int (iI k), .int (iI w), .int (iI f), .int (iI t)]) (n := 6) (Nat.le_of_ble_eq_true rfl)
  rw [lg_entry_eq]
  generalize (lg_sl ([.ref (ad 0 0 0), .int (iI d), .int (iI k), .int (iI w), .int (iI f), .int (iI t)]) ++ List.replicate (6 - (lg_sl ([.ref (ad 0 0 0), .int (iI d), .int (iI k), .int (iI w), .int (iI f), .int (iI t)])).length) Slot.unset).toArray = ls at hl ⊢
  have hl : lv_has ls 6 [(0, .ref (ad 0 0 0)), (1, .int (iI d)), (2, .int (iI k)), (3, .int (iI w)), (4, .int (iI f)), (5, .int (iI t))] := hl
  have hS : va_S (P) s.heap s.heap [] := va_S.rf
  have hAb : ∀ q, (P) q → x.2.2 ≤ q := hPb
  obtain ⟨hsz0, hC⟩ := hP
  have hC0 := hC
  have hkp : KP s.heap s.heap := KP.rf
  have hN := hI.nums
  refine lv_iload_n hx hb dX5_law_0 rfl (lv_at hl 1 rfl) ?_
  refine q_cSi (As := [.int (iI d)]) (rest := []) ⟨hx, hb, hml, hown, hts⟩ (c5_isDay l g d r_d ) (va_cwS 1 hts gX5_law_X5_isDay rfl rfl rfl (by decide +kernel) ⟨Nat.le_of_ble_eq_true rfl, Nat.le_of_ble_eq_true rfl⟩) (q_pS hK trivial) rfl hl.1 rfl (Nat.le_of_ble_eq_true rfl) ⟨Nat.le_of_ble_eq_true rfl, Nat.le_of_ble_eq_true rfl⟩ dX5_law_1 ?_
  refine q_ifb_eq (tgt := 34) hx hb dX5_law_4 (by decide) (fun c4 => ?_) (fun c4 => ?_)
  · refine lv_iconst (v := iI (-1)) hx hb dX5_law_34 rfl ?_
    refine W.widen (k := 2) (n := 54) (by omega) (by omega) ?_
    refine q_mreti hx hb hr hlocks hS dX5_law_35 ?_ ?_
    · show _ = aLaw S d k w f t
      unfold aLaw
      rw [cI_f (by omega)]
    · refine ⟨ad, rfl, ?_⟩
      unfold tLaw
      rw [cI_f (fun z => by have z1 := z.1; have z2 := z.2; omega)]
      exact hC
  · refine lv_iload_n hx hb dX5_law_7 rfl (lv_at hl 2 rfl) ?_
    refine q_cSi (As := [.int (iI k)]) (rest := []) ⟨hx, hb, hml, hown, hts⟩ (c5_isKind l g k r_k ) (va_cwS 1 hts gX5_law_X5_isKind rfl rfl rfl (by decide +kernel) ⟨Nat.le_of_ble_eq_true rfl, Nat.le_of_ble_eq_true rfl⟩) (q_pS hK trivial) rfl hl.1 rfl (Nat.le_of_ble_eq_true rfl) ⟨Nat.le_of_ble_eq_true rfl, Nat.le_of_ble_eq_true rfl⟩ dX5_law_8 ?_
    refine q_ifb_eq (tgt := 34) hx hb dX5_law_11 (by decide) (fun c11 => ?_) (fun c11 => ?_)
    · refine lv_iconst (v := iI (-1)) hx hb dX5_law_34 rfl ?_
      refine W.widen (k := 2) (n := 54) (by omega) (by omega) ?_
      refine q_mreti hx hb hr hlocks hS dX5_law_35 ?_ ?_
      · show _ = aLaw S d k w f t
        unfold aLaw
        rw [cI_f (by omega)]
      · refine ⟨ad, rfl, ?_⟩
        unfold tLaw
        rw [cI_f (fun z => by have z1 := z.1; have z2 := z.2; omega)]
        exact hC
    · refine lv_iload_n hx hb dX5_law_14 rfl (lv_at hl 3 rfl) ?_
      refine lv_iconst (v := iI 0) hx hb dX5_law_15 rfl ?_
      refine q_bipush hx hb 7 dX5_law_16 (by decide +kernel) ?_
      refine q_cSi (As := [.int (iI w), .int (iI 0), .int (iI 7)]) (rest := []) ⟨hx, hb, hml, hown, hts⟩ (c5_isIn l g w 0 7 r_w (by decide) (by decide) ) (va_cwS 3 hts gX5_law_X5_isIn rfl rfl rfl (by decide +kernel) ⟨Nat.le_of_ble_eq_true rfl, Nat.le_of_ble_eq_true rfl⟩) (q_pS hK trivial) rfl hl.1 rfl (Nat.le_of_ble_eq_true rfl) ⟨Nat.le_of_ble_eq_true rfl, Nat.le_of_ble_eq_true rfl⟩ dX5_law_18 ?_
      refine q_ifb_eq (tgt := 34) hx hb dX5_law_21 (by decide) (fun c21 => ?_) (fun c21 => ?_)
      · refine lv_iconst (v := iI (-1)) hx hb dX5_law_34 rfl ?_
        refine W.widen (k := 2) (n := 54) (by omega) (by omega) ?_
        refine q_mreti hx hb hr hlocks hS dX5_law_35 ?_ ?_
        · show _ = aLaw S d k w f t
          unfold aLaw
          rw [cI_f (by omega)]
        · refine ⟨ad, rfl, ?_⟩
          unfold tLaw
          rw [cI_f (fun z => by have z1 := z.1; have z2 := z.2; omega)]
          exact hC
      · refine lv_iload hx hb dX5_law_24 (lv_at hl 4 rfl) ?_
        refine lv_iload hx hb dX5_law_26 (lv_at hl 5 rfl) ?_
        refine q_cSi (As := [.int (iI f), .int (iI t)]) (rest := []) ⟨hx, hb, hml, hown, hts⟩ (c5_areHours l g f t r_f r_t ) (va_cwS 2 hts gX5_law_X5_areHours rfl rfl rfl (by decide +kernel) ⟨Nat.le_of_ble_eq_true rfl, Nat.le_of_ble_eq_true rfl⟩) (q_pS hK trivial) rfl hl.1 rfl (Nat.le_of_ble_eq_true rfl) ⟨Nat.le_of_ble_eq_true rfl, Nat.le_of_ble_eq_true rfl⟩ dX5_law_28 ?_
        refine q_ifb_ne (tgt := 36) hx hb dX5_law_31 (by decide) (fun c31 => ?_) (fun c31 => ?_)
        · refine lv_aload_n hx hb dX5_law_36 rfl (lv_at hl 0 rfl) ?_
          refine q_get (v := .ref (ad 3 0 0)) (C := RX5) (T := TX5) (N := 11) hx hb hts inX5 hown hK hC.obj rfl 0 (by decide) (hts (.fieldLink RX5 10 "TavernBench" "laws" "Ljava/util/ArrayList;") (by decide +kernel)) (fun _ h9 => h9) rfl dX5_law_37 ?_
          refine q_cVi (As := []) (rest := []) ⟨hx, hb, hml, hown, hts⟩ (c0_size l g x.2.1 (ad 3 0 0) (ad 4 0 0) (S 2 0)) (cwV 0 hts gX5_law_Jx4a65c_size_8abf5 rfl rfl rfl (by decide +kernel) ⟨Nat.le_of_ble_eq_true rfl, Nat.le_of_ble_eq_true rfl⟩) (q_pV hK (hC.lst (k := 0) (by decide)) rfl (hC.lst (k := 0) (by decide))) rfl hl.1 rfl (Nat.le_of_ble_eq_true rfl) ⟨Nat.le_of_ble_eq_true rfl, Nat.le_of_ble_eq_true rfl⟩ dX5_law_40 ?_
          refine q_bipush hx hb 40 dX5_law_43 (by decide +kernel) ?_
          refine q_icmp_lt (tgt := 51) hx hb dX5_law_45 (by decide) (hI.R (by decide)) (by decide) (fun c45 => ?_) (fun c45 => ?_)
          · refine lv_aload_n hx hb dX5_law_51 rfl (lv_at hl 0 rfl) ?_
            refine q_get (v := .ref (ad 3 0 0)) (C := RX5) (T := TX5) (N := 11) hx hb hts inX5 hown hK hC.obj rfl 0 (by decide) (hts (.fieldLink RX5 10 "TavernBench" "laws" "Ljava/util/ArrayList;") (by decide +kernel)) (fun _ h9 => h9) rfl dX5_law_52 ?_
            refine q_newN (ci := 3) (fs := [.int (iI 0), .int (iI 0), .int (iI 0), .int (iI 0), .int (iI 0)]) hx hb hts inX2 tyX2 tyX2_ok hown (hts (.classLink RX5 26 RX2) (by decide +kernel)) (hts (.instantiable RX2 5) (by decide +kernel)) (hts (.initialized RX2) (by decide +kernel)) hK rfl hS (fun j hj => by rcases j with _ | _ | _ | _ | _ | j <;> first | rfl | omega) (Nat.le_of_ble_eq_true rfl) (Nat.le_of_ble_eq_true rfl) dX5_law_55 (fun nw55 H hqnw55 hOnw55 hz1 ho1 hS => ?_)
            have hltnw55 : nw55 < H.size := va_at.lt2 hOnw55
            have hgenw55 : s.heap.size ≤ nw55 := by have h9 := hkp.1; omega
            have hkp := hkp.new hz1 ho1
            have hbxnw55 : x.2.2 ≤ nw55 := hPb _ (hPs _ (by omega))
            refine lv_dup hx hb dX5_law_58 rfl ?_
            refine lv_iload_n hx hb dX5_law_59 rfl (lv_at hl 1 rfl) ?_
            refine lv_iload_n hx hb dX5_law_60 rfl (lv_at hl 2 rfl) ?_
            refine lv_iload_n hx hb dX5_law_61 rfl (lv_at hl 3 rfl) ?_
            refine lv_iload hx hb dX5_law_62 (lv_at hl 4 rfl) ?_
            refine lv_iload hx hb dX5_law_64 (lv_at hl 5 rfl) ?_
            refine q_xI (As := [.int (iI d), .int (iI k), .int (iI w), .int (iI f), .int (iI t)]) (rest := [.ref nw55, .ref (ad 3 0 0)]) ⟨hx, hb, hml, hown, hts⟩ (cc_law l g x nw55 d k w f t (by omega)) (cwI 5 hts gX5_law_X2_init rfl rfl rfl (hts (.initialized RX2) (by decide +kernel)) (hts (.methodLink RX5 28 yX2_init) (by decide +kernel)) (hts (.instanceMethod yX2_init) (by decide +kernel)) rfl (by decide +kernel) ⟨Nat.le_of_ble_eq_true rfl, Nat.le_of_ble_eq_true rfl⟩) (q_pSX hK hX hS hAb hOnw55) rfl hl.1 rfl (Nat.le_of_ble_eq_true rfl) ⟨Nat.le_of_ble_eq_true rfl, Nat.le_of_ble_eq_true rfl⟩ dX5_law_66 hS (fun q h => by rw [show q = nw55 from h]; exact (hPs _ (by omega))) (fun H locs hOnw55 hz1 hk1 hS => ?_)
            have hkp := hkp.call hz1 hk1 (fun q h9 h8 => by first | omega | (rcases h8 with h8 | h8 <;> omega))
            obtain ⟨szA, hszA⟩ : ∃ szA : Nat, H.size = szA := ⟨_, rfl⟩
            have hC1 := hC.kp hkp
            have hkz := hkp.1
            have l3 := hC.lt (live3 S (k := 0) (by decide))
            have hvl : nw55 ≠ ad 3 0 0 := by omega
            have hvb : 0 < S 2 0 → nw55 ≠ ad 4 0 0 := fun h => by have h9 := hC.lt (live4 (k := 0) (by decide) h); omega
            have hb2 : x.2.2 ≤ szA := hPb _ (hPs _ (by omega))
            refine q_xVi (As := [.ref nw55]) (rest := []) ⟨hx, hb, hml, hown, hts⟩ (cj_addE l g x (ad 3 0 0) (ad 4 0 0) szA 3 nw55 _ (S 2 0) (fun q => ad 5 q 0) rfl (by decide) (hPb _ (hC.1 3 0 0 (live3 S (by decide))).2) (fun h => hPb _ (hC.1 4 0 0 (live4 (S := S) (k := 0) (by decide) h)).2) hb2 (fun h e => absurd (hC.2 _ _ _ _ _ _ (live3 S (by decide)) (live4 (S := S) (k := 0) (by decide) h) e).1 (by decide)) hvl hvb (fun i h1 h2 e => absurd (hC.2 _ _ _ _ _ _ (live5 ⟨h1, h2⟩) (live3 S (by decide)) e).1 (by decide)) ⟨by omega, by omega⟩) (cwV 1 hts gX5_law_Jx4a65c_add_9ea2d rfl rfl rfl (by decide +kernel) ⟨Nat.le_of_ble_eq_true rfl, Nat.le_of_ble_eq_true rfl⟩) (q_pVX hK hX hS hAb (hC1.lst (k := 0) (by decide)) rfl ⟨hszA, hC1.lst (k := 0) (by decide), fun h => hC1.arr (k := 0) (by decide) h, fun i h1 h2 => ⟨_, hC1.law ⟨h1, h2⟩⟩, _, hOnw55⟩) rfl hl.1 rfl (Nat.le_of_ble_eq_true rfl) ⟨Nat.le_of_ble_eq_true rfl, Nat.le_of_ble_eq_true rfl⟩ dX5_law_69 hS (fun q h => h.elim (fun z => by rw [z]; exact (hC.1 3 0 0 (live3 S (by decide))).2) (fun h => h.elim (fun z => by rw [z.2]; exact (hC.1 4 0 0 (live4 (S := S) (k := 0) (by decide) z.1)).2) (fun z => hPs _ (by have z2 : szA ≤ q := z; omega)))) (fun H locs hM hz1 hk1 hS => ?_)
            have hOnw55 := hOnw55.kept (hk1 _ (va_at.lt2 hOnw55) (fun h9 => h9.elim hvl (fun h9 => h9.elim (fun z => hvb z.1 z.2) (fun z => by have z2 : szA ≤ _ := z; omega))))
            obtain ⟨ad1, had1, hC⟩ := hC.addLaw (by omega) hkp hOnw55 ⟨by omega, by omega⟩ hM hk1 hszA (fun q h => hPs _ (by omega))
            have hCo := hC.obj
            rw [had1] at hCo
            have hL1 := hC.lst (k := 0) (by decide)
            refine lv_pop hx hb dX5_law_72 rfl ?_
            refine lv_aload_n hx hb dX5_law_73 rfl (lv_at hl 0 rfl) ?_
            refine q_get (v := .ref (ad1 3 0 0)) (C := RX5) (T := TX5) (N := 11) hx hb hts inX5 hown hK hCo rfl 0 (by decide) (hts (.fieldLink RX5 10 "TavernBench" "laws" "Ljava/util/ArrayList;") (by decide +kernel)) (fun _ h9 => h9) rfl dX5_law_74 ?_
            refine q_cVi (As := []) (rest := []) ⟨hx, hb, hml, hown, hts⟩ (c0_size l g x.2.1 (ad1 3 0 0) (ad1 4 0 0) (S 2 0 + 1)) (cwV 0 hts gX5_law_Jx4a65c_size_8abf5 rfl rfl rfl (by decide +kernel) ⟨Nat.le_of_ble_eq_true rfl, Nat.le_of_ble_eq_true rfl⟩) (q_pV hK hL1 rfl hL1) rfl hl.1 rfl (Nat.le_of_ble_eq_true rfl) ⟨Nat.le_of_ble_eq_true rfl, Nat.le_of_ble_eq_true rfl⟩ dX5_law_77 ?_
            refine W.widen (k := 2) (n := 54) (by omega) (by omega) ?_
            refine q_mreti hx hb hr hlocks hS dX5_law_80 ?_ ?_
            · show _ = aLaw S d k w f t
              unfold aLaw
              rw [cI_t (by omega), cI_f (by omega)]
            · refine ⟨ad1, had1, ?_⟩
              unfold tLaw
              rw [cI_t ⟨by omega, by omega⟩]
              exact hC
          · refine q_bipush hx hb (-3) dX5_law_48 (by decide +kernel) ?_
            refine W.widen (k := 2) (n := 54) (by omega) (by omega) ?_
            refine q_mreti hx hb hr hlocks hS dX5_law_50 ?_ ?_
            · show _ = aLaw S d k w f t
              unfold aLaw
              rw [cI_t (by omega), cI_t (by omega)]
            · refine ⟨ad, rfl, ?_⟩
              unfold tLaw
              rw [cI_f (fun z => by have z1 := z.1; have z2 := z.2; omega)]
              exact hC
        · refine lv_iconst (v := iI (-1)) hx hb dX5_law_34 rfl ?_
          refine W.widen (k := 2) (n := 54) (by omega) (by omega) ?_
          refine q_mreti hx hb hr hlocks hS dX5_law_35 ?_ ?_
          · show _ = aLaw S d k w f t
            unfold aLaw
            rw [cI_f (by omega)]
          · refine ⟨ad, rfl, ?_⟩
            unfold tLaw
            rw [cI_f (fun z => by have z1 := z.1; have z2 := z.2; omega)]
            exact hC

set_option maxHeartbeats 4000000 in
set_option maxRecDepth 100000 in
theorem cw_objector (l : Launch) (g : GG) (x : XX) (P : Nat → Prop) (ad : AD) (S : St) (hI : Inv S) (hQ : InvC S) (sz : Nat) (hPb : ∀ q, P q → x.2.2 ≤ q) (hPs : ∀ q, sz ≤ q → P q) (px : Int) (py : Int) (w : Int) (r_px : R32 px) (r_py : R32 py) (r_w : R32 w)  : MetXM l yX5_objector wsX5_objector ({ frames := 7, cells := 2, slots := 52, locals := 191 }) g x [.ref (ad 0 0 0), .int (iI px), .int (iI py), .int (iI w)] (fun H => H.size = sz ∧ RepC g x.2.1 P ad S H) (aObj S px py w) (fun H => ∃ ad', ad' 0 0 0 = ad 0 0 0 ∧ RepC g x.2.1 P ad' (tObj S px py w) H) P 2 52 := by
  refine Met.ofW (cc := cX5_objector) (maxL := 4) (ret := (some .int)) (by decide) rfl ?_
  intro p e s m args below meth c s₁ B hml hv
  obtain ⟨rfl, hP, hK, hX⟩ := hv
  have hx := B.exec
  have hb := B.bytes
  have hr := B.returns
  have hts := atoms_spec (ws := wsX5_objector) B.pre
  have hown : s.vm.findClass RX5 = some m.cls := findClass_of_methodNamed B.named
  have hlocks := B.notSynchronized
  have inX3 : ∀ w ∈ wsX30, w ∈ wsX5_objector := by decide +kernel
  have inX5 : ∀ w ∈ wsX50, w ∈ wsX5_objector := by decide +kernel
  have hl := lv_entry ([.ref (ad 0 0 0), .int (iI px), .int (iI py), .int (iI w)]) (n := 4) (Nat.le_of_ble_eq_true rfl)
  rw [lg_entry_eq]
  generalize (lg_sl ([.ref (ad 0 0 0), .int (iI px), .int (iI py), .int (iI w)]) ++ List.replicate (4 - (lg_sl ([.ref (ad 0 0 0), .int (iI px), .int (iI py), .int (iI w)])).length) Slot.unset).toArray = ls at hl ⊢
  have hl : lv_has ls 4 [(0, .ref (ad 0 0 0)), (1, .int (iI px)), (2, .int (iI py)), (3, .int (iI w))] := hl
  have hS : va_S (P) s.heap s.heap [] := va_S.rf
  have hAb : ∀ q, (P) q → x.2.2 ≤ q := hPb
  obtain ⟨hsz0, hC⟩ := hP
  have hC0 := hC
  have hkp : KP s.heap s.heap := KP.rf
  have hN := hI.nums
  refine lv_iload_n hx hb dX5_objector_0 rfl (lv_at hl 1 rfl) ?_
  refine lv_iload_n hx hb dX5_objector_1 rfl (lv_at hl 2 rfl) ?_
  refine q_cSi (As := [.int (iI px), .int (iI py)]) (rest := []) ⟨hx, hb, hml, hown, hts⟩ (c5_isPlace l g px py r_px r_py ) (va_cwS 2 hts gX5_objector_X5_isPlace rfl rfl rfl (by decide +kernel) ⟨Nat.le_of_ble_eq_true rfl, Nat.le_of_ble_eq_true rfl⟩) (q_pS hK trivial) rfl hl.1 rfl (Nat.le_of_ble_eq_true rfl) ⟨Nat.le_of_ble_eq_true rfl, Nat.le_of_ble_eq_true rfl⟩ dX5_objector_2 ?_
  refine q_ifb_eq (tgt := 18) hx hb dX5_objector_5 (by decide) (fun c5 => ?_) (fun c5 => ?_)
  · refine lv_iconst (v := iI (-1)) hx hb dX5_objector_18 rfl ?_
    refine W.widen (k := 2) (n := 52) (by omega) (by omega) ?_
    refine q_mreti hx hb hr hlocks hS dX5_objector_19 ?_ ?_
    · show _ = aObj S px py w
      unfold aObj
      rw [cI_f (by omega)]
    · refine ⟨ad, rfl, ?_⟩
      unfold tObj
      rw [cI_f (fun z => by have z1 := z.1; have z2 := z.2; omega)]
      exact hC
  · refine lv_iload_n hx hb dX5_objector_8 rfl (lv_at hl 3 rfl) ?_
    refine lv_iconst (v := iI 1) hx hb dX5_objector_9 rfl ?_
    refine q_bipush hx hb 10 dX5_objector_10 (by decide +kernel) ?_
    refine q_cSi (As := [.int (iI w), .int (iI 1), .int (iI 10)]) (rest := []) ⟨hx, hb, hml, hown, hts⟩ (c5_isIn l g w 1 10 r_w (by decide) (by decide) ) (va_cwS 3 hts gX5_objector_X5_isIn rfl rfl rfl (by decide +kernel) ⟨Nat.le_of_ble_eq_true rfl, Nat.le_of_ble_eq_true rfl⟩) (q_pS hK trivial) rfl hl.1 rfl (Nat.le_of_ble_eq_true rfl) ⟨Nat.le_of_ble_eq_true rfl, Nat.le_of_ble_eq_true rfl⟩ dX5_objector_12 ?_
    refine q_ifb_ne (tgt := 20) hx hb dX5_objector_15 (by decide) (fun c15 => ?_) (fun c15 => ?_)
    · refine lv_aload_n hx hb dX5_objector_20 rfl (lv_at hl 0 rfl) ?_
      refine q_get (v := .ref (ad 3 1 0)) (C := RX5) (T := TX5) (N := 11) hx hb hts inX5 hown hK hC.obj rfl 1 (by decide) (hts (.fieldLink RX5 16 "TavernBench" "objectors" "Ljava/util/ArrayList;") (by decide +kernel)) (fun _ h9 => h9) rfl dX5_objector_21 ?_
      refine q_cVi (As := []) (rest := []) ⟨hx, hb, hml, hown, hts⟩ (c0_size l g x.2.1 (ad 3 1 0) (ad 4 1 0) (S 10 0)) (cwV 0 hts gX5_objector_Jx4a65c_size_8abf5 rfl rfl rfl (by decide +kernel) ⟨Nat.le_of_ble_eq_true rfl, Nat.le_of_ble_eq_true rfl⟩) (q_pV hK (hC.lst (k := 1) (by decide)) rfl (hC.lst (k := 1) (by decide))) rfl hl.1 rfl (Nat.le_of_ble_eq_true rfl) ⟨Nat.le_of_ble_eq_true rfl, Nat.le_of_ble_eq_true rfl⟩ dX5_objector_24 ?_
      refine q_bipush hx hb 20 dX5_objector_27 (by decide +kernel) ?_
      refine q_icmp_lt (tgt := 35) hx hb dX5_objector_29 (by decide) (hI.R (by decide)) (by decide) (fun c29 => ?_) (fun c29 => ?_)
      · refine lv_aload_n hx hb dX5_objector_35 rfl (lv_at hl 0 rfl) ?_
        refine q_get (v := .ref (ad 3 1 0)) (C := RX5) (T := TX5) (N := 11) hx hb hts inX5 hown hK hC.obj rfl 1 (by decide) (hts (.fieldLink RX5 16 "TavernBench" "objectors" "Ljava/util/ArrayList;") (by decide +kernel)) (fun _ h9 => h9) rfl dX5_objector_36 ?_
        refine q_newN (ci := 4) (fs := [.int (iI 0), .int (iI 0), .int (iI 0)]) hx hb hts inX3 tyX3 tyX3_ok hown (hts (.classLink RX5 78 RX3) (by decide +kernel)) (hts (.instantiable RX3 3) (by decide +kernel)) (hts (.initialized RX3) (by decide +kernel)) hK rfl hS (fun j hj => by rcases j with _ | _ | _ | j <;> first | rfl | omega) (Nat.le_of_ble_eq_true rfl) (Nat.le_of_ble_eq_true rfl) dX5_objector_39 (fun nw39 H hqnw39 hOnw39 hz1 ho1 hS => ?_)
        have hltnw39 : nw39 < H.size := va_at.lt2 hOnw39
        have hgenw39 : s.heap.size ≤ nw39 := by have h9 := hkp.1; omega
        have hkp := hkp.new hz1 ho1
        have hbxnw39 : x.2.2 ≤ nw39 := hPb _ (hPs _ (by omega))
        refine lv_dup hx hb dX5_objector_42 rfl ?_
        refine lv_iload_n hx hb dX5_objector_43 rfl (lv_at hl 1 rfl) ?_
        refine lv_iload_n hx hb dX5_objector_44 rfl (lv_at hl 2 rfl) ?_
        refine lv_iload_n hx hb dX5_objector_45 rfl (lv_at hl 3 rfl) ?_
        refine q_xI (As := [.int (iI px), .int (iI py), .int (iI w)]) (rest := [.ref nw39, .ref (ad 3 1 0)]) ⟨hx, hb, hml, hown, hts⟩ (cc_objector l g x nw39 px py w (by omega)) (cwI 3 hts gX5_objector_X3_init rfl rfl rfl (hts (.initialized RX3) (by decide +kernel)) (hts (.methodLink RX5 80 yX3_init) (by decide +kernel)) (hts (.instanceMethod yX3_init) (by decide +kernel)) rfl (by decide +kernel) ⟨Nat.le_of_ble_eq_true rfl, Nat.le_of_ble_eq_true rfl⟩) (q_pSX hK hX hS hAb hOnw39) rfl hl.1 rfl (Nat.le_of_ble_eq_true rfl) ⟨Nat.le_of_ble_eq_true rfl, Nat.le_of_ble_eq_true rfl⟩ dX5_objector_46 hS (fun q h => by rw [show q = nw39 from h]; exact (hPs _ (by omega))) (fun H locs hOnw39 hz1 hk1 hS => ?_)
        have hkp := hkp.call hz1 hk1 (fun q h9 h8 => by first | omega | (rcases h8 with h8 | h8 <;> omega))
        obtain ⟨szA, hszA⟩ : ∃ szA : Nat, H.size = szA := ⟨_, rfl⟩
        have hC1 := hC.kp hkp
        have hkz := hkp.1
        have l3 := hC.lt (live3 S (k := 1) (by decide))
        have hvl : nw39 ≠ ad 3 1 0 := by omega
        have hvb : 0 < S 10 0 → nw39 ≠ ad 4 1 0 := fun h => by have h9 := hC.lt (live4 (k := 1) (by decide) h); omega
        have hb2 : x.2.2 ≤ szA := hPb _ (hPs _ (by omega))
        refine q_xVi (As := [.ref nw39]) (rest := []) ⟨hx, hb, hml, hown, hts⟩ (cj_addE l g x (ad 3 1 0) (ad 4 1 0) szA 4 nw39 _ (S 10 0) (fun q => ad 6 q 0) rfl (by decide) (hPb _ (hC.1 3 1 0 (live3 S (by decide))).2) (fun h => hPb _ (hC.1 4 1 0 (live4 (S := S) (k := 1) (by decide) h)).2) hb2 (fun h e => absurd (hC.2 _ _ _ _ _ _ (live3 S (by decide)) (live4 (S := S) (k := 1) (by decide) h) e).1 (by decide)) hvl hvb (fun i h1 h2 e => absurd (hC.2 _ _ _ _ _ _ (live6 ⟨h1, h2⟩) (live3 S (by decide)) e).1 (by decide)) ⟨by omega, by omega⟩) (cwV 1 hts gX5_objector_Jx4a65c_add_9ea2d rfl rfl rfl (by decide +kernel) ⟨Nat.le_of_ble_eq_true rfl, Nat.le_of_ble_eq_true rfl⟩) (q_pVX hK hX hS hAb (hC1.lst (k := 1) (by decide)) rfl ⟨hszA, hC1.lst (k := 1) (by decide), fun h => hC1.arr (k := 1) (by decide) h, fun i h1 h2 => ⟨_, hC1.objector ⟨h1, h2⟩⟩, _, hOnw39⟩) rfl hl.1 rfl (Nat.le_of_ble_eq_true rfl) ⟨Nat.le_of_ble_eq_true rfl, Nat.le_of_ble_eq_true rfl⟩ dX5_objector_49 hS (fun q h => h.elim (fun z => by rw [z]; exact (hC.1 3 1 0 (live3 S (by decide))).2) (fun h => h.elim (fun z => by rw [z.2]; exact (hC.1 4 1 0 (live4 (S := S) (k := 1) (by decide) z.1)).2) (fun z => hPs _ (by have z2 : szA ≤ q := z; omega)))) (fun H locs hM hz1 hk1 hS => ?_)
        have hOnw39 := hOnw39.kept (hk1 _ (va_at.lt2 hOnw39) (fun h9 => h9.elim hvl (fun h9 => h9.elim (fun z => hvb z.1 z.2) (fun z => by have z2 : szA ≤ _ := z; omega))))
        obtain ⟨ad1, had1, hC⟩ := hC.addObj (by omega) hkp hOnw39 ⟨by omega, by omega⟩ hM hk1 hszA (fun q h => hPs _ (by omega))
        have hCo := hC.obj
        rw [had1] at hCo
        have hL1 := hC.lst (k := 1) (by decide)
        refine lv_pop hx hb dX5_objector_52 rfl ?_
        refine lv_aload_n hx hb dX5_objector_53 rfl (lv_at hl 0 rfl) ?_
        refine q_get (v := .ref (ad1 3 1 0)) (C := RX5) (T := TX5) (N := 11) hx hb hts inX5 hown hK hCo rfl 1 (by decide) (hts (.fieldLink RX5 16 "TavernBench" "objectors" "Ljava/util/ArrayList;") (by decide +kernel)) (fun _ h9 => h9) rfl dX5_objector_54 ?_
        refine q_cVi (As := []) (rest := []) ⟨hx, hb, hml, hown, hts⟩ (c0_size l g x.2.1 (ad1 3 1 0) (ad1 4 1 0) (S 10 0 + 1)) (cwV 0 hts gX5_objector_Jx4a65c_size_8abf5 rfl rfl rfl (by decide +kernel) ⟨Nat.le_of_ble_eq_true rfl, Nat.le_of_ble_eq_true rfl⟩) (q_pV hK hL1 rfl hL1) rfl hl.1 rfl (Nat.le_of_ble_eq_true rfl) ⟨Nat.le_of_ble_eq_true rfl, Nat.le_of_ble_eq_true rfl⟩ dX5_objector_57 ?_
        refine W.widen (k := 2) (n := 52) (by omega) (by omega) ?_
        refine q_mreti hx hb hr hlocks hS dX5_objector_60 ?_ ?_
        · show _ = aObj S px py w
          unfold aObj
          rw [cI_t (by omega), cI_f (by omega)]
        · refine ⟨ad1, had1, ?_⟩
          unfold tObj
          rw [cI_t ⟨by omega, by omega⟩]
          exact hC
      · refine q_bipush hx hb (-3) dX5_objector_32 (by decide +kernel) ?_
        refine W.widen (k := 2) (n := 52) (by omega) (by omega) ?_
        refine q_mreti hx hb hr hlocks hS dX5_objector_34 ?_ ?_
        · show _ = aObj S px py w
          unfold aObj
          rw [cI_t (by omega), cI_t (by omega)]
        · refine ⟨ad, rfl, ?_⟩
          unfold tObj
          rw [cI_f (fun z => by have z1 := z.1; have z2 := z.2; omega)]
          exact hC
    · refine lv_iconst (v := iI (-1)) hx hb dX5_objector_18 rfl ?_
      refine W.widen (k := 2) (n := 52) (by omega) (by omega) ?_
      refine q_mreti hx hb hr hlocks hS dX5_objector_19 ?_ ?_
      · show _ = aObj S px py w
        unfold aObj
        rw [cI_f (by omega)]
      · refine ⟨ad, rfl, ?_⟩
        unfold tObj
        rw [cI_f (fun z => by have z1 := z.1; have z2 := z.2; omega)]
        exact hC
