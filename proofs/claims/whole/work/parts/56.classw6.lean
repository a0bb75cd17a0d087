theorem nEv_t {S : St} {h d k v : Int} (c : ¬ ((k = 0 ∧ ¬ sTold S h v) ∨ (k ≠ 0 ∧ (k ≠ 1 ∨ sTold S h v)))) : nEv S h d k v := by
  refine Or.inr ?_
  by_cases z4 : k = 0
  · exact Or.inl ⟨z4, Classical.byContradiction (fun z5 => c (Or.inl ⟨z4, z5⟩))⟩
  · exact Or.inr ⟨Classical.byContradiction (fun z5 => c (Or.inr ⟨z4, Or.inl z5⟩)), fun z5 => c (Or.inr ⟨z4, Or.inr z5⟩)⟩
theorem nEv_f {S : St} {h d k v : Int} (c1 : S 18 h ≤ d) (c : (k = 0 ∧ ¬ sTold S h v) ∨ (k ≠ 0 ∧ (k ≠ 1 ∨ sTold S h v))) : ¬ nEv S h d k v := by
  intro z
  rcases z with z | z | z
  · omega
  · rcases c with y | y
    · exact y.2 z.2
    · exact y.1 z.1
  · rcases c with y | y
    · have z1 := z.1
      have y1 := y.1
      omega
    · rcases y.2 with y2 | y2
      · exact y2 z.1
      · exact z.2 y2
noncomputable def tEvC (S : St) (h d k v : Int) : St := cI (((0 ≤ h ∧ h < S 14 0) ∧ isD d ∧ vEv k v) ∧ ¬ nEv S h d k v ∧ S 19 h ≠ 16) (tellS S h d k v) S
theorem tEvC_ne (S : St) (h d k v : Int) {q : Nat} (hq : q ≠ 40) : tEvC S h d k v q = tEvent S h d k v q := by
  unfold tEvC tEvent
  by_cases c : ((0 ≤ h ∧ h < S 14 0) ∧ isD d ∧ vEv k v) ∧ ¬ nEv S h d k v ∧ S 19 h ≠ 16
  · rw [cI_t c, cI_t c]
    exact tellS_ne S h d k v hq
  · rw [cI_f c, cI_f c]
theorem InvC.xEvC {S : St} {h d k v : Int} (hI : Inv S) (hQ : InvC S) : InvC (tEvC S h d k v) := by
  unfold tEvC
  by_cases c : ((0 ≤ h ∧ h < S 14 0) ∧ isD d ∧ vEv k v) ∧ ¬ nEv S h d k v ∧ S 19 h ≠ 16
  · rw [cI_t c]
    exact InvC.xTell hI hQ c.1.1 c.1.2.1 c.2.1 c.2.2
  · rw [cI_f c]
    exact hQ

set_option maxHeartbeats 4000000 in
set_option maxRecDepth 100000 in
theorem cw_event (l : Launch) (g : GG) (x : XX) (P : Nat → Prop) (ad : AD) (S : St) (hI : Inv S) (hQ : InvC S) (sz : Nat) (hPb : ∀ q, P q → x.2.2 ≤ q) (hPs : ∀ q, sz ≤ q → P q) (h : Int) (d : Int) (k : Int) (v : Int) (r_h : R32 h) (r_d : R32 d) (r_k : R32 k) (r_v : R32 v)  : MetXM l yX5_event wsX5_event ({ frames := 8, cells := 2, slots := 53, locals := 215 }) g x [.ref (ad 0 0 0), .int (iI h), .int (iI d), .int (iI k), .int (iI v)] (fun H => H.size = sz ∧ RepC g x.2.1 P ad S H) (aEvent S h d k v) (fun H => ∃ ad', ad' 0 0 0 = ad 0 0 0 ∧ RepC g x.2.1 P ad' (tEvC S h d k v) H) P 2 53 := by
  refine Met.ofW (cc := cX5_event) (maxL := 6) (ret := (some .int)) (by decide) rfl ?_
  intro p e s m args below meth c s₁ B hml hv
  obtain ⟨rfl, hP, hK, hX⟩ := hv
  have hx := B.exec
  have hb := B.bytes
  have hr := B.returns
  have hts := atoms_spec (ws := wsX5_event) B.pre
  have hown : s.vm.findClass RX5 = some m.cls := findClass_of_methodNamed B.named
  have hlocks := B.notSynchronized
  have inX1 : ∀ w ∈ wsX10, w ∈ wsX5_event := by decide +kernel
  have hl := lv_entry ([.ref (ad 0 0 0), .int (iI h), .int (iI d), .int (iI k), .int (iI v)]) (n := 6) (Nat.le_of_ble_eq_true rfl)
  rw [lg_entry_eq]
  generalize (lg_sl ([.ref (ad 0 0 0), .int (iI h), .int (iI d), .int (iI k), .int (iI v)]) ++ List.replicate (6 - (lg_sl ([.ref (ad 0 0 0), .int (iI h), .int (iI d), .int (iI k), .int (iI v)])).length) Slot.unset).toArray = ls at hl ⊢
  have hl : lv_has ls 6 [(0, .ref (ad 0 0 0)), (1, .int (iI h)), (2, .int (iI d)), (3, .int (iI k)), (4, .int (iI v))] := hl
  have hS : va_S (P) s.heap s.heap [] := va_S.rf
  have hAb : ∀ q, (P) q → x.2.2 ≤ q := hPb
  obtain ⟨hsz0, hC⟩ := hP
  have hC0 := hC
  have hkp : KP s.heap s.heap := KP.rf
  have hN := hI.nums
  refine lv_aload_n hx hb dX5_event_0 rfl (lv_at hl 0 rfl) ?_
  refine lv_iload_n hx hb dX5_event_1 rfl (lv_at hl 1 rfl) ?_
  refine q_cVq (As := [.int (iI h)]) (rest := []) ⟨hx, hb, hml, hown, hts⟩ (c5_houseAt l g x.2.1 P ad S hI hQ h r_h) (cwV 1 hts gX5_event_X5_houseAt rfl rfl rfl (by decide +kernel) ⟨Nat.le_of_ble_eq_true rfl, Nat.le_of_ble_eq_true rfl⟩) (q_pV hK hC.obj rfl hC) rfl hl.1 rfl (Nat.le_of_ble_eq_true rfl) ⟨Nat.le_of_ble_eq_true rfl, Nat.le_of_ble_eq_true rfl⟩ dX5_event_2 ?_
  by_cases h0 : 0 ≤ h ∧ h < S 14 0
  · rw [show hOpt ad S h = some (ad 7 h 0) from if_pos h0]
    have hH := hI.house h0.1 h0.2
    refine lv_astore (lv' := [(5, .ref (ad 7 h 0)), (0, .ref (ad 0 0 0)), (1, .int (iI h)), (2, .int (iI d)), (3, .int (iI k)), (4, .int (iI v))]) hx hb dX5_event_5 hl (by decide) rfl (fun ls hl => ?_)
    refine q_aload hx hb dX5_event_7 (lv_at hl 0 rfl) ?_
    refine lv_ifnull hx hb dX5_event_9 ?_
    refine lv_iload_n hx hb dX5_event_12 rfl (lv_at hl 3 rfl) ?_
    refine q_cSi (As := [.int (iI d)]) (rest := []) ⟨hx, hb, hml, hown, hts⟩ (c5_isDay l g d r_d ) (va_cwS 1 hts gX5_event_X5_isDay rfl rfl rfl (by decide +kernel) ⟨Nat.le_of_ble_eq_true rfl, Nat.le_of_ble_eq_true rfl⟩) (q_pS hK trivial) rfl hl.1 rfl (Nat.le_of_ble_eq_true rfl) ⟨Nat.le_of_ble_eq_true rfl, Nat.le_of_ble_eq_true rfl⟩ dX5_event_13 ?_
    refine q_ifb_eq (tgt := 28) hx hb dX5_event_16 (by decide) (fun c16 => ?_) (fun c16 => ?_)
    · refine lv_iconst (v := iI (-1)) hx hb dX5_event_28 rfl ?_
      refine W.widen (k := 2) (n := 53) (by omega) (by omega) ?_
      refine q_mreti hx hb hr hlocks hS dX5_event_29 ?_ ?_
      · show _ = aEvent S h d k v
        unfold aEvent
        rw [cI_f (fun z => by have z1 := z.1; have z2 := z.2; omega)]
      · refine ⟨ad, rfl, ?_⟩
        unfold tEvC
        rw [cI_f (fun z => by have z1 := z.1.1; have z2 := z.1.2; omega)]
        exact hC
    · refine lv_iload_n hx hb dX5_event_19 rfl (lv_at hl 4 rfl) ?_
      refine lv_iload hx hb dX5_event_20 (lv_at hl 5 rfl) ?_
      refine q_cSi (As := [.int (iI k), .int (iI v)]) (rest := []) ⟨hx, hb, hml, hown, hts⟩ (c5_isEvent l g k v r_k r_v ) (va_cwS 2 hts gX5_event_X5_isEvent rfl rfl rfl (by decide +kernel) ⟨Nat.le_of_ble_eq_true rfl, Nat.le_of_ble_eq_true rfl⟩) (q_pS hK trivial) rfl hl.1 rfl (Nat.le_of_ble_eq_true rfl) ⟨Nat.le_of_ble_eq_true rfl, Nat.le_of_ble_eq_true rfl⟩ dX5_event_22 ?_
      refine q_ifb_ne (tgt := 30) hx hb dX5_event_25 (by decide) (fun c25 => ?_) (fun c25 => ?_)
      · refine lv_iload_n hx hb dX5_event_30 rfl (lv_at hl 3 rfl) ?_
        refine q_aload hx hb dX5_event_31 (lv_at hl 0 rfl) ?_
        refine q_get (v := .int (iI (S 18 h))) (C := RX1) (T := TX1) (N := 7) hx hb hts inX1 hown hK (hC.house (k := h) h0) rfl 3 (by decide) (hts (.fieldLink RX5 103 "TavernBench$House" "granted" "I") (by decide +kernel)) (fun _ h9 => h9) rfl dX5_event_33 ?_
        refine q_icmp_lt (tgt := 50) hx hb dX5_event_36 (by decide) r_d (hI.R (by decide)) (fun c36 => ?_) (fun c36 => ?_)
        · refine q_bipush hx hb (-2) dX5_event_50 (by decide +kernel) ?_
          refine W.widen (k := 2) (n := 53) (by omega) (by omega) ?_
          refine q_mreti hx hb hr hlocks hS dX5_event_52 ?_ ?_
          · have hne : nEv S h d k v := by
              first
              | exact Or.inl (by assumption)
              | exact nEv_t (by assumption)
            show _ = aEvent S h d k v
            unfold aEvent
            rw [cI_t ⟨h0, by omega, by omega⟩, cI_t hne]
          · have hne : nEv S h d k v := by
              first
              | exact Or.inl (by assumption)
              | exact nEv_t (by assumption)
            refine ⟨ad, rfl, ?_⟩
            unfold tEvC
            rw [cI_f (fun z => z.2.1 hne)]
            exact hC
        · refine q_aload hx hb dX5_event_39 (lv_at hl 0 rfl) ?_
          refine lv_iload_n hx hb dX5_event_41 rfl (lv_at hl 4 rfl) ?_
          refine lv_iload hx hb dX5_event_42 (lv_at hl 5 rfl) ?_
          refine q_cVi (As := [.int (iI k), .int (iI v)]) (rest := []) ⟨hx, hb, hml, hown, hts⟩ (c1_mayBeTold l g x.2.1 P ad S hI hQ h h0 k v r_k r_v) (cwV 2 hts gX5_event_X1_mayBeTold rfl rfl rfl (by decide +kernel) ⟨Nat.le_of_ble_eq_true rfl, Nat.le_of_ble_eq_true rfl⟩) (q_pV hK (hC.house (k := h) h0) rfl hC) rfl hl.1 rfl (Nat.le_of_ble_eq_true rfl) ⟨Nat.le_of_ble_eq_true rfl, Nat.le_of_ble_eq_true rfl⟩ dX5_event_44 ?_
          refine q_ifb_ne (tgt := 53) hx hb dX5_event_47 (by decide) (fun c47 => ?_) (fun c47 => ?_)
          · refine q_aload hx hb dX5_event_53 (lv_at hl 0 rfl) ?_
            refine q_get (v := .ref (ad 8 h 0)) (C := RX1) (T := TX1) (N := 7) hx hb hts inX1 hown hK (hC.house (k := h) h0) rfl 4 (by decide) (hts (.fieldLink RX5 109 "TavernBench$House" "events" "Ljava/util/ArrayList;") (by decide +kernel)) (fun _ h9 => h9) rfl dX5_event_55 ?_
            refine q_cVi (As := []) (rest := []) ⟨hx, hb, hml, hown, hts⟩ (c0_size l g x.2.1 (ad 8 h 0) (ad 9 h 0) (S 19 h)) (cwV 0 hts gX5_event_Jx4a65c_size_8abf5 rfl rfl rfl (by decide +kernel) ⟨Nat.le_of_ble_eq_true rfl, Nat.le_of_ble_eq_true rfl⟩) (q_pV hK (hC.hlst (k := h) (j := 0) h0 (by decide)) rfl (hC.hlst (k := h) (j := 0) h0 (by decide))) rfl hl.1 rfl (Nat.le_of_ble_eq_true rfl) ⟨Nat.le_of_ble_eq_true rfl, Nat.le_of_ble_eq_true rfl⟩ dX5_event_58 ?_
            refine q_bipush hx hb 16 dX5_event_61 (by decide +kernel) ?_
            refine q_icmp_lt (tgt := 69) hx hb dX5_event_63 (by decide) (hI.R (by decide)) (by decide) (fun c63 => ?_) (fun c63 => ?_)
            · refine q_aload hx hb dX5_event_69 (lv_at hl 0 rfl) ?_
              refine lv_iload_n hx hb dX5_event_71 rfl (lv_at hl 3 rfl) ?_
              refine lv_iload_n hx hb dX5_event_72 rfl (lv_at hl 4 rfl) ?_
              refine lv_iload hx hb dX5_event_73 (lv_at hl 5 rfl) ?_
              refine q_xVv (As := [.int (iI d), .int (iI k), .int (iI v)]) (rest := []) ⟨hx, hb, hml, hown, hts⟩ (cw_tell l g x P ad S hI hQ sz hPb hPs h h0 d k v r_d r_k r_v (by omega)) (cwV 3 hts gX5_event_X1_tell rfl rfl rfl (by decide +kernel) ⟨Nat.le_of_ble_eq_true rfl, Nat.le_of_ble_eq_true rfl⟩) (q_pVX hK hX hS hAb (hC.house (k := h) h0) rfl ⟨hsz0, hC⟩) rfl hl.1 rfl (Nat.le_of_ble_eq_true rfl) ⟨Nat.le_of_ble_eq_true rfl, Nat.le_of_ble_eq_true rfl⟩ dX5_event_75 hS (fun _ h => h) (fun H locs hM hz1 hk1 hS => ?_)
              obtain ⟨ad1, had1, had7, hC⟩ := hM
              have h0T : 0 ≤ h ∧ h < (tellS S h d k v) 14 0 := by rw [tellS_ne S h d k v (by decide)]; exact h0
              have e19 : (tellS S h d k v) 19 h = S 19 h + 1 := by rw [tellS_ne S h d k v (by decide)]; simp [newEvent, up]
              have hHo := hC.house (k := h) h0T
              rw [had7] at hHo
              have hL1 := hC.hlst (k := h) (j := 0) h0T (by decide)
              rw [show hlen (tellS S h d k v) h 0 = S 19 h + 1 from e19] at hL1
              refine q_aload hx hb dX5_event_78 (lv_at hl 0 rfl) ?_
              refine q_get (v := .ref (ad1 8 h 0)) (C := RX1) (T := TX1) (N := 7) hx hb hts inX1 hown hK hHo rfl 4 (by decide) (hts (.fieldLink RX5 109 "TavernBench$House" "events" "Ljava/util/ArrayList;") (by decide +kernel)) (fun _ h9 => h9) rfl dX5_event_80 ?_
              refine q_cVi (As := []) (rest := []) ⟨hx, hb, hml, hown, hts⟩ (c0_size l g x.2.1 (ad1 8 h 0) (ad1 9 h 0) (S 19 h + 1)) (cwV 0 hts gX5_event_Jx4a65c_size_8abf5 rfl rfl rfl (by decide +kernel) ⟨Nat.le_of_ble_eq_true rfl, Nat.le_of_ble_eq_true rfl⟩) (q_pV hK hL1 rfl hL1) rfl hl.1 rfl (Nat.le_of_ble_eq_true rfl) ⟨Nat.le_of_ble_eq_true rfl, Nat.le_of_ble_eq_true rfl⟩ dX5_event_83 ?_
              refine W.widen (k := 2) (n := 53) (by omega) (by omega) ?_
              refine q_mreti hx hb hr hlocks hS dX5_event_86 ?_ ?_
              · have hne : ¬ nEv S h d k v := nEv_f (by omega) (by assumption)
                show _ = aEvent S h d k v
                unfold aEvent
                rw [cI_t ⟨h0, by omega, by omega⟩, cI_f hne, cI_f (by omega)]
              · have hne : ¬ nEv S h d k v := nEv_f (by omega) (by assumption)
                refine ⟨ad1, had1, ?_⟩
                unfold tEvC
                rw [cI_t ⟨⟨h0, by omega, by omega⟩, hne, by omega⟩]
                exact hC
            · refine q_bipush hx hb (-3) dX5_event_66 (by decide +kernel) ?_
              refine W.widen (k := 2) (n := 53) (by omega) (by omega) ?_
              refine q_mreti hx hb hr hlocks hS dX5_event_68 ?_ ?_
              · have hne : ¬ nEv S h d k v := nEv_f (by omega) (by assumption)
                show _ = aEvent S h d k v
                unfold aEvent
                rw [cI_t ⟨h0, by omega, by omega⟩, cI_f hne, cI_t (by omega)]
              · have hne : ¬ nEv S h d k v := nEv_f (by omega) (by assumption)
                refine ⟨ad, rfl, ?_⟩
                unfold tEvC
                rw [cI_f (fun z => z.2.2 (by omega))]
                exact hC
          · refine q_bipush hx hb (-2) dX5_event_50 (by decide +kernel) ?_
            refine W.widen (k := 2) (n := 53) (by omega) (by omega) ?_
            refine q_mreti hx hb hr hlocks hS dX5_event_52 ?_ ?_
            · have hne : nEv S h d k v := by
                first
                | exact Or.inl (by assumption)
                | exact nEv_t (by assumption)
              show _ = aEvent S h d k v
              unfold aEvent
              rw [cI_t ⟨h0, by omega, by omega⟩, cI_t hne]
            · have hne : nEv S h d k v := by
                first
                | exact Or.inl (by assumption)
                | exact nEv_t (by assumption)
              refine ⟨ad, rfl, ?_⟩
              unfold tEvC
              rw [cI_f (fun z => z.2.1 hne)]
              exact hC
      · refine lv_iconst (v := iI (-1)) hx hb dX5_event_28 rfl ?_
        refine W.widen (k := 2) (n := 53) (by omega) (by omega) ?_
        refine q_mreti hx hb hr hlocks hS dX5_event_29 ?_ ?_
        · show _ = aEvent S h d k v
          unfold aEvent
          rw [cI_f (fun z => by have z1 := z.1; have z2 := z.2; omega)]
        · refine ⟨ad, rfl, ?_⟩
          unfold tEvC
          rw [cI_f (fun z => by have z1 := z.1.1; have z2 := z.1.2; omega)]
          exact hC
  · rw [show hOpt ad S h = none from if_neg h0]
    refine lv_astoreN (lv' := [(5, .null), (0, .ref (ad 0 0 0)), (1, .int (iI h)), (2, .int (iI d)), (3, .int (iI k)), (4, .int (iI v))]) hx hb dX5_event_5 hl (by decide) rfl (fun ls hl => ?_)
    refine lv_aloadN hx hb dX5_event_7 (lv_at hl 0 rfl) ?_
    refine lv_ifnullN (tgt := 28) hx hb dX5_event_9 (by decide) ?_
    refine lv_iconst (v := iI (-1)) hx hb dX5_event_28 rfl ?_
    refine W.widen (k := 2) (n := 53) (by omega) (by omega) ?_
    refine q_mreti hx hb hr hlocks hS dX5_event_29 ?_ ?_
    · show _ = aEvent S h d k v
      unfold aEvent
      rw [cI_f (fun z => by have z1 := z.1; have z2 := z.2; omega)]
    · refine ⟨ad, rfl, ?_⟩
      unfold tEvC
      rw [cI_f (fun z => by have z1 := z.1.1; have z2 := z.1.2; omega)]
      exact hC

theorem cI_max (a b : Int) : cI (a < b) b a = max a b := by
  by_cases z : a < b
  · rw [cI_t z]; omega
  · rw [cI_f z]; omega

set_option maxHeartbeats 4000000 in
set_option maxRecDepth 100000 in
theorem cw_worth (l : Launch) (g : GG) (x : XX) (P : Nat → Prop) (ad : AD) (S : St) (hI : Inv S) (hQ : InvC S) (sz : Nat) (hPb : ∀ q, P q → x.2.2 ≤ q) (hPs : ∀ q, sz ≤ q → P q) (h : Int) (d : Int) (w : Int) (r_h : R32 h) (r_d : R32 d) (r_w : R32 w)  : MetXM l yX5_worth wsX5_worth ({ frames := 7, cells := 2, slots := 51, locals := 191 }) g x [.ref (ad 0 0 0), .int (iI h), .int (iI d), .int (iI w)] (fun H => H.size = sz ∧ RepC g x.2.1 P ad S H) (aWorth S h d w) (fun H => ∃ ad', ad' 0 0 0 = ad 0 0 0 ∧ RepC g x.2.1 P ad' (tWorth S h d w) H) P 2 51 := by
  refine Met.ofW (cc := cX5_worth) (maxL := 5) (ret := (some .int)) (by decide) rfl ?_
  intro p e s m args below meth c s₁ B hml hv
  obtain ⟨rfl, hP, hK, hX⟩ := hv
  have hx := B.exec
  have hb := B.bytes
  have hr := B.returns
  have hts := atoms_spec (ws := wsX5_worth) B.pre
  have hown : s.vm.findClass RX5 = some m.cls := findClass_of_methodNamed B.named
  have hlocks := B.notSynchronized
  have inX1 : ∀ w ∈ wsX10, w ∈ wsX5_worth := by decide +kernel
  have inX4 : ∀ w ∈ wsX40, w ∈ wsX5_worth := by decide +kernel
  have hl := lv_entry ([.ref (ad 0 0 0), .int (iI h), .int (iI d), .int (iI w)]) (n := 5) (Nat.le_of_ble_eq_true rfl)
  rw [lg_entry_eq]
  generalize (lg_sl ([.ref (ad 0 0 0), .int (iI h), .int (iI d), .int (iI w)]) ++ List.replicate (5 - (lg_sl ([.ref (ad 0 0 0), .int (iI h), .int (iI d), .int (iI w)])).length) Slot.unset).toArray = ls at hl ⊢
  have hl : lv_has ls 5 [(0, .ref (ad 0 0 0)), (1, .int (iI h)), (2, .int (iI d)), (3, .int (iI w))] := hl
  have hS : va_S (P) s.heap s.heap [] := va_S.rf
  have hAb : ∀ q, (P) q → x.2.2 ≤ q := hPb
  obtain ⟨hsz0, hC⟩ := hP
  have hC0 := hC
  have hkp : KP s.heap s.heap := KP.rf
  have hN := hI.nums
  refine lv_aload_n hx hb dX5_worth_0 rfl (lv_at hl 0 rfl) ?_
  refine lv_iload_n hx hb dX5_worth_1 rfl (lv_at hl 1 rfl) ?_
  refine q_cVq (As := [.int (iI h)]) (rest := []) ⟨hx, hb, hml, hown, hts⟩ (c5_houseAt l g x.2.1 P ad S hI hQ h r_h) (cwV 1 hts gX5_worth_X5_houseAt rfl rfl rfl (by decide +kernel) ⟨Nat.le_of_ble_eq_true rfl, Nat.le_of_ble_eq_true rfl⟩) (q_pV hK hC.obj rfl hC) rfl hl.1 rfl (Nat.le_of_ble_eq_true rfl) ⟨Nat.le_of_ble_eq_true rfl, Nat.le_of_ble_eq_true rfl⟩ dX5_worth_2 ?_
  by_cases h0 : 0 ≤ h ∧ h < S 14 0
  · rw [show hOpt ad S h = some (ad 7 h 0) from if_pos h0]
    have hH := hI.house h0.1 h0.2
    refine lv_astore (lv' := [(4, .ref (ad 7 h 0)), (0, .ref (ad 0 0 0)), (1, .int (iI h)), (2, .int (iI d)), (3, .int (iI w))]) hx hb dX5_worth_5 hl (by decide) rfl (fun ls hl => ?_)
    refine q_aload hx hb dX5_worth_7 (lv_at hl 0 rfl) ?_
    refine lv_ifnull hx hb dX5_worth_9 ?_
    refine lv_iload_n hx hb dX5_worth_12 rfl (lv_at hl 3 rfl) ?_
    refine q_cSi (As := [.int (iI d)]) (rest := []) ⟨hx, hb, hml, hown, hts⟩ (c5_isDay l g d r_d ) (va_cwS 1 hts gX5_worth_X5_isDay rfl rfl rfl (by decide +kernel) ⟨Nat.le_of_ble_eq_true rfl, Nat.le_of_ble_eq_true rfl⟩) (q_pS hK trivial) rfl hl.1 rfl (Nat.le_of_ble_eq_true rfl) ⟨Nat.le_of_ble_eq_true rfl, Nat.le_of_ble_eq_true rfl⟩ dX5_worth_13 ?_
    refine q_ifb_eq (tgt := 26) hx hb dX5_worth_16 (by decide) (fun c16 => ?_) (fun c16 => ?_)
    · refine lv_iconst (v := iI (-1)) hx hb dX5_worth_26 rfl ?_
      refine W.widen (k := 2) (n := 51) (by omega) (by omega) ?_
      refine q_mreti hx hb hr hlocks hS dX5_worth_27 ?_ ?_
      · show _ = aWorth S h d w
        unfold aWorth
        rw [cI_f (fun z => by have z1 := z.1; have z2 := z.2; omega)]
      · refine ⟨ad, rfl, ?_⟩
        unfold tWorth
        rw [cI_f (fun z => by have z1 := z.1.1; have z2 := z.1.2; omega)]
        exact hC
    · refine lv_iload_n hx hb dX5_worth_19 rfl (lv_at hl 4 rfl) ?_
      refine q_cSi (As := [.int (iI w)]) (rest := []) ⟨hx, hb, hml, hown, hts⟩ (c5_isWorth l g w r_w ) (va_cwS 1 hts gX5_worth_X5_isWorth rfl rfl rfl (by decide +kernel) ⟨Nat.le_of_ble_eq_true rfl, Nat.le_of_ble_eq_true rfl⟩) (q_pS hK trivial) rfl hl.1 rfl (Nat.le_of_ble_eq_true rfl) ⟨Nat.le_of_ble_eq_true rfl, Nat.le_of_ble_eq_true rfl⟩ dX5_worth_20 ?_
      refine q_ifb_ne (tgt := 28) hx hb dX5_worth_23 (by decide) (fun c23 => ?_) (fun c23 => ?_)
      · refine q_aload hx hb dX5_worth_28 (lv_at hl 0 rfl) ?_
        refine q_get (v := .ref (ad 8 h 1)) (C := RX1) (T := TX1) (N := 7) hx hb hts inX1 hown hK (hC.house (k := h) h0) rfl 5 (by decide) (hts (.fieldLink RX5 115 "TavernBench$House" "worths" "Ljava/util/ArrayList;") (by decide +kernel)) (fun _ h9 => h9) rfl dX5_worth_30 ?_
        refine q_cVi (As := []) (rest := []) ⟨hx, hb, hml, hown, hts⟩ (c0_size l g x.2.1 (ad 8 h 1) (ad 9 h 1) (S 23 h)) (cwV 0 hts gX5_worth_Jx4a65c_size_8abf5 rfl rfl rfl (by decide +kernel) ⟨Nat.le_of_ble_eq_true rfl, Nat.le_of_ble_eq_true rfl⟩) (q_pV hK (hC.hlst (k := h) (j := 1) h0 (by decide)) rfl (hC.hlst (k := h) (j := 1) h0 (by decide))) rfl hl.1 rfl (Nat.le_of_ble_eq_true rfl) ⟨Nat.le_of_ble_eq_true rfl, Nat.le_of_ble_eq_true rfl⟩ dX5_worth_33 ?_
        refine q_bipush hx hb 8 dX5_worth_36 (by decide +kernel) ?_
        refine q_icmp_lt (tgt := 44) hx hb dX5_worth_38 (by decide) (hI.R (by decide)) (by decide) (fun c38 => ?_) (fun c38 => ?_)
        · refine q_aload hx hb dX5_worth_44 (lv_at hl 0 rfl) ?_
          refine q_get (v := .ref (ad 8 h 1)) (C := RX1) (T := TX1) (N := 7) hx hb hts inX1 hown hK (hC.house (k := h) h0) rfl 5 (by decide) (hts (.fieldLink RX5 115 "TavernBench$House" "worths" "Ljava/util/ArrayList;") (by decide +kernel)) (fun _ h9 => h9) rfl dX5_worth_46 ?_
          refine q_newN (ci := 5) (fs := [.int (iI 0), .int (iI 0)]) hx hb hts inX4 tyX4 tyX4_ok hown (hts (.classLink RX5 118 RX4) (by decide +kernel)) (hts (.instantiable RX4 2) (by decide +kernel)) (hts (.initialized RX4) (by decide +kernel)) hK rfl hS (fun j hj => by rcases j with _ | _ | j <;> first | rfl | omega) (Nat.le_of_ble_eq_true rfl) (Nat.le_of_ble_eq_true rfl) dX5_worth_49 (fun nw49 H hqnw49 hOnw49 hz1 ho1 hS => ?_)
          have hltnw49 : nw49 < H.size := va_at.lt2 hOnw49
          have hgenw49 : s.heap.size ≤ nw49 := by have h9 := hkp.1; omega
          have hkp := hkp.new hz1 ho1
          have hbxnw49 : x.2.2 ≤ nw49 := hPb _ (hPs _ (by omega))
          refine lv_dup hx hb dX5_worth_52 rfl ?_
          have hCk := hC.kp hkp
          refine lv_iload_n hx hb dX5_worth_53 rfl (lv_at hl 3 rfl) ?_
          refine q_aload hx hb dX5_worth_54 (lv_at hl 0 rfl) ?_
          refine q_get (v := .int (iI (S 18 h))) (C := RX1) (T := TX1) (N := 7) hx hb hts inX1 hown hK (hCk.house (k := h) h0) rfl 3 (by decide) (hts (.fieldLink RX5 103 "TavernBench$House" "granted" "I") (by decide +kernel)) (fun _ h9 => h9) rfl dX5_worth_56 ?_
          refine q_mmax hx hb (hml.trans hl.1.symm) hown (hts (.methodLink RX5 120 Lib.Math.max.name) (by decide +kernel)) (hts (.static Lib.Math.max.name) (by decide +kernel)) (hts (.initialized "java/lang/Math") (by decide +kernel)) (hts (.code Lib.Math.max.name Lib.Math.max.code 2 (some .int)) (by decide +kernel)) (Nat.le_of_ble_eq_true rfl) (Nat.le_of_ble_eq_true rfl) (Nat.le_of_ble_eq_true rfl) (Nat.le_of_ble_eq_true rfl) dX5_worth_59 r_d (hI.R (by decide)) ?_
          refine lv_iload_n hx hb dX5_worth_62 rfl (lv_at hl 4 rfl) ?_
          refine q_xI (As := [.int (iI (max d (S 18 h))), .int (iI w)]) (rest := [.ref nw49, .ref (ad 8 h 1)]) ⟨hx, hb, hml, hown, hts⟩ (cc_worth l g x nw49 (max d (S 18 h)) w (by omega)) (cwI 2 hts gX5_worth_X4_init rfl rfl rfl (hts (.initialized RX4) (by decide +kernel)) (hts (.methodLink RX5 126 yX4_init) (by decide +kernel)) (hts (.instanceMethod yX4_init) (by decide +kernel)) rfl (by decide +kernel) ⟨Nat.le_of_ble_eq_true rfl, Nat.le_of_ble_eq_true rfl⟩) (q_pSX hK hX hS hAb hOnw49) rfl hl.1 rfl (Nat.le_of_ble_eq_true rfl) ⟨Nat.le_of_ble_eq_true rfl, Nat.le_of_ble_eq_true rfl⟩ dX5_worth_63 hS (fun q h => by rw [show q = nw49 from h]; exact (hPs _ (by omega))) (fun H locs hOnw49 hz1 hk1 hS => ?_)
          have hkp := hkp.call hz1 hk1 (fun q h9 h8 => by first | omega | (rcases h8 with h8 | h8 <;> omega))
          obtain ⟨szA, hszA⟩ : ∃ szA : Nat, H.size = szA := ⟨_, rfl⟩
          have hC1 := hC.kp hkp
          have hkz := hkp.1
          have l3 := hC.lt (live8 (j := 1) h0 (by decide))
          have hvl : nw49 ≠ ad 8 h 1 := by omega
          have hvb : 0 < S 23 h → nw49 ≠ ad 9 h 1 := fun z => by have h9 := hC.lt (live9 (S := S) (k := h) (j := 1) h0 (by decide) z); omega
          have hb2 : x.2.2 ≤ szA := hPb _ (hPs _ (by omega))
          refine q_xVi (As := [.ref nw49]) (rest := []) ⟨hx, hb, hml, hown, hts⟩ (cj_addE l g x (ad 8 h 1) (ad 9 h 1) szA 5 nw49 _ (S 23 h) (fun q => ad 11 h q) rfl (by decide) (hPb _ (hC.1 8 h 1 (live8 h0 (by decide))).2) (fun z => hPb _ (hC.1 9 h 1 (live9 (S := S) (k := h) (j := 1) h0 (by decide) z)).2) hb2 (fun z e => absurd (hC.2 _ _ _ _ _ _ (live8 h0 (by decide)) (live9 (S := S) (k := h) (j := 1) h0 (by decide) z) e).1 (by decide)) hvl hvb (fun i h1 h2 e => absurd (hC.2 _ _ _ _ _ _ (live11 h0 ⟨h1, h2⟩) (live8 h0 (by decide)) e).1 (by decide)) ⟨by omega, by omega⟩) (cwV 1 hts gX5_worth_Jx4a65c_add_9ea2d rfl rfl rfl (by decide +kernel) ⟨Nat.le_of_ble_eq_true rfl, Nat.le_of_ble_eq_true rfl⟩) (q_pVX hK hX hS hAb (hC1.hlst (k := h) (j := 1) h0 (by decide)) rfl ⟨hszA, hC1.hlst (k := h) (j := 1) h0 (by decide), fun z => hC1.harr (k := h) (j := 1) h0 (by decide) z, fun i h1 h2 => ⟨_, hC1.worth h0 ⟨h1, h2⟩⟩, _, hOnw49⟩) rfl hl.1 rfl (Nat.le_of_ble_eq_true rfl) ⟨Nat.le_of_ble_eq_true rfl, Nat.le_of_ble_eq_true rfl⟩ dX5_worth_66 hS (fun q z => z.elim (fun z => by rw [z]; exact (hC.1 8 h 1 (live8 h0 (by decide))).2) (fun z => z.elim (fun z => by rw [z.2]; exact (hC.1 9 h 1 (live9 (S := S) (k := h) (j := 1) h0 (by decide) z.1)).2) (fun z => hPs _ (by have z2 : szA ≤ q := z; omega)))) (fun H locs hM hz1 hk1 hS => ?_)
          have hOnw49 := hOnw49.kept (hk1 _ (va_at.lt2 hOnw49) (fun h9 => h9.elim hvl (fun h9 => h9.elim (fun z => hvb z.1 z.2) (fun z => by have z2 : szA ≤ _ := z; omega))))
          obtain ⟨ad1, had1, had7, hC⟩ := hC.addWorth (h := h) (t := max d (S 18 h)) (w := w) h0 ⟨by omega, by omega⟩ (fun i z0 z1 => (hI.house z0 z1).2.1.2.2) hkp hOnw49 ⟨by omega, by omega⟩ hM hk1 hszA (fun q h => hPs _ (by omega))
          have h0T : 0 ≤ h ∧ h < (woS S h (max d (S 18 h)) w) 14 0 := h0
          have e23 : (woS S h (max d (S 18 h)) w) 23 h = S 23 h + 1 := by simp [woS, up]
          have hHo := hC.house (k := h) h0T
          rw [had7] at hHo
          have hL1 := hC.hlst (k := h) (j := 1) h0T (by decide)
          rw [show hlen (woS S h (max d (S 18 h)) w) h 1 = S 23 h + 1 from e23] at hL1
          refine lv_pop hx hb dX5_worth_69 rfl ?_
          refine q_aload hx hb dX5_worth_70 (lv_at hl 0 rfl) ?_
          refine q_get (v := .ref (ad1 8 h 1)) (C := RX1) (T := TX1) (N := 7) hx hb hts inX1 hown hK hHo rfl 5 (by decide) (hts (.fieldLink RX5 115 "TavernBench$House" "worths" "Ljava/util/ArrayList;") (by decide +kernel)) (fun _ h9 => h9) rfl dX5_worth_72 ?_
          refine q_cVi (As := []) (rest := []) ⟨hx, hb, hml, hown, hts⟩ (c0_size l g x.2.1 (ad1 8 h 1) (ad1 9 h 1) (S 23 h + 1)) (cwV 0 hts gX5_worth_Jx4a65c_size_8abf5 rfl rfl rfl (by decide +kernel) ⟨Nat.le_of_ble_eq_true rfl, Nat.le_of_ble_eq_true rfl⟩) (q_pV hK hL1 rfl hL1) rfl hl.1 rfl (Nat.le_of_ble_eq_true rfl) ⟨Nat.le_of_ble_eq_true rfl, Nat.le_of_ble_eq_true rfl⟩ dX5_worth_75 ?_
          refine W.widen (k := 2) (n := 51) (by omega) (by omega) ?_
          refine q_mreti hx hb hr hlocks hS dX5_worth_78 ?_ ?_
          · show _ = aWorth S h d w
            unfold aWorth
            rw [cI_t ⟨h0, by omega, by omega⟩, cI_f (by omega)]
          · refine ⟨ad1, had1, ?_⟩
            unfold tWorth
            rw [cI_t ⟨⟨h0, by omega, by omega⟩, by omega⟩]
            unfold newWorth
            rw [show cI (d < S 18 h) (S 18 h) d = max d (S 18 h) from cI_max d (S 18 h)]
            exact hC
        · refine q_bipush hx hb (-3) dX5_worth_41 (by decide +kernel) ?_
          refine W.widen (k := 2) (n := 51) (by omega) (by omega) ?_
          refine q_mreti hx hb hr hlocks hS dX5_worth_43 ?_ ?_
          · show _ = aWorth S h d w
            unfold aWorth
            rw [cI_t ⟨h0, by omega, by omega⟩, cI_t (by omega)]
          · refine ⟨ad, rfl, ?_⟩
            unfold tWorth
            rw [cI_f (fun z => z.2 (by omega))]
            exact hC
      · refine lv_iconst (v := iI (-1)) hx hb dX5_worth_26 rfl ?_
        refine W.widen (k := 2) (n := 51) (by omega) (by omega) ?_
        refine q_mreti hx hb hr hlocks hS dX5_worth_27 ?_ ?_
        · show _ = aWorth S h d w
          unfold aWorth
          rw [cI_f (fun z => by have z1 := z.1; have z2 := z.2; omega)]
        · refine ⟨ad, rfl, ?_⟩
          unfold tWorth
          rw [cI_f (fun z => by have z1 := z.1.1; have z2 := z.1.2; omega)]
          exact hC
  · rw [show hOpt ad S h = none from if_neg h0]
    refine lv_astoreN (lv' := [(4, .null), (0, .ref (ad 0 0 0)), (1, .int (iI h)), (2, .int (iI d)), (3, .int (iI w))]) hx hb dX5_worth_5 hl (by decide) rfl (fun ls hl => ?_)
    refine lv_aloadN hx hb dX5_worth_7 (lv_at hl 0 rfl) ?_
    refine lv_ifnullN (tgt := 26) hx hb dX5_worth_9 (by decide) ?_
    refine lv_iconst (v := iI (-1)) hx hb dX5_worth_26 rfl ?_
    refine W.widen (k := 2) (n := 51) (by omega) (by omega) ?_
    refine q_mreti hx hb hr hlocks hS dX5_worth_27 ?_ ?_
    · show _ = aWorth S h d w
      unfold aWorth
      rw [cI_f (fun z => by have z1 := z.1; have z2 := z.2; omega)]
    · refine ⟨ad, rfl, ?_⟩
      unfold tWorth
      rw [cI_f (fun z => by have z1 := z.1.1; have z2 := z.1.2; omega)]
      exact hC

set_option maxHeartbeats 4000000 in
set_option maxRecDepth 100000 in
theorem cw_ask (l : Launch) (g : GG) (x : XX) (P : Nat → Prop) (ad : AD) (S : St) (hI : Inv S) (hQ : InvC S) (sz : Nat) (hPb : ∀ q, P q → x.2.2 ≤ q) (hPs : ∀ q, sz ≤ q → P q) (px : Int) (py : Int) (k : Int) (w : Int) (no : Int) (se : Int) (r_px : R32 px) (r_py : R32 py) (r_k : R32 k) (r_w : R32 w) (r_no : R32 no) (r_se : R32 se)  : MetXM l yX5_ask wsX5_ask ({ frames := 9, cells := 6, slots := 113, locals := 216 }) g x [.ref (ad 0 0 0), .int (iI px), .int (iI py), .int (iI k), .int (iI w), .int (iI no), .int (iI se)] (fun H => H.size = sz ∧ RepC g x.2.1 P ad S H) (aAsk S px py k w no se) (fun H => ∃ ad', ad' 0 0 0 = ad 0 0 0 ∧ RepC g x.2.1 P ad' (tAsk S px py k w no se) H) P 6 113 := by
  refine Met.ofW (cc := cX5_ask) (maxL := 8) (ret := (some .int)) (by decide) rfl ?_
  intro p e s m args below meth c s₁ B hml hv
  obtain ⟨rfl, hP, hK, hX⟩ := hv
  have hx := B.exec
  have hb := B.bytes
  have hr := B.returns
  have hts := atoms_spec (ws := wsX5_ask) B.pre
  have hown : s.vm.findClass RX5 = some m.cls := findClass_of_methodNamed B.named
  have hlocks := B.notSynchronized
  have inX1 : ∀ w ∈ wsX10, w ∈ wsX5_ask := by decide +kernel
  have inX5 : ∀ w ∈ wsX50, w ∈ wsX5_ask := by decide +kernel
  have hl := lv_entry ([.ref (ad 0 0 0), .int (iI px), .int (iI py), .int (iI k), .int (iI w), .int (iI no), .int (iI se)]) (n := 8) (Nat.le_of_ble_eq_true rfl)
  rw [lg_entry_eq]
  generalize (lg_sl ([.ref (ad 0 0 0), .int (iI px), .int (iI py), .int (iI k), .int (iI w), .int (iI no), .int (iI se)]) ++ List.replicate (8 - (lg_sl ([.ref (ad 0 0 0), .int (iI px), .int (iI py), .int (iI k), .int (iI w), .int (iI no), .int (iI se)])).length) Slot.unset).toArray = ls at hl ⊢
  have hl : lv_has ls 8 [(0, .ref (ad 0 0 0)), (1, .int (iI px)), (2, .int (iI py)), (3, .int (iI k)), (4, .int (iI w)), (5, .int (iI no)), (6, .int (iI se))] := hl
  have hS : va_S (P) s.heap s.heap [] := va_S.rf
  have hAb : ∀ q, (P) q → x.2.2 ≤ q := hPb
  obtain ⟨hsz0, hC⟩ := hP
  have hC0 := hC
  have hkp : KP s.heap s.heap := KP.rf
  have hN := hI.nums
  refine lv_iload_n hx hb dX5_ask_0 rfl (lv_at hl 1 rfl) ?_
  refine lv_iload_n hx hb dX5_ask_1 rfl (lv_at hl 2 rfl) ?_
  refine q_cSi (As := [.int (iI px), .int (iI py)]) (rest := []) ⟨hx, hb, hml, hown, hts⟩ (c5_isPlace l g px py r_px r_py ) (va_cwS 2 hts gX5_ask_X5_isPlace rfl rfl rfl (by decide +kernel) ⟨Nat.le_of_ble_eq_true rfl, Nat.le_of_ble_eq_true rfl⟩) (q_pS hK trivial) rfl hl.1 rfl (Nat.le_of_ble_eq_true rfl) ⟨Nat.le_of_ble_eq_true rfl, Nat.le_of_ble_eq_true rfl⟩ dX5_ask_2 ?_
  refine q_ifb_eq (tgt := 23) hx hb dX5_ask_5 (by decide) (fun c5 => ?_) (fun c5 => ?_)
  · refine lv_iconst (v := iI (-1)) hx hb dX5_ask_23 rfl ?_
    refine W.widen (k := 6) (n := 113) (by omega) (by omega) ?_
    refine q_mreti hx hb hr hlocks hS dX5_ask_24 ?_ ?_
    · show _ = aAsk S px py k w no se
      unfold aAsk
      rw [cI_f (by omega)]
    · refine ⟨ad, rfl, ?_⟩
      unfold tAsk
      rw [cI_f (fun z => by have z1 := z.1; omega)]
      exact hC
  · refine lv_iload_n hx hb dX5_ask_8 rfl (lv_at hl 3 rfl) ?_
    refine q_cSi (As := [.int (iI k)]) (rest := []) ⟨hx, hb, hml, hown, hts⟩ (c5_isKind l g k r_k ) (va_cwS 1 hts gX5_ask_X5_isKind rfl rfl rfl (by decide +kernel) ⟨Nat.le_of_ble_eq_true rfl, Nat.le_of_ble_eq_true rfl⟩) (q_pS hK trivial) rfl hl.1 rfl (Nat.le_of_ble_eq_true rfl) ⟨Nat.le_of_ble_eq_true rfl, Nat.le_of_ble_eq_true rfl⟩ dX5_ask_9 ?_
    refine q_ifb_eq (tgt := 23) hx hb dX5_ask_12 (by decide) (fun c12 => ?_) (fun c12 => ?_)
    · refine lv_iconst (v := iI (-1)) hx hb dX5_ask_23 rfl ?_
      refine W.widen (k := 6) (n := 113) (by omega) (by omega) ?_
      refine q_mreti hx hb hr hlocks hS dX5_ask_24 ?_ ?_
      · show _ = aAsk S px py k w no se
        unfold aAsk
        rw [cI_f (by omega)]
      · refine ⟨ad, rfl, ?_⟩
        unfold tAsk
        rw [cI_f (fun z => by have z1 := z.1; omega)]
        exact hC
    · refine lv_iload hx hb dX5_ask_15 (lv_at hl 4 rfl) ?_
      refine q_cSi (As := [.int (iI w)]) (rest := []) ⟨hx, hb, hml, hown, hts⟩ (c5_isWorth l g w r_w ) (va_cwS 1 hts gX5_ask_X5_isWorth rfl rfl rfl (by decide +kernel) ⟨Nat.le_of_ble_eq_true rfl, Nat.le_of_ble_eq_true rfl⟩) (q_pS hK trivial) rfl hl.1 rfl (Nat.le_of_ble_eq_true rfl) ⟨Nat.le_of_ble_eq_true rfl, Nat.le_of_ble_eq_true rfl⟩ dX5_ask_17 ?_
      refine q_ifb_ne (tgt := 25) hx hb dX5_ask_20 (by decide) (fun c20 => ?_) (fun c20 => ?_)
      · refine lv_iload hx hb dX5_ask_25 (lv_at hl 5 rfl) ?_
        refine q_cSi (As := [.int (iI no)]) (rest := []) ⟨hx, hb, hml, hown, hts⟩ (c5_isDay l g no r_no ) (va_cwS 1 hts gX5_ask_X5_isDay rfl rfl rfl (by decide +kernel) ⟨Nat.le_of_ble_eq_true rfl, Nat.le_of_ble_eq_true rfl⟩) (q_pS hK trivial) rfl hl.1 rfl (Nat.le_of_ble_eq_true rfl) ⟨Nat.le_of_ble_eq_true rfl, Nat.le_of_ble_eq_true rfl⟩ dX5_ask_27 ?_
        refine q_ifb_eq (tgt := 48) hx hb dX5_ask_30 (by decide) (fun c30 => ?_) (fun c30 => ?_)
        · refine lv_iconst (v := iI (-1)) hx hb dX5_ask_48 rfl ?_
          refine W.widen (k := 6) (n := 113) (by omega) (by omega) ?_
          refine q_mreti hx hb hr hlocks hS dX5_ask_49 ?_ ?_
          · show _ = aAsk S px py k w no se
            unfold aAsk
            rw [cI_f (by omega)]
          · refine ⟨ad, rfl, ?_⟩
            unfold tAsk
            rw [cI_f (fun z => by have z1 := z.1; omega)]
            exact hC
        · refine lv_iload hx hb dX5_ask_33 (lv_at hl 6 rfl) ?_
          refine q_cSi (As := [.int (iI se)]) (rest := []) ⟨hx, hb, hml, hown, hts⟩ (c5_isDay l g se r_se ) (va_cwS 1 hts gX5_ask_X5_isDay rfl rfl rfl (by decide +kernel) ⟨Nat.le_of_ble_eq_true rfl, Nat.le_of_ble_eq_true rfl⟩) (q_pS hK trivial) rfl hl.1 rfl (Nat.le_of_ble_eq_true rfl) ⟨Nat.le_of_ble_eq_true rfl, Nat.le_of_ble_eq_true rfl⟩ dX5_ask_35 ?_
          refine q_ifb_eq (tgt := 48) hx hb dX5_ask_38 (by decide) (fun c38 => ?_) (fun c38 => ?_)
          · refine lv_iconst (v := iI (-1)) hx hb dX5_ask_48 rfl ?_
            refine W.widen (k := 6) (n := 113) (by omega) (by omega) ?_
            refine q_mreti hx hb hr hlocks hS dX5_ask_49 ?_ ?_
            · show _ = aAsk S px py k w no se
              unfold aAsk
              rw [cI_f (by omega)]
            · refine ⟨ad, rfl, ?_⟩
              unfold tAsk
              rw [cI_f (fun z => by have z1 := z.1; omega)]
              exact hC
          · refine lv_iload hx hb dX5_ask_41 (lv_at hl 5 rfl) ?_
            refine lv_iload hx hb dX5_ask_43 (lv_at hl 6 rfl) ?_
            refine q_icmp_le (tgt := 50) hx hb dX5_ask_45 (by decide) r_no r_se (fun c45 => ?_) (fun c45 => ?_)
            · refine lv_aload_n hx hb dX5_ask_50 rfl (lv_at hl 0 rfl) ?_
              refine q_get (v := .ref (ad 3 2 0)) (C := RX5) (T := TX5) (N := 11) hx hb hts inX5 hown hK hC.obj rfl 2 (by decide) (hts (.fieldLink RX5 19 "TavernBench" "houses" "Ljava/util/ArrayList;") (by decide +kernel)) (fun _ h9 => h9) rfl dX5_ask_51 ?_
              refine q_cVi (As := []) (rest := []) ⟨hx, hb, hml, hown, hts⟩ (c0_size l g x.2.1 (ad 3 2 0) (ad 4 2 0) (S 14 0)) (cwV 0 hts gX5_ask_Jx4a65c_size_8abf5 rfl rfl rfl (by decide +kernel) ⟨Nat.le_of_ble_eq_true rfl, Nat.le_of_ble_eq_true rfl⟩) (q_pV hK (hC.lst (k := 2) (by decide)) rfl (hC.lst (k := 2) (by decide))) rfl hl.1 rfl (Nat.le_of_ble_eq_true rfl) ⟨Nat.le_of_ble_eq_true rfl, Nat.le_of_ble_eq_true rfl⟩ dX5_ask_54 ?_
              refine q_bipush hx hb 30 dX5_ask_57 (by decide +kernel) ?_
              refine q_icmp_lt (tgt := 65) hx hb dX5_ask_59 (by decide) (hI.R (by decide)) (by decide) (fun c59 => ?_) (fun c59 => ?_)
              · refine lv_aload_n hx hb dX5_ask_65 rfl (lv_at hl 0 rfl) ?_
                refine lv_iload_n hx hb dX5_ask_66 rfl (lv_at hl 1 rfl) ?_
                refine lv_iload_n hx hb dX5_ask_67 rfl (lv_at hl 2 rfl) ?_
                refine lv_iload hx hb dX5_ask_68 (lv_at hl 5 rfl) ?_
                refine lv_iload hx hb dX5_ask_70 (lv_at hl 6 rfl) ?_
                refine q_cVi (As := [.int (iI px), .int (iI py), .int (iI no), .int (iI se)]) (rest := []) ⟨hx, hb, hml, hown, hts⟩ (c5_judge l g x.2.1 P ad S hI hQ px py no se r_px r_py r_no r_se (by omega) (by omega) (by omega)) (cwV 4 hts gX5_ask_X5_judge rfl rfl rfl (by decide +kernel) ⟨Nat.le_of_ble_eq_true rfl, Nat.le_of_ble_eq_true rfl⟩) (q_pV hK hC.obj rfl hC) rfl hl.1 rfl (Nat.le_of_ble_eq_true rfl) ⟨Nat.le_of_ble_eq_true rfl, Nat.le_of_ble_eq_true rfl⟩ dX5_ask_72 ?_
                refine lv_istore (lv' := [(7, .int (iI (sJudge S px py no se))), (0, .ref (ad 0 0 0)), (1, .int (iI px)), (2, .int (iI py)), (3, .int (iI k)), (4, .int (iI w)), (5, .int (iI no)), (6, .int (iI se))]) hx hb dX5_ask_75 hl (by decide) rfl (fun ls hl => ?_)
                have hJb := sJudge_b S px py no se
                refine lv_iload hx hb dX5_ask_77 (lv_at hl 0 rfl) ?_
                refine q_if_eq (tgt := 98) hx hb dX5_ask_79 (by decide) (by omega) (fun c79 => ?_) (fun c79 => ?_)
                · refine lv_aload_n hx hb dX5_ask_98 rfl (lv_at hl 1 rfl) ?_
                  refine q_get (v := .ref (ad 3 2 0)) (C := RX5) (T := TX5) (N := 11) hx hb hts inX5 hown hK hC.obj rfl 2 (by decide) (hts (.fieldLink RX5 19 "TavernBench" "houses" "Ljava/util/ArrayList;") (by decide +kernel)) (fun _ h9 => h9) rfl dX5_ask_99 ?_
                  refine q_newN (ci := 2) (fs := [.int (iI 0), .int (iI 0), .int (iI 0), .int (iI 0), .null, .null, .int (iI 0)]) hx hb hts inX1 tyX1 tyX1_ok hown (hts (.classLink RX5 93 RX1) (by decide +kernel)) (hts (.instantiable RX1 7) (by decide +kernel)) (hts (.initialized RX1) (by decide +kernel)) hK rfl hS (fun j hj => by rcases j with _ | _ | _ | _ | _ | _ | _ | j <;> first | rfl | omega) (Nat.le_of_ble_eq_true rfl) (Nat.le_of_ble_eq_true rfl) dX5_ask_102 (fun nw102 H hqnw102 hOnw102 hz1 ho1 hS => ?_)
                  have hltnw102 : nw102 < H.size := va_at.lt2 hOnw102
                  have hgenw102 : s.heap.size ≤ nw102 := by have h9 := hkp.1; omega
                  have hkp := hkp.new hz1 ho1
                  have hbxnw102 : x.2.2 ≤ nw102 := hPb _ (hPs _ (by omega))
                  refine lv_dup hx hb dX5_ask_105 rfl ?_
                  refine lv_iload_n hx hb dX5_ask_106 rfl (lv_at hl 2 rfl) ?_
                  refine lv_iload_n hx hb dX5_ask_107 rfl (lv_at hl 3 rfl) ?_
                  refine lv_iload_n hx hb dX5_ask_108 rfl (lv_at hl 4 rfl) ?_
                  refine lv_iload hx hb dX5_ask_109 (lv_at hl 7 rfl) ?_
                  refine lv_iload hx hb dX5_ask_111 (lv_at hl 5 rfl) ?_
                  obtain ⟨szH, hszH⟩ : ∃ szH : Nat, H.size = szH := ⟨_, rfl⟩
                  refine q_xI (As := [.int (iI px), .int (iI py), .int (iI k), .int (iI se), .int (iI w)]) (rest := [.ref nw102, .ref (ad 3 2 0)]) ⟨hx, hb, hml, hown, hts⟩ (cc_house l g x nw102 szH px py k se w hbxnw102 (hPb _ (hPs _ (by omega)))) (cwI 5 hts gX5_ask_X1_init rfl rfl rfl (hts (.initialized RX1) (by decide +kernel)) (hts (.methodLink RX5 95 yX1_init) (by decide +kernel)) (hts (.instanceMethod yX1_init) (by decide +kernel)) rfl (by decide +kernel) ⟨Nat.le_of_ble_eq_true rfl, Nat.le_of_ble_eq_true rfl⟩) (q_pSX hK hX hS hAb ⟨hszH, hOnw102⟩) rfl hl.1 rfl (Nat.le_of_ble_eq_true rfl) ⟨Nat.le_of_ble_eq_true rfl, Nat.le_of_ble_eq_true rfl⟩ dX5_ask_113 hS (fun q z => z.elim (fun z => by rw [z]; exact hPs _ (by omega)) (fun z => hPs _ (by have z2 : szH ≤ q := z; omega))) (fun H locs hHo hz1 hk1 hS => ?_)
                  obtain ⟨q1, q2, q3, q4, hq4, hOa, hV1, hV2, hV3, hV4⟩ := hHo
                  have hkp := hkp.call hz1 hk1 (fun q h9 h8 => by rcases h8 with h8 | h8 <;> omega)
                  have hlt4 : q4 < H.size := va_at.lt2 hV4
                  obtain ⟨szA, hszA⟩ : ∃ szA : Nat, H.size = szA := ⟨_, rfl⟩
                  have hC1 := hC.kp hkp
                  have hkz := hkp.1
                  have l3 := hC.lt (live3 S (k := 2) (by decide))
                  have hvl : nw102 ≠ ad 3 2 0 := by omega
                  have hvb : 0 < S 14 0 → nw102 ≠ ad 4 2 0 := fun h => by have h9 := hC.lt (live4 (k := 2) (by decide) h); omega
                  have hb2 : x.2.2 ≤ szA := hPb _ (hPs _ (by omega))
                  refine q_xVi (As := [.ref nw102]) (rest := []) ⟨hx, hb, hml, hown, hts⟩ (cj_addE l g x (ad 3 2 0) (ad 4 2 0) szA 2 nw102 _ (S 14 0) (fun q => ad 7 q 0) rfl (by decide) (hPb _ (hC.1 3 2 0 (live3 S (by decide))).2) (fun h => hPb _ (hC.1 4 2 0 (live4 (S := S) (k := 2) (by decide) h)).2) hb2 (fun h e => absurd (hC.2 _ _ _ _ _ _ (live3 S (by decide)) (live4 (S := S) (k := 2) (by decide) h) e).1 (by decide)) hvl hvb (fun i h1 h2 e => absurd (hC.2 _ _ _ _ _ _ (live7 ⟨h1, h2⟩) (live3 S (by decide)) e).1 (by decide)) ⟨by omega, by omega⟩) (cwV 1 hts gX5_ask_Jx4a65c_add_9ea2d rfl rfl rfl (by decide +kernel) ⟨Nat.le_of_ble_eq_true rfl, Nat.le_of_ble_eq_true rfl⟩) (q_pVX hK hX hS hAb (hC1.lst (k := 2) (by decide)) rfl ⟨hszA, hC1.lst (k := 2) (by decide), fun h => hC1.arr (k := 2) (by decide) h, fun i h1 h2 => ⟨_, hC1.house ⟨h1, h2⟩⟩, _, hOa⟩) rfl hl.1 rfl (Nat.le_of_ble_eq_true rfl) ⟨Nat.le_of_ble_eq_true rfl, Nat.le_of_ble_eq_true rfl⟩ dX5_ask_116 hS (fun q h => h.elim (fun z => by rw [z]; exact (hC.1 3 2 0 (live3 S (by decide))).2) (fun h => h.elim (fun z => by rw [z.2]; exact (hC.1 4 2 0 (live4 (S := S) (k := 2) (by decide) z.1)).2) (fun z => hPs _ (by have z2 : szA ≤ q := z; omega)))) (fun H locs hM hz1 hk1 hS => ?_)
                  have hvq : 0 < S 14 0 → ad 4 2 0 < s.heap.size := fun z => hC.lt (live4 (S := S) (k := 2) (by decide) z)
                  have hOa := hOa.kept (hk1 _ (va_at.lt2 hOa) (fun h9 => by have h3 := hC.lt (live3 S (k := 2) (by decide)); rcases h9 with h9 | h9 | h9 <;> first | omega | (have h4 := hvq h9.1; omega)))
                  have hV1 := hV1.kept (hk1 _ (va_at.lt2 hV1) (fun h9 => by have h3 := hC.lt (live3 S (k := 2) (by decide)); rcases h9 with h9 | h9 | h9 <;> first | omega | (have h4 := hvq h9.1; omega)))
                  have hV2 := hV2.kept (hk1 _ (va_at.lt2 hV2) (fun h9 => by have h3 := hC.lt (live3 S (k := 2) (by decide)); rcases h9 with h9 | h9 | h9 <;> first | omega | (have h4 := hvq h9.1; omega)))
                  have hV3 := hV3.kept (hk1 _ (va_at.lt2 hV3) (fun h9 => by have h3 := hC.lt (live3 S (k := 2) (by decide)); rcases h9 with h9 | h9 | h9 <;> first | omega | (have h4 := hvq h9.1; omega)))
                  have hV4 := hV4.kept (hk1 _ (va_at.lt2 hV4) (fun h9 => by have h3 := hC.lt (live3 S (k := 2) (by decide)); rcases h9 with h9 | h9 | h9 <;> first | omega | (have h4 := hvq h9.1; omega)))
                  obtain ⟨ad1, had1, hC⟩ := hC.addHouse (px := px) (py := py) (k := k) (t := se) (w := w) hI hkp hOa hV1 hV2 hV3 hV4 ⟨by omega, by omega, by omega, by omega, by omega, by omega⟩ hM hk1 hszA (fun q h => hPs _ (by omega))
                  have hCo := hC.obj
                  rw [had1] at hCo
                  have hL1 := hC.lst (k := 2) (by decide)
                  refine lv_pop hx hb dX5_ask_119 rfl ?_
                  refine lv_aload_n hx hb dX5_ask_120 rfl (lv_at hl 1 rfl) ?_
                  refine q_get (v := .ref (ad1 3 2 0)) (C := RX5) (T := TX5) (N := 11) hx hb hts inX5 hown hK hCo rfl 2 (by decide) (hts (.fieldLink RX5 19 "TavernBench" "houses" "Ljava/util/ArrayList;") (by decide +kernel)) (fun _ h9 => h9) rfl dX5_ask_121 ?_
                  refine q_cVi (As := []) (rest := []) ⟨hx, hb, hml, hown, hts⟩ (c0_size l g x.2.1 (ad1 3 2 0) (ad1 4 2 0) (S 14 0 + 1)) (cwV 0 hts gX5_ask_Jx4a65c_size_8abf5 rfl rfl rfl (by decide +kernel) ⟨Nat.le_of_ble_eq_true rfl, Nat.le_of_ble_eq_true rfl⟩) (q_pV hK hL1 rfl hL1) rfl hl.1 rfl (Nat.le_of_ble_eq_true rfl) ⟨Nat.le_of_ble_eq_true rfl, Nat.le_of_ble_eq_true rfl⟩ dX5_ask_124 ?_
                  refine lv_iconst (v := iI 1) hx hb dX5_ask_127 rfl ?_
                  refine q_isub hx hb dX5_ask_128 ?_
                  refine W.widen (k := 6) (n := 113) (by omega) (by omega) ?_
                  refine q_mreti hx hb hr hlocks hS dX5_ask_129 ?_ ?_
                  · show _ = aAsk S px py k w no se
                    unfold aAsk
                    rw [cI_t (by omega), cI_f (by omega), cI_f (by omega)]
                    omega
                  · refine ⟨ad1, had1, ?_⟩
                    unfold tAsk
                    rw [cI_t ⟨by omega, by omega⟩, cI_f (by omega)]
                    exact hC
                · refine lv_aload_n hx hb dX5_ask_82 rfl (lv_at hl 1 rfl) ?_
                  refine lv_dup hx hb dX5_ask_83 rfl ?_
                  refine q_get (v := .int (iI (S 28 0))) (C := RX5) (T := TX5) (N := 11) hx hb hts inX5 hown hK hC.obj rfl 8 (by decide) (hts (.fieldLink RX5 90 "TavernBench" "refusedAsks" "I") (by decide +kernel)) (fun _ h9 => h9) rfl dX5_ask_84 ?_
                  refine lv_iconst (v := iI 1) hx hb dX5_ask_87 rfl ?_
                  refine q_iadd hx hb dX5_ask_88 ?_
                  refine q_put (ty := .int) (v := .int (iI ((S 28 0) + 1))) hx hb hts inX5 tyX5 tyX5_ok nmX5 hown hK hC.obj rfl 8 (by decide) (hts (.fieldLink RX5 90 "TavernBench" "refusedAsks" "I") (by decide +kernel)) (fun _ h9 => h9) rfl rfl rfl rfl (Nat.le_of_ble_eq_true rfl) dX5_ask_89 (fun H i1 hO1 hz1 ho1 => ?_)
                  have hS := hS.put (k := i1) hz1 ho1 (hC.1 0 0 0 (live0 _)).2
                  have hC : RepC g x.2.1 P ad (up S 28 0 ((S 28 0) + 1)) H := hC.top (fun k z0 z8 z9 z27 z28 z29 => up_ne _ 0 _ z28) hO1 ho1
                  refine q_bipush hx hb (-10) dX5_ask_92 (by decide +kernel) ?_
                  refine lv_iload hx hb dX5_ask_94 (lv_at hl 0 rfl) ?_
                  refine q_isub hx hb dX5_ask_96 ?_
                  refine W.widen (k := 6) (n := 113) (by omega) (by omega) ?_
                  refine q_mreti hx hb hr hlocks hS dX5_ask_97 ?_ ?_
                  · show _ = aAsk S px py k w no se
                    unfold aAsk
                    rw [cI_t (by omega), cI_f (by omega), cI_t (by omega)]
                  · refine ⟨ad, rfl, ?_⟩
                    unfold tAsk
                    rw [cI_t ⟨by omega, by omega⟩, cI_t (by omega)]
                    exact hC
              · refine q_bipush hx hb (-3) dX5_ask_62 (by decide +kernel) ?_
                refine W.widen (k := 6) (n := 113) (by omega) (by omega) ?_
                refine q_mreti hx hb hr hlocks hS dX5_ask_64 ?_ ?_
                · show _ = aAsk S px py k w no se
                  unfold aAsk
                  rw [cI_t (by omega), cI_t (by omega)]
                · refine ⟨ad, rfl, ?_⟩
                  unfold tAsk
                  rw [cI_f (fun z => z.2 (by omega))]
                  exact hC
            · refine lv_iconst (v := iI (-1)) hx hb dX5_ask_48 rfl ?_
              refine W.widen (k := 6) (n := 113) (by omega) (by omega) ?_
              refine q_mreti hx hb hr hlocks hS dX5_ask_49 ?_ ?_
              · show _ = aAsk S px py k w no se
                unfold aAsk
                rw [cI_f (by omega)]
              · refine ⟨ad, rfl, ?_⟩
                unfold tAsk
                rw [cI_f (fun z => by have z1 := z.1; omega)]
                exact hC
      · refine lv_iconst (v := iI (-1)) hx hb dX5_ask_23 rfl ?_
        refine W.widen (k := 6) (n := 113) (by omega) (by omega) ?_
        refine q_mreti hx hb hr hlocks hS dX5_ask_24 ?_ ?_
        · show _ = aAsk S px py k w no se
          unfold aAsk
          rw [cI_f (by omega)]
        · refine ⟨ad, rfl, ?_⟩
          unfold tAsk
          rw [cI_f (fun z => by have z1 := z.1; omega)]
          exact hC
