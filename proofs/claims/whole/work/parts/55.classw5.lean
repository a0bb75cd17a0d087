theorem evS_16 {S : St} (hI : Inv S) {h d k v : Int} (h0 : 0 ≤ h ∧ h < S 14 0) (h16 : S 19 h ≠ 16) : ∀ i, 0 ≤ i → i < (evS S h d k v) 14 0 → (evS S h d k v) 19 i ≤ 16 := by
  intro i z0 z1
  have hH := hI.house (h := i) z0 z1
  by_cases z : i = h
  · subst z
    rw [evS_19]
    omega
  · have e : (evS S h d k v) 19 i = S 19 i := by simp [evS, newEvent, up, z]
    rw [e]
    omega

theorem evS_q {S : St} (hQ : InvC S) {h d k v j : Int} (h0 : 0 ≤ h ∧ h < S 14 0) (h16 : 0 ≤ S 19 h) (hj : 0 ≤ j ∧ j < S 19 h + 1) : 0 ≤ (evS S h d k v) 40 (16 * h + j) ∧ (evS S h d k v) 40 (16 * h + j) ≤ 1000000 := by
  by_cases z : j = S 19 h
  · subst z
    have e : (evS S h d k v) 40 (16 * h + S 19 h) = 1000000 := by simp [evS, newEvent, up]
    rw [e]
    decide
  · have e : (evS S h d k v) 40 (16 * h + j) = S 40 (16 * h + j) := by
      have z2 : 16 * h + j ≠ 16 * h + S 19 h := by omega
      simp [evS, newEvent, up, z2]
    rw [e]
    have h9 := hQ h h0.1 h0.2 j.toNat (by omega)
    rw [Int.toNat_of_nonneg hj.1] at h9
    exact h9.1

set_option maxHeartbeats 4000000 in
set_option maxRecDepth 100000 in
theorem cw_tell (l : Launch) (g : GG) (x : XX) (P : Nat → Prop) (ad : AD) (S : St) (hI : Inv S) (hQ : InvC S) (sz : Nat) (hPb : ∀ q, P q → x.2.2 ≤ q) (hPs : ∀ q, sz ≤ q → P q) (h : Int) (h0 : 0 ≤ h ∧ h < S 14 0) (d : Int) (k : Int) (v : Int) (r_d : R32 d) (r_k : R32 k) (r_v : R32 v) (h16 : S 19 h ≠ 16) : MetXV l yX1_tell wsX1_tell ({ frames := 7, cells := 2, slots := 53, locals := 191 }) g x [.ref (ad 7 h 0), .int (iI d), .int (iI k), .int (iI v)] (fun H => H.size = sz ∧ RepC g x.2.1 P ad S H) (fun H => ∃ ad', ad' 0 0 0 = ad 0 0 0 ∧ ad' 7 h 0 = ad 7 h 0 ∧ RepC g x.2.1 P ad' (tellS S h d k v) H) P 2 53 := by
  refine Met.ofW (cc := cX1_tell) (maxL := 5) (ret := none) (by decide) rfl ?_
  intro p e s m args below meth c s₁ B hml hv
  obtain ⟨rfl, hP, hK, hX⟩ := hv
  have hx := B.exec
  have hb := B.bytes
  have hr := B.returns
  have hts := atoms_spec (ws := wsX1_tell) B.pre
  have hown : s.vm.findClass RX1 = some m.cls := findClass_of_methodNamed B.named
  have hlocks := B.notSynchronized
  have inX0 : ∀ w ∈ wsX00, w ∈ wsX1_tell := by decide +kernel
  have inX1 : ∀ w ∈ wsX10, w ∈ wsX1_tell := by decide +kernel
  have hl := lv_entry ([.ref (ad 7 h 0), .int (iI d), .int (iI k), .int (iI v)]) (n := 5) (Nat.le_of_ble_eq_true rfl)
  rw [lg_entry_eq]
  generalize (lg_sl ([.ref (ad 7 h 0), .int (iI d), .int (iI k), .int (iI v)]) ++ List.replicate (5 - (lg_sl ([.ref (ad 7 h 0), .int (iI d), .int (iI k), .int (iI v)])).length) Slot.unset).toArray = ls at hl ⊢
  have hl : lv_has ls 5 [(0, .ref (ad 7 h 0)), (1, .int (iI d)), (2, .int (iI k)), (3, .int (iI v))] := hl
  have hS : va_S (P) s.heap s.heap [] := va_S.rf
  have hAb : ∀ q, (P) q → x.2.2 ≤ q := hPb
  obtain ⟨hsz0, hC⟩ := hP
  have hC0 := hC
  have hkp : KP s.heap s.heap := KP.rf
  have hN := hI.nums
  have hH := hI.house h0.1 h0.2
  refine lv_aload_n hx hb dX1_tell_0 rfl (lv_at hl 0 rfl) ?_
  refine q_get (v := .ref (ad 8 h 0)) (C := RX1) (T := TX1) (N := 7) hx hb hts inX1 hown hK (hC.house (k := h) h0) rfl 4 (by decide) (hts (.fieldLink RX1 27 "TavernBench$House" "events" "Ljava/util/ArrayList;") (by decide +kernel)) (fun _ h9 => h9) rfl dX1_tell_1 ?_
  refine q_newN (ci := 1) (fs := [.int (iI 0), .int (iI 0), .int (iI 0), .int (iI 0)]) hx hb hts inX0 tyX0 tyX0_ok hown (hts (.classLink RX1 47 RX0) (by decide +kernel)) (hts (.instantiable RX0 4) (by decide +kernel)) (hts (.initialized RX0) (by decide +kernel)) hK rfl hS (fun j hj => by rcases j with _ | _ | _ | _ | j <;> first | rfl | omega) (Nat.le_of_ble_eq_true rfl) (Nat.le_of_ble_eq_true rfl) dX1_tell_4 (fun nw4 H hqnw4 hOnw4 hz1 ho1 hS => ?_)
  have hltnw4 : nw4 < H.size := va_at.lt2 hOnw4
  have hgenw4 : s.heap.size ≤ nw4 := by have h9 := hkp.1; omega
  have hkp := hkp.new hz1 ho1
  have hbxnw4 : x.2.2 ≤ nw4 := hPb _ (hPs _ (by omega))
  refine lv_dup hx hb dX1_tell_7 rfl ?_
  refine lv_iload_n hx hb dX1_tell_8 rfl (lv_at hl 1 rfl) ?_
  refine lv_iload_n hx hb dX1_tell_9 rfl (lv_at hl 2 rfl) ?_
  refine lv_iload_n hx hb dX1_tell_10 rfl (lv_at hl 3 rfl) ?_
  refine q_xI (As := [.int (iI d), .int (iI k), .int (iI v)]) (rest := [.ref nw4, .ref (ad 8 h 0)]) ⟨hx, hb, hml, hown, hts⟩ (cc_event l g x nw4 d k v (by omega)) (cwI 3 hts gX1_tell_X0_init rfl rfl rfl (hts (.initialized RX0) (by decide +kernel)) (hts (.methodLink RX1 49 yX0_init) (by decide +kernel)) (hts (.instanceMethod yX0_init) (by decide +kernel)) rfl (by decide +kernel) ⟨Nat.le_of_ble_eq_true rfl, Nat.le_of_ble_eq_true rfl⟩) (q_pSX hK hX hS hAb hOnw4) rfl hl.1 rfl (Nat.le_of_ble_eq_true rfl) ⟨Nat.le_of_ble_eq_true rfl, Nat.le_of_ble_eq_true rfl⟩ dX1_tell_11 hS (fun q h => by rw [show q = nw4 from h]; exact (hPs _ (by omega))) (fun H locs hOnw4 hz1 hk1 hS => ?_)
  have hkp := hkp.call hz1 hk1 (fun q h9 h8 => by first | omega | (rcases h8 with h8 | h8 <;> omega))
  obtain ⟨szA, hszA⟩ : ∃ szA : Nat, H.size = szA := ⟨_, rfl⟩
  have hC1 := hC.kp hkp
  have hkz := hkp.1
  have l3 := hC.lt (live8 (j := 0) h0 (by decide))
  have hvl : nw4 ≠ ad 8 h 0 := by omega
  have hvb : 0 < S 19 h → nw4 ≠ ad 9 h 0 := fun z => by have h9 := hC.lt (live9 (S := S) (k := h) (j := 0) h0 (by decide) z); omega
  have hb2 : x.2.2 ≤ szA := hPb _ (hPs _ (by omega))
  refine q_xVi (As := [.ref nw4]) (rest := []) ⟨hx, hb, hml, hown, hts⟩ (cj_addE l g x (ad 8 h 0) (ad 9 h 0) szA 1 nw4 _ (S 19 h) (fun q => ad 10 h q) rfl (by decide) (hPb _ (hC.1 8 h 0 (live8 h0 (by decide))).2) (fun z => hPb _ (hC.1 9 h 0 (live9 (S := S) (k := h) (j := 0) h0 (by decide) z)).2) hb2 (fun z e => absurd (hC.2 _ _ _ _ _ _ (live8 h0 (by decide)) (live9 (S := S) (k := h) (j := 0) h0 (by decide) z) e).1 (by decide)) hvl hvb (fun i h1 h2 e => absurd (hC.2 _ _ _ _ _ _ (live10 h0 ⟨h1, h2⟩) (live8 h0 (by decide)) e).1 (by decide)) ⟨by omega, by omega⟩) (cwV 1 hts gX1_tell_Jx4a65c_add_9ea2d rfl rfl rfl (by decide +kernel) ⟨Nat.le_of_ble_eq_true rfl, Nat.le_of_ble_eq_true rfl⟩) (q_pVX hK hX hS hAb (hC1.hlst (k := h) (j := 0) h0 (by decide)) rfl ⟨hszA, hC1.hlst (k := h) (j := 0) h0 (by decide), fun z => hC1.harr (k := h) (j := 0) h0 (by decide) z, fun i h1 h2 => ⟨_, hC1.event h0 ⟨h1, h2⟩⟩, _, hOnw4⟩) rfl hl.1 rfl (Nat.le_of_ble_eq_true rfl) ⟨Nat.le_of_ble_eq_true rfl, Nat.le_of_ble_eq_true rfl⟩ dX1_tell_14 hS (fun q z => z.elim (fun z => by rw [z]; exact (hC.1 8 h 0 (live8 h0 (by decide))).2) (fun z => z.elim (fun z => by rw [z.2]; exact (hC.1 9 h 0 (live9 (S := S) (k := h) (j := 0) h0 (by decide) z.1)).2) (fun z => hPs _ (by have z2 : szA ≤ q := z; omega)))) (fun H locs hM hz1 hk1 hS => ?_)
  have hOnw4 := hOnw4.kept (hk1 _ (va_at.lt2 hOnw4) (fun h9 => h9.elim hvl (fun h9 => h9.elim (fun z => hvb z.1 z.2) (fun z => by have z2 : szA ≤ _ := z; omega))))
  obtain ⟨ad1, had1, had7, hC⟩ := hC.addEvent (h := h) (d := d) (k := k) (v := v) h0 ⟨by omega, by omega⟩ (fun i z0 z1 => (hI.house z0 z1).2.1.1.2) hkp hOnw4 ⟨by omega, by omega⟩ hM hk1 hszA (fun q h => hPs _ (by omega))
  have hRS := evS_R hI h0 r_d r_k r_v
  have h0E : 0 ≤ h ∧ h < (evS S h d k v) 14 0 := h0
  have hE19 := evS_19 S h d k v
  refine lv_pop hx hb dX1_tell_17 rfl ?_
  have e0 : (.ref (ad1 7 h 0) : Value) = .ref (ad 7 h 0) := by
    rw [had7]
  have hl : lv_has ls 5 [(0, .ref (ad1 7 h 0)), (1, .int (iI d)), (2, .int (iI k)), (3, .int (iI v))] := (lv_sub hl [0, 1, 2, 3] (by simp only [e0]; rfl))
  refine lv_iload_n hx hb dX1_tell_18 rfl (lv_at hl 2 rfl) ?_
  refine lv_iconst (v := iI 1) hx hb dX1_tell_19 rfl ?_
  refine q_icmp_ne (tgt := 31) hx hb dX1_tell_20 (by decide) r_k (by decide) (fun c20 => ?_) (fun c20 => ?_)
  · refine lv_null hx hb dX1_tell_31 ?_
    refine lv_astoreN (lv' := [(4, .null), (0, .ref (ad1 7 h 0)), (1, .int (iI d)), (2, .int (iI k)), (3, .int (iI v))]) hx hb dX1_tell_32 hl (by decide) rfl (fun ls hl => ?_)
    refine lv_aloadN hx hb dX1_tell_34 (lv_at hl 0 rfl) ?_
    refine lv_ifnullN (tgt := 53) hx hb dX1_tell_36 (by decide) ?_
    refine W.widen (k := 2) (n := 53) (by omega) (by omega) ?_
    refine q_mretv hx hb hr hlocks hS dX1_tell_53 ?_
    · refine ⟨ad1, had1, had7, ?_⟩
      unfold tellS
      rw [cI_f (fun z => absurd z.1 (by omega))]
      exact hC
  · refine lv_aload_n hx hb dX1_tell_23 rfl (lv_at hl 0 rfl) ?_
    refine lv_iload_n hx hb dX1_tell_24 rfl (lv_at hl 3 rfl) ?_
    refine q_cVq (As := [.int (iI v)]) (rest := []) ⟨hx, hb, hml, hown, hts⟩ (c1_offenceNumbered l g x.2.1 P ad1 (evS S h d k v) hRS h h0E v r_v (by rw [hE19]; omega)) (cwV 1 hts gX1_tell_X1_offenceNumbered rfl rfl rfl (by decide +kernel) ⟨Nat.le_of_ble_eq_true rfl, Nat.le_of_ble_eq_true rfl⟩) (q_pV hK (hC.house (k := h) h0E) rfl hC) rfl hl.1 rfl (Nat.le_of_ble_eq_true rfl) ⟨Nat.le_of_ble_eq_true rfl, Nat.le_of_ble_eq_true rfl⟩ dX1_tell_25 ?_
    by_cases ht : sTold (evS S h d k v) h v
    · rw [(evA_t (ad := ad1) ht).1]
      have hnb := (evA_t (ad := ad1) ht).2
      rw [hE19] at hnb
      have hnb2 : 0 ≤ nbS S h d k v ∧ nbS S h d k v < S 19 h + 1 := by
        show 0 ≤ sNumb (evS S h d k v) h v ((evS S h d k v) 19 h).toNat ∧ sNumb (evS S h d k v) h v ((evS S h d k v) 19 h).toNat < S 19 h + 1
        rw [hE19]
        omega
      refine lv_goto (tgt := 32) hx hb dX1_tell_28 (by decide) ?_
      refine lv_astore (lv' := [(4, .ref (ad1 10 h (nbS S h d k v))), (0, .ref (ad1 7 h 0)), (1, .int (iI d)), (2, .int (iI k)), (3, .int (iI v))]) hx hb dX1_tell_32 hl (by decide) rfl (fun ls hl => ?_)
      refine q_aload hx hb dX1_tell_34 (lv_at hl 0 rfl) ?_
      refine lv_ifnull hx hb dX1_tell_36 ?_
      refine q_aload hx hb dX1_tell_39 (lv_at hl 0 rfl) ?_
      refine q_aload hx hb dX1_tell_41 (lv_at hl 0 rfl) ?_
      have hqE : 0 ≤ (evS S h d k v) 40 (16 * h + nbS S h d k v) ∧ (evS S h d k v) 40 (16 * h + nbS S h d k v) ≤ 1000000 := evS_q hQ h0 (by omega) ⟨hnb2.1, hnb2.2⟩
      refine q_get (v := .int (iI ((evS S h d k v) 40 (16 * h + nbS S h d k v)))) (C := RX0) (T := TX0) (N := 4) hx hb hts inX0 hown hK (hC.event (k := h) (j := nbS S h d k v) h0E ⟨hnb2.1, by rw [hE19]; exact hnb2.2⟩) rfl 3 (by decide) (hts (.fieldLink RX1 52 "TavernBench$Event" "quashedFrom" "I") (by decide +kernel)) (fun _ h9 => h9) rfl dX1_tell_43 ?_
      refine lv_iload_n hx hb dX1_tell_46 rfl (lv_at hl 2 rfl) ?_
      refine q_mmin hx hb (hml.trans hl.1.symm) hown (hts (.methodLink RX1 55 Lib.Math.min.name) (by decide +kernel)) (hts (.static Lib.Math.min.name) (by decide +kernel)) (hts (.initialized "java/lang/Math") (by decide +kernel)) (hts (.code Lib.Math.min.name Lib.Math.min.code 2 (some .int)) (by decide +kernel)) (Nat.le_of_ble_eq_true rfl) (Nat.le_of_ble_eq_true rfl) (Nat.le_of_ble_eq_true rfl) (Nat.le_of_ble_eq_true rfl) dX1_tell_47 (by omega) r_d ?_
      refine q_put (ty := .int) (v := .int (iI (min ((evS S h d k v) 40 (16 * h + nbS S h d k v)) d))) hx hb hts inX0 tyX0 tyX0_ok nmX0 hown hK (hC.event (k := h) (j := nbS S h d k v) h0E ⟨hnb2.1, by rw [hE19]; exact hnb2.2⟩) rfl 3 (by decide) (hts (.fieldLink RX1 52 "TavernBench$Event" "quashedFrom" "I") (by decide +kernel)) (fun _ h9 => h9) rfl rfl rfl rfl (Nat.le_of_ble_eq_true rfl) dX1_tell_50 (fun H i1 hO1 hz1 ho1 => ?_)
      have hS := hS.put (k := i1) hz1 ho1 (hC.1 10 h (nbS S h d k v) (live10 h0E ⟨hnb2.1, by rw [hE19]; exact hnb2.2⟩)).2
      have hC := hC.qfput h0E ⟨hnb2.1, by rw [hE19]; exact hnb2.2⟩ (evS_16 hI h0 (by omega)) hO1 ho1
      refine W.widen (k := 2) (n := 53) (by omega) (by omega) ?_
      refine q_mretv hx hb hr hlocks hS dX1_tell_53 ?_
      · refine ⟨ad1, had1, had7, ?_⟩
        unfold tellS
        rw [cI_t ⟨by omega, ht⟩]
        exact hC
    · rw [evA_f (ad := ad1) ht]
      refine lv_goto (tgt := 32) hx hb dX1_tell_28 (by decide) ?_
      refine lv_astoreN (lv' := [(4, .null), (0, .ref (ad1 7 h 0)), (1, .int (iI d)), (2, .int (iI k)), (3, .int (iI v))]) hx hb dX1_tell_32 hl (by decide) rfl (fun ls hl => ?_)
      refine lv_aloadN hx hb dX1_tell_34 (lv_at hl 0 rfl) ?_
      refine lv_ifnullN (tgt := 53) hx hb dX1_tell_36 (by decide) ?_
      refine W.widen (k := 2) (n := 53) (by omega) (by omega) ?_
      refine q_mretv hx hb hr hlocks hS dX1_tell_53 ?_
      · refine ⟨ad1, had1, had7, ?_⟩
        unfold tellS
        rw [cI_f (fun z => ht z.2)]
        exact hC
