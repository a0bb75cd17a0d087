noncomputable def oAll (S : St) (day : Int) (n : Nat) : Int := sumN (fun k => cI (sHas S (k : Int) day) (sWorth S (k : Int) day) 0) n
noncomputable abbrev oRest (S : St) (day T A k : Int) : Int := T * sWorth S k day % A
noncomputable def oSum (S : St) (day T A : Int) (n : Nat) : Int := sumN (fun k => cI (sHas S (k : Int) day) (T * sWorth S (k : Int) day / A) 0) n
abbrev qBef (S : St) (day T A h1 : Int) (k : Nat) : Prop := sHas S (k : Int) day ∧ (oRest S day T A h1 < oRest S day T A (k : Int) ∨ (oRest S day T A (k : Int) = oRest S day T A h1 ∧ (k : Int) < h1))
noncomputable def oBef (S : St) (day T A h1 : Int) (n : Nat) : Int := cnt (qBef S day T A h1) n
noncomputable def oPart (S : St) (h1 day T : Int) : Int := cI (0 < oAll S day (S 14 0).toNat) (T * sWorth S h1 day / oAll S day (S 14 0).toNat + bI (oBef S day T (oAll S day (S 14 0).toNat) h1 (S 14 0).toNat < T - oSum S day T (oAll S day (S 14 0).toNat) (S 14 0).toNat)) 0
theorem mul_b {a b c d : Int} (ha : 0 ≤ a ∧ a ≤ c) (hb : 0 ≤ b ∧ b ≤ d) : 0 ≤ a * b ∧ a * b ≤ c * d := ⟨Int.mul_nonneg ha.1 hb.1, Int.mul_le_mul ha.2 hb.2 hb.1 (by omega)⟩
theorem oAll_b {S : St} (hI : Inv S) (day : Int) {n : Nat} (hn : (n : Int) ≤ S 14 0) : 0 ≤ oAll S day n ∧ oAll S day n ≤ 3000000 := by
  have hN := hI.nums
  have h := sumN_le (f := fun k => cI (sHas S (k : Int) day) (sWorth S (k : Int) day) 0) (n := n) (a := 0) (b := 100000) (fun k hk => by
    have hw := sWorth_b hI (h := (k : Int)) ⟨by omega, by omega⟩ day
    show 0 ≤ cI _ _ _ ∧ cI _ _ _ ≤ 100000
    by_cases z : sHas S (k : Int) day
    · rw [cI_t z]; omega
    · rw [cI_f z]; omega)
  show 0 ≤ sumN _ _ ∧ sumN _ _ ≤ 3000000
  omega
theorem div_b {a b c : Int} (ha : 0 ≤ a ∧ a ≤ c) (hb : 0 < b) : 0 ≤ a / b ∧ a / b ≤ c := ⟨Int.ediv_nonneg ha.1 (by omega), Int.le_trans (Int.ediv_le_self b ha.1) ha.2⟩
theorem oSum_b {S : St} (hI : Inv S) {day T A : Int} (hT : 0 ≤ T ∧ T ≤ 300000) (hA : 0 < A) {n : Nat} (hn : (n : Int) ≤ S 14 0) : 0 ≤ oSum S day T A n ∧ oSum S day T A n ≤ 900000000000 := by
  have hN := hI.nums
  have h := sumN_le (f := fun k => cI (sHas S (k : Int) day) (T * sWorth S (k : Int) day / A) 0) (n := n) (a := 0) (b := 30000000000) (fun k hk => by
    have hw := sWorth_b hI (h := (k : Int)) ⟨by omega, by omega⟩ day
    have hm := mul_b hT (b := sWorth S (k : Int) day) (d := 100000) (by omega)
    have hd := div_b (c := 30000000000) (by omega) hA (a := T * sWorth S (k : Int) day)
    show 0 ≤ cI _ _ _ ∧ cI _ _ _ ≤ 30000000000
    by_cases z : sHas S (k : Int) day
    · rw [cI_t z]; omega
    · rw [cI_f z]; omega)
  show 0 ≤ sumN _ _ ∧ sumN _ _ ≤ 900000000000
  omega
theorem sg_0 {a b : Int} : sg a b = 0 ↔ a = b := by
  unfold sg
  by_cases h : a < b
  · rw [if_pos h]; omega
  · rw [if_neg h]
    by_cases h2 : a = b
    · rw [if_pos h2]; omega
    · rw [if_neg h2]; omega

set_option maxHeartbeats 4000000 in
set_option maxRecDepth 100000 in
theorem c5_worthOfPayers (l : Launch) (g : GG) (eA : Nat) (P : Nat → Prop) (ad : AD) (S : St) (hI : Inv S) (hQ : InvC S) (day : Int) (r_day : R32 day) (hd : isD day) : MetL l yX5_worthOfPayers wsX5_worthOfPayers ({ frames := 7, cells := 0, slots := 0, locals := 161 }) g [.ref (ad 0 0 0), .int (iI day)] (fun H => RepC g eA P ad S H) (oAll S day (S 14 0).toNat) := by
  refine Met.ofW (cc := cX5_worthOfPayers) (maxL := 6) (ret := (some .long)) (by decide) rfl ?_
  intro p e s m args below meth c s₁ B hml hv
  obtain ⟨rfl, hC, hK⟩ := hv
  have hx := B.exec
  have hb := B.bytes
  have hr := B.returns
  have hts := atoms_spec (ws := wsX5_worthOfPayers) B.pre
  have hown : s.vm.findClass RX5 = some m.cls := findClass_of_methodNamed B.named
  have hlocks := B.notSynchronized
  have inX5 : ∀ w ∈ wsX50, w ∈ wsX5_worthOfPayers := by decide +kernel
  have hl := lv_entry ([.ref (ad 0 0 0), .int (iI day)]) (n := 6) (Nat.le_of_ble_eq_true rfl)
  rw [lg_entry_eq]
  generalize (lg_sl ([.ref (ad 0 0 0), .int (iI day)]) ++ List.replicate (6 - (lg_sl ([.ref (ad 0 0 0), .int (iI day)])).length) Slot.unset).toArray = ls at hl ⊢
  have hl : lv_has ls 6 [(0, .ref (ad 0 0 0)), (1, .int (iI day))] := hl
  have hN := hI.nums
  refine lv_lconst (v := lI 0) hx hb dX5_worthOfPayers_0 (by decide +kernel) ?_
  refine lv_lstore_n (lv' := [(2, .long (lI 0)), (0, .ref (ad 0 0 0)), (1, .int (iI day))]) hx hb dX5_worthOfPayers_1 rfl hl (by decide) rfl (fun ls hl => ?_)
  refine lv_iconst (v := iI 0) hx hb dX5_worthOfPayers_2 rfl ?_
  refine lv_istore (lv' := [(4, .int (iI 0)), (2, .long (lI 0)), (0, .ref (ad 0 0 0)), (1, .int (iI day))]) hx hb dX5_worthOfPayers_3 hl (by decide) rfl (fun ls hl => ?_)
  have e0 : (oAll S day 0 : Int) = 0 := by
    rfl
  have e1 : (((0 : Nat) : Int) : Int) = 0 := by
    rfl
  refine q_loopN (nL := 6) ((S 14 0).toNat) (fun (u : Nat) => [(0, .ref (ad 0 0 0)), (1, .int (iI day)), (2, .long (lI (oAll S day u))), (4, .int (iI ((u : Nat) : Int)))]) (lv_sub hl [2, 3, 1, 0] (by simp only [e0, e1]; rfl)) (fun u hu ihu ls hl => ?_)
  have hl : lv_has ls 6 [(0, .ref (ad 0 0 0)), (1, .int (iI day)), (2, .long (lI (oAll S day u))), (4, .int (iI ((u : Nat) : Int)))] := hl
  refine lv_iload hx hb dX5_worthOfPayers_5 (lv_at hl 3 rfl) ?_
  refine lv_aload_n hx hb dX5_worthOfPayers_7 rfl (lv_at hl 0 rfl) ?_
  refine q_get (v := .ref (ad 3 2 0)) (C := RX5) (T := TX5) (N := 11) hx hb hts inX5 hown hK hC.obj rfl 2 (by decide) (hts (.fieldLink RX5 19 "TavernBench" "houses" "Ljava/util/ArrayList;") (by decide +kernel)) (fun _ h9 => h9) rfl dX5_worthOfPayers_8 ?_
  refine q_cVi (As := []) (rest := [.int (iI ((u : Nat) : Int))]) ⟨hx, hb, hml, hown, hts⟩ (c0_size l g eA (ad 3 2 0) (ad 4 2 0) (S 14 0)) (cwV 0 hts gX5_worthOfPayers_Jx4a65c_size_8abf5 rfl rfl rfl (by decide +kernel) ⟨Nat.le_of_ble_eq_true rfl, Nat.le_of_ble_eq_true rfl⟩) (q_pV hK (hC.lst (k := 2) (by decide)) rfl (hC.lst (k := 2) (by decide))) rfl hl.1 rfl (Nat.le_of_ble_eq_true rfl) ⟨Nat.zero_le _, Nat.zero_le _⟩ dX5_worthOfPayers_11 ?_
  refine q_icmp_ge (tgt := 56) hx hb dX5_worthOfPayers_14 (by decide) (by omega) (hI.R (by decide)) (fun c14 => ?_) (fun c14 => ?_)
  · refine lv_lload_n hx hb dX5_worthOfPayers_56 rfl (lv_at hl 2 rfl) ?_
    refine q_retl hx hb hr hlocks dX5_worthOfPayers_57 ?_
    have e : u = (S 14 0).toNat := by omega
    rw [e]
  · refine lv_aload_n hx hb dX5_worthOfPayers_17 rfl (lv_at hl 0 rfl) ?_
    refine q_get (v := .ref (ad 3 2 0)) (C := RX5) (T := TX5) (N := 11) hx hb hts inX5 hown hK hC.obj rfl 2 (by decide) (hts (.fieldLink RX5 19 "TavernBench" "houses" "Ljava/util/ArrayList;") (by decide +kernel)) (fun _ h9 => h9) rfl dX5_worthOfPayers_18 ?_
    refine lv_iload hx hb dX5_worthOfPayers_21 (lv_at hl 3 rfl) ?_
    refine q_cVr (As := [.int (iI ((u : Nat) : Int))]) (rest := []) ⟨hx, hb, hml, hown, hts⟩ (c0_get l g eA (ad 3 2 0) (ad 4 2 0) (S 14 0) (fun q => ad 7 q 0) ((u : Nat) : Int) (by omega) ⟨by omega, by omega⟩ (by omega)) (cwV 1 hts gX5_worthOfPayers_Jx4a65c_get_915e3 rfl rfl rfl (by decide +kernel) ⟨Nat.le_of_ble_eq_true rfl, Nat.le_of_ble_eq_true rfl⟩) (q_pV hK (hC.lst (k := 2) (by decide)) rfl ⟨(hC.lst (k := 2) (by decide)), (hC.arr (k := 2) (by decide) (by show 0 < S 14 0; omega))⟩) rfl hl.1 rfl (Nat.le_of_ble_eq_true rfl) ⟨Nat.zero_le _, Nat.zero_le _⟩ dX5_worthOfPayers_23 ?_
    refine q_cast (C := RX1) (T := TX1) (N := 7) hx hb hown (hts (.classLink RX5 93 RX1) (by decide +kernel)) hK (hC.house (k := ((u : Nat) : Int)) ⟨by omega, by omega⟩) rfl dX5_worthOfPayers_26 ?_
    refine lv_astore (lv' := [(5, .ref (ad 7 ((u : Nat) : Int) 0)), (0, .ref (ad 0 0 0)), (1, .int (iI day)), (2, .long (lI (oAll S day u))), (4, .int (iI ((u : Nat) : Int)))]) hx hb dX5_worthOfPayers_29 hl (by decide) rfl (fun ls hl => ?_)
    refine q_aload hx hb dX5_worthOfPayers_31 (lv_at hl 0 rfl) ?_
    have hwb := sWorth_b hI (h := ((u : Nat) : Int)) ⟨by omega, by omega⟩ day
    refine lv_iload_n hx hb dX5_worthOfPayers_33 rfl (lv_at hl 2 rfl) ?_
    refine q_cVi (As := [.int (iI day)]) (rest := []) ⟨hx, hb, hml, hown, hts⟩ (c1_hasLicence l g eA P ad S hI hQ ((u : Nat) : Int) ⟨by omega, by omega⟩ day r_day (by omega)) (cwV 1 hts gX5_worthOfPayers_X1_hasLicence rfl rfl rfl (by decide +kernel) ⟨Nat.le_of_ble_eq_true rfl, Nat.le_of_ble_eq_true rfl⟩) (q_pV hK (hC.house (k := ((u : Nat) : Int)) ⟨by omega, by omega⟩) rfl hC) rfl hl.1 rfl (Nat.le_of_ble_eq_true rfl) ⟨Nat.zero_le _, Nat.zero_le _⟩ dX5_worthOfPayers_34 ?_
    refine q_ifb_eq (tgt := 50) hx hb dX5_worthOfPayers_37 (by decide) (fun c37 => ?_) (fun c37 => ?_)
    · refine lv_iinc (v := iI (((u : Nat) : Int) + 1)) (lv' := [(4, .int (iI (((u : Nat) : Int) + 1))), (5, .ref (ad 7 ((u : Nat) : Int) 0)), (0, .ref (ad 0 0 0)), (1, .int (iI day)), (2, .long (lI (oAll S day u)))]) hx hb dX5_worthOfPayers_50 hl (k := 4) rfl (iI_add _ _) (by decide) rfl (fun ls hl => ?_)
      refine lv_goto (tgt := 5) hx hb dX5_worthOfPayers_53 (by decide) ?_
      have e0 : (oAll S day (u + 1) : Int) = oAll S day u := by
        show oAll S day u + cI _ _ _ = _
        first | (rw [cI_t (by assumption)]) | (rw [cI_f (by assumption)]; omega)
      have e1 : ((((u + 1) : Nat) : Int) : Int) = ((u : Nat) : Int) + 1 := by
        omega
      exact ihu (by omega) ls (lv_sub hl [2, 3, 4, 0] (by simp only [e0, e1]; rfl))
    · refine lv_lload_n hx hb dX5_worthOfPayers_40 rfl (lv_at hl 3 rfl) ?_
      refine q_aload hx hb dX5_worthOfPayers_41 (lv_at hl 0 rfl) ?_
      refine lv_iload_n hx hb dX5_worthOfPayers_43 rfl (lv_at hl 2 rfl) ?_
      refine q_cVi (As := [.int (iI day)]) (rest := [.long (lI (oAll S day u))]) ⟨hx, hb, hml, hown, hts⟩ (c1_worthOn l g eA P ad S hI hQ ((u : Nat) : Int) ⟨by omega, by omega⟩ day r_day ) (cwV 1 hts gX5_worthOfPayers_X1_worthOn rfl rfl rfl (by decide +kernel) ⟨Nat.le_of_ble_eq_true rfl, Nat.le_of_ble_eq_true rfl⟩) (q_pV hK (hC.house (k := ((u : Nat) : Int)) ⟨by omega, by omega⟩) rfl hC) rfl hl.1 rfl (Nat.le_of_ble_eq_true rfl) ⟨Nat.zero_le _, Nat.zero_le _⟩ dX5_worthOfPayers_44 ?_
      refine q_i2l hx hb (by omega) dX5_worthOfPayers_47 ?_
      refine q_ladd hx hb dX5_worthOfPayers_48 ?_
      refine lv_lstore_n (lv' := [(2, .long (lI ((oAll S day u) + (sWorth S ((u : Nat) : Int) day)))), (5, .ref (ad 7 ((u : Nat) : Int) 0)), (0, .ref (ad 0 0 0)), (1, .int (iI day)), (4, .int (iI ((u : Nat) : Int)))]) hx hb dX5_worthOfPayers_49 rfl hl (by decide) rfl (fun ls hl => ?_)
      refine lv_iinc (v := iI (((u : Nat) : Int) + 1)) (lv' := [(4, .int (iI (((u : Nat) : Int) + 1))), (2, .long (lI ((oAll S day u) + (sWorth S ((u : Nat) : Int) day)))), (5, .ref (ad 7 ((u : Nat) : Int) 0)), (0, .ref (ad 0 0 0)), (1, .int (iI day))]) hx hb dX5_worthOfPayers_50 hl (k := 4) rfl (iI_add _ _) (by decide) rfl (fun ls hl => ?_)
      refine lv_goto (tgt := 5) hx hb dX5_worthOfPayers_53 (by decide) ?_
      have e0 : (oAll S day (u + 1) : Int) = (oAll S day u) + (sWorth S ((u : Nat) : Int) day) := by
        show oAll S day u + cI _ _ _ = _
        first | (rw [cI_t (by assumption)]) | (rw [cI_f (by assumption)]; omega)
      have e1 : ((((u + 1) : Nat) : Int) : Int) = ((u : Nat) : Int) + 1 := by
        omega
      exact ihu (by omega) ls (lv_sub hl [3, 4, 1, 0] (by simp only [e0, e1]; rfl))

set_option maxHeartbeats 4000000 in
set_option maxRecDepth 100000 in
theorem c5_partOf (l : Launch) (g : GG) (eA : Nat) (P : Nat → Prop) (ad : AD) (S : St) (hI : Inv S) (hQ : InvC S) (h1 : Int) (day : Int) (r_h1 : R32 h1) (r_day : R32 day) (T : Int) (hT : 0 ≤ T ∧ T ≤ 300000) (hd : isD day) (h1b : 0 ≤ h1 ∧ h1 < S 14 0) : MetI l yX5_partOf wsX5_partOf ({ frames := 8, cells := 0, slots := 0, locals := 186 }) g [.ref (ad 0 0 0), .int (iI h1), .int (iI (sWorth S h1 day)), .int (iI day), .long (lI T)] (fun H => RepC g eA P ad S H) (oPart S h1 day T) := by
  refine Met.ofW (cc := cX5_partOf) (maxL := 21) (ret := (some .int)) (by decide) rfl ?_
  intro p e s m args below meth c s₁ B hml hv
  obtain ⟨rfl, hC, hK⟩ := hv
  have hx := B.exec
  have hb := B.bytes
  have hr := B.returns
  have hts := atoms_spec (ws := wsX5_partOf) B.pre
  have hown : s.vm.findClass RX5 = some m.cls := findClass_of_methodNamed B.named
  have hlocks := B.notSynchronized
  have inX5 : ∀ w ∈ wsX50, w ∈ wsX5_partOf := by decide +kernel
  have hl := lv_entry ([.ref (ad 0 0 0), .int (iI h1), .int (iI (sWorth S h1 day)), .int (iI day), .long (lI T)]) (n := 21) (Nat.le_of_ble_eq_true rfl)
  rw [lg_entry_eq]
  generalize (lg_sl ([.ref (ad 0 0 0), .int (iI h1), .int (iI (sWorth S h1 day)), .int (iI day), .long (lI T)]) ++ List.replicate (21 - (lg_sl ([.ref (ad 0 0 0), .int (iI h1), .int (iI (sWorth S h1 day)), .int (iI day), .long (lI T)])).length) Slot.unset).toArray = ls at hl ⊢
  have hl : lv_has ls 21 [(0, .ref (ad 0 0 0)), (1, .int (iI h1)), (2, .int (iI (sWorth S h1 day))), (3, .int (iI day)), (4, .long (lI T))] := hl
  have hN := hI.nums
  have hab := oAll_b hI day (n := (S 14 0).toNat) (by omega)
  have hw1 := sWorth_b hI h1b day
  have hm1 := mul_b hT (b := sWorth S h1 day) (d := 100000) (by omega)
  have hsa := sg_le (a := oAll S day (S 14 0).toNat) (b := 0)
  have hsR : R32 (sg (oAll S day (S 14 0).toNat) 0) := sg_R _ _
  refine lv_aload_n hx hb dX5_partOf_0 rfl (lv_at hl 0 rfl) ?_
  refine lv_iload_n hx hb dX5_partOf_1 rfl (lv_at hl 3 rfl) ?_
  refine q_cVl (As := [.int (iI day)]) (rest := []) ⟨hx, hb, hml, hown, hts⟩ (c5_worthOfPayers l g eA P ad S hI hQ day r_day (by omega)) (cwV 1 hts gX5_partOf_X5_worthOfPayers rfl rfl rfl (by decide +kernel) ⟨Nat.le_of_ble_eq_true rfl, Nat.le_of_ble_eq_true rfl⟩) (q_pV hK hC.obj rfl hC) rfl hl.1 rfl (Nat.le_of_ble_eq_true rfl) ⟨Nat.zero_le _, Nat.zero_le _⟩ dX5_partOf_2 ?_
  refine lv_lstore (lv' := [(6, .long (lI (oAll S day (S 14 0).toNat))), (0, .ref (ad 0 0 0)), (1, .int (iI h1)), (2, .int (iI (sWorth S h1 day))), (3, .int (iI day)), (4, .long (lI T))]) hx hb dX5_partOf_5 hl (by decide) rfl (fun ls hl => ?_)
  refine lv_lload hx hb dX5_partOf_7 (lv_at hl 0 rfl) ?_
  refine lv_lconst (v := lI 0) hx hb dX5_partOf_9 (by decide +kernel) ?_
  refine q_lcmp hx hb (by omega) (by omega) dX5_partOf_10 ?_
  refine q_if_gt (tgt := 16) hx hb dX5_partOf_11 (by decide) (by omega) (fun c11 => ?_) (fun c11 => ?_)
  · have hr3 := Int.emod_nonneg (T * sWorth S h1 day) (by omega : oAll S day (S 14 0).toNat ≠ 0)
    have hr4 := Int.emod_lt_of_pos (T * sWorth S h1 day) (by omega : 0 < oAll S day (S 14 0).toNat)
    refine lv_lload hx hb dX5_partOf_16 (lv_at hl 5 rfl) ?_
    refine lv_iload_n hx hb dX5_partOf_18 rfl (lv_at hl 3 rfl) ?_
    refine q_i2l hx hb (by omega) dX5_partOf_19 ?_
    refine q_lmul hx hb dX5_partOf_20 ?_
    refine lv_lstore (lv' := [(8, .long (lI (T * (sWorth S h1 day)))), (6, .long (lI (oAll S day (S 14 0).toNat))), (0, .ref (ad 0 0 0)), (1, .int (iI h1)), (2, .int (iI (sWorth S h1 day))), (3, .int (iI day)), (4, .long (lI T))]) hx hb dX5_partOf_21 hl (by decide) rfl (fun ls hl => ?_)
    refine lv_lload hx hb dX5_partOf_23 (lv_at hl 0 rfl) ?_
    refine lv_lload hx hb dX5_partOf_25 (lv_at hl 1 rfl) ?_
    refine q_lrem hx hb ⟨by omega, by omega⟩ ⟨by omega, by omega⟩ dX5_partOf_27 ?_
    refine lv_lstore (lv' := [(10, .long (lI ((T * (sWorth S h1 day)) % (oAll S day (S 14 0).toNat)))), (8, .long (lI (T * (sWorth S h1 day)))), (6, .long (lI (oAll S day (S 14 0).toNat))), (0, .ref (ad 0 0 0)), (1, .int (iI h1)), (2, .int (iI (sWorth S h1 day))), (3, .int (iI day)), (4, .long (lI T))]) hx hb dX5_partOf_28 hl (by decide) rfl (fun ls hl => ?_)
    refine lv_lload hx hb dX5_partOf_30 (lv_at hl 7 rfl) ?_
    refine lv_lstore (lv' := [(12, .long (lI T)), (10, .long (lI ((T * (sWorth S h1 day)) % (oAll S day (S 14 0).toNat)))), (8, .long (lI (T * (sWorth S h1 day)))), (6, .long (lI (oAll S day (S 14 0).toNat))), (0, .ref (ad 0 0 0)), (1, .int (iI h1)), (2, .int (iI (sWorth S h1 day))), (3, .int (iI day)), (4, .long (lI T))]) hx hb dX5_partOf_32 hl (by decide) rfl (fun ls hl => ?_)
    refine lv_iconst (v := iI 0) hx hb dX5_partOf_34 rfl ?_
    refine lv_istore (lv' := [(14, .int (iI 0)), (12, .long (lI T)), (10, .long (lI ((T * (sWorth S h1 day)) % (oAll S day (S 14 0).toNat)))), (8, .long (lI (T * (sWorth S h1 day)))), (6, .long (lI (oAll S day (S 14 0).toNat))), (0, .ref (ad 0 0 0)), (1, .int (iI h1)), (2, .int (iI (sWorth S h1 day))), (3, .int (iI day)), (4, .long (lI T))]) hx hb dX5_partOf_35 hl (by decide) rfl (fun ls hl => ?_)
    refine lv_iconst (v := iI 0) hx hb dX5_partOf_37 rfl ?_
    refine lv_istore (lv' := [(15, .int (iI 0)), (14, .int (iI 0)), (12, .long (lI T)), (10, .long (lI ((T * (sWorth S h1 day)) % (oAll S day (S 14 0).toNat)))), (8, .long (lI (T * (sWorth S h1 day)))), (6, .long (lI (oAll S day (S 14 0).toNat))), (0, .ref (ad 0 0 0)), (1, .int (iI h1)), (2, .int (iI (sWorth S h1 day))), (3, .int (iI day)), (4, .long (lI T))]) hx hb dX5_partOf_38 hl (by decide) rfl (fun ls hl => ?_)
    have e0 : (oRest S day T (oAll S day (S 14 0).toNat) h1 : Int) = (T * (sWorth S h1 day)) % (oAll S day (S 14 0).toNat) := by
      rfl
    have e1 : (T - oSum S day T (oAll S day (S 14 0).toNat) 0 : Int) = T := by
      show T - 0 = T
      omega
    have e2 : (oBef S day T (oAll S day (S 14 0).toNat) h1 0 : Int) = 0 := by
      rfl
    have e3 : (((0 : Nat) : Int) : Int) = 0 := by
      rfl
    refine q_loopN (nL := 21) ((S 14 0).toNat) (fun (u : Nat) => [(0, .ref (ad 0 0 0)), (1, .int (iI h1)), (3, .int (iI day)), (4, .long (lI T)), (6, .long (lI (oAll S day (S 14 0).toNat))), (8, .long (lI (T * (sWorth S h1 day)))), (10, .long (lI (oRest S day T (oAll S day (S 14 0).toNat) h1))), (12, .long (lI (T - oSum S day T (oAll S day (S 14 0).toNat) u))), (14, .int (iI (oBef S day T (oAll S day (S 14 0).toNat) h1 u))), (15, .int (iI ((u : Nat) : Int)))]) (lv_sub hl [6, 7, 9, 10, 5, 4, 3, 2, 1, 0] (by simp only [e0, e1, e2, e3]; rfl)) (fun u hu ihu ls hl => ?_)
    have hl : lv_has ls 21 [(0, .ref (ad 0 0 0)), (1, .int (iI h1)), (3, .int (iI day)), (4, .long (lI T)), (6, .long (lI (oAll S day (S 14 0).toNat))), (8, .long (lI (T * (sWorth S h1 day)))), (10, .long (lI (oRest S day T (oAll S day (S 14 0).toNat) h1))), (12, .long (lI (T - oSum S day T (oAll S day (S 14 0).toNat) u))), (14, .int (iI (oBef S day T (oAll S day (S 14 0).toNat) h1 u))), (15, .int (iI ((u : Nat) : Int)))] := hl
    have hcb := cnt_le (qBef S day T (oAll S day (S 14 0).toNat) h1) u
    have hcb2 : 0 ≤ oBef S day T (oAll S day (S 14 0).toNat) h1 u ∧ oBef S day T (oAll S day (S 14 0).toNat) h1 u ≤ u := hcb
    have hsb := oSum_b hI (day := day) hT (by omega : 0 < oAll S day (S 14 0).toNat) (n := u) (by omega)
    refine lv_iload hx hb dX5_partOf_40 (lv_at hl 9 rfl) ?_
    refine lv_aload_n hx hb dX5_partOf_42 rfl (lv_at hl 0 rfl) ?_
    refine q_get (v := .ref (ad 3 2 0)) (C := RX5) (T := TX5) (N := 11) hx hb hts inX5 hown hK hC.obj rfl 2 (by decide) (hts (.fieldLink RX5 19 "TavernBench" "houses" "Ljava/util/ArrayList;") (by decide +kernel)) (fun _ h9 => h9) rfl dX5_partOf_43 ?_
    refine q_cVi (As := []) (rest := [.int (iI ((u : Nat) : Int))]) ⟨hx, hb, hml, hown, hts⟩ (c0_size l g eA (ad 3 2 0) (ad 4 2 0) (S 14 0)) (cwV 0 hts gX5_partOf_Jx4a65c_size_8abf5 rfl rfl rfl (by decide +kernel) ⟨Nat.le_of_ble_eq_true rfl, Nat.le_of_ble_eq_true rfl⟩) (q_pV hK (hC.lst (k := 2) (by decide)) rfl (hC.lst (k := 2) (by decide))) rfl hl.1 rfl (Nat.le_of_ble_eq_true rfl) ⟨Nat.zero_le _, Nat.zero_le _⟩ dX5_partOf_46 ?_
    refine q_icmp_ge (tgt := 135) hx hb dX5_partOf_49 (by decide) (by omega) (hI.R (by decide)) (fun c49 => ?_) (fun c49 => ?_)
    · have hdb1 := div_b (c := 30000000000) (by omega) (by omega : 0 < oAll S day (S 14 0).toNat) (a := T * sWorth S h1 day)
      have hsl := sg_lt (a := oBef S day T (oAll S day (S 14 0).toNat) h1 u) (b := T - oSum S day T (oAll S day (S 14 0).toNat) u)
      have hsr : R32 (sg (oBef S day T (oAll S day (S 14 0).toNat) h1 u) (T - oSum S day T (oAll S day (S 14 0).toNat) u)) := sg_R _ _
      refine lv_lload hx hb dX5_partOf_135 (lv_at hl 5 rfl) ?_
      refine lv_lload hx hb dX5_partOf_137 (lv_at hl 4 rfl) ?_
      refine q_ldiv hx hb ⟨by omega, by omega⟩ ⟨by omega, by omega⟩ dX5_partOf_139 ?_
      refine q_l2i hx hb dX5_partOf_140 ?_
      refine lv_iload hx hb dX5_partOf_141 (lv_at hl 8 rfl) ?_
      refine q_i2l hx hb (by omega) dX5_partOf_143 ?_
      refine lv_lload hx hb dX5_partOf_144 (lv_at hl 7 rfl) ?_
      refine q_lcmp hx hb (by omega) (by omega) dX5_partOf_146 ?_
      refine q_if_ge (tgt := 154) hx hb dX5_partOf_147 (by decide) (by omega) (fun c147 => ?_) (fun c147 => ?_)
      · refine lv_iconst (v := iI 0) hx hb dX5_partOf_154 rfl ?_
        refine q_iadd hx hb dX5_partOf_155 ?_
        refine q_reti hx hb hr hlocks dX5_partOf_156 ?_
        have eu : u = (S 14 0).toNat := by omega
        subst eu
        show _ = oPart S h1 day T
        unfold oPart
        rw [cI_t (by omega)]
        rw [bI_f (by omega)]
      · refine lv_iconst (v := iI 1) hx hb dX5_partOf_150 rfl ?_
        refine lv_goto (tgt := 155) hx hb dX5_partOf_151 (by decide) ?_
        refine q_iadd hx hb dX5_partOf_155 ?_
        refine q_reti hx hb hr hlocks dX5_partOf_156 ?_
        have eu : u = (S 14 0).toNat := by omega
        subst eu
        show _ = oPart S h1 day T
        unfold oPart
        rw [cI_t (by omega)]
        rw [bI_t (by omega)]
    · refine lv_aload_n hx hb dX5_partOf_52 rfl (lv_at hl 0 rfl) ?_
      refine q_get (v := .ref (ad 3 2 0)) (C := RX5) (T := TX5) (N := 11) hx hb hts inX5 hown hK hC.obj rfl 2 (by decide) (hts (.fieldLink RX5 19 "TavernBench" "houses" "Ljava/util/ArrayList;") (by decide +kernel)) (fun _ h9 => h9) rfl dX5_partOf_53 ?_
      refine lv_iload hx hb dX5_partOf_56 (lv_at hl 9 rfl) ?_
      refine q_cVr (As := [.int (iI ((u : Nat) : Int))]) (rest := []) ⟨hx, hb, hml, hown, hts⟩ (c0_get l g eA (ad 3 2 0) (ad 4 2 0) (S 14 0) (fun q => ad 7 q 0) ((u : Nat) : Int) (by omega) ⟨by omega, by omega⟩ (by omega)) (cwV 1 hts gX5_partOf_Jx4a65c_get_915e3 rfl rfl rfl (by decide +kernel) ⟨Nat.le_of_ble_eq_true rfl, Nat.le_of_ble_eq_true rfl⟩) (q_pV hK (hC.lst (k := 2) (by decide)) rfl ⟨(hC.lst (k := 2) (by decide)), (hC.arr (k := 2) (by decide) (by show 0 < S 14 0; omega))⟩) rfl hl.1 rfl (Nat.le_of_ble_eq_true rfl) ⟨Nat.zero_le _, Nat.zero_le _⟩ dX5_partOf_58 ?_
      refine q_cast (C := RX1) (T := TX1) (N := 7) hx hb hown (hts (.classLink RX5 93 RX1) (by decide +kernel)) hK (hC.house (k := ((u : Nat) : Int)) ⟨by omega, by omega⟩) rfl dX5_partOf_61 ?_
      refine lv_astore (lv' := [(16, .ref (ad 7 ((u : Nat) : Int) 0)), (0, .ref (ad 0 0 0)), (1, .int (iI h1)), (3, .int (iI day)), (4, .long (lI T)), (6, .long (lI (oAll S day (S 14 0).toNat))), (8, .long (lI (T * (sWorth S h1 day)))), (10, .long (lI (oRest S day T (oAll S day (S 14 0).toNat) h1))), (12, .long (lI (T - oSum S day T (oAll S day (S 14 0).toNat) u))), (14, .int (iI (oBef S day T (oAll S day (S 14 0).toNat) h1 u))), (15, .int (iI ((u : Nat) : Int)))]) hx hb dX5_partOf_64 hl (by decide) rfl (fun ls hl => ?_)
      have hwb := sWorth_b hI (h := ((u : Nat) : Int)) ⟨by omega, by omega⟩ day
      have hmb := mul_b hT (b := sWorth S ((u : Nat) : Int) day) (d := 100000) (by omega)
      have hdb := div_b (c := 30000000000) (by omega) (by omega : 0 < oAll S day (S 14 0).toNat) (a := T * sWorth S ((u : Nat) : Int) day)
      have hr1 := Int.emod_nonneg (T * sWorth S ((u : Nat) : Int) day) (by omega : oAll S day (S 14 0).toNat ≠ 0)
      have hr2 := Int.emod_lt_of_pos (T * sWorth S ((u : Nat) : Int) day) (by omega : 0 < oAll S day (S 14 0).toNat)
      have hoe : oRest S day T (oAll S day (S 14 0).toNat) ((u : Nat) : Int) = T * sWorth S ((u : Nat) : Int) day % (oAll S day (S 14 0).toNat) := rfl
      have hs1 := sg_le (a := T * sWorth S ((u : Nat) : Int) day % (oAll S day (S 14 0).toNat)) (b := oRest S day T (oAll S day (S 14 0).toNat) h1)
      have hs2 := sg_0 (a := T * sWorth S ((u : Nat) : Int) day % (oAll S day (S 14 0).toNat)) (b := oRest S day T (oAll S day (S 14 0).toNat) h1)
      have hs3 : R32 (sg (T * sWorth S ((u : Nat) : Int) day % (oAll S day (S 14 0).toNat)) (oRest S day T (oAll S day (S 14 0).toNat) h1)) := sg_R _ _
      refine q_aload hx hb dX5_partOf_66 (lv_at hl 0 rfl) ?_
      refine lv_iload_n hx hb dX5_partOf_68 rfl (lv_at hl 3 rfl) ?_
      refine q_cVi (As := [.int (iI day)]) (rest := []) ⟨hx, hb, hml, hown, hts⟩ (c1_hasLicence l g eA P ad S hI hQ ((u : Nat) : Int) ⟨by omega, by omega⟩ day r_day (by omega)) (cwV 1 hts gX5_partOf_X1_hasLicence rfl rfl rfl (by decide +kernel) ⟨Nat.le_of_ble_eq_true rfl, Nat.le_of_ble_eq_true rfl⟩) (q_pV hK (hC.house (k := ((u : Nat) : Int)) ⟨by omega, by omega⟩) rfl hC) rfl hl.1 rfl (Nat.le_of_ble_eq_true rfl) ⟨Nat.zero_le _, Nat.zero_le _⟩ dX5_partOf_69 ?_
      refine q_ifb_eq (tgt := 129) hx hb dX5_partOf_72 (by decide) (fun c72 => ?_) (fun c72 => ?_)
      · refine lv_iinc (v := iI (((u : Nat) : Int) + 1)) (lv' := [(15, .int (iI (((u : Nat) : Int) + 1))), (16, .ref (ad 7 ((u : Nat) : Int) 0)), (0, .ref (ad 0 0 0)), (1, .int (iI h1)), (3, .int (iI day)), (4, .long (lI T)), (6, .long (lI (oAll S day (S 14 0).toNat))), (8, .long (lI (T * (sWorth S h1 day)))), (10, .long (lI (oRest S day T (oAll S day (S 14 0).toNat) h1))), (12, .long (lI (T - oSum S day T (oAll S day (S 14 0).toNat) u))), (14, .int (iI (oBef S day T (oAll S day (S 14 0).toNat) h1 u)))]) hx hb dX5_partOf_129 hl (k := 10) rfl (iI_add _ _) (by decide) rfl (fun ls hl => ?_)
        refine lv_goto (tgt := 40) hx hb dX5_partOf_132 (by decide) ?_
        have e0 : (T - oSum S day T (oAll S day (S 14 0).toNat) (u + 1) : Int) = T - oSum S day T (oAll S day (S 14 0).toNat) u := by
          show T - (oSum S day T (oAll S day (S 14 0).toNat) u + cI _ _ _) = _
          first | (rw [cI_t (by assumption)]; omega) | (rw [cI_f (by assumption)]; omega)
        have e1 : (oBef S day T (oAll S day (S 14 0).toNat) h1 (u + 1) : Int) = oBef S day T (oAll S day (S 14 0).toNat) h1 u := by
          show cnt (qBef S day T (oAll S day (S 14 0).toNat) h1) (u + 1) = _
          first | exact cnt_1 ⟨by assumption, Or.inl (by omega)⟩ | exact cnt_1 ⟨by assumption, Or.inr ⟨by omega, by omega⟩⟩ | (refine (cnt_0 (fun z => ?_)).trans (Int.add_zero _); first | exact absurd z.1 (by assumption) | (rcases z.2 with y | y <;> omega))
        have e2 : ((((u + 1) : Nat) : Int) : Int) = ((u : Nat) : Int) + 1 := by
          omega
        exact ihu (by omega) ls (lv_sub hl [2, 3, 4, 5, 6, 7, 8, 9, 10, 0] (by simp only [e0, e1, e2]; rfl))
      · refine lv_lload hx hb dX5_partOf_75 (lv_at hl 4 rfl) ?_
        refine q_aload hx hb dX5_partOf_77 (lv_at hl 0 rfl) ?_
        refine lv_iload_n hx hb dX5_partOf_79 rfl (lv_at hl 3 rfl) ?_
        refine q_cVi (As := [.int (iI day)]) (rest := [.long (lI T)]) ⟨hx, hb, hml, hown, hts⟩ (c1_worthOn l g eA P ad S hI hQ ((u : Nat) : Int) ⟨by omega, by omega⟩ day r_day ) (cwV 1 hts gX5_partOf_X1_worthOn rfl rfl rfl (by decide +kernel) ⟨Nat.le_of_ble_eq_true rfl, Nat.le_of_ble_eq_true rfl⟩) (q_pV hK (hC.house (k := ((u : Nat) : Int)) ⟨by omega, by omega⟩) rfl hC) rfl hl.1 rfl (Nat.le_of_ble_eq_true rfl) ⟨Nat.zero_le _, Nat.zero_le _⟩ dX5_partOf_80 ?_
        refine q_i2l hx hb (by omega) dX5_partOf_83 ?_
        refine q_lmul hx hb dX5_partOf_84 ?_
        refine lv_lstore (lv' := [(17, .long (lI (T * (sWorth S ((u : Nat) : Int) day)))), (16, .ref (ad 7 ((u : Nat) : Int) 0)), (0, .ref (ad 0 0 0)), (1, .int (iI h1)), (3, .int (iI day)), (4, .long (lI T)), (6, .long (lI (oAll S day (S 14 0).toNat))), (8, .long (lI (T * (sWorth S h1 day)))), (10, .long (lI (oRest S day T (oAll S day (S 14 0).toNat) h1))), (12, .long (lI (T - oSum S day T (oAll S day (S 14 0).toNat) u))), (14, .int (iI (oBef S day T (oAll S day (S 14 0).toNat) h1 u))), (15, .int (iI ((u : Nat) : Int)))]) hx hb dX5_partOf_85 hl (by decide) rfl (fun ls hl => ?_)
        refine lv_lload hx hb dX5_partOf_87 (lv_at hl 0 rfl) ?_
        refine lv_lload hx hb dX5_partOf_89 (lv_at hl 6 rfl) ?_
        refine q_lrem hx hb ⟨by omega, by omega⟩ ⟨by omega, by omega⟩ dX5_partOf_91 ?_
        refine lv_lstore (lv' := [(19, .long (lI ((T * (sWorth S ((u : Nat) : Int) day)) % (oAll S day (S 14 0).toNat)))), (17, .long (lI (T * (sWorth S ((u : Nat) : Int) day)))), (16, .ref (ad 7 ((u : Nat) : Int) 0)), (0, .ref (ad 0 0 0)), (1, .int (iI h1)), (3, .int (iI day)), (4, .long (lI T)), (6, .long (lI (oAll S day (S 14 0).toNat))), (8, .long (lI (T * (sWorth S h1 day)))), (10, .long (lI (oRest S day T (oAll S day (S 14 0).toNat) h1))), (12, .long (lI (T - oSum S day T (oAll S day (S 14 0).toNat) u))), (14, .int (iI (oBef S day T (oAll S day (S 14 0).toNat) h1 u))), (15, .int (iI ((u : Nat) : Int)))]) hx hb dX5_partOf_92 hl (by decide) rfl (fun ls hl => ?_)
        refine lv_lload hx hb dX5_partOf_94 (lv_at hl 10 rfl) ?_
        refine lv_lload hx hb dX5_partOf_96 (lv_at hl 1 rfl) ?_
        refine lv_lload hx hb dX5_partOf_98 (lv_at hl 7 rfl) ?_
        refine q_ldiv hx hb ⟨by omega, by omega⟩ ⟨by omega, by omega⟩ dX5_partOf_100 ?_
        refine q_lsub hx hb dX5_partOf_101 ?_
        refine lv_lstore (lv' := [(12, .long (lI ((T - oSum S day T (oAll S day (S 14 0).toNat) u) - ((T * (sWorth S ((u : Nat) : Int) day)) / (oAll S day (S 14 0).toNat))))), (19, .long (lI ((T * (sWorth S ((u : Nat) : Int) day)) % (oAll S day (S 14 0).toNat)))), (17, .long (lI (T * (sWorth S ((u : Nat) : Int) day)))), (16, .ref (ad 7 ((u : Nat) : Int) 0)), (0, .ref (ad 0 0 0)), (1, .int (iI h1)), (3, .int (iI day)), (4, .long (lI T)), (6, .long (lI (oAll S day (S 14 0).toNat))), (8, .long (lI (T * (sWorth S h1 day)))), (10, .long (lI (oRest S day T (oAll S day (S 14 0).toNat) h1))), (14, .int (iI (oBef S day T (oAll S day (S 14 0).toNat) h1 u))), (15, .int (iI ((u : Nat) : Int)))]) hx hb dX5_partOf_102 hl (by decide) rfl (fun ls hl => ?_)
        refine lv_lload hx hb dX5_partOf_104 (lv_at hl 1 rfl) ?_
        refine lv_lload hx hb dX5_partOf_106 (lv_at hl 10 rfl) ?_
        refine q_lcmp hx hb (by omega) (by omega) dX5_partOf_108 ?_
        refine q_if_gt (tgt := 126) hx hb dX5_partOf_109 (by decide) (by omega) (fun c109 => ?_) (fun c109 => ?_)
        · refine lv_iinc (v := iI ((oBef S day T (oAll S day (S 14 0).toNat) h1 u) + 1)) (lv' := [(14, .int (iI ((oBef S day T (oAll S day (S 14 0).toNat) h1 u) + 1))), (12, .long (lI ((T - oSum S day T (oAll S day (S 14 0).toNat) u) - ((T * (sWorth S ((u : Nat) : Int) day)) / (oAll S day (S 14 0).toNat))))), (19, .long (lI ((T * (sWorth S ((u : Nat) : Int) day)) % (oAll S day (S 14 0).toNat)))), (17, .long (lI (T * (sWorth S ((u : Nat) : Int) day)))), (16, .ref (ad 7 ((u : Nat) : Int) 0)), (0, .ref (ad 0 0 0)), (1, .int (iI h1)), (3, .int (iI day)), (4, .long (lI T)), (6, .long (lI (oAll S day (S 14 0).toNat))), (8, .long (lI (T * (sWorth S h1 day)))), (10, .long (lI (oRest S day T (oAll S day (S 14 0).toNat) h1))), (15, .int (iI ((u : Nat) : Int)))]) hx hb dX5_partOf_126 hl (k := 11) rfl (iI_add _ _) (by decide) rfl (fun ls hl => ?_)
          refine lv_iinc (v := iI (((u : Nat) : Int) + 1)) (lv' := [(15, .int (iI (((u : Nat) : Int) + 1))), (14, .int (iI ((oBef S day T (oAll S day (S 14 0).toNat) h1 u) + 1))), (12, .long (lI ((T - oSum S day T (oAll S day (S 14 0).toNat) u) - ((T * (sWorth S ((u : Nat) : Int) day)) / (oAll S day (S 14 0).toNat))))), (19, .long (lI ((T * (sWorth S ((u : Nat) : Int) day)) % (oAll S day (S 14 0).toNat)))), (17, .long (lI (T * (sWorth S ((u : Nat) : Int) day)))), (16, .ref (ad 7 ((u : Nat) : Int) 0)), (0, .ref (ad 0 0 0)), (1, .int (iI h1)), (3, .int (iI day)), (4, .long (lI T)), (6, .long (lI (oAll S day (S 14 0).toNat))), (8, .long (lI (T * (sWorth S h1 day)))), (10, .long (lI (oRest S day T (oAll S day (S 14 0).toNat) h1)))]) hx hb dX5_partOf_129 hl (k := 12) rfl (iI_add _ _) (by decide) rfl (fun ls hl => ?_)
          refine lv_goto (tgt := 40) hx hb dX5_partOf_132 (by decide) ?_
          have e0 : (T - oSum S day T (oAll S day (S 14 0).toNat) (u + 1) : Int) = (T - oSum S day T (oAll S day (S 14 0).toNat) u) - ((T * (sWorth S ((u : Nat) : Int) day)) / (oAll S day (S 14 0).toNat)) := by
            show T - (oSum S day T (oAll S day (S 14 0).toNat) u + cI _ _ _) = _
            first | (rw [cI_t (by assumption)]; omega) | (rw [cI_f (by assumption)]; omega)
          have e1 : (oBef S day T (oAll S day (S 14 0).toNat) h1 (u + 1) : Int) = (oBef S day T (oAll S day (S 14 0).toNat) h1 u) + 1 := by
            show cnt (qBef S day T (oAll S day (S 14 0).toNat) h1) (u + 1) = _
            first | exact cnt_1 ⟨by assumption, Or.inl (by omega)⟩ | exact cnt_1 ⟨by assumption, Or.inr ⟨by omega, by omega⟩⟩ | (refine (cnt_0 (fun z => ?_)).trans (Int.add_zero _); first | exact absurd z.1 (by assumption) | (rcases z.2 with y | y <;> omega))
          have e2 : ((((u + 1) : Nat) : Int) : Int) = ((u : Nat) : Int) + 1 := by
            omega
          exact ihu (by omega) ls (lv_sub hl [6, 7, 8, 9, 10, 11, 12, 2, 1, 0] (by simp only [e0, e1, e2]; rfl))
        · refine lv_lload hx hb dX5_partOf_112 (lv_at hl 1 rfl) ?_
          refine lv_lload hx hb dX5_partOf_114 (lv_at hl 10 rfl) ?_
          refine q_lcmp hx hb (by omega) (by omega) dX5_partOf_116 ?_
          refine q_if_ne (tgt := 129) hx hb dX5_partOf_117 (by decide) (by omega) (fun c117 => ?_) (fun c117 => ?_)
          · refine lv_iinc (v := iI (((u : Nat) : Int) + 1)) (lv' := [(15, .int (iI (((u : Nat) : Int) + 1))), (12, .long (lI ((T - oSum S day T (oAll S day (S 14 0).toNat) u) - ((T * (sWorth S ((u : Nat) : Int) day)) / (oAll S day (S 14 0).toNat))))), (19, .long (lI ((T * (sWorth S ((u : Nat) : Int) day)) % (oAll S day (S 14 0).toNat)))), (17, .long (lI (T * (sWorth S ((u : Nat) : Int) day)))), (16, .ref (ad 7 ((u : Nat) : Int) 0)), (0, .ref (ad 0 0 0)), (1, .int (iI h1)), (3, .int (iI day)), (4, .long (lI T)), (6, .long (lI (oAll S day (S 14 0).toNat))), (8, .long (lI (T * (sWorth S h1 day)))), (10, .long (lI (oRest S day T (oAll S day (S 14 0).toNat) h1))), (14, .int (iI (oBef S day T (oAll S day (S 14 0).toNat) h1 u)))]) hx hb dX5_partOf_129 hl (k := 12) rfl (iI_add _ _) (by decide) rfl (fun ls hl => ?_)
            refine lv_goto (tgt := 40) hx hb dX5_partOf_132 (by decide) ?_
            have e0 : (T - oSum S day T (oAll S day (S 14 0).toNat) (u + 1) : Int) = (T - oSum S day T (oAll S day (S 14 0).toNat) u) - ((T * (sWorth S ((u : Nat) : Int) day)) / (oAll S day (S 14 0).toNat)) := by
              show T - (oSum S day T (oAll S day (S 14 0).toNat) u + cI _ _ _) = _
              first | (rw [cI_t (by assumption)]; omega) | (rw [cI_f (by assumption)]; omega)
            have e1 : (oBef S day T (oAll S day (S 14 0).toNat) h1 (u + 1) : Int) = oBef S day T (oAll S day (S 14 0).toNat) h1 u := by
              show cnt (qBef S day T (oAll S day (S 14 0).toNat) h1) (u + 1) = _
              first | exact cnt_1 ⟨by assumption, Or.inl (by omega)⟩ | exact cnt_1 ⟨by assumption, Or.inr ⟨by omega, by omega⟩⟩ | (refine (cnt_0 (fun z => ?_)).trans (Int.add_zero _); first | exact absurd z.1 (by assumption) | (rcases z.2 with y | y <;> omega))
            have e2 : ((((u + 1) : Nat) : Int) : Int) = ((u : Nat) : Int) + 1 := by
              omega
            exact ihu (by omega) ls (lv_sub hl [5, 6, 7, 8, 9, 10, 11, 1, 12, 0] (by simp only [e0, e1, e2]; rfl))
          · refine lv_iload hx hb dX5_partOf_120 (lv_at hl 12 rfl) ?_
            refine lv_iload_n hx hb dX5_partOf_122 rfl (lv_at hl 5 rfl) ?_
            refine q_icmp_ge (tgt := 129) hx hb dX5_partOf_123 (by decide) (by omega) r_h1 (fun c123 => ?_) (fun c123 => ?_)
            · refine lv_iinc (v := iI (((u : Nat) : Int) + 1)) (lv' := [(15, .int (iI (((u : Nat) : Int) + 1))), (12, .long (lI ((T - oSum S day T (oAll S day (S 14 0).toNat) u) - ((T * (sWorth S ((u : Nat) : Int) day)) / (oAll S day (S 14 0).toNat))))), (19, .long (lI ((T * (sWorth S ((u : Nat) : Int) day)) % (oAll S day (S 14 0).toNat)))), (17, .long (lI (T * (sWorth S ((u : Nat) : Int) day)))), (16, .ref (ad 7 ((u : Nat) : Int) 0)), (0, .ref (ad 0 0 0)), (1, .int (iI h1)), (3, .int (iI day)), (4, .long (lI T)), (6, .long (lI (oAll S day (S 14 0).toNat))), (8, .long (lI (T * (sWorth S h1 day)))), (10, .long (lI (oRest S day T (oAll S day (S 14 0).toNat) h1))), (14, .int (iI (oBef S day T (oAll S day (S 14 0).toNat) h1 u)))]) hx hb dX5_partOf_129 hl (k := 12) rfl (iI_add _ _) (by decide) rfl (fun ls hl => ?_)
              refine lv_goto (tgt := 40) hx hb dX5_partOf_132 (by decide) ?_
              have e0 : (T - oSum S day T (oAll S day (S 14 0).toNat) (u + 1) : Int) = (T - oSum S day T (oAll S day (S 14 0).toNat) u) - ((T * (sWorth S ((u : Nat) : Int) day)) / (oAll S day (S 14 0).toNat)) := by
                show T - (oSum S day T (oAll S day (S 14 0).toNat) u + cI _ _ _) = _
                first | (rw [cI_t (by assumption)]; omega) | (rw [cI_f (by assumption)]; omega)
              have e1 : (oBef S day T (oAll S day (S 14 0).toNat) h1 (u + 1) : Int) = oBef S day T (oAll S day (S 14 0).toNat) h1 u := by
                show cnt (qBef S day T (oAll S day (S 14 0).toNat) h1) (u + 1) = _
                first | exact cnt_1 ⟨by assumption, Or.inl (by omega)⟩ | exact cnt_1 ⟨by assumption, Or.inr ⟨by omega, by omega⟩⟩ | (refine (cnt_0 (fun z => ?_)).trans (Int.add_zero _); first | exact absurd z.1 (by assumption) | (rcases z.2 with y | y <;> omega))
              have e2 : ((((u + 1) : Nat) : Int) : Int) = ((u : Nat) : Int) + 1 := by
                omega
              exact ihu (by omega) ls (lv_sub hl [5, 6, 7, 8, 9, 10, 11, 1, 12, 0] (by simp only [e0, e1, e2]; rfl))
            · refine lv_iinc (v := iI ((oBef S day T (oAll S day (S 14 0).toNat) h1 u) + 1)) (lv' := [(14, .int (iI ((oBef S day T (oAll S day (S 14 0).toNat) h1 u) + 1))), (12, .long (lI ((T - oSum S day T (oAll S day (S 14 0).toNat) u) - ((T * (sWorth S ((u : Nat) : Int) day)) / (oAll S day (S 14 0).toNat))))), (19, .long (lI ((T * (sWorth S ((u : Nat) : Int) day)) % (oAll S day (S 14 0).toNat)))), (17, .long (lI (T * (sWorth S ((u : Nat) : Int) day)))), (16, .ref (ad 7 ((u : Nat) : Int) 0)), (0, .ref (ad 0 0 0)), (1, .int (iI h1)), (3, .int (iI day)), (4, .long (lI T)), (6, .long (lI (oAll S day (S 14 0).toNat))), (8, .long (lI (T * (sWorth S h1 day)))), (10, .long (lI (oRest S day T (oAll S day (S 14 0).toNat) h1))), (15, .int (iI ((u : Nat) : Int)))]) hx hb dX5_partOf_126 hl (k := 11) rfl (iI_add _ _) (by decide) rfl (fun ls hl => ?_)
              refine lv_iinc (v := iI (((u : Nat) : Int) + 1)) (lv' := [(15, .int (iI (((u : Nat) : Int) + 1))), (14, .int (iI ((oBef S day T (oAll S day (S 14 0).toNat) h1 u) + 1))), (12, .long (lI ((T - oSum S day T (oAll S day (S 14 0).toNat) u) - ((T * (sWorth S ((u : Nat) : Int) day)) / (oAll S day (S 14 0).toNat))))), (19, .long (lI ((T * (sWorth S ((u : Nat) : Int) day)) % (oAll S day (S 14 0).toNat)))), (17, .long (lI (T * (sWorth S ((u : Nat) : Int) day)))), (16, .ref (ad 7 ((u : Nat) : Int) 0)), (0, .ref (ad 0 0 0)), (1, .int (iI h1)), (3, .int (iI day)), (4, .long (lI T)), (6, .long (lI (oAll S day (S 14 0).toNat))), (8, .long (lI (T * (sWorth S h1 day)))), (10, .long (lI (oRest S day T (oAll S day (S 14 0).toNat) h1)))]) hx hb dX5_partOf_129 hl (k := 12) rfl (iI_add _ _) (by decide) rfl (fun ls hl => ?_)
              refine lv_goto (tgt := 40) hx hb dX5_partOf_132 (by decide) ?_
              have e0 : (T - oSum S day T (oAll S day (S 14 0).toNat) (u + 1) : Int) = (T - oSum S day T (oAll S day (S 14 0).toNat) u) - ((T * (sWorth S ((u : Nat) : Int) day)) / (oAll S day (S 14 0).toNat)) := by
                show T - (oSum S day T (oAll S day (S 14 0).toNat) u + cI _ _ _) = _
                first | (rw [cI_t (by assumption)]; omega) | (rw [cI_f (by assumption)]; omega)
              have e1 : (oBef S day T (oAll S day (S 14 0).toNat) h1 (u + 1) : Int) = (oBef S day T (oAll S day (S 14 0).toNat) h1 u) + 1 := by
                show cnt (qBef S day T (oAll S day (S 14 0).toNat) h1) (u + 1) = _
                first | exact cnt_1 ⟨by assumption, Or.inl (by omega)⟩ | exact cnt_1 ⟨by assumption, Or.inr ⟨by omega, by omega⟩⟩ | (refine (cnt_0 (fun z => ?_)).trans (Int.add_zero _); first | exact absurd z.1 (by assumption) | (rcases z.2 with y | y <;> omega))
              have e2 : ((((u + 1) : Nat) : Int) : Int) = ((u : Nat) : Int) + 1 := by
                omega
              exact ihu (by omega) ls (lv_sub hl [6, 7, 8, 9, 10, 11, 12, 2, 1, 0] (by simp only [e0, e1, e2]; rfl))
  · refine lv_iconst (v := iI 0) hx hb dX5_partOf_14 rfl ?_
    refine q_reti hx hb hr hlocks dX5_partOf_15 ?_
    show _ = oPart S h1 day T
    unfold oPart
    rw [cI_f (by omega)]
