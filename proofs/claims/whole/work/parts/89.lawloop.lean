/-! the law's loop over the script -/
set_option maxHeartbeats 4000000 in
set_option maxRecDepth 100000 in
theorem law_loop {p : Program} {l : Launch} {e : Env} {s : State} {m : MethodId} {below : List Frame} {meth : Method} {c : Code} {b L xA : Nat} {xs : Nat → Int32} {g : GG} {x : XX} {mad : Nat → Nat} (hx : p.tables.exec = Jvm.exec) (hb : c.code = cL_law) (hr : meth.sig.returnType = ret) (hml : c.maxLocals = 4) (hown : s.vm.findClass RL = some m.cls) (hts : ∀ w ∈ wsL_law, w.before #[Value.ref b] s = true) (hL : L ≤ 3584) (hX : va_X b L xs s s.heap) (hbl : b < s.heap.size) (hlocks : meth.locks = false) (hF : LF g x mad s) :
    ∀ (k i : Nat) (iv : Int) (S : St) (H : Heap) (locs : List Loc) (cells slots : Nat) (ls : Array Slot), iv = 7 * (i : Int) → L < k + 7 * i → 7 * i ≤ L → cells ≤ 40 + 6 * i ∧ slots ≤ 2600 + 113 * i → LI g x mad xA S H → va_S (fun q : Nat => s.heap.size ≤ q) s.heap H locs → lv_has ls 4 [(0, .ref b), (1, .ref xA), (2, .ref (mad 0)), (3, .int (iI iv))] → W p l e room_1 s m #[Value.ref b] below meth c H locs cells slots (lw_Z below #[Value.ref b] s) (F0 m 18 ls []) := by
  intro k
  induction k with
  | zero => intro i iv S H locs cells slots ls _ h1 h2; omega
  | succ k ih =>
    intro i iv S H locs cells slots ls hiv h1 h2 hc hI hS hl
    have hbA : ¬ (fun q : Nat => s.heap.size ≤ q) b := Nat.not_le.mpr hbl
    have rm1 : room_1.cells = 600000 := rfl
    have rm2 : room_1.slots = 7302250 := rfl
    refine lv_iload_n hx hb dL_law_18 rfl (lv_at hl 3 rfl) ?_
    refine lv_aload_n hx hb dL_law_19 rfl (lv_at hl 0 rfl) ?_
    refine va_slen hx hb hX hbl hbA hS dL_law_20 ?_
    rw [iI_nat L]
    refine q_bipush hx hb 7 dL_law_21 (by decide +kernel) ?_
    refine q_isub hx hb dL_law_23 ?_
    refine q_icmp_gt (tgt := 711) hx hb dL_law_24 (by decide) (by omega) (by omega) (fun c1 => ?_) (fun c1 => ?_)
    · refine lv_iconst (v := 1) hx hb dL_law_711 (by decide +kernel) ?_
      refine va_forget hS.2.2 ?_
      refine W.widen (k := 600000) (n := 7302250) (by omega) (by omega) ?_
      exact lw_ret hx hb hr hlocks dL_law_712
    · have hlt : 0 ≤ iv ∧ iv + 7 ≤ (L : Int) := by omega
      have step : ∀ (S1 : St) (H1 : Heap) (locs1 : List Loc), LI g x mad xA S1 H1 → va_S (fun q : Nat => s.heap.size ≤ q) s.heap H1 locs1 → W p l e room_1 s m #[Value.ref b] below meth c H1 locs1 (cells + 6) (slots + 113) (lw_Z below #[Value.ref b] s) (F0 m 705 ls []) := by
        intro S1 H1 locs1 hI1 hS1
        refine lv_iinc (v := iI (iv + 7)) (lv' := [(3, .int (iI (iv + 7))), (0, .ref b), (1, .ref xA), (2, .ref (mad 0))]) hx hb dL_law_705 hl (k := 3) rfl (iI_add _ _) (by decide) rfl (fun ls hl => ?_)
        refine lv_goto (tgt := 18) hx hb dL_law_708 (by decide) ?_
        exact ih (i + 1) (iv + 7) S1 H1 locs1 _ _ ls (by omega) (by omega) (by omega) ⟨by omega, by omega⟩ hI1 hS1 (lv_sub hl [1, 2, 3, 0] rfl)
      have hrm : cells + 6 ≤ room_1.cells ∧ slots + 113 ≤ room_1.slots := ⟨by omega, by omega⟩
      refine lv_aload_n hx hb dL_law_27 rfl (lv_at hl 0 rfl) ?_
      refine lv_iload_n hx hb dL_law_28 rfl (lv_at hl 3 rfl) ?_
      refine q_sld hx hb hL hX hbl hS ⟨by omega, by omega⟩ dL_law_29 ?_
      refine q_bipush hx hb 15 dL_law_30 (by decide +kernel) ?_
      refine lv_iand hx hb dL_law_32 ?_
      obtain ⟨j, hj, ej⟩ := pk_andE (iI (sx xs iv)) (m := iI 15) 4 (by decide +kernel)
      rw [ej, show nI j = iI (j : Int) from iI_nat j]
      have hj : j < 16 := hj
      rcases (show 14 < (j : Int) ∨ (j : Int) = 0 ∨ (j : Int) = 1 ∨ (j : Int) = 2 ∨ (j : Int) = 3 ∨ (j : Int) = 4 ∨ (j : Int) = 5 ∨ (j : Int) = 6 ∨ (j : Int) = 7 ∨ (j : Int) = 8 ∨ (j : Int) = 9 ∨ (j : Int) = 10 ∨ (j : Int) = 11 ∨ (j : Int) = 12 ∨ (j : Int) = 13 ∨ (j : Int) = 14 by omega) with c2 | c2 | c2 | c2 | c2 | c2 | c2 | c2 | c2 | c2 | c2 | c2 | c2 | c2 | c2 | c2
      · refine q_tabOut (tgt := 705) hx hb dL_law_33 (by omega) (Or.inr c2) (by decide) ?_
        exact W.widen (k := cells + 6) (n := slots + 113) (by omega) (by omega) (step S H locs hI hS)
      · refine q_tabIn (off := 75) (tgt := 108) (k := 0) hx hb dL_law_33 (by omega) c2 (by decide) (by decide) (by decide +kernel) (by decide) ?_
        exact lc_feast hx hb hml hown hts hL hX hbl hF hlt hI hS hrm hl step
      · refine q_tabIn (off := 98) (tgt := 131) (k := 1) hx hb dL_law_33 (by omega) c2 (by decide) (by decide) (by decide +kernel) (by decide) ?_
        exact lc_law hx hb hml hown hts hL hX hbl hF hlt hI hS hrm hl step
      · refine q_tabIn (off := 161) (tgt := 194) (k := 2) hx hb dL_law_33 (by omega) c2 (by decide) (by decide) (by decide +kernel) (by decide) ?_
        exact lc_rule hx hb hml hown hts hL hX hbl hF hlt hI hS hrm hl step
      · refine q_tabIn (off := 194) (tgt := 227) (k := 3) hx hb dL_law_33 (by omega) c2 (by decide) (by decide) (by decide +kernel) (by decide) ?_
        exact lc_objector hx hb hml hown hts hL hX hbl hF hlt hI hS hrm hl step
      · refine q_tabIn (off := 237) (tgt := 270) (k := 4) hx hb dL_law_33 (by omega) c2 (by decide) (by decide) (by decide +kernel) (by decide) ?_
        exact lc_ask hx hb hml hown hts hL hX hbl hF hlt hI hS hrm hl step
      · refine q_tabIn (off := 312) (tgt := 345) (k := 5) hx hb dL_law_33 (by omega) c2 (by decide) (by decide) (by decide +kernel) (by decide) ?_
        exact lc_event hx hb hml hown hts hL hX hbl hF hlt hI hS hrm hl step
      · refine q_tabIn (off := 365) (tgt := 398) (k := 6) hx hb dL_law_33 (by omega) c2 (by decide) (by decide) (by decide +kernel) (by decide) ?_
        exact lc_worth hx hb hml hown hts hL hX hbl hF hlt hI hS hrm hl step
      · refine q_tabIn (off := 408) (tgt := 441) (k := 7) hx hb dL_law_33 (by omega) c2 (by decide) (by decide) (by decide +kernel) (by decide) ?_
        exact lc_on hx hb hml hown hts hL hX hbl hF hlt hI hS hrm hl step
      · refine q_tabIn (off := 451) (tgt := 484) (k := 8) hx hb dL_law_33 (by omega) c2 (by decide) (by decide) (by decide +kernel) (by decide) ?_
        exact lc_open hx hb hml hown hts hL hX hbl hF hlt hI hS hrm hl step
      · refine q_tabIn (off := 494) (tgt := 527) (k := 9) hx hb dL_law_33 (by omega) c2 (by decide) (by decide) (by decide +kernel) (by decide) ?_
        exact lc_minutes hx hb hml hown hts hL hX hbl hF hlt hI hS hrm hl step
      · refine q_tabIn (off := 527) (tgt := 560) (k := 10) hx hb dL_law_33 (by omega) c2 (by decide) (by decide) (by decide +kernel) (by decide) ?_
        exact lc_lawOn hx hb hml hown hts hL hX hbl hF hlt hI hS hrm hl step
      · refine q_tabIn (off := 570) (tgt := 603) (k := 11) hx hb dL_law_33 (by omega) c2 (by decide) (by decide) (by decide +kernel) (by decide) ?_
        exact lc_owes hx hb hml hown hts hL hX hbl hF hlt hI hS hrm hl step
      · refine q_tabIn (off := 603) (tgt := 636) (k := 12) hx hb dL_law_33 (by omega) c2 (by decide) (by decide) (by decide +kernel) (by decide) ?_
        exact lc_visit hx hb hml hown hts hL hX hbl hF hlt hI hS hrm hl step
      · refine q_tabIn (off := 626) (tgt := 659) (k := 13) hx hb dL_law_33 (by omega) c2 (by decide) (by decide) (by decide +kernel) (by decide) ?_
        exact lc_seed hx hb hml hown hts hL hX hbl hF hlt hI hS hrm hl step
      · refine q_tabIn (off := 649) (tgt := 682) (k := 14) hx hb dL_law_33 (by omega) c2 (by decide) (by decide) (by decide +kernel) (by decide) ?_
        exact lc_count hx hb hml hown hts hL hX hbl hF hlt hI hS hrm hl step
