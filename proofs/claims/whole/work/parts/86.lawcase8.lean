/-! the law's cases -/
section LAWC
variable {p : Program} {l : Launch} {e : Env} {s : State} {m : MethodId} {below : List Frame} {meth : Method} {c : Code} {H : Heap} {locs : List Loc} {cells slots : Nat} {Q : State → Prop} {ls : Array Slot}
variable {b L xA : Nat} {xs : Nat → Int32} {g : GG} {x : XX} {mad : Nat → Nat} {S : St} {iv : Int}
set_option maxHeartbeats 4000000 in
set_option maxRecDepth 100000 in
theorem lc_owes (hx : p.tables.exec = Jvm.exec) (hb : c.code = cL_law) (hml : c.maxLocals = 4) (hown : s.vm.findClass RL = some m.cls) (hts : ∀ w ∈ wsL_law, w.before #[Value.ref b] s = true) (hL : L ≤ 3584) (hX : va_X b L xs s s.heap) (hbl : b < s.heap.size) (hF : LF g x mad s) (hiv : 0 ≤ iv ∧ iv + 7 ≤ (L : Int)) (hI : LI g x mad xA S H) (hS : va_S (fun q : Nat => s.heap.size ≤ q) s.heap H locs) (hr : cells + 6 ≤ room_1.cells ∧ slots + 113 ≤ room_1.slots) (hl : lv_has ls 4 [(0, .ref b), (1, .ref xA), (2, .ref (mad 0)), (3, .int (iI iv))]) (kk : ∀ (S1 : St) (H1 : Heap) (locs1 : List Loc), LI g x mad xA S1 H1 → va_S (fun q : Nat => s.heap.size ≤ q) s.heap H1 locs1 → W p l e room_1 s m #[Value.ref b] below meth c H1 locs1 (cells + 6) (slots + 113) Q (F0 m 705 ls [])) : W p l e room_1 s m #[Value.ref b] below meth c H locs cells slots Q (F0 m 603 ls []) := by
  obtain ⟨⟨hV, hQ⟩, ⟨ad, rfl, hC⟩, hM⟩ := hI
  obtain ⟨⟨hK, hKX⟩, hxs, hi, hPM⟩ := hF
  refine lv_aload_n hx hb dL_law_603 rfl (lv_at hl 1 rfl) ?_
  refine q_arg hx hb hL hX hbl hS hl 1 ⟨by omega, by omega⟩ dL_law_604 dL_law_605 dL_law_606 dL_law_607 dL_law_608 ?_
  refine q_arg hx hb hL hX hbl hS hl 2 ⟨by omega, by omega⟩ dL_law_609 dL_law_610 dL_law_611 dL_law_612 dL_law_613 ?_
  refine q_cVi (As := [.int (iI (sx xs (iv + 1))), .int (iI (sx xs (iv + 2)))]) (rest := []) ⟨hx, hb, hml, hown, hts⟩ (c5_owes l g x.2.1 (PC mad x.2.2) ad S hV hQ (sx xs (iv + 1)) (sx xs (iv + 2)) (sx_R xs (iv + 1)) (sx_R xs (iv + 2))) (cwV 2 hts gL_law_X5_owes rfl rfl rfl (by decide +kernel) ⟨Nat.le_of_ble_eq_true rfl, Nat.le_of_ble_eq_true rfl⟩) (q_pV hK hC.obj rfl hC) rfl hl.1 rfl (Nat.le_of_ble_eq_true rfl) ⟨by omega, by omega⟩ dL_law_614 ?_
  refine lv_aload_n hx hb dL_law_617 rfl (lv_at hl 2 rfl) ?_
  refine q_arg hx hb hL hX hbl hS hl 1 ⟨by omega, by omega⟩ dL_law_618 dL_law_619 dL_law_620 dL_law_621 dL_law_622 ?_
  refine q_arg hx hb hL hX hbl hS hl 2 ⟨by omega, by omega⟩ dL_law_623 dL_law_624 dL_law_625 dL_law_626 dL_law_627 ?_
  refine q_cMV (As := [.int (iI (sx xs (iv + 1))), .int (iI (sx xs (iv + 2)))]) (rest := [(.int (iI (aOwes S (sx xs (iv + 1)) (sx xs (iv + 2)))))]) ⟨hx, hb, hml, hown, hts⟩ (c6_owes l g mad S hV (sx xs (iv + 1)) (sx xs (iv + 2)) (sx_R xs (iv + 1)) (sx_R xs (iv + 2)) hi) (cwV 2 hts gL_law_X6_owes rfl rfl rfl (by decide +kernel) ⟨Nat.le_of_ble_eq_true rfl, Nat.le_of_ble_eq_true rfl⟩) (q_pV hK hM.1 rfl hM) rfl hl.1 rfl (Nat.le_of_ble_eq_true rfl) ⟨by omega, by omega⟩ dL_law_628 hS (fun q h => hPM q h) (fun H2 locs2 hp2 hz2 hk2 hS => ?_)
  have hC := hC.keep2 (H1 := H2) (fun q h z => hk2 q h z.2)
  refine q_same (tgt := 705) hx hb dL_law_631 (by decide) ?_
  refine W.widen (k := cells + 6) (n := slots + 113) (by omega) (by omega) ?_
  obtain ⟨S2, hS2, hM⟩ := hp2
  have hV2 : Inv S2 := Inv.congr (S := S) (fun q hq => hS2 q (by omega) (by omega)) hV
  have hQ2 : InvC S2 := InvC.same (S := S) (hS2 14 (by decide) (by decide)) (hS2 19 (by decide) (by decide)) (hS2 20 (by decide) (by decide)) (hS2 21 (by decide) (by decide)) (hS2 22 (by decide) (by decide)) (hS2 40 (by decide) (by decide)) hQ
  exact kk S2 _ _ ⟨⟨hV2, hQ2⟩, ⟨ad, rfl, hC.congr hS2⟩, hM⟩ hS

set_option maxHeartbeats 4000000 in
set_option maxRecDepth 100000 in
theorem lc_visit (hx : p.tables.exec = Jvm.exec) (hb : c.code = cL_law) (hml : c.maxLocals = 4) (hown : s.vm.findClass RL = some m.cls) (hts : ∀ w ∈ wsL_law, w.before #[Value.ref b] s = true) (hL : L ≤ 3584) (hX : va_X b L xs s s.heap) (hbl : b < s.heap.size) (hF : LF g x mad s) (hiv : 0 ≤ iv ∧ iv + 7 ≤ (L : Int)) (hI : LI g x mad xA S H) (hS : va_S (fun q : Nat => s.heap.size ≤ q) s.heap H locs) (hr : cells + 6 ≤ room_1.cells ∧ slots + 113 ≤ room_1.slots) (hl : lv_has ls 4 [(0, .ref b), (1, .ref xA), (2, .ref (mad 0)), (3, .int (iI iv))]) (kk : ∀ (S1 : St) (H1 : Heap) (locs1 : List Loc), LI g x mad xA S1 H1 → va_S (fun q : Nat => s.heap.size ≤ q) s.heap H1 locs1 → W p l e room_1 s m #[Value.ref b] below meth c H1 locs1 (cells + 6) (slots + 113) Q (F0 m 705 ls [])) : W p l e room_1 s m #[Value.ref b] below meth c H locs cells slots Q (F0 m 636 ls []) := by
  obtain ⟨⟨hV, hQ⟩, ⟨ad, rfl, hC⟩, hM⟩ := hI
  obtain ⟨⟨hK, hKX⟩, hxs, hi, hPM⟩ := hF
  refine lv_aload_n hx hb dL_law_636 rfl (lv_at hl 1 rfl) ?_
  refine q_arg hx hb hL hX hbl hS hl 1 ⟨by omega, by omega⟩ dL_law_637 dL_law_638 dL_law_639 dL_law_640 dL_law_641 ?_
  have hPs : ∀ q, H.size ≤ q → PC mad x.2.2 q := fun q h => ⟨by have := hS.1; omega, fun z => by have := hM.lt z; omega⟩
  have hAb : ∀ q : Nat, (fun q : Nat => s.heap.size ≤ q) q → x.2.2 ≤ q := fun q h => by rw [hxs]; exact h
  refine q_xVi (As := [.int (iI (sx xs (iv + 1)))]) (rest := []) ⟨hx, hb, hml, hown, hts⟩ (cw_visit l g x (PC mad x.2.2) ad S hV hQ H.size (fun q h => h.1) hPs (sx xs (iv + 1)) (sx_R xs (iv + 1))) (cwV 1 hts gL_law_X5_visit rfl rfl rfl (by decide +kernel) ⟨Nat.le_of_ble_eq_true rfl, Nat.le_of_ble_eq_true rfl⟩) (q_pVX hK hKX hS hAb hC.obj rfl ⟨rfl, hC⟩) rfl hl.1 rfl (Nat.le_of_ble_eq_true rfl) ⟨by omega, by omega⟩ dL_law_642 hS (fun q h => by have := h.1; rw [hxs] at this; exact this) (fun H1 locs1 hp1 hz1 hk1 hS => ?_)
  have hM := hM.keep2 (H1 := H1) (fun q h z => hk1 q h (fun y => y.2 z))
  obtain ⟨ad1, had1, hC⟩ := hp1
  refine lv_aload_n hx hb dL_law_645 rfl (lv_at hl 2 rfl) ?_
  refine q_arg hx hb hL hX hbl hS hl 1 ⟨by omega, by omega⟩ dL_law_646 dL_law_647 dL_law_648 dL_law_649 dL_law_650 ?_
  refine q_cMV (As := [.int (iI (sx xs (iv + 1)))]) (rest := [(.int (iI (aVisit S (sx xs (iv + 1)))))]) ⟨hx, hb, hml, hown, hts⟩ (c6_visit l g mad S hV (sx xs (iv + 1)) (sx_R xs (iv + 1)) hi) (cwV 1 hts gL_law_X6_visit rfl rfl rfl (by decide +kernel) ⟨Nat.le_of_ble_eq_true rfl, Nat.le_of_ble_eq_true rfl⟩) (q_pV hK hM.1 rfl hM) rfl hl.1 rfl (Nat.le_of_ble_eq_true rfl) ⟨by omega, by omega⟩ dL_law_651 hS (fun q h => hPM q h) (fun H2 locs2 hp2 hz2 hk2 hS => ?_)
  have hC := hC.keep2 (H1 := H2) (fun q h z => hk2 q h z.2)
  refine q_same (tgt := 705) hx hb dL_law_654 (by decide) ?_
  refine W.widen (k := cells + 6) (n := slots + 113) (by omega) (by omega) ?_
  exact kk (tVisit S (sx xs (iv + 1))) _ _ ⟨⟨hV.xVisit, hQ.xVisit⟩, ⟨ad1, had1, hC⟩, hp2⟩ hS
end LAWC
