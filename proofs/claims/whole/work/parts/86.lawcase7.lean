/-! the law's cases -/
section LAWC
variable {p : Program} {l : Launch} {e : Env} {s : State} {m : MethodId} {below : List Frame} {meth : Method} {c : Code} {H : Heap} {locs : List Loc} {cells slots : Nat} {Q : State → Prop} {ls : Array Slot}
variable {b L xA : Nat} {xs : Nat → Int32} {g : GG} {x : XX} {mad : Nat → Nat} {S : St} {iv : Int}
set_option maxHeartbeats 4000000 in
set_option maxRecDepth 100000 in
theorem lc_minutes (hx : p.tables.exec = Jvm.exec) (hb : c.code = cL_law) (hml : c.maxLocals = 4) (hown : s.vm.findClass RL = some m.cls) (hts : ∀ w ∈ wsL_law, w.before #[Value.ref b] s = true) (hL : L ≤ 3584) (hX : va_X b L xs s s.heap) (hbl : b < s.heap.size) (hF : LF g x mad s) (hiv : 0 ≤ iv ∧ iv + 7 ≤ (L : Int)) (hI : LI g x mad xA S H) (hS : va_S (fun q : Nat => s.heap.size ≤ q) s.heap H locs) (hr : cells + 6 ≤ room_1.cells ∧ slots + 113 ≤ room_1.slots) (hl : lv_has ls 4 [(0, .ref b), (1, .ref xA), (2, .ref (mad 0)), (3, .int (iI iv))]) (kk : ∀ (S1 : St) (H1 : Heap) (locs1 : List Loc), LI g x mad xA S1 H1 → va_S (fun q : Nat => s.heap.size ≤ q) s.heap H1 locs1 → W p l e room_1 s m #[Value.ref b] below meth c H1 locs1 (cells + 6) (slots + 113) Q (F0 m 705 ls [])) : W p l e room_1 s m #[Value.ref b] below meth c H locs cells slots Q (F0 m 527 ls []) := by
  obtain ⟨⟨hV, hQ⟩, ⟨ad, rfl, hC⟩, hM⟩ := hI
  obtain ⟨⟨hK, hKX⟩, hxs, hi, hPM⟩ := hF
  refine lv_aload_n hx hb dL_law_527 rfl (lv_at hl 1 rfl) ?_
  refine q_arg hx hb hL hX hbl hS hl 1 ⟨by omega, by omega⟩ dL_law_528 dL_law_529 dL_law_530 dL_law_531 dL_law_532 ?_
  refine q_arg hx hb hL hX hbl hS hl 2 ⟨by omega, by omega⟩ dL_law_533 dL_law_534 dL_law_535 dL_law_536 dL_law_537 ?_
  refine q_cVi (As := [.int (iI (sx xs (iv + 1))), .int (iI (sx xs (iv + 2)))]) (rest := []) ⟨hx, hb, hml, hown, hts⟩ (c5_minutes l g x.2.1 (PC mad x.2.2) ad S hV hQ (sx xs (iv + 1)) (sx xs (iv + 2)) (sx_R xs (iv + 1)) (sx_R xs (iv + 2))) (cwV 2 hts gL_law_X5_minutes rfl rfl rfl (by decide +kernel) ⟨Nat.le_of_ble_eq_true rfl, Nat.le_of_ble_eq_true rfl⟩) (q_pV hK hC.obj rfl hC) rfl hl.1 rfl (Nat.le_of_ble_eq_true rfl) ⟨by omega, by omega⟩ dL_law_538 ?_
  refine lv_aload_n hx hb dL_law_541 rfl (lv_at hl 2 rfl) ?_
  refine q_arg hx hb hL hX hbl hS hl 1 ⟨by omega, by omega⟩ dL_law_542 dL_law_543 dL_law_544 dL_law_545 dL_law_546 ?_
  refine q_arg hx hb hL hX hbl hS hl 2 ⟨by omega, by omega⟩ dL_law_547 dL_law_548 dL_law_549 dL_law_550 dL_law_551 ?_
  refine q_cVi (As := [.int (iI (sx xs (iv + 1))), .int (iI (sx xs (iv + 2)))]) (rest := [(.int (iI (aMinutes S (sx xs (iv + 1)) (sx xs (iv + 2)))))]) ⟨hx, hb, hml, hown, hts⟩ (c6_minutes l g mad S hV (sx xs (iv + 1)) (sx xs (iv + 2)) (sx_R xs (iv + 1)) (sx_R xs (iv + 2))) (cwV 2 hts gL_law_X6_minutes rfl rfl rfl (by decide +kernel) ⟨Nat.le_of_ble_eq_true rfl, Nat.le_of_ble_eq_true rfl⟩) (q_pV hK hM.1 rfl hM) rfl hl.1 rfl (Nat.le_of_ble_eq_true rfl) ⟨by omega, by omega⟩ dL_law_552 ?_
  refine q_same (tgt := 705) hx hb dL_law_555 (by decide) ?_
  refine W.widen (k := cells + 6) (n := slots + 113) (by omega) (by omega) ?_
  exact kk S _ _ ⟨⟨hV, hQ⟩, ⟨ad, rfl, hC⟩, hM⟩ hS

set_option maxHeartbeats 4000000 in
set_option maxRecDepth 100000 in
theorem lc_lawOn (hx : p.tables.exec = Jvm.exec) (hb : c.code = cL_law) (hml : c.maxLocals = 4) (hown : s.vm.findClass RL = some m.cls) (hts : ∀ w ∈ wsL_law, w.before #[Value.ref b] s = true) (hL : L ≤ 3584) (hX : va_X b L xs s s.heap) (hbl : b < s.heap.size) (hF : LF g x mad s) (hiv : 0 ≤ iv ∧ iv + 7 ≤ (L : Int)) (hI : LI g x mad xA S H) (hS : va_S (fun q : Nat => s.heap.size ≤ q) s.heap H locs) (hr : cells + 6 ≤ room_1.cells ∧ slots + 113 ≤ room_1.slots) (hl : lv_has ls 4 [(0, .ref b), (1, .ref xA), (2, .ref (mad 0)), (3, .int (iI iv))]) (kk : ∀ (S1 : St) (H1 : Heap) (locs1 : List Loc), LI g x mad xA S1 H1 → va_S (fun q : Nat => s.heap.size ≤ q) s.heap H1 locs1 → W p l e room_1 s m #[Value.ref b] below meth c H1 locs1 (cells + 6) (slots + 113) Q (F0 m 705 ls [])) : W p l e room_1 s m #[Value.ref b] below meth c H locs cells slots Q (F0 m 560 ls []) := by
  obtain ⟨⟨hV, hQ⟩, ⟨ad, rfl, hC⟩, hM⟩ := hI
  obtain ⟨⟨hK, hKX⟩, hxs, hi, hPM⟩ := hF
  refine lv_aload_n hx hb dL_law_560 rfl (lv_at hl 1 rfl) ?_
  refine q_arg hx hb hL hX hbl hS hl 1 ⟨by omega, by omega⟩ dL_law_561 dL_law_562 dL_law_563 dL_law_564 dL_law_565 ?_
  refine q_arg hx hb hL hX hbl hS hl 2 ⟨by omega, by omega⟩ dL_law_566 dL_law_567 dL_law_568 dL_law_569 dL_law_570 ?_
  refine q_arg hx hb hL hX hbl hS hl 3 ⟨by omega, by omega⟩ dL_law_571 dL_law_572 dL_law_573 dL_law_574 dL_law_575 ?_
  refine q_cVi (As := [.int (iI (sx xs (iv + 1))), .int (iI (sx xs (iv + 2))), .int (iI (sx xs (iv + 3)))]) (rest := []) ⟨hx, hb, hml, hown, hts⟩ (c5_lawOn l g x.2.1 (PC mad x.2.2) ad S hV hQ (sx xs (iv + 1)) (sx xs (iv + 2)) (sx xs (iv + 3)) (sx_R xs (iv + 1)) (sx_R xs (iv + 2)) (sx_R xs (iv + 3))) (cwV 3 hts gL_law_X5_lawOn rfl rfl rfl (by decide +kernel) ⟨Nat.le_of_ble_eq_true rfl, Nat.le_of_ble_eq_true rfl⟩) (q_pV hK hC.obj rfl hC) rfl hl.1 rfl (Nat.le_of_ble_eq_true rfl) ⟨by omega, by omega⟩ dL_law_576 ?_
  refine lv_aload_n hx hb dL_law_579 rfl (lv_at hl 2 rfl) ?_
  refine q_arg hx hb hL hX hbl hS hl 1 ⟨by omega, by omega⟩ dL_law_580 dL_law_581 dL_law_582 dL_law_583 dL_law_584 ?_
  refine q_arg hx hb hL hX hbl hS hl 2 ⟨by omega, by omega⟩ dL_law_585 dL_law_586 dL_law_587 dL_law_588 dL_law_589 ?_
  refine q_arg hx hb hL hX hbl hS hl 3 ⟨by omega, by omega⟩ dL_law_590 dL_law_591 dL_law_592 dL_law_593 dL_law_594 ?_
  refine q_cVi (As := [.int (iI (sx xs (iv + 1))), .int (iI (sx xs (iv + 2))), .int (iI (sx xs (iv + 3)))]) (rest := [(.int (iI (aLawOn S (sx xs (iv + 1)) (sx xs (iv + 2)) (sx xs (iv + 3)))))]) ⟨hx, hb, hml, hown, hts⟩ (c6_lawOn l g mad S hV (sx xs (iv + 1)) (sx xs (iv + 2)) (sx xs (iv + 3)) (sx_R xs (iv + 1)) (sx_R xs (iv + 2)) (sx_R xs (iv + 3))) (cwV 3 hts gL_law_X6_lawOn rfl rfl rfl (by decide +kernel) ⟨Nat.le_of_ble_eq_true rfl, Nat.le_of_ble_eq_true rfl⟩) (q_pV hK hM.1 rfl hM) rfl hl.1 rfl (Nat.le_of_ble_eq_true rfl) ⟨by omega, by omega⟩ dL_law_595 ?_
  refine q_same (tgt := 705) hx hb dL_law_598 (by decide) ?_
  refine W.widen (k := cells + 6) (n := slots + 113) (by omega) (by omega) ?_
  exact kk S _ _ ⟨⟨hV, hQ⟩, ⟨ad, rfl, hC⟩, hM⟩ hS
end LAWC
