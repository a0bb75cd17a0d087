/-! the law's cases -/
section LAWC
variable {p : Program} {l : Launch} {e : Env} {s : State} {m : MethodId} {below : List Frame} {meth : Method} {c : Code} {H : Heap} {locs : List Loc} {cells slots : Nat} {Q : State → Prop} {ls : Array Slot}
variable {b L xA : Nat} {xs : Nat → Int32} {g : GG} {x : XX} {mad : Nat → Nat} {S : St} {iv : Int}
set_option maxHeartbeats 4000000 in
set_option maxRecDepth 100000 in
theorem lc_on (hx : p.tables.exec = Jvm.exec) (hb : c.code = cL_law) (hml : c.maxLocals = 4) (hown : s.vm.findClass RL = some m.cls) (hts : ∀ w ∈ wsL_law, w.before #[Value.ref b] s = true) (hL : L ≤ 3584) (hX : va_X b L xs s s.heap) (hbl : b < s.heap.size) (hF : LF g x mad s) (hiv : 0 ≤ iv ∧ iv + 7 ≤ (L : Int)) (hI : LI g x mad xA S H) (hS : va_S (fun q : Nat => s.heap.size ≤ q) s.heap H locs) (hr : cells + 6 ≤ room_1.cells ∧ slots + 113 ≤ room_1.slots) (hl : lv_has ls 4 [(0, .ref b), (1, .ref xA), (2, .ref (mad 0)), (3, .int (iI iv))]) (kk : ∀ (S1 : St) (H1 : Heap) (locs1 : List Loc), LI g x mad xA S1 H1 → va_S (fun q : Nat => s.heap.size ≤ q) s.heap H1 locs1 → W p l e room_1 s m #[Value.ref b] below meth c H1 locs1 (cells + 6) (slots + 113) Q (F0 m 705 ls [])) : W p l e room_1 s m #[Value.ref b] below meth c H locs cells slots Q (F0 m 441 ls []) := by
  obtain ⟨⟨hV, hQ⟩, ⟨ad, rfl, hC⟩, hM⟩ := hI
  obtain ⟨⟨hK, hKX⟩, hxs, hi, hPM⟩ := hF
  refine lv_aload_n hx hb dL_law_441 rfl (lv_at hl 1 rfl) ?_
  refine q_arg hx hb hL hX hbl hS hl 1 ⟨by omega, by omega⟩ dL_law_442 dL_law_443 dL_law_444 dL_law_445 dL_law_446 ?_
  refine q_arg hx hb hL hX hbl hS hl 2 ⟨by omega, by omega⟩ dL_law_447 dL_law_448 dL_law_449 dL_law_450 dL_law_451 ?_
  refine q_arg hx hb hL hX hbl hS hl 3 ⟨by omega, by omega⟩ dL_law_452 dL_law_453 dL_law_454 dL_law_455 dL_law_456 ?_
  refine q_cVi (As := [.int (iI (sx xs (iv + 1))), .int (iI (sx xs (iv + 2))), .int (iI (sx xs (iv + 3)))]) (rest := []) ⟨hx, hb, hml, hown, hts⟩ (c5_on l g x.2.1 (PC mad x.2.2) ad S hV hQ (sx xs (iv + 1)) (sx xs (iv + 2)) (sx xs (iv + 3)) (sx_R xs (iv + 1)) (sx_R xs (iv + 2)) (sx_R xs (iv + 3))) (cwV 3 hts gL_law_X5_on rfl rfl rfl (by decide +kernel) ⟨Nat.le_of_ble_eq_true rfl, Nat.le_of_ble_eq_true rfl⟩) (q_pV hK hC.obj rfl hC) rfl hl.1 rfl (Nat.le_of_ble_eq_true rfl) ⟨by omega, by omega⟩ dL_law_457 ?_
  refine lv_aload_n hx hb dL_law_460 rfl (lv_at hl 2 rfl) ?_
  refine q_arg hx hb hL hX hbl hS hl 1 ⟨by omega, by omega⟩ dL_law_461 dL_law_462 dL_law_463 dL_law_464 dL_law_465 ?_
  refine q_arg hx hb hL hX hbl hS hl 2 ⟨by omega, by omega⟩ dL_law_466 dL_law_467 dL_law_468 dL_law_469 dL_law_470 ?_
  refine q_arg hx hb hL hX hbl hS hl 3 ⟨by omega, by omega⟩ dL_law_471 dL_law_472 dL_law_473 dL_law_474 dL_law_475 ?_
  refine q_cVi (As := [.int (iI (sx xs (iv + 1))), .int (iI (sx xs (iv + 2))), .int (iI (sx xs (iv + 3)))]) (rest := [(.int (iI (aOn S (sx xs (iv + 1)) (sx xs (iv + 2)) (sx xs (iv + 3)))))]) ⟨hx, hb, hml, hown, hts⟩ (c6_on l g mad S hV (sx xs (iv + 1)) (sx xs (iv + 2)) (sx xs (iv + 3)) (sx_R xs (iv + 1)) (sx_R xs (iv + 2)) (sx_R xs (iv + 3))) (cwV 3 hts gL_law_X6_on rfl rfl rfl (by decide +kernel) ⟨Nat.le_of_ble_eq_true rfl, Nat.le_of_ble_eq_true rfl⟩) (q_pV hK hM.1 rfl hM) rfl hl.1 rfl (Nat.le_of_ble_eq_true rfl) ⟨by omega, by omega⟩ dL_law_476 ?_
  refine q_same (tgt := 705) hx hb dL_law_479 (by decide) ?_
  refine W.widen (k := cells + 6) (n := slots + 113) (by omega) (by omega) ?_
  exact kk S _ _ ⟨⟨hV, hQ⟩, ⟨ad, rfl, hC⟩, hM⟩ hS

set_option maxHeartbeats 4000000 in
set_option maxRecDepth 100000 in
theorem lc_open (hx : p.tables.exec = Jvm.exec) (hb : c.code = cL_law) (hml : c.maxLocals = 4) (hown : s.vm.findClass RL = some m.cls) (hts : ∀ w ∈ wsL_law, w.before #[Value.ref b] s = true) (hL : L ≤ 3584) (hX : va_X b L xs s s.heap) (hbl : b < s.heap.size) (hF : LF g x mad s) (hiv : 0 ≤ iv ∧ iv + 7 ≤ (L : Int)) (hI : LI g x mad xA S H) (hS : va_S (fun q : Nat => s.heap.size ≤ q) s.heap H locs) (hr : cells + 6 ≤ room_1.cells ∧ slots + 113 ≤ room_1.slots) (hl : lv_has ls 4 [(0, .ref b), (1, .ref xA), (2, .ref (mad 0)), (3, .int (iI iv))]) (kk : ∀ (S1 : St) (H1 : Heap) (locs1 : List Loc), LI g x mad xA S1 H1 → va_S (fun q : Nat => s.heap.size ≤ q) s.heap H1 locs1 → W p l e room_1 s m #[Value.ref b] below meth c H1 locs1 (cells + 6) (slots + 113) Q (F0 m 705 ls [])) : W p l e room_1 s m #[Value.ref b] below meth c H locs cells slots Q (F0 m 484 ls []) := by
  obtain ⟨⟨hV, hQ⟩, ⟨ad, rfl, hC⟩, hM⟩ := hI
  obtain ⟨⟨hK, hKX⟩, hxs, hi, hPM⟩ := hF
  refine lv_aload_n hx hb dL_law_484 rfl (lv_at hl 1 rfl) ?_
  refine q_arg hx hb hL hX hbl hS hl 1 ⟨by omega, by omega⟩ dL_law_485 dL_law_486 dL_law_487 dL_law_488 dL_law_489 ?_
  refine q_arg hx hb hL hX hbl hS hl 2 ⟨by omega, by omega⟩ dL_law_490 dL_law_491 dL_law_492 dL_law_493 dL_law_494 ?_
  refine q_arg hx hb hL hX hbl hS hl 3 ⟨by omega, by omega⟩ dL_law_495 dL_law_496 dL_law_497 dL_law_498 dL_law_499 ?_
  refine q_cVi (As := [.int (iI (sx xs (iv + 1))), .int (iI (sx xs (iv + 2))), .int (iI (sx xs (iv + 3)))]) (rest := []) ⟨hx, hb, hml, hown, hts⟩ (c5_open l g x.2.1 (PC mad x.2.2) ad S hV hQ (sx xs (iv + 1)) (sx xs (iv + 2)) (sx xs (iv + 3)) (sx_R xs (iv + 1)) (sx_R xs (iv + 2)) (sx_R xs (iv + 3))) (cwV 3 hts gL_law_X5_open rfl rfl rfl (by decide +kernel) ⟨Nat.le_of_ble_eq_true rfl, Nat.le_of_ble_eq_true rfl⟩) (q_pV hK hC.obj rfl hC) rfl hl.1 rfl (Nat.le_of_ble_eq_true rfl) ⟨by omega, by omega⟩ dL_law_500 ?_
  refine lv_aload_n hx hb dL_law_503 rfl (lv_at hl 2 rfl) ?_
  refine q_arg hx hb hL hX hbl hS hl 1 ⟨by omega, by omega⟩ dL_law_504 dL_law_505 dL_law_506 dL_law_507 dL_law_508 ?_
  refine q_arg hx hb hL hX hbl hS hl 2 ⟨by omega, by omega⟩ dL_law_509 dL_law_510 dL_law_511 dL_law_512 dL_law_513 ?_
  refine q_arg hx hb hL hX hbl hS hl 3 ⟨by omega, by omega⟩ dL_law_514 dL_law_515 dL_law_516 dL_law_517 dL_law_518 ?_
  refine q_cVi (As := [.int (iI (sx xs (iv + 1))), .int (iI (sx xs (iv + 2))), .int (iI (sx xs (iv + 3)))]) (rest := [(.int (iI (aOpen S (sx xs (iv + 1)) (sx xs (iv + 2)) (sx xs (iv + 3)))))]) ⟨hx, hb, hml, hown, hts⟩ (c6_open l g mad S hV (sx xs (iv + 1)) (sx xs (iv + 2)) (sx xs (iv + 3)) (sx_R xs (iv + 1)) (sx_R xs (iv + 2)) (sx_R xs (iv + 3))) (cwV 3 hts gL_law_X6_open rfl rfl rfl (by decide +kernel) ⟨Nat.le_of_ble_eq_true rfl, Nat.le_of_ble_eq_true rfl⟩) (q_pV hK hM.1 rfl hM) rfl hl.1 rfl (Nat.le_of_ble_eq_true rfl) ⟨by omega, by omega⟩ dL_law_519 ?_
  refine q_same (tgt := 705) hx hb dL_law_522 (by decide) ?_
  refine W.widen (k := cells + 6) (n := slots + 113) (by omega) (by omega) ?_
  exact kk S _ _ ⟨⟨hV, hQ⟩, ⟨ad, rfl, hC⟩, hM⟩ hS
end LAWC
