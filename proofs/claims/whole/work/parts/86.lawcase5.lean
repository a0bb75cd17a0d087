/-! the law's cases -/
section LAWC
variable {p : Program} {l : Launch} {e : Env} {s : State} {m : MethodId} {below : List Frame} {meth : Method} {c : Code} {H : Heap} {locs : List Loc} {cells slots : Nat} {Q : State → Prop} {ls : Array Slot}
variable {b L xA : Nat} {xs : Nat → Int32} {g : GG} {x : XX} {mad : Nat → Nat} {S : St} {iv : Int}
set_option maxHeartbeats 4000000 in
set_option maxRecDepth 100000 in
theorem lc_event (hx : p.tables.exec = Jvm.exec) (hb : c.code = cL_law) (hml : c.maxLocals = 4) (hown : s.vm.findClass RL = some m.cls) (hts : ∀ w ∈ wsL_law, w.before #[Value.ref b] s = true) (hL : L ≤ 3584) (hX : va_X b L xs s s.heap) (hbl : b < s.heap.size) (hF : LF g x mad s) (hiv : 0 ≤ iv ∧ iv + 7 ≤ (L : Int)) (hI : LI g x mad xA S H) (hS : va_S (fun q : Nat => s.heap.size ≤ q) s.heap H locs) (hr : cells + 6 ≤ room_1.cells ∧ slots + 113 ≤ room_1.slots) (hl : lv_has ls 4 [(0, .ref b), (1, .ref xA), (2, .ref (mad 0)), (3, .int (iI iv))]) (kk : ∀ (S1 : St) (H1 : Heap) (locs1 : List Loc), LI g x mad xA S1 H1 → va_S (fun q : Nat => s.heap.size ≤ q) s.heap H1 locs1 → W p l e room_1 s m #[Value.ref b] below meth c H1 locs1 (cells + 6) (slots + 113) Q (F0 m 705 ls [])) : W p l e room_1 s m #[Value.ref b] below meth c H locs cells slots Q (F0 m 345 ls []) := by
  obtain ⟨⟨hV, hQ⟩, ⟨ad, rfl, hC⟩, hM⟩ := hI
  obtain ⟨⟨hK, hKX⟩, hxs, hi, hPM⟩ := hF
  refine lv_aload_n hx hb dL_law_345 rfl (lv_at hl 1 rfl) ?_
  refine q_arg hx hb hL hX hbl hS hl 1 ⟨by omega, by omega⟩ dL_law_346 dL_law_347 dL_law_348 dL_law_349 dL_law_350 ?_
  refine q_arg hx hb hL hX hbl hS hl 2 ⟨by omega, by omega⟩ dL_law_351 dL_law_352 dL_law_353 dL_law_354 dL_law_355 ?_
  refine q_arg hx hb hL hX hbl hS hl 3 ⟨by omega, by omega⟩ dL_law_356 dL_law_357 dL_law_358 dL_law_359 dL_law_360 ?_
  refine q_arg hx hb hL hX hbl hS hl 4 ⟨by omega, by omega⟩ dL_law_361 dL_law_362 dL_law_363 dL_law_364 dL_law_365 ?_
  have hPs : ∀ q, H.size ≤ q → PC mad x.2.2 q := fun q h => ⟨by have := hS.1; omega, fun z => by have := hM.lt z; omega⟩
  have hAb : ∀ q : Nat, (fun q : Nat => s.heap.size ≤ q) q → x.2.2 ≤ q := fun q h => by rw [hxs]; exact h
  refine q_xVi (As := [.int (iI (sx xs (iv + 1))), .int (iI (sx xs (iv + 2))), .int (iI (sx xs (iv + 3))), .int (iI (sx xs (iv + 4)))]) (rest := []) ⟨hx, hb, hml, hown, hts⟩ (cw_event l g x (PC mad x.2.2) ad S hV hQ H.size (fun q h => h.1) hPs (sx xs (iv + 1)) (sx xs (iv + 2)) (sx xs (iv + 3)) (sx xs (iv + 4)) (sx_R xs (iv + 1)) (sx_R xs (iv + 2)) (sx_R xs (iv + 3)) (sx_R xs (iv + 4))) (cwV 4 hts gL_law_X5_event rfl rfl rfl (by decide +kernel) ⟨Nat.le_of_ble_eq_true rfl, Nat.le_of_ble_eq_true rfl⟩) (q_pVX hK hKX hS hAb hC.obj rfl ⟨rfl, hC⟩) rfl hl.1 rfl (Nat.le_of_ble_eq_true rfl) ⟨by omega, by omega⟩ dL_law_366 hS (fun q h => by have := h.1; rw [hxs] at this; exact this) (fun H1 locs1 hp1 hz1 hk1 hS => ?_)
  have hM := hM.keep2 (H1 := H1) (fun q h z => hk1 q h (fun y => y.2 z))
  obtain ⟨ad1, had1, hC⟩ := hp1
  refine lv_aload_n hx hb dL_law_369 rfl (lv_at hl 2 rfl) ?_
  refine q_arg hx hb hL hX hbl hS hl 1 ⟨by omega, by omega⟩ dL_law_370 dL_law_371 dL_law_372 dL_law_373 dL_law_374 ?_
  refine q_arg hx hb hL hX hbl hS hl 2 ⟨by omega, by omega⟩ dL_law_375 dL_law_376 dL_law_377 dL_law_378 dL_law_379 ?_
  refine q_arg hx hb hL hX hbl hS hl 3 ⟨by omega, by omega⟩ dL_law_380 dL_law_381 dL_law_382 dL_law_383 dL_law_384 ?_
  refine q_arg hx hb hL hX hbl hS hl 4 ⟨by omega, by omega⟩ dL_law_385 dL_law_386 dL_law_387 dL_law_388 dL_law_389 ?_
  refine q_cMV (As := [.int (iI (sx xs (iv + 1))), .int (iI (sx xs (iv + 2))), .int (iI (sx xs (iv + 3))), .int (iI (sx xs (iv + 4)))]) (rest := [(.int (iI (aEvent S (sx xs (iv + 1)) (sx xs (iv + 2)) (sx xs (iv + 3)) (sx xs (iv + 4)))))]) ⟨hx, hb, hml, hown, hts⟩ (c6_event l g mad S hV (sx xs (iv + 1)) (sx xs (iv + 2)) (sx xs (iv + 3)) (sx xs (iv + 4)) (sx_R xs (iv + 1)) (sx_R xs (iv + 2)) (sx_R xs (iv + 3)) (sx_R xs (iv + 4)) hi) (cwV 4 hts gL_law_X6_event rfl rfl rfl (by decide +kernel) ⟨Nat.le_of_ble_eq_true rfl, Nat.le_of_ble_eq_true rfl⟩) (q_pV hK hM.1 rfl hM) rfl hl.1 rfl (Nat.le_of_ble_eq_true rfl) ⟨by omega, by omega⟩ dL_law_390 hS (fun q h => hPM q h) (fun H2 locs2 hp2 hz2 hk2 hS => ?_)
  have hC := hC.keep2 (H1 := H2) (fun q h z => hk2 q h z.2)
  refine q_same (tgt := 705) hx hb dL_law_393 (by decide) ?_
  refine W.widen (k := cells + 6) (n := slots + 113) (by omega) (by omega) ?_
  have hM2 : RepM g mad (tEvC S (sx xs (iv + 1)) (sx xs (iv + 2)) (sx xs (iv + 3)) (sx xs (iv + 4))) H2 := RepM.congr (S := tEvent S (sx xs (iv + 1)) (sx xs (iv + 2)) (sx xs (iv + 3)) (sx xs (iv + 4))) hp2 (fun q hq => tEvC_ne S (sx xs (iv + 1)) (sx xs (iv + 2)) (sx xs (iv + 3)) (sx xs (iv + 4)) (by omega))
  exact kk (tEvC S (sx xs (iv + 1)) (sx xs (iv + 2)) (sx xs (iv + 3)) (sx xs (iv + 4))) _ _ ⟨⟨hV.xEvC (sx_R xs (iv + 4)), InvC.xEvC hV hQ⟩, ⟨ad1, had1, hC⟩, hM2⟩ hS

set_option maxHeartbeats 4000000 in
set_option maxRecDepth 100000 in
theorem lc_worth (hx : p.tables.exec = Jvm.exec) (hb : c.code = cL_law) (hml : c.maxLocals = 4) (hown : s.vm.findClass RL = some m.cls) (hts : ∀ w ∈ wsL_law, w.before #[Value.ref b] s = true) (hL : L ≤ 3584) (hX : va_X b L xs s s.heap) (hbl : b < s.heap.size) (hF : LF g x mad s) (hiv : 0 ≤ iv ∧ iv + 7 ≤ (L : Int)) (hI : LI g x mad xA S H) (hS : va_S (fun q : Nat => s.heap.size ≤ q) s.heap H locs) (hr : cells + 6 ≤ room_1.cells ∧ slots + 113 ≤ room_1.slots) (hl : lv_has ls 4 [(0, .ref b), (1, .ref xA), (2, .ref (mad 0)), (3, .int (iI iv))]) (kk : ∀ (S1 : St) (H1 : Heap) (locs1 : List Loc), LI g x mad xA S1 H1 → va_S (fun q : Nat => s.heap.size ≤ q) s.heap H1 locs1 → W p l e room_1 s m #[Value.ref b] below meth c H1 locs1 (cells + 6) (slots + 113) Q (F0 m 705 ls [])) : W p l e room_1 s m #[Value.ref b] below meth c H locs cells slots Q (F0 m 398 ls []) := by
  obtain ⟨⟨hV, hQ⟩, ⟨ad, rfl, hC⟩, hM⟩ := hI
  obtain ⟨⟨hK, hKX⟩, hxs, hi, hPM⟩ := hF
  refine lv_aload_n hx hb dL_law_398 rfl (lv_at hl 1 rfl) ?_
  refine q_arg hx hb hL hX hbl hS hl 1 ⟨by omega, by omega⟩ dL_law_399 dL_law_400 dL_law_401 dL_law_402 dL_law_403 ?_
  refine q_arg hx hb hL hX hbl hS hl 2 ⟨by omega, by omega⟩ dL_law_404 dL_law_405 dL_law_406 dL_law_407 dL_law_408 ?_
  refine q_arg hx hb hL hX hbl hS hl 3 ⟨by omega, by omega⟩ dL_law_409 dL_law_410 dL_law_411 dL_law_412 dL_law_413 ?_
  have hPs : ∀ q, H.size ≤ q → PC mad x.2.2 q := fun q h => ⟨by have := hS.1; omega, fun z => by have := hM.lt z; omega⟩
  have hAb : ∀ q : Nat, (fun q : Nat => s.heap.size ≤ q) q → x.2.2 ≤ q := fun q h => by rw [hxs]; exact h
  refine q_xVi (As := [.int (iI (sx xs (iv + 1))), .int (iI (sx xs (iv + 2))), .int (iI (sx xs (iv + 3)))]) (rest := []) ⟨hx, hb, hml, hown, hts⟩ (cw_worth l g x (PC mad x.2.2) ad S hV hQ H.size (fun q h => h.1) hPs (sx xs (iv + 1)) (sx xs (iv + 2)) (sx xs (iv + 3)) (sx_R xs (iv + 1)) (sx_R xs (iv + 2)) (sx_R xs (iv + 3))) (cwV 3 hts gL_law_X5_worth rfl rfl rfl (by decide +kernel) ⟨Nat.le_of_ble_eq_true rfl, Nat.le_of_ble_eq_true rfl⟩) (q_pVX hK hKX hS hAb hC.obj rfl ⟨rfl, hC⟩) rfl hl.1 rfl (Nat.le_of_ble_eq_true rfl) ⟨by omega, by omega⟩ dL_law_414 hS (fun q h => by have := h.1; rw [hxs] at this; exact this) (fun H1 locs1 hp1 hz1 hk1 hS => ?_)
  have hM := hM.keep2 (H1 := H1) (fun q h z => hk1 q h (fun y => y.2 z))
  obtain ⟨ad1, had1, hC⟩ := hp1
  refine lv_aload_n hx hb dL_law_417 rfl (lv_at hl 2 rfl) ?_
  refine q_arg hx hb hL hX hbl hS hl 1 ⟨by omega, by omega⟩ dL_law_418 dL_law_419 dL_law_420 dL_law_421 dL_law_422 ?_
  refine q_arg hx hb hL hX hbl hS hl 2 ⟨by omega, by omega⟩ dL_law_423 dL_law_424 dL_law_425 dL_law_426 dL_law_427 ?_
  refine q_arg hx hb hL hX hbl hS hl 3 ⟨by omega, by omega⟩ dL_law_428 dL_law_429 dL_law_430 dL_law_431 dL_law_432 ?_
  refine q_cMV (As := [.int (iI (sx xs (iv + 1))), .int (iI (sx xs (iv + 2))), .int (iI (sx xs (iv + 3)))]) (rest := [(.int (iI (aWorth S (sx xs (iv + 1)) (sx xs (iv + 2)) (sx xs (iv + 3)))))]) ⟨hx, hb, hml, hown, hts⟩ (c6_worth l g mad S hV (sx xs (iv + 1)) (sx xs (iv + 2)) (sx xs (iv + 3)) (sx_R xs (iv + 1)) (sx_R xs (iv + 2)) (sx_R xs (iv + 3)) hi) (cwV 3 hts gL_law_X6_worth rfl rfl rfl (by decide +kernel) ⟨Nat.le_of_ble_eq_true rfl, Nat.le_of_ble_eq_true rfl⟩) (q_pV hK hM.1 rfl hM) rfl hl.1 rfl (Nat.le_of_ble_eq_true rfl) ⟨by omega, by omega⟩ dL_law_433 hS (fun q h => hPM q h) (fun H2 locs2 hp2 hz2 hk2 hS => ?_)
  have hC := hC.keep2 (H1 := H2) (fun q h z => hk2 q h z.2)
  refine q_same (tgt := 705) hx hb dL_law_436 (by decide) ?_
  refine W.widen (k := cells + 6) (n := slots + 113) (by omega) (by omega) ?_
  exact kk (tWorth S (sx xs (iv + 1)) (sx xs (iv + 2)) (sx xs (iv + 3))) _ _ ⟨⟨hV.xWorth, hQ.xWorth⟩, ⟨ad1, had1, hC⟩, hp2⟩ hS
end LAWC
