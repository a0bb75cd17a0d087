/-! the law's cases -/
section LAWC
variable {p : Program} {l : Launch} {e : Env} {s : State} {m : MethodId} {below : List Frame} {meth : Method} {c : Code} {H : Heap} {locs : List Loc} {cells slots : Nat} {Q : State → Prop} {ls : Array Slot}
variable {b L xA : Nat} {xs : Nat → Int32} {g : GG} {x : XX} {mad : Nat → Nat} {S : St} {iv : Int}
set_option maxHeartbeats 4000000 in
set_option maxRecDepth 100000 in
theorem lc_ask (hx : p.tables.exec = Jvm.exec) (hb : c.code = cL_law) (hml : c.maxLocals = 4) (hown : s.vm.findClass RL = some m.cls) (hts : ∀ w ∈ wsL_law, w.before #[Value.ref b] s = true) (hL : L ≤ 3584) (hX : va_X b L xs s s.heap) (hbl : b < s.heap.size) (hF : LF g x mad s) (hiv : 0 ≤ iv ∧ iv + 7 ≤ (L : Int)) (hI : LI g x mad xA S H) (hS : va_S (fun q : Nat => s.heap.size ≤ q) s.heap H locs) (hr : cells + 6 ≤ room_1.cells ∧ slots + 113 ≤ room_1.slots) (hl : lv_has ls 4 [(0, .ref b), (1, .ref xA), (2, .ref (mad 0)), (3, .int (iI iv))]) (kk : ∀ (S1 : St) (H1 : Heap) (locs1 : List Loc), LI g x mad xA S1 H1 → va_S (fun q : Nat => s.heap.size ≤ q) s.heap H1 locs1 → W p l e room_1 s m #[Value.ref b] below meth c H1 locs1 (cells + 6) (slots + 113) Q (F0 m 705 ls [])) : W p l e room_1 s m #[Value.ref b] below meth c H locs cells slots Q (F0 m 270 ls []) := by
  obtain ⟨⟨hV, hQ⟩, ⟨ad, rfl, hC⟩, hM⟩ := hI
  obtain ⟨⟨hK, hKX⟩, hxs, hi, hPM⟩ := hF
  refine lv_aload_n hx hb dL_law_270 rfl (lv_at hl 1 rfl) ?_
  refine q_arg hx hb hL hX hbl hS hl 1 ⟨by omega, by omega⟩ dL_law_271 dL_law_272 dL_law_273 dL_law_274 dL_law_275 ?_
  refine q_arg hx hb hL hX hbl hS hl 2 ⟨by omega, by omega⟩ dL_law_276 dL_law_277 dL_law_278 dL_law_279 dL_law_280 ?_
  refine q_arg hx hb hL hX hbl hS hl 3 ⟨by omega, by omega⟩ dL_law_281 dL_law_282 dL_law_283 dL_law_284 dL_law_285 ?_
  refine q_arg hx hb hL hX hbl hS hl 4 ⟨by omega, by omega⟩ dL_law_286 dL_law_287 dL_law_288 dL_law_289 dL_law_290 ?_
  refine q_arg hx hb hL hX hbl hS hl 5 ⟨by omega, by omega⟩ dL_law_291 dL_law_292 dL_law_293 dL_law_294 dL_law_295 ?_
  refine q_argb hx hb hL hX hbl hS hl 6 (by decide +kernel) ⟨by omega, by omega⟩ dL_law_296 dL_law_297 dL_law_298 dL_law_300 dL_law_301 ?_
  have hPs : ∀ q, H.size ≤ q → PC mad x.2.2 q := fun q h => ⟨by have := hS.1; omega, fun z => by have := hM.lt z; omega⟩
  have hAb : ∀ q : Nat, (fun q : Nat => s.heap.size ≤ q) q → x.2.2 ≤ q := fun q h => by rw [hxs]; exact h
  refine q_xVi (As := [.int (iI (sx xs (iv + 1))), .int (iI (sx xs (iv + 2))), .int (iI (sx xs (iv + 3))), .int (iI (sx xs (iv + 4))), .int (iI (sx xs (iv + 5))), .int (iI (sx xs (iv + 6)))]) (rest := []) ⟨hx, hb, hml, hown, hts⟩ (cw_ask l g x (PC mad x.2.2) ad S hV hQ H.size (fun q h => h.1) hPs (sx xs (iv + 1)) (sx xs (iv + 2)) (sx xs (iv + 3)) (sx xs (iv + 4)) (sx xs (iv + 5)) (sx xs (iv + 6)) (sx_R xs (iv + 1)) (sx_R xs (iv + 2)) (sx_R xs (iv + 3)) (sx_R xs (iv + 4)) (sx_R xs (iv + 5)) (sx_R xs (iv + 6))) (cwV 6 hts gL_law_X5_ask rfl rfl rfl (by decide +kernel) ⟨Nat.le_of_ble_eq_true rfl, Nat.le_of_ble_eq_true rfl⟩) (q_pVX hK hKX hS hAb hC.obj rfl ⟨rfl, hC⟩) rfl hl.1 rfl (Nat.le_of_ble_eq_true rfl) ⟨by omega, by omega⟩ dL_law_302 hS (fun q h => by have := h.1; rw [hxs] at this; exact this) (fun H1 locs1 hp1 hz1 hk1 hS => ?_)
  have hM := hM.keep2 (H1 := H1) (fun q h z => hk1 q h (fun y => y.2 z))
  obtain ⟨ad1, had1, hC⟩ := hp1
  refine lv_aload_n hx hb dL_law_305 rfl (lv_at hl 2 rfl) ?_
  refine q_arg hx hb hL hX hbl hS hl 1 ⟨by omega, by omega⟩ dL_law_306 dL_law_307 dL_law_308 dL_law_309 dL_law_310 ?_
  refine q_arg hx hb hL hX hbl hS hl 2 ⟨by omega, by omega⟩ dL_law_311 dL_law_312 dL_law_313 dL_law_314 dL_law_315 ?_
  refine q_arg hx hb hL hX hbl hS hl 3 ⟨by omega, by omega⟩ dL_law_316 dL_law_317 dL_law_318 dL_law_319 dL_law_320 ?_
  refine q_arg hx hb hL hX hbl hS hl 4 ⟨by omega, by omega⟩ dL_law_321 dL_law_322 dL_law_323 dL_law_324 dL_law_325 ?_
  refine q_arg hx hb hL hX hbl hS hl 5 ⟨by omega, by omega⟩ dL_law_326 dL_law_327 dL_law_328 dL_law_329 dL_law_330 ?_
  refine q_argb hx hb hL hX hbl hS hl 6 (by decide +kernel) ⟨by omega, by omega⟩ dL_law_331 dL_law_332 dL_law_333 dL_law_335 dL_law_336 ?_
  refine q_cMV (As := [.int (iI (sx xs (iv + 1))), .int (iI (sx xs (iv + 2))), .int (iI (sx xs (iv + 3))), .int (iI (sx xs (iv + 4))), .int (iI (sx xs (iv + 5))), .int (iI (sx xs (iv + 6)))]) (rest := [(.int (iI (aAsk S (sx xs (iv + 1)) (sx xs (iv + 2)) (sx xs (iv + 3)) (sx xs (iv + 4)) (sx xs (iv + 5)) (sx xs (iv + 6)))))]) ⟨hx, hb, hml, hown, hts⟩ (c6_ask l g mad S hV (sx xs (iv + 1)) (sx xs (iv + 2)) (sx xs (iv + 3)) (sx xs (iv + 4)) (sx xs (iv + 5)) (sx xs (iv + 6)) (sx_R xs (iv + 1)) (sx_R xs (iv + 2)) (sx_R xs (iv + 3)) (sx_R xs (iv + 4)) (sx_R xs (iv + 5)) (sx_R xs (iv + 6)) hi) (cwV 6 hts gL_law_X6_ask rfl rfl rfl (by decide +kernel) ⟨Nat.le_of_ble_eq_true rfl, Nat.le_of_ble_eq_true rfl⟩) (q_pV hK hM.1 rfl hM) rfl hl.1 rfl (Nat.le_of_ble_eq_true rfl) ⟨by omega, by omega⟩ dL_law_337 hS (fun q h => hPM q h) (fun H2 locs2 hp2 hz2 hk2 hS => ?_)
  have hC := hC.keep2 (H1 := H2) (fun q h z => hk2 q h z.2)
  refine q_same (tgt := 705) hx hb dL_law_340 (by decide) ?_
  refine W.widen (k := cells + 6) (n := slots + 113) (by omega) (by omega) ?_
  exact kk (tAsk S (sx xs (iv + 1)) (sx xs (iv + 2)) (sx xs (iv + 3)) (sx xs (iv + 4)) (sx xs (iv + 5)) (sx xs (iv + 6))) _ _ ⟨⟨hV.xAsk, InvC.xAsk hV hQ⟩, ⟨ad1, had1, hC⟩, hp2⟩ hS
end LAWC
