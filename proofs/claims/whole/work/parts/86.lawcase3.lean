/-! the law's cases -/
section LAWC
variable {p : Program} {l : Launch} {e : Env} {s : State} {m : MethodId} {below : List Frame} {meth : Method} {c : Code} {H : Heap} {locs : List Loc} {cells slots : Nat} {Q : State → Prop} {ls : Array Slot}
variable {b L xA : Nat} {xs : Nat → Int32} {g : GG} {x : XX} {mad : Nat → Nat} {S : St} {iv : Int}
set_option maxHeartbeats 4000000 in
set_option maxRecDepth 100000 in
theorem lc_rule (hx : p.tables.exec = Jvm.exec) (hb : c.code = cL_law) (hml : c.maxLocals = 4) (hown : s.vm.findClass RL = some m.cls) (hts : ∀ w ∈ wsL_law, w.before #[Value.ref b] s = true) (hL : L ≤ 3584) (hX : va_X b L xs s s.heap) (hbl : b < s.heap.size) (hF : LF g x mad s) (hiv : 0 ≤ iv ∧ iv + 7 ≤ (L : Int)) (hI : LI g x mad xA S H) (hS : va_S (fun q : Nat => s.heap.size ≤ q) s.heap H locs) (hr : cells + 6 ≤ room_1.cells ∧ slots + 113 ≤ room_1.slots) (hl : lv_has ls 4 [(0, .ref b), (1, .ref xA), (2, .ref (mad 0)), (3, .int (iI iv))]) (kk : ∀ (S1 : St) (H1 : Heap) (locs1 : List Loc), LI g x mad xA S1 H1 → va_S (fun q : Nat => s.heap.size ≤ q) s.heap H1 locs1 → W p l e room_1 s m #[Value.ref b] below meth c H1 locs1 (cells + 6) (slots + 113) Q (F0 m 705 ls [])) : W p l e room_1 s m #[Value.ref b] below meth c H locs cells slots Q (F0 m 194 ls []) := by
  obtain ⟨⟨hV, hQ⟩, ⟨ad, rfl, hC⟩, hM⟩ := hI
  obtain ⟨⟨hK, hKX⟩, hxs, hi, hPM⟩ := hF
  refine lv_aload_n hx hb dL_law_194 rfl (lv_at hl 1 rfl) ?_
  refine q_arg hx hb hL hX hbl hS hl 1 ⟨by omega, by omega⟩ dL_law_195 dL_law_196 dL_law_197 dL_law_198 dL_law_199 ?_
  refine q_arg hx hb hL hX hbl hS hl 2 ⟨by omega, by omega⟩ dL_law_200 dL_law_201 dL_law_202 dL_law_203 dL_law_204 ?_
  have hPs : ∀ q, H.size ≤ q → PC mad x.2.2 q := fun q h => ⟨by have := hS.1; omega, fun z => by have := hM.lt z; omega⟩
  have hAb : ∀ q : Nat, (fun q : Nat => s.heap.size ≤ q) q → x.2.2 ≤ q := fun q h => by rw [hxs]; exact h
  refine q_xVi (As := [.int (iI (sx xs (iv + 1))), .int (iI (sx xs (iv + 2)))]) (rest := []) ⟨hx, hb, hml, hown, hts⟩ (cw_rule l g x (PC mad x.2.2) ad S hV hQ H.size (fun q h => h.1) hPs (sx xs (iv + 1)) (sx xs (iv + 2)) (sx_R xs (iv + 1)) (sx_R xs (iv + 2))) (cwV 2 hts gL_law_X5_rule rfl rfl rfl (by decide +kernel) ⟨Nat.le_of_ble_eq_true rfl, Nat.le_of_ble_eq_true rfl⟩) (q_pVX hK hKX hS hAb hC.obj rfl ⟨rfl, hC⟩) rfl hl.1 rfl (Nat.le_of_ble_eq_true rfl) ⟨by omega, by omega⟩ dL_law_205 hS (fun q h => by have := h.1; rw [hxs] at this; exact this) (fun H1 locs1 hp1 hz1 hk1 hS => ?_)
  have hM := hM.keep2 (H1 := H1) (fun q h z => hk1 q h (fun y => y.2 z))
  obtain ⟨ad1, had1, hC⟩ := hp1
  refine lv_aload_n hx hb dL_law_208 rfl (lv_at hl 2 rfl) ?_
  refine q_arg hx hb hL hX hbl hS hl 1 ⟨by omega, by omega⟩ dL_law_209 dL_law_210 dL_law_211 dL_law_212 dL_law_213 ?_
  refine q_arg hx hb hL hX hbl hS hl 2 ⟨by omega, by omega⟩ dL_law_214 dL_law_215 dL_law_216 dL_law_217 dL_law_218 ?_
  refine q_cMV (As := [.int (iI (sx xs (iv + 1))), .int (iI (sx xs (iv + 2)))]) (rest := [(.int (iI (aRule S (sx xs (iv + 1)) (sx xs (iv + 2)))))]) ⟨hx, hb, hml, hown, hts⟩ (c6_rule l g mad S hV (sx xs (iv + 1)) (sx xs (iv + 2)) (sx_R xs (iv + 1)) (sx_R xs (iv + 2)) hi) (cwV 2 hts gL_law_X6_rule rfl rfl rfl (by decide +kernel) ⟨Nat.le_of_ble_eq_true rfl, Nat.le_of_ble_eq_true rfl⟩) (q_pV hK hM.1 rfl hM) rfl hl.1 rfl (Nat.le_of_ble_eq_true rfl) ⟨by omega, by omega⟩ dL_law_219 hS (fun q h => hPM q h) (fun H2 locs2 hp2 hz2 hk2 hS => ?_)
  have hC := hC.keep2 (H1 := H2) (fun q h z => hk2 q h z.2)
  refine q_same (tgt := 705) hx hb dL_law_222 (by decide) ?_
  refine W.widen (k := cells + 6) (n := slots + 113) (by omega) (by omega) ?_
  exact kk (tRule S (sx xs (iv + 1)) (sx xs (iv + 2))) _ _ ⟨⟨hV.xRule, hQ.xRule⟩, ⟨ad1, had1, hC⟩, hp2⟩ hS

set_option maxHeartbeats 4000000 in
set_option maxRecDepth 100000 in
theorem lc_objector (hx : p.tables.exec = Jvm.exec) (hb : c.code = cL_law) (hml : c.maxLocals = 4) (hown : s.vm.findClass RL = some m.cls) (hts : ∀ w ∈ wsL_law, w.before #[Value.ref b] s = true) (hL : L ≤ 3584) (hX : va_X b L xs s s.heap) (hbl : b < s.heap.size) (hF : LF g x mad s) (hiv : 0 ≤ iv ∧ iv + 7 ≤ (L : Int)) (hI : LI g x mad xA S H) (hS : va_S (fun q : Nat => s.heap.size ≤ q) s.heap H locs) (hr : cells + 6 ≤ room_1.cells ∧ slots + 113 ≤ room_1.slots) (hl : lv_has ls 4 [(0, .ref b), (1, .ref xA), (2, .ref (mad 0)), (3, .int (iI iv))]) (kk : ∀ (S1 : St) (H1 : Heap) (locs1 : List Loc), LI g x mad xA S1 H1 → va_S (fun q : Nat => s.heap.size ≤ q) s.heap H1 locs1 → W p l e room_1 s m #[Value.ref b] below meth c H1 locs1 (cells + 6) (slots + 113) Q (F0 m 705 ls [])) : W p l e room_1 s m #[Value.ref b] below meth c H locs cells slots Q (F0 m 227 ls []) := by
  obtain ⟨⟨hV, hQ⟩, ⟨ad, rfl, hC⟩, hM⟩ := hI
  obtain ⟨⟨hK, hKX⟩, hxs, hi, hPM⟩ := hF
  refine lv_aload_n hx hb dL_law_227 rfl (lv_at hl 1 rfl) ?_
  refine q_arg hx hb hL hX hbl hS hl 1 ⟨by omega, by omega⟩ dL_law_228 dL_law_229 dL_law_230 dL_law_231 dL_law_232 ?_
  refine q_arg hx hb hL hX hbl hS hl 2 ⟨by omega, by omega⟩ dL_law_233 dL_law_234 dL_law_235 dL_law_236 dL_law_237 ?_
  refine q_arg hx hb hL hX hbl hS hl 3 ⟨by omega, by omega⟩ dL_law_238 dL_law_239 dL_law_240 dL_law_241 dL_law_242 ?_
  have hPs : ∀ q, H.size ≤ q → PC mad x.2.2 q := fun q h => ⟨by have := hS.1; omega, fun z => by have := hM.lt z; omega⟩
  have hAb : ∀ q : Nat, (fun q : Nat => s.heap.size ≤ q) q → x.2.2 ≤ q := fun q h => by rw [hxs]; exact h
  refine q_xVi (As := [.int (iI (sx xs (iv + 1))), .int (iI (sx xs (iv + 2))), .int (iI (sx xs (iv + 3)))]) (rest := []) ⟨hx, hb, hml, hown, hts⟩ (cw_objector l g x (PC mad x.2.2) ad S hV hQ H.size (fun q h => h.1) hPs (sx xs (iv + 1)) (sx xs (iv + 2)) (sx xs (iv + 3)) (sx_R xs (iv + 1)) (sx_R xs (iv + 2)) (sx_R xs (iv + 3))) (cwV 3 hts gL_law_X5_objector rfl rfl rfl (by decide +kernel) ⟨Nat.le_of_ble_eq_true rfl, Nat.le_of_ble_eq_true rfl⟩) (q_pVX hK hKX hS hAb hC.obj rfl ⟨rfl, hC⟩) rfl hl.1 rfl (Nat.le_of_ble_eq_true rfl) ⟨by omega, by omega⟩ dL_law_243 hS (fun q h => by have := h.1; rw [hxs] at this; exact this) (fun H1 locs1 hp1 hz1 hk1 hS => ?_)
  have hM := hM.keep2 (H1 := H1) (fun q h z => hk1 q h (fun y => y.2 z))
  obtain ⟨ad1, had1, hC⟩ := hp1
  refine lv_aload_n hx hb dL_law_246 rfl (lv_at hl 2 rfl) ?_
  refine q_arg hx hb hL hX hbl hS hl 1 ⟨by omega, by omega⟩ dL_law_247 dL_law_248 dL_law_249 dL_law_250 dL_law_251 ?_
  refine q_arg hx hb hL hX hbl hS hl 2 ⟨by omega, by omega⟩ dL_law_252 dL_law_253 dL_law_254 dL_law_255 dL_law_256 ?_
  refine q_arg hx hb hL hX hbl hS hl 3 ⟨by omega, by omega⟩ dL_law_257 dL_law_258 dL_law_259 dL_law_260 dL_law_261 ?_
  refine q_cMV (As := [.int (iI (sx xs (iv + 1))), .int (iI (sx xs (iv + 2))), .int (iI (sx xs (iv + 3)))]) (rest := [(.int (iI (aObj S (sx xs (iv + 1)) (sx xs (iv + 2)) (sx xs (iv + 3)))))]) ⟨hx, hb, hml, hown, hts⟩ (c6_objector l g mad S hV (sx xs (iv + 1)) (sx xs (iv + 2)) (sx xs (iv + 3)) (sx_R xs (iv + 1)) (sx_R xs (iv + 2)) (sx_R xs (iv + 3)) hi) (cwV 3 hts gL_law_X6_objector rfl rfl rfl (by decide +kernel) ⟨Nat.le_of_ble_eq_true rfl, Nat.le_of_ble_eq_true rfl⟩) (q_pV hK hM.1 rfl hM) rfl hl.1 rfl (Nat.le_of_ble_eq_true rfl) ⟨by omega, by omega⟩ dL_law_262 hS (fun q h => hPM q h) (fun H2 locs2 hp2 hz2 hk2 hS => ?_)
  have hC := hC.keep2 (H1 := H2) (fun q h z => hk2 q h z.2)
  refine q_same (tgt := 705) hx hb dL_law_265 (by decide) ?_
  refine W.widen (k := cells + 6) (n := slots + 113) (by omega) (by omega) ?_
  exact kk (tObj S (sx xs (iv + 1)) (sx xs (iv + 2)) (sx xs (iv + 3))) _ _ ⟨⟨hV.xObj, hQ.xObj⟩, ⟨ad1, had1, hC⟩, hp2⟩ hS
end LAWC
