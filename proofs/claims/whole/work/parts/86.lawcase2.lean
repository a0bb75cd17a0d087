/-! the law's cases -/
section LAWC
variable {p : Program} {l : Launch} {e : Env} {s : State} {m : MethodId} {below : List Frame} {meth : Method} {c : Code} {H : Heap} {locs : List Loc} {cells slots : Nat} {Q : State → Prop} {ls : Array Slot}
variable {b L xA : Nat} {xs : Nat → Int32} {g : GG} {x : XX} {mad : Nat → Nat} {S : St} {iv : Int}
set_option maxHeartbeats 4000000 in
set_option maxRecDepth 100000 in
theorem lc_law (hx : p.tables.exec = Jvm.exec) (hb : c.code = cL_law) (hml : c.maxLocals = 4) (hown : s.vm.findClass RL = some m.cls) (hts : ∀ w ∈ wsL_law, w.before #[Value.ref b] s = true) (hL : L ≤ 3584) (hX : va_X b L xs s s.heap) (hbl : b < s.heap.size) (hF : LF g x mad s) (hiv : 0 ≤ iv ∧ iv + 7 ≤ (L : Int)) (hI : LI g x mad xA S H) (hS : va_S (fun q : Nat => s.heap.size ≤ q) s.heap H locs) (hr : cells + 6 ≤ room_1.cells ∧ slots + 113 ≤ room_1.slots) (hl : lv_has ls 4 [(0, .ref b), (1, .ref xA), (2, .ref (mad 0)), (3, .int (iI iv))]) (kk : ∀ (S1 : St) (H1 : Heap) (locs1 : List Loc), LI g x mad xA S1 H1 → va_S (fun q : Nat => s.heap.size ≤ q) s.heap H1 locs1 → W p l e room_1 s m #[Value.ref b] below meth c H1 locs1 (cells + 6) (slots + 113) Q (F0 m 705 ls [])) : W p l e room_1 s m #[Value.ref b] below meth c H locs cells slots Q (F0 m 131 ls []) := by
  obtain ⟨⟨hV, hQ⟩, ⟨ad, rfl, hC⟩, hM⟩ := hI
  obtain ⟨⟨hK, hKX⟩, hxs, hi, hPM⟩ := hF
  refine lv_aload_n hx hb dL_law_131 rfl (lv_at hl 1 rfl) ?_
  refine q_arg hx hb hL hX hbl hS hl 1 ⟨by omega, by omega⟩ dL_law_132 dL_law_133 dL_law_134 dL_law_135 dL_law_136 ?_
  refine q_arg hx hb hL hX hbl hS hl 2 ⟨by omega, by omega⟩ dL_law_137 dL_law_138 dL_law_139 dL_law_140 dL_law_141 ?_
  refine q_arg hx hb hL hX hbl hS hl 3 ⟨by omega, by omega⟩ dL_law_142 dL_law_143 dL_law_144 dL_law_145 dL_law_146 ?_
  refine q_arg hx hb hL hX hbl hS hl 4 ⟨by omega, by omega⟩ dL_law_147 dL_law_148 dL_law_149 dL_law_150 dL_law_151 ?_
  refine q_arg hx hb hL hX hbl hS hl 5 ⟨by omega, by omega⟩ dL_law_152 dL_law_153 dL_law_154 dL_law_155 dL_law_156 ?_
  have hPs : ∀ q, H.size ≤ q → PC mad x.2.2 q := fun q h => ⟨by have := hS.1; omega, fun z => by have := hM.lt z; omega⟩
  have hAb : ∀ q : Nat, (fun q : Nat => s.heap.size ≤ q) q → x.2.2 ≤ q := fun q h => by rw [hxs]; exact h
  refine q_xVi (As := [.int (iI (sx xs (iv + 1))), .int (iI (sx xs (iv + 2))), .int (iI (sx xs (iv + 3))), .int (iI (sx xs (iv + 4))), .int (iI (sx xs (iv + 5)))]) (rest := []) ⟨hx, hb, hml, hown, hts⟩ (cw_law l g x (PC mad x.2.2) ad S hV hQ H.size (fun q h => h.1) hPs (sx xs (iv + 1)) (sx xs (iv + 2)) (sx xs (iv + 3)) (sx xs (iv + 4)) (sx xs (iv + 5)) (sx_R xs (iv + 1)) (sx_R xs (iv + 2)) (sx_R xs (iv + 3)) (sx_R xs (iv + 4)) (sx_R xs (iv + 5))) (cwV 5 hts gL_law_X5_law rfl rfl rfl (by decide +kernel) ⟨Nat.le_of_ble_eq_true rfl, Nat.le_of_ble_eq_true rfl⟩) (q_pVX hK hKX hS hAb hC.obj rfl ⟨rfl, hC⟩) rfl hl.1 rfl (Nat.le_of_ble_eq_true rfl) ⟨by omega, by omega⟩ dL_law_157 hS (fun q h => by have := h.1; rw [hxs] at this; exact this) (fun H1 locs1 hp1 hz1 hk1 hS => ?_)
  have hM := hM.keep2 (H1 := H1) (fun q h z => hk1 q h (fun y => y.2 z))
  obtain ⟨ad1, had1, hC⟩ := hp1
  refine lv_aload_n hx hb dL_law_160 rfl (lv_at hl 2 rfl) ?_
  refine q_arg hx hb hL hX hbl hS hl 1 ⟨by omega, by omega⟩ dL_law_161 dL_law_162 dL_law_163 dL_law_164 dL_law_165 ?_
  refine q_arg hx hb hL hX hbl hS hl 2 ⟨by omega, by omega⟩ dL_law_166 dL_law_167 dL_law_168 dL_law_169 dL_law_170 ?_
  refine q_arg hx hb hL hX hbl hS hl 3 ⟨by omega, by omega⟩ dL_law_171 dL_law_172 dL_law_173 dL_law_174 dL_law_175 ?_
  refine q_arg hx hb hL hX hbl hS hl 4 ⟨by omega, by omega⟩ dL_law_176 dL_law_177 dL_law_178 dL_law_179 dL_law_180 ?_
  refine q_arg hx hb hL hX hbl hS hl 5 ⟨by omega, by omega⟩ dL_law_181 dL_law_182 dL_law_183 dL_law_184 dL_law_185 ?_
  refine q_cMV (As := [.int (iI (sx xs (iv + 1))), .int (iI (sx xs (iv + 2))), .int (iI (sx xs (iv + 3))), .int (iI (sx xs (iv + 4))), .int (iI (sx xs (iv + 5)))]) (rest := [(.int (iI (aLaw S (sx xs (iv + 1)) (sx xs (iv + 2)) (sx xs (iv + 3)) (sx xs (iv + 4)) (sx xs (iv + 5)))))]) ⟨hx, hb, hml, hown, hts⟩ (c6_law l g mad S hV (sx xs (iv + 1)) (sx xs (iv + 2)) (sx xs (iv + 3)) (sx xs (iv + 4)) (sx xs (iv + 5)) (sx_R xs (iv + 1)) (sx_R xs (iv + 2)) (sx_R xs (iv + 3)) (sx_R xs (iv + 4)) (sx_R xs (iv + 5)) hi) (cwV 5 hts gL_law_X6_law rfl rfl rfl (by decide +kernel) ⟨Nat.le_of_ble_eq_true rfl, Nat.le_of_ble_eq_true rfl⟩) (q_pV hK hM.1 rfl hM) rfl hl.1 rfl (Nat.le_of_ble_eq_true rfl) ⟨by omega, by omega⟩ dL_law_186 hS (fun q h => hPM q h) (fun H2 locs2 hp2 hz2 hk2 hS => ?_)
  have hC := hC.keep2 (H1 := H2) (fun q h z => hk2 q h z.2)
  refine q_same (tgt := 705) hx hb dL_law_189 (by decide) ?_
  refine W.widen (k := cells + 6) (n := slots + 113) (by omega) (by omega) ?_
  exact kk (tLaw S (sx xs (iv + 1)) (sx xs (iv + 2)) (sx xs (iv + 3)) (sx xs (iv + 4)) (sx xs (iv + 5))) _ _ ⟨⟨hV.xLaw, hQ.xLaw⟩, ⟨ad1, had1, hC⟩, hp2⟩ hS
end LAWC
