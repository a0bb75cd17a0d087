/-! the law from its entry -/
set_option maxHeartbeats 4000000 in
set_option maxRecDepth 100000 in
theorem whole_start {p : Program} {e : Env} {s : State} {m : MethodId} {below : List Frame} {meth : Method} {c : Code} (l : Launch) (hflags : l.flags = flags0) {b L : Nat} {xs : Nat → Int32} (hL : L ≤ 3584) (C0 : lw_At p s m meth c b L xs) : W p l e room_1 s m #[Value.ref b] below meth c s.heap [] 0 0 (lw_Z below #[Value.ref b] s) (entryFrame m ([Value.ref b] : List Value).toArray 4) := by
  obtain ⟨hx, hb, hr, hml, hown, hts0, hX, hbl, hlocks, hgv⟩ := id C0
  have hb : c.code = cL_law := hb
  have hown : s.vm.findClass RL = some m.cls := hown
  have hts : ∀ w ∈ wsL_law, w.before #[Value.ref b] s = true := fun w h => hts0 w (wsL_law_in w h)
  obtain ⟨g, hK⟩ := st_KK hts0
  obtain ⟨x, hxs, hKX⟩ := st_KX hts0 hgv
  have hS : va_S (fun q : Nat => s.heap.size ≤ q) s.heap s.heap [] := va_S.rf
  have hAb : ∀ q : Nat, (fun q : Nat => s.heap.size ≤ q) q → x.2.2 ≤ q := fun q h => by rw [hxs]; exact h
  have hl := lv_entry ([.ref b]) (n := 4) (Nat.le_of_ble_eq_true rfl)
  rw [lg_entry_eq]
  generalize (lg_sl ([.ref b]) ++ List.replicate (4 - (lg_sl ([.ref b])).length) Slot.unset).toArray = ls at hl ⊢
  have hl : lv_has ls 4 [(0, .ref b)] := hl
  refine q_newN (ci := 6) (fs := [.null, .null, .null, .null, .null, .int (iI 0), .int (iI 0), .int (iI 0), .int (iI 0), .int (iI 0), .long (lI 0)]) hx hb hts inlX5 tyX5 tyX5_ok hown (hts0 _ sw_cl5) (hts0 _ swX5) (hts0 _ sw_in5) hK rfl hS (fun j hj => by rcases j with _ | _ | _ | _ | _ | _ | _ | _ | _ | _ | _ | j <;> first | rfl | omega) (Nat.le_of_ble_eq_true rfl) (Nat.le_of_ble_eq_true rfl) dL_law_0 (fun a H1 hqa hO hz1 ho1 hS => ?_)
  have hla : a < H1.size := va_at.lt2 hO
  have hb1 : x.2.2 ≤ a := by omega
  have hb2 : x.2.2 ≤ H1.size := by omega
  refine lv_dup hx hb dL_law_3 rfl ?_
  refine q_xI (As := []) (rest := [.ref a]) ⟨hx, hb, hml, hown, hts⟩ (cc_class l g x a H1.size hb1 hb2) (cwI 0 hts gL_law_X5_init rfl rfl rfl (hts0 _ sw_in5) (hts0 _ sw_ml5) (hts0 _ sw_im5) rfl (by decide +kernel) ⟨Nat.le_of_ble_eq_true rfl, Nat.le_of_ble_eq_true rfl⟩) (q_pSX hK hKX hS hAb ⟨rfl, hO⟩) rfl hl.1 rfl (Nat.le_of_ble_eq_true rfl) ⟨Nat.le_of_ble_eq_true rfl, Nat.le_of_ble_eq_true rfl⟩ dL_law_4 hS (fun q h => h.elim (fun y => by rw [y]; show s.heap.size ≤ a; omega) (fun y => by show s.heap.size ≤ q; omega)) (fun H2 locs2 hp2 hz2 hk2 hS => ?_)
  obtain ⟨q1, q2, q3, q4, q5, hq, hO, e1, e2, e3, e4, e5⟩ := hp2
  have l5 := va_at.lt2 e5
  have hC := RepC.start (P := fun q => x.2.2 ≤ q ∧ q < H2.size) ⟨by omega, hq.2⟩ hO e1 e2 e3 e4 e5 ⟨⟨by omega, by omega⟩, ⟨by omega, by omega⟩, ⟨by omega, by omega⟩, ⟨by omega, by omega⟩, ⟨by omega, by omega⟩, ⟨by omega, by omega⟩⟩
  refine lv_astore_n (lv' := [(1, .ref a), (0, .ref b)]) hx hb dL_law_7 rfl hl (by decide) rfl (fun ls hl => ?_)
  refine q_newN (ci := 7) (fs := [.int (iI 0), .null, .int (iI 0), .null, .null, .null, .null, .null, .int (iI 0), .int (iI 0), .int (iI 0), .null, .null, .null, .int (iI 0), .null, .null, .null, .null, .null, .null, .null, .null, .null, .null, .null, .null, .int (iI 0), .int (iI 0), .long (lI 0), .null, .null]) hx hb hts inlX6 tyX6 tyX6_ok hown (hts0 _ sw_cl6) (hts0 _ swX6) (hts0 _ sw_in6) hK rfl hS (fun j hj => by rcases j with _ | _ | _ | _ | _ | _ | _ | _ | _ | _ | _ | _ | _ | _ | _ | _ | _ | _ | _ | _ | _ | _ | _ | _ | _ | _ | _ | _ | _ | _ | _ | _ | j <;> first | rfl | omega) (Nat.le_of_ble_eq_true rfl) (Nat.le_of_ble_eq_true rfl) dL_law_8 (fun r H3 hqr hR hz3 ho3 hS => ?_)
  have hC := hC.keep2 (H1 := H3) (fun q h _ => ho3 q h)
  refine lv_dup hx hb dL_law_11 rfl ?_
  refine q_cMI (As := []) (rest := [.ref r]) ⟨hx, hb, hml, hown, hts⟩ (c6_init l g r H3.size) (cwI 0 hts gL_law_X6_init rfl rfl rfl (hts0 _ sw_in6) (hts0 _ sw_ml6) (hts0 _ sw_im6) rfl (by decide +kernel) ⟨Nat.le_of_ble_eq_true rfl, Nat.le_of_ble_eq_true rfl⟩) (q_pS hK ⟨rfl, hR⟩) rfl hl.1 rfl (Nat.le_of_ble_eq_true rfl) ⟨Nat.le_of_ble_eq_true rfl, Nat.le_of_ble_eq_true rfl⟩ dL_law_12 hS (fun q h => h.elim (fun y => by rw [y]; show s.heap.size ≤ r; omega) (fun y => by show s.heap.size ≤ q; omega)) (fun H4 locs4 hM hz4 hk4 hS => ?_)
  have hC := hC.keep2 (H1 := H4) (fun q h z => hk4 q h (fun y => y.elim (fun y => by have := z.2; omega) (fun y => by omega)))
  have hrs : r < H3.size := by omega
  have hC := hC.mono (P' := PC (mad0 r H3.size) x.2.2) (fun q _ z => ⟨z.1, fun y => (PM0 y).elim (fun w => by have := z.2; omega) (fun w => by have := z.2; omega)⟩)
  refine lv_astore_n (lv' := [(2, .ref r), (1, .ref a), (0, .ref b)]) hx hb dL_law_15 rfl hl (by decide) rfl (fun ls hl => ?_)
  refine lv_iconst (v := iI 0) hx hb dL_law_16 rfl ?_
  refine lv_istore_n (lv' := [(3, .int (iI 0)), (2, .ref r), (1, .ref a), (0, .ref b)]) hx hb dL_law_17 rfl hl (by decide) rfl (fun ls hl => ?_)
  have hF : LF g x (mad0 r H3.size) s := ⟨⟨hK, hKX⟩, hxs, mInj0 hrs, fun q y => (PM0 y).elim (fun w => by omega) (fun w => by omega)⟩
  have hI : LI g x (mad0 r H3.size) a S00 H4 := ⟨⟨Inv0, InvC0⟩, ⟨ad00 a q1 q2 q3 q4 q5, rfl, hC⟩, hM⟩
  exact law_loop hx hb hr hml hown hts hL hX hbl hlocks hF (L + 1) 0 0 S00 H4 _ _ _ ls (by omega) (by omega) (by omega) ⟨by omega, by omega⟩ hI hS (lv_sub hl [3, 2, 1, 0] rfl)
