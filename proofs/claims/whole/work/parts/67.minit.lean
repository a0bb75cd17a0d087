/-! the reference's <init>: its arrays in the order of their births -/
def mIx : Nat → Nat
  | 1 => 0
  | 3 => 1
  | 4 => 2
  | 5 => 3
  | 6 => 4
  | 7 => 5
  | 11 => 6
  | 12 => 7
  | 13 => 8
  | 15 => 9
  | 16 => 10
  | 17 => 11
  | 18 => 12
  | 19 => 13
  | 20 => 14
  | 21 => 15
  | 22 => 16
  | 23 => 17
  | 24 => 18
  | 25 => 19
  | 26 => 20
  | 30 => 21
  | 31 => 22
  | _ => 0
def S00 : St := fun k _ => if k = 8 then 20 else if k = 9 then 100 else if k = 29 then 1 else 0
def mad0 (a sz k : Nat) : Nat := if k = 0 then a else sz + mIx k
theorem mIx_inj : ∀ a, a < 32 → ∀ b, b < 32 → 0 < mLen a → 0 < mLen b → mIx a = mIx b → a = b := by decide
theorem mIx_lt : ∀ a, a < 32 → mIx a < 23 := by decide
theorem mInj0 {a sz : Nat} (h : a < sz) : mInj (mad0 a sz) := by
  intro k j hk hj h1 h2 e
  unfold mad0 at e
  by_cases z : k = 0
  · by_cases w : j = 0
    · rw [z, w]
    · rw [if_pos z, if_neg w] at e; omega
  · by_cases w : j = 0
    · rw [if_neg z, if_pos w] at e; omega
    · rw [if_neg z, if_neg w] at e
      exact mIx_inj k hk j hj (h1.resolve_left z) (h2.resolve_left w) (by omega)
theorem PM0 {a sz q : Nat} (h : PM (mad0 a sz) q) : q = a ∨ (sz ≤ q ∧ q < sz + 23) := by
  obtain ⟨k, hk, -, e⟩ := h
  unfold mad0 at e
  by_cases z : k = 0
  · rw [if_pos z] at e; exact Or.inl e.symm
  · rw [if_neg z] at e
    have := mIx_lt k hk
    exact Or.inr (by omega)
/-- the arrays that are born -/
def MA (g : GG) (sz i : Nat) (H : Heap) : Prop := H.size = sz + i ∧ ∀ k, k < 32 → 0 < mLen k → mIx k < i → va_at g.1 vwCl (sz + mIx k, mE g S00 k) H
theorem MA.keep {g : GG} {sz i a : Nat} {H H1 : Heap} (h : MA g sz i H) (hlt : a < sz) (hz : H1.size = H.size) (ho : ∀ q : Nat, q ≠ a → H1[q]? = H[q]?) : MA g sz i H1 :=
  ⟨hz.trans h.1, fun k hk h0 hi => (h.2 k hk h0 hi).kept (ho _ (show sz + mIx k ≠ a by omega))⟩
theorem MA.born {g : GG} {sz i k : Nat} {H H1 : Heap} (h : MA g sz i H) (hk : k < 32) (h0 : 0 < mLen k) (hi : mIx k = i) (hN : va_at g.1 vwCl (sz + i, mE g S00 k) H1) (hz : H1.size = H.size + 1) (ho : ∀ q : Nat, q < H.size → H1[q]? = H[q]?) : MA g sz (i + 1) H1 := by
  refine ⟨by rw [hz, h.1]; omega, fun j hj hj0 hji => ?_⟩
  by_cases e : mIx j < i
  · exact (h.2 j hj hj0 e).kept (ho _ (show sz + mIx j < H.size by rw [h.1]; omega))
  · have e2 : mIx j = mIx k := by omega
    have e3 : j = k := mIx_inj j hj k hk hj0 h0 e2
    rw [e3, hi]
    exact hN
theorem MA.rep {g : GG} {a sz : Nat} {H : Heap} (h : MA g sz 23 H) (hO : va_at g.1 vwCl (a, .inr (7, mFs (mad0 a sz) S00)) H) : RepM g (mad0 a sz) S00 H := by
  refine ⟨hO, fun k hk h0 => ?_⟩
  have hne : ¬ k = 0 := fun z => by rw [z] at h0; exact absurd h0 (by decide)
  have e : mad0 a sz k = sz + mIx k := if_neg hne
  rw [e]
  exact h.2 k hk h0 (mIx_lt k hk)

set_option maxHeartbeats 4000000 in
set_option maxRecDepth 100000 in
theorem c6_init (l : Launch) (g : GG) (a sz : Nat) : MetV l yX6_init wsX6_init ({ frames := 1, cells := 23, slots := 2470, locals := 20 }) g [.ref a] (fun H => H.size = sz ∧ va_at g.1 vwCl (a, .inr (7, [.int (iI 0), .null, .int (iI 0), .null, .null, .null, .null, .null, .int (iI 0), .int (iI 0), .int (iI 0), .null, .null, .null, .int (iI 0), .null, .null, .null, .null, .null, .null, .null, .null, .null, .null, .null, .null, .int (iI 0), .int (iI 0), .long (lI 0), .null, .null])) H) (fun H => RepM g (mad0 a sz) S00 H) (fun q => q = a ∨ sz ≤ q) 23 2470 := by
  refine Met.ofW (cc := cX6_init) (maxL := 1) (ret := none) (by decide) rfl ?_
  intro p e s m args below meth c s₁ B hml hv
  obtain ⟨rfl, hP, hK⟩ := hv
  have hx := B.exec
  have hb := B.bytes
  have hr := B.returns
  have hts := atoms_spec (ws := wsX6_init) B.pre
  have hown : s.vm.findClass RX6 = some m.cls := findClass_of_methodNamed B.named
  have hlocks := B.notSynchronized
  have inX6 : ∀ w ∈ wsX60, w ∈ wsX6_init := by decide +kernel
  have hl := lv_entry ([.ref a]) (n := 1) (Nat.le_of_ble_eq_true rfl)
  rw [lg_entry_eq]
  generalize (lg_sl ([.ref a]) ++ List.replicate (1 - (lg_sl ([.ref a])).length) Slot.unset).toArray = ls at hl ⊢
  have hl : lv_has ls 1 [(0, .ref a)] := hl
  have hin : meth.name = "<init>" := (name_of_methodNamed B.named B.method).1
  have hS : va_S (fun q => q = a ∨ sz ≤ q) s.heap s.heap [] := va_S.rf
  obtain ⟨hsz0, hO⟩ := hP
  have hls : a < sz := by have h9 : a < s.heap.size := va_at.lt2 hO; omega
  have hA : MA g sz 0 s.heap := ⟨hsz0, fun k _ _ h => absurd h (Nat.not_lt_zero _)⟩
  refine lv_aload_n hx hb dX6_init_0 rfl (lv_at hl 0 rfl) ?_
  refine W.objInit hx hb hown (hts (.methodLink RX6 1 objectInit) (by decide +kernel)) (hts (.instanceMethod objectInit) (by decide +kernel)) (hts (.code objectInit ⟨#[0xb1]⟩ 1 none) (by decide +kernel)) rfl (by rw [hml]; exact hl.1) rfl dX6_init_1 (Nat.le_of_ble_eq_true rfl) (Nat.le_of_ble_eq_true rfl) ?_
  refine W.eq (g2 := F0 m 4 ls []) rfl ?_
  refine lv_aload_n hx hb dX6_init_4 rfl (lv_at hl 0 rfl) ?_
  refine q_bipush hx hb 20 dX6_init_5 (by decide +kernel) ?_
  refine q_newI (n := 20) hx hb (hts (.arrayClass .int) (by decide +kernel)) hK hS rfl (by decide) (Nat.le_of_ble_eq_true rfl) (Nat.le_of_ble_eq_true rfl) dX6_init_7 (fun nw H1 hq hN hz1 ho1 hS => ?_)
  obtain rfl : sz = nw := (hq.trans hA.1).symm
  have hA := hA.born (k := 1) (by decide) (by decide) rfl hN hz1 ho1
  have hO := hO.kept (ho1 _ (va_at.lt2 hO))
  refine q_putF (ty := (.array .int)) (v := .ref (sz + 0)) hx hb hts inX6 tyX6 tyX6_ok nmX6 hown hK hO rfl 1 (by decide) (hts (.fieldLink RX6 7 "TavernBenchModel" "feast" "[I") (by decide +kernel)) (fun _ h9 => h9) rfl hin rfl (by decide +kernel) rfl rfl (Nat.le_of_ble_eq_true rfl) dX6_init_9 (fun H i1 hO hz2 ho2 => ?_)
  have hO : va_at g.1 vwCl (a, .inr (7, [.int (iI 0), .ref (sz + 0), .int (iI 0), .null, .null, .null, .null, .null, .int (iI 0), .int (iI 0), .int (iI 0), .null, .null, .null, .int (iI 0), .null, .null, .null, .null, .null, .null, .null, .null, .null, .null, .null, .null, .int (iI 0), .int (iI 0), .long (lI 0), .null, .null])) H := hO
  have hA := hA.keep hls hz2 ho2
  have hS := hS.put (k := i1) hz2 ho2 (Or.inl rfl)
  refine lv_aload_n hx hb dX6_init_12 rfl (lv_at hl 0 rfl) ?_
  refine q_bipush hx hb 40 dX6_init_13 (by decide +kernel) ?_
  refine q_newI (n := 40) hx hb (hts (.arrayClass .int) (by decide +kernel)) hK hS rfl (by decide) (Nat.le_of_ble_eq_true rfl) (Nat.le_of_ble_eq_true rfl) dX6_init_15 (fun nw H1 hq hN hz1 ho1 hS => ?_)
  obtain rfl : nw = sz + 1 := hq.trans hA.1
  have hA := hA.born (k := 3) (by decide) (by decide) rfl hN hz1 ho1
  have hO := hO.kept (ho1 _ (va_at.lt2 hO))
  refine q_putF (ty := (.array .int)) (v := .ref (sz + 1)) hx hb hts inX6 tyX6 tyX6_ok nmX6 hown hK hO rfl 3 (by decide) (hts (.fieldLink RX6 13 "TavernBenchModel" "lawDay" "[I") (by decide +kernel)) (fun _ h9 => h9) rfl hin rfl (by decide +kernel) rfl rfl (Nat.le_of_ble_eq_true rfl) dX6_init_17 (fun H i1 hO hz2 ho2 => ?_)
  have hO : va_at g.1 vwCl (a, .inr (7, [.int (iI 0), .ref (sz + 0), .int (iI 0), .ref (sz + 1), .null, .null, .null, .null, .int (iI 0), .int (iI 0), .int (iI 0), .null, .null, .null, .int (iI 0), .null, .null, .null, .null, .null, .null, .null, .null, .null, .null, .null, .null, .int (iI 0), .int (iI 0), .long (lI 0), .null, .null])) H := hO
  have hA := hA.keep hls hz2 ho2
  have hS := hS.put (k := i1) hz2 ho2 (Or.inl rfl)
  refine lv_aload_n hx hb dX6_init_20 rfl (lv_at hl 0 rfl) ?_
  refine q_bipush hx hb 40 dX6_init_21 (by decide +kernel) ?_
  refine q_newI (n := 40) hx hb (hts (.arrayClass .int) (by decide +kernel)) hK hS rfl (by decide) (Nat.le_of_ble_eq_true rfl) (Nat.le_of_ble_eq_true rfl) dX6_init_23 (fun nw H1 hq hN hz1 ho1 hS => ?_)
  obtain rfl : nw = sz + 2 := hq.trans hA.1
  have hA := hA.born (k := 4) (by decide) (by decide) rfl hN hz1 ho1
  have hO := hO.kept (ho1 _ (va_at.lt2 hO))
  refine q_putF (ty := (.array .int)) (v := .ref (sz + 2)) hx hb hts inX6 tyX6 tyX6_ok nmX6 hown hK hO rfl 4 (by decide) (hts (.fieldLink RX6 16 "TavernBenchModel" "lawKind" "[I") (by decide +kernel)) (fun _ h9 => h9) rfl hin rfl (by decide +kernel) rfl rfl (Nat.le_of_ble_eq_true rfl) dX6_init_25 (fun H i1 hO hz2 ho2 => ?_)
  have hO : va_at g.1 vwCl (a, .inr (7, [.int (iI 0), .ref (sz + 0), .int (iI 0), .ref (sz + 1), .ref (sz + 2), .null, .null, .null, .int (iI 0), .int (iI 0), .int (iI 0), .null, .null, .null, .int (iI 0), .null, .null, .null, .null, .null, .null, .null, .null, .null, .null, .null, .null, .int (iI 0), .int (iI 0), .long (lI 0), .null, .null])) H := hO
  have hA := hA.keep hls hz2 ho2
  have hS := hS.put (k := i1) hz2 ho2 (Or.inl rfl)
  refine lv_aload_n hx hb dX6_init_28 rfl (lv_at hl 0 rfl) ?_
  refine q_bipush hx hb 40 dX6_init_29 (by decide +kernel) ?_
  refine q_newI (n := 40) hx hb (hts (.arrayClass .int) (by decide +kernel)) hK hS rfl (by decide) (Nat.le_of_ble_eq_true rfl) (Nat.le_of_ble_eq_true rfl) dX6_init_31 (fun nw H1 hq hN hz1 ho1 hS => ?_)
  obtain rfl : nw = sz + 3 := hq.trans hA.1
  have hA := hA.born (k := 5) (by decide) (by decide) rfl hN hz1 ho1
  have hO := hO.kept (ho1 _ (va_at.lt2 hO))
  refine q_putF (ty := (.array .int)) (v := .ref (sz + 3)) hx hb hts inX6 tyX6 tyX6_ok nmX6 hown hK hO rfl 5 (by decide) (hts (.fieldLink RX6 19 "TavernBenchModel" "lawWeek" "[I") (by decide +kernel)) (fun _ h9 => h9) rfl hin rfl (by decide +kernel) rfl rfl (Nat.le_of_ble_eq_true rfl) dX6_init_33 (fun H i1 hO hz2 ho2 => ?_)
  have hO : va_at g.1 vwCl (a, .inr (7, [.int (iI 0), .ref (sz + 0), .int (iI 0), .ref (sz + 1), .ref (sz + 2), .ref (sz + 3), .null, .null, .int (iI 0), .int (iI 0), .int (iI 0), .null, .null, .null, .int (iI 0), .null, .null, .null, .null, .null, .null, .null, .null, .null, .null, .null, .null, .int (iI 0), .int (iI 0), .long (lI 0), .null, .null])) H := hO
  have hA := hA.keep hls hz2 ho2
  have hS := hS.put (k := i1) hz2 ho2 (Or.inl rfl)
  refine lv_aload_n hx hb dX6_init_36 rfl (lv_at hl 0 rfl) ?_
  refine q_bipush hx hb 40 dX6_init_37 (by decide +kernel) ?_
  refine q_newI (n := 40) hx hb (hts (.arrayClass .int) (by decide +kernel)) hK hS rfl (by decide) (Nat.le_of_ble_eq_true rfl) (Nat.le_of_ble_eq_true rfl) dX6_init_39 (fun nw H1 hq hN hz1 ho1 hS => ?_)
  obtain rfl : nw = sz + 4 := hq.trans hA.1
  have hA := hA.born (k := 6) (by decide) (by decide) rfl hN hz1 ho1
  have hO := hO.kept (ho1 _ (va_at.lt2 hO))
  refine q_putF (ty := (.array .int)) (v := .ref (sz + 4)) hx hb hts inX6 tyX6 tyX6_ok nmX6 hown hK hO rfl 6 (by decide) (hts (.fieldLink RX6 22 "TavernBenchModel" "lawFrom" "[I") (by decide +kernel)) (fun _ h9 => h9) rfl hin rfl (by decide +kernel) rfl rfl (Nat.le_of_ble_eq_true rfl) dX6_init_41 (fun H i1 hO hz2 ho2 => ?_)
  have hO : va_at g.1 vwCl (a, .inr (7, [.int (iI 0), .ref (sz + 0), .int (iI 0), .ref (sz + 1), .ref (sz + 2), .ref (sz + 3), .ref (sz + 4), .null, .int (iI 0), .int (iI 0), .int (iI 0), .null, .null, .null, .int (iI 0), .null, .null, .null, .null, .null, .null, .null, .null, .null, .null, .null, .null, .int (iI 0), .int (iI 0), .long (lI 0), .null, .null])) H := hO
  have hA := hA.keep hls hz2 ho2
  have hS := hS.put (k := i1) hz2 ho2 (Or.inl rfl)
  refine lv_aload_n hx hb dX6_init_44 rfl (lv_at hl 0 rfl) ?_
  refine q_bipush hx hb 40 dX6_init_45 (by decide +kernel) ?_
  refine q_newI (n := 40) hx hb (hts (.arrayClass .int) (by decide +kernel)) hK hS rfl (by decide) (Nat.le_of_ble_eq_true rfl) (Nat.le_of_ble_eq_true rfl) dX6_init_47 (fun nw H1 hq hN hz1 ho1 hS => ?_)
  obtain rfl : nw = sz + 5 := hq.trans hA.1
  have hA := hA.born (k := 7) (by decide) (by decide) rfl hN hz1 ho1
  have hO := hO.kept (ho1 _ (va_at.lt2 hO))
  refine q_putF (ty := (.array .int)) (v := .ref (sz + 5)) hx hb hts inX6 tyX6 tyX6_ok nmX6 hown hK hO rfl 7 (by decide) (hts (.fieldLink RX6 25 "TavernBenchModel" "lawTo" "[I") (by decide +kernel)) (fun _ h9 => h9) rfl hin rfl (by decide +kernel) rfl rfl (Nat.le_of_ble_eq_true rfl) dX6_init_49 (fun H i1 hO hz2 ho2 => ?_)
  have hO : va_at g.1 vwCl (a, .inr (7, [.int (iI 0), .ref (sz + 0), .int (iI 0), .ref (sz + 1), .ref (sz + 2), .ref (sz + 3), .ref (sz + 4), .ref (sz + 5), .int (iI 0), .int (iI 0), .int (iI 0), .null, .null, .null, .int (iI 0), .null, .null, .null, .null, .null, .null, .null, .null, .null, .null, .null, .null, .int (iI 0), .int (iI 0), .long (lI 0), .null, .null])) H := hO
  have hA := hA.keep hls hz2 ho2
  have hS := hS.put (k := i1) hz2 ho2 (Or.inl rfl)
  refine lv_aload_n hx hb dX6_init_52 rfl (lv_at hl 0 rfl) ?_
  refine q_bipush hx hb 20 dX6_init_53 (by decide +kernel) ?_
  refine q_put (ty := .int) (v := .int (iI 20)) hx hb hts inX6 tyX6 tyX6_ok nmX6 hown hK hO rfl 8 (by decide) (hts (.fieldLink RX6 28 "TavernBenchModel" "near" "I") (by decide +kernel)) (fun _ h9 => h9) rfl (by decide +kernel) rfl rfl (Nat.le_of_ble_eq_true rfl) dX6_init_55 (fun H i1 hO hz2 ho2 => ?_)
  have hO : va_at g.1 vwCl (a, .inr (7, [.int (iI 0), .ref (sz + 0), .int (iI 0), .ref (sz + 1), .ref (sz + 2), .ref (sz + 3), .ref (sz + 4), .ref (sz + 5), .int (iI 20), .int (iI 0), .int (iI 0), .null, .null, .null, .int (iI 0), .null, .null, .null, .null, .null, .null, .null, .null, .null, .null, .null, .null, .int (iI 0), .int (iI 0), .long (lI 0), .null, .null])) H := hO
  have hA := hA.keep hls hz2 ho2
  have hS := hS.put (k := i1) hz2 ho2 (Or.inl rfl)
  refine lv_aload_n hx hb dX6_init_58 rfl (lv_at hl 0 rfl) ?_
  refine q_bipush hx hb 100 dX6_init_59 (by decide +kernel) ?_
  refine q_put (ty := .int) (v := .int (iI 100)) hx hb hts inX6 tyX6 tyX6_ok nmX6 hown hK hO rfl 9 (by decide) (hts (.fieldLink RX6 32 "TavernBenchModel" "heard" "I") (by decide +kernel)) (fun _ h9 => h9) rfl (by decide +kernel) rfl rfl (Nat.le_of_ble_eq_true rfl) dX6_init_61 (fun H i1 hO hz2 ho2 => ?_)
  have hO : va_at g.1 vwCl (a, .inr (7, [.int (iI 0), .ref (sz + 0), .int (iI 0), .ref (sz + 1), .ref (sz + 2), .ref (sz + 3), .ref (sz + 4), .ref (sz + 5), .int (iI 20), .int (iI 100), .int (iI 0), .null, .null, .null, .int (iI 0), .null, .null, .null, .null, .null, .null, .null, .null, .null, .null, .null, .null, .int (iI 0), .int (iI 0), .long (lI 0), .null, .null])) H := hO
  have hA := hA.keep hls hz2 ho2
  have hS := hS.put (k := i1) hz2 ho2 (Or.inl rfl)
  refine lv_aload_n hx hb dX6_init_64 rfl (lv_at hl 0 rfl) ?_
  refine q_bipush hx hb 20 dX6_init_65 (by decide +kernel) ?_
  refine q_newI (n := 20) hx hb (hts (.arrayClass .int) (by decide +kernel)) hK hS rfl (by decide) (Nat.le_of_ble_eq_true rfl) (Nat.le_of_ble_eq_true rfl) dX6_init_67 (fun nw H1 hq hN hz1 ho1 hS => ?_)
  obtain rfl : nw = sz + 6 := hq.trans hA.1
  have hA := hA.born (k := 11) (by decide) (by decide) rfl hN hz1 ho1
  have hO := hO.kept (ho1 _ (va_at.lt2 hO))
  refine q_putF (ty := (.array .int)) (v := .ref (sz + 6)) hx hb hts inX6 tyX6 tyX6_ok nmX6 hown hK hO rfl 11 (by decide) (hts (.fieldLink RX6 35 "TavernBenchModel" "ox" "[I") (by decide +kernel)) (fun _ h9 => h9) rfl hin rfl (by decide +kernel) rfl rfl (Nat.le_of_ble_eq_true rfl) dX6_init_69 (fun H i1 hO hz2 ho2 => ?_)
  have hO : va_at g.1 vwCl (a, .inr (7, [.int (iI 0), .ref (sz + 0), .int (iI 0), .ref (sz + 1), .ref (sz + 2), .ref (sz + 3), .ref (sz + 4), .ref (sz + 5), .int (iI 20), .int (iI 100), .int (iI 0), .ref (sz + 6), .null, .null, .int (iI 0), .null, .null, .null, .null, .null, .null, .null, .null, .null, .null, .null, .null, .int (iI 0), .int (iI 0), .long (lI 0), .null, .null])) H := hO
  have hA := hA.keep hls hz2 ho2
  have hS := hS.put (k := i1) hz2 ho2 (Or.inl rfl)
  refine lv_aload_n hx hb dX6_init_72 rfl (lv_at hl 0 rfl) ?_
  refine q_bipush hx hb 20 dX6_init_73 (by decide +kernel) ?_
  refine q_newI (n := 20) hx hb (hts (.arrayClass .int) (by decide +kernel)) hK hS rfl (by decide) (Nat.le_of_ble_eq_true rfl) (Nat.le_of_ble_eq_true rfl) dX6_init_75 (fun nw H1 hq hN hz1 ho1 hS => ?_)
  obtain rfl : nw = sz + 7 := hq.trans hA.1
  have hA := hA.born (k := 12) (by decide) (by decide) rfl hN hz1 ho1
  have hO := hO.kept (ho1 _ (va_at.lt2 hO))
  refine q_putF (ty := (.array .int)) (v := .ref (sz + 7)) hx hb hts inX6 tyX6 tyX6_ok nmX6 hown hK hO rfl 12 (by decide) (hts (.fieldLink RX6 38 "TavernBenchModel" "oy" "[I") (by decide +kernel)) (fun _ h9 => h9) rfl hin rfl (by decide +kernel) rfl rfl (Nat.le_of_ble_eq_true rfl) dX6_init_77 (fun H i1 hO hz2 ho2 => ?_)
  have hO : va_at g.1 vwCl (a, .inr (7, [.int (iI 0), .ref (sz + 0), .int (iI 0), .ref (sz + 1), .ref (sz + 2), .ref (sz + 3), .ref (sz + 4), .ref (sz + 5), .int (iI 20), .int (iI 100), .int (iI 0), .ref (sz + 6), .ref (sz + 7), .null, .int (iI 0), .null, .null, .null, .null, .null, .null, .null, .null, .null, .null, .null, .null, .int (iI 0), .int (iI 0), .long (lI 0), .null, .null])) H := hO
  have hA := hA.keep hls hz2 ho2
  have hS := hS.put (k := i1) hz2 ho2 (Or.inl rfl)
  refine lv_aload_n hx hb dX6_init_80 rfl (lv_at hl 0 rfl) ?_
  refine q_bipush hx hb 20 dX6_init_81 (by decide +kernel) ?_
  refine q_newI (n := 20) hx hb (hts (.arrayClass .int) (by decide +kernel)) hK hS rfl (by decide) (Nat.le_of_ble_eq_true rfl) (Nat.le_of_ble_eq_true rfl) dX6_init_83 (fun nw H1 hq hN hz1 ho1 hS => ?_)
  obtain rfl : nw = sz + 8 := hq.trans hA.1
  have hA := hA.born (k := 13) (by decide) (by decide) rfl hN hz1 ho1
  have hO := hO.kept (ho1 _ (va_at.lt2 hO))
  refine q_putF (ty := (.array .int)) (v := .ref (sz + 8)) hx hb hts inX6 tyX6 tyX6_ok nmX6 hown hK hO rfl 13 (by decide) (hts (.fieldLink RX6 41 "TavernBenchModel" "ow" "[I") (by decide +kernel)) (fun _ h9 => h9) rfl hin rfl (by decide +kernel) rfl rfl (Nat.le_of_ble_eq_true rfl) dX6_init_85 (fun H i1 hO hz2 ho2 => ?_)
  have hO : va_at g.1 vwCl (a, .inr (7, [.int (iI 0), .ref (sz + 0), .int (iI 0), .ref (sz + 1), .ref (sz + 2), .ref (sz + 3), .ref (sz + 4), .ref (sz + 5), .int (iI 20), .int (iI 100), .int (iI 0), .ref (sz + 6), .ref (sz + 7), .ref (sz + 8), .int (iI 0), .null, .null, .null, .null, .null, .null, .null, .null, .null, .null, .null, .null, .int (iI 0), .int (iI 0), .long (lI 0), .null, .null])) H := hO
  have hA := hA.keep hls hz2 ho2
  have hS := hS.put (k := i1) hz2 ho2 (Or.inl rfl)
  refine lv_aload_n hx hb dX6_init_88 rfl (lv_at hl 0 rfl) ?_
  refine q_bipush hx hb 30 dX6_init_89 (by decide +kernel) ?_
  refine q_newI (n := 30) hx hb (hts (.arrayClass .int) (by decide +kernel)) hK hS rfl (by decide) (Nat.le_of_ble_eq_true rfl) (Nat.le_of_ble_eq_true rfl) dX6_init_91 (fun nw H1 hq hN hz1 ho1 hS => ?_)
  obtain rfl : nw = sz + 9 := hq.trans hA.1
  have hA := hA.born (k := 15) (by decide) (by decide) rfl hN hz1 ho1
  have hO := hO.kept (ho1 _ (va_at.lt2 hO))
  refine q_putF (ty := (.array .int)) (v := .ref (sz + 9)) hx hb hts inX6 tyX6 tyX6_ok nmX6 hown hK hO rfl 15 (by decide) (hts (.fieldLink RX6 44 "TavernBenchModel" "hx" "[I") (by decide +kernel)) (fun _ h9 => h9) rfl hin rfl (by decide +kernel) rfl rfl (Nat.le_of_ble_eq_true rfl) dX6_init_93 (fun H i1 hO hz2 ho2 => ?_)
  have hO : va_at g.1 vwCl (a, .inr (7, [.int (iI 0), .ref (sz + 0), .int (iI 0), .ref (sz + 1), .ref (sz + 2), .ref (sz + 3), .ref (sz + 4), .ref (sz + 5), .int (iI 20), .int (iI 100), .int (iI 0), .ref (sz + 6), .ref (sz + 7), .ref (sz + 8), .int (iI 0), .ref (sz + 9), .null, .null, .null, .null, .null, .null, .null, .null, .null, .null, .null, .int (iI 0), .int (iI 0), .long (lI 0), .null, .null])) H := hO
  have hA := hA.keep hls hz2 ho2
  have hS := hS.put (k := i1) hz2 ho2 (Or.inl rfl)
  refine lv_aload_n hx hb dX6_init_96 rfl (lv_at hl 0 rfl) ?_
  refine q_bipush hx hb 30 dX6_init_97 (by decide +kernel) ?_
  refine q_newI (n := 30) hx hb (hts (.arrayClass .int) (by decide +kernel)) hK hS rfl (by decide) (Nat.le_of_ble_eq_true rfl) (Nat.le_of_ble_eq_true rfl) dX6_init_99 (fun nw H1 hq hN hz1 ho1 hS => ?_)
  obtain rfl : nw = sz + 10 := hq.trans hA.1
  have hA := hA.born (k := 16) (by decide) (by decide) rfl hN hz1 ho1
  have hO := hO.kept (ho1 _ (va_at.lt2 hO))
  refine q_putF (ty := (.array .int)) (v := .ref (sz + 10)) hx hb hts inX6 tyX6 tyX6_ok nmX6 hown hK hO rfl 16 (by decide) (hts (.fieldLink RX6 47 "TavernBenchModel" "hy" "[I") (by decide +kernel)) (fun _ h9 => h9) rfl hin rfl (by decide +kernel) rfl rfl (Nat.le_of_ble_eq_true rfl) dX6_init_101 (fun H i1 hO hz2 ho2 => ?_)
  have hO : va_at g.1 vwCl (a, .inr (7, [.int (iI 0), .ref (sz + 0), .int (iI 0), .ref (sz + 1), .ref (sz + 2), .ref (sz + 3), .ref (sz + 4), .ref (sz + 5), .int (iI 20), .int (iI 100), .int (iI 0), .ref (sz + 6), .ref (sz + 7), .ref (sz + 8), .int (iI 0), .ref (sz + 9), .ref (sz + 10), .null, .null, .null, .null, .null, .null, .null, .null, .null, .null, .int (iI 0), .int (iI 0), .long (lI 0), .null, .null])) H := hO
  have hA := hA.keep hls hz2 ho2
  have hS := hS.put (k := i1) hz2 ho2 (Or.inl rfl)
  refine lv_aload_n hx hb dX6_init_104 rfl (lv_at hl 0 rfl) ?_
  refine q_bipush hx hb 30 dX6_init_105 (by decide +kernel) ?_
  refine q_newI (n := 30) hx hb (hts (.arrayClass .int) (by decide +kernel)) hK hS rfl (by decide) (Nat.le_of_ble_eq_true rfl) (Nat.le_of_ble_eq_true rfl) dX6_init_107 (fun nw H1 hq hN hz1 ho1 hS => ?_)
  obtain rfl : nw = sz + 11 := hq.trans hA.1
  have hA := hA.born (k := 17) (by decide) (by decide) rfl hN hz1 ho1
  have hO := hO.kept (ho1 _ (va_at.lt2 hO))
  refine q_putF (ty := (.array .int)) (v := .ref (sz + 11)) hx hb hts inX6 tyX6 tyX6_ok nmX6 hown hK hO rfl 17 (by decide) (hts (.fieldLink RX6 50 "TavernBenchModel" "kind" "[I") (by decide +kernel)) (fun _ h9 => h9) rfl hin rfl (by decide +kernel) rfl rfl (Nat.le_of_ble_eq_true rfl) dX6_init_109 (fun H i1 hO hz2 ho2 => ?_)
  have hO : va_at g.1 vwCl (a, .inr (7, [.int (iI 0), .ref (sz + 0), .int (iI 0), .ref (sz + 1), .ref (sz + 2), .ref (sz + 3), .ref (sz + 4), .ref (sz + 5), .int (iI 20), .int (iI 100), .int (iI 0), .ref (sz + 6), .ref (sz + 7), .ref (sz + 8), .int (iI 0), .ref (sz + 9), .ref (sz + 10), .ref (sz + 11), .null, .null, .null, .null, .null, .null, .null, .null, .null, .int (iI 0), .int (iI 0), .long (lI 0), .null, .null])) H := hO
  have hA := hA.keep hls hz2 ho2
  have hS := hS.put (k := i1) hz2 ho2 (Or.inl rfl)
  refine lv_aload_n hx hb dX6_init_112 rfl (lv_at hl 0 rfl) ?_
  refine q_bipush hx hb 30 dX6_init_113 (by decide +kernel) ?_
  refine q_newI (n := 30) hx hb (hts (.arrayClass .int) (by decide +kernel)) hK hS rfl (by decide) (Nat.le_of_ble_eq_true rfl) (Nat.le_of_ble_eq_true rfl) dX6_init_115 (fun nw H1 hq hN hz1 ho1 hS => ?_)
  obtain rfl : nw = sz + 12 := hq.trans hA.1
  have hA := hA.born (k := 18) (by decide) (by decide) rfl hN hz1 ho1
  have hO := hO.kept (ho1 _ (va_at.lt2 hO))
  refine q_putF (ty := (.array .int)) (v := .ref (sz + 12)) hx hb hts inX6 tyX6 tyX6_ok nmX6 hown hK hO rfl 18 (by decide) (hts (.fieldLink RX6 53 "TavernBenchModel" "granted" "[I") (by decide +kernel)) (fun _ h9 => h9) rfl hin rfl (by decide +kernel) rfl rfl (Nat.le_of_ble_eq_true rfl) dX6_init_117 (fun H i1 hO hz2 ho2 => ?_)
  have hO : va_at g.1 vwCl (a, .inr (7, [.int (iI 0), .ref (sz + 0), .int (iI 0), .ref (sz + 1), .ref (sz + 2), .ref (sz + 3), .ref (sz + 4), .ref (sz + 5), .int (iI 20), .int (iI 100), .int (iI 0), .ref (sz + 6), .ref (sz + 7), .ref (sz + 8), .int (iI 0), .ref (sz + 9), .ref (sz + 10), .ref (sz + 11), .ref (sz + 12), .null, .null, .null, .null, .null, .null, .null, .null, .int (iI 0), .int (iI 0), .long (lI 0), .null, .null])) H := hO
  have hA := hA.keep hls hz2 ho2
  have hS := hS.put (k := i1) hz2 ho2 (Or.inl rfl)
  refine lv_aload_n hx hb dX6_init_120 rfl (lv_at hl 0 rfl) ?_
  refine q_bipush hx hb 30 dX6_init_121 (by decide +kernel) ?_
  refine q_newI (n := 30) hx hb (hts (.arrayClass .int) (by decide +kernel)) hK hS rfl (by decide) (Nat.le_of_ble_eq_true rfl) (Nat.le_of_ble_eq_true rfl) dX6_init_123 (fun nw H1 hq hN hz1 ho1 hS => ?_)
  obtain rfl : nw = sz + 13 := hq.trans hA.1
  have hA := hA.born (k := 19) (by decide) (by decide) rfl hN hz1 ho1
  have hO := hO.kept (ho1 _ (va_at.lt2 hO))
  refine q_putF (ty := (.array .int)) (v := .ref (sz + 13)) hx hb hts inX6 tyX6 tyX6_ok nmX6 hown hK hO rfl 19 (by decide) (hts (.fieldLink RX6 56 "TavernBenchModel" "events" "[I") (by decide +kernel)) (fun _ h9 => h9) rfl hin rfl (by decide +kernel) rfl rfl (Nat.le_of_ble_eq_true rfl) dX6_init_125 (fun H i1 hO hz2 ho2 => ?_)
  have hO : va_at g.1 vwCl (a, .inr (7, [.int (iI 0), .ref (sz + 0), .int (iI 0), .ref (sz + 1), .ref (sz + 2), .ref (sz + 3), .ref (sz + 4), .ref (sz + 5), .int (iI 20), .int (iI 100), .int (iI 0), .ref (sz + 6), .ref (sz + 7), .ref (sz + 8), .int (iI 0), .ref (sz + 9), .ref (sz + 10), .ref (sz + 11), .ref (sz + 12), .ref (sz + 13), .null, .null, .null, .null, .null, .null, .null, .int (iI 0), .int (iI 0), .long (lI 0), .null, .null])) H := hO
  have hA := hA.keep hls hz2 ho2
  have hS := hS.put (k := i1) hz2 ho2 (Or.inl rfl)
  refine lv_aload_n hx hb dX6_init_128 rfl (lv_at hl 0 rfl) ?_
  refine q_sipush hx hb 480 dX6_init_129 (by decide +kernel) ?_
  refine q_newI (n := 480) hx hb (hts (.arrayClass .int) (by decide +kernel)) hK hS rfl (by decide) (Nat.le_of_ble_eq_true rfl) (Nat.le_of_ble_eq_true rfl) dX6_init_132 (fun nw H1 hq hN hz1 ho1 hS => ?_)
  obtain rfl : nw = sz + 14 := hq.trans hA.1
  have hA := hA.born (k := 20) (by decide) (by decide) rfl hN hz1 ho1
  have hO := hO.kept (ho1 _ (va_at.lt2 hO))
  refine q_putF (ty := (.array .int)) (v := .ref (sz + 14)) hx hb hts inX6 tyX6 tyX6_ok nmX6 hown hK hO rfl 20 (by decide) (hts (.fieldLink RX6 59 "TavernBenchModel" "eventDay" "[I") (by decide +kernel)) (fun _ h9 => h9) rfl hin rfl (by decide +kernel) rfl rfl (Nat.le_of_ble_eq_true rfl) dX6_init_134 (fun H i1 hO hz2 ho2 => ?_)
  have hO : va_at g.1 vwCl (a, .inr (7, [.int (iI 0), .ref (sz + 0), .int (iI 0), .ref (sz + 1), .ref (sz + 2), .ref (sz + 3), .ref (sz + 4), .ref (sz + 5), .int (iI 20), .int (iI 100), .int (iI 0), .ref (sz + 6), .ref (sz + 7), .ref (sz + 8), .int (iI 0), .ref (sz + 9), .ref (sz + 10), .ref (sz + 11), .ref (sz + 12), .ref (sz + 13), .ref (sz + 14), .null, .null, .null, .null, .null, .null, .int (iI 0), .int (iI 0), .long (lI 0), .null, .null])) H := hO
  have hA := hA.keep hls hz2 ho2
  have hS := hS.put (k := i1) hz2 ho2 (Or.inl rfl)
  refine lv_aload_n hx hb dX6_init_137 rfl (lv_at hl 0 rfl) ?_
  refine q_sipush hx hb 480 dX6_init_138 (by decide +kernel) ?_
  refine q_newI (n := 480) hx hb (hts (.arrayClass .int) (by decide +kernel)) hK hS rfl (by decide) (Nat.le_of_ble_eq_true rfl) (Nat.le_of_ble_eq_true rfl) dX6_init_141 (fun nw H1 hq hN hz1 ho1 hS => ?_)
  obtain rfl : nw = sz + 15 := hq.trans hA.1
  have hA := hA.born (k := 21) (by decide) (by decide) rfl hN hz1 ho1
  have hO := hO.kept (ho1 _ (va_at.lt2 hO))
  refine q_putF (ty := (.array .int)) (v := .ref (sz + 15)) hx hb hts inX6 tyX6 tyX6_ok nmX6 hown hK hO rfl 21 (by decide) (hts (.fieldLink RX6 62 "TavernBenchModel" "eventKind" "[I") (by decide +kernel)) (fun _ h9 => h9) rfl hin rfl (by decide +kernel) rfl rfl (Nat.le_of_ble_eq_true rfl) dX6_init_143 (fun H i1 hO hz2 ho2 => ?_)
  have hO : va_at g.1 vwCl (a, .inr (7, [.int (iI 0), .ref (sz + 0), .int (iI 0), .ref (sz + 1), .ref (sz + 2), .ref (sz + 3), .ref (sz + 4), .ref (sz + 5), .int (iI 20), .int (iI 100), .int (iI 0), .ref (sz + 6), .ref (sz + 7), .ref (sz + 8), .int (iI 0), .ref (sz + 9), .ref (sz + 10), .ref (sz + 11), .ref (sz + 12), .ref (sz + 13), .ref (sz + 14), .ref (sz + 15), .null, .null, .null, .null, .null, .int (iI 0), .int (iI 0), .long (lI 0), .null, .null])) H := hO
  have hA := hA.keep hls hz2 ho2
  have hS := hS.put (k := i1) hz2 ho2 (Or.inl rfl)
  refine lv_aload_n hx hb dX6_init_146 rfl (lv_at hl 0 rfl) ?_
  refine q_sipush hx hb 480 dX6_init_147 (by decide +kernel) ?_
  refine q_newI (n := 480) hx hb (hts (.arrayClass .int) (by decide +kernel)) hK hS rfl (by decide) (Nat.le_of_ble_eq_true rfl) (Nat.le_of_ble_eq_true rfl) dX6_init_150 (fun nw H1 hq hN hz1 ho1 hS => ?_)
  obtain rfl : nw = sz + 16 := hq.trans hA.1
  have hA := hA.born (k := 22) (by decide) (by decide) rfl hN hz1 ho1
  have hO := hO.kept (ho1 _ (va_at.lt2 hO))
  refine q_putF (ty := (.array .int)) (v := .ref (sz + 16)) hx hb hts inX6 tyX6 tyX6_ok nmX6 hown hK hO rfl 22 (by decide) (hts (.fieldLink RX6 65 "TavernBenchModel" "eventValue" "[I") (by decide +kernel)) (fun _ h9 => h9) rfl hin rfl (by decide +kernel) rfl rfl (Nat.le_of_ble_eq_true rfl) dX6_init_152 (fun H i1 hO hz2 ho2 => ?_)
  have hO : va_at g.1 vwCl (a, .inr (7, [.int (iI 0), .ref (sz + 0), .int (iI 0), .ref (sz + 1), .ref (sz + 2), .ref (sz + 3), .ref (sz + 4), .ref (sz + 5), .int (iI 20), .int (iI 100), .int (iI 0), .ref (sz + 6), .ref (sz + 7), .ref (sz + 8), .int (iI 0), .ref (sz + 9), .ref (sz + 10), .ref (sz + 11), .ref (sz + 12), .ref (sz + 13), .ref (sz + 14), .ref (sz + 15), .ref (sz + 16), .null, .null, .null, .null, .int (iI 0), .int (iI 0), .long (lI 0), .null, .null])) H := hO
  have hA := hA.keep hls hz2 ho2
  have hS := hS.put (k := i1) hz2 ho2 (Or.inl rfl)
  refine lv_aload_n hx hb dX6_init_155 rfl (lv_at hl 0 rfl) ?_
  refine q_bipush hx hb 30 dX6_init_156 (by decide +kernel) ?_
  refine q_newI (n := 30) hx hb (hts (.arrayClass .int) (by decide +kernel)) hK hS rfl (by decide) (Nat.le_of_ble_eq_true rfl) (Nat.le_of_ble_eq_true rfl) dX6_init_158 (fun nw H1 hq hN hz1 ho1 hS => ?_)
  obtain rfl : nw = sz + 17 := hq.trans hA.1
  have hA := hA.born (k := 23) (by decide) (by decide) rfl hN hz1 ho1
  have hO := hO.kept (ho1 _ (va_at.lt2 hO))
  refine q_putF (ty := (.array .int)) (v := .ref (sz + 17)) hx hb hts inX6 tyX6 tyX6_ok nmX6 hown hK hO rfl 23 (by decide) (hts (.fieldLink RX6 68 "TavernBenchModel" "worths" "[I") (by decide +kernel)) (fun _ h9 => h9) rfl hin rfl (by decide +kernel) rfl rfl (Nat.le_of_ble_eq_true rfl) dX6_init_160 (fun H i1 hO hz2 ho2 => ?_)
  have hO : va_at g.1 vwCl (a, .inr (7, [.int (iI 0), .ref (sz + 0), .int (iI 0), .ref (sz + 1), .ref (sz + 2), .ref (sz + 3), .ref (sz + 4), .ref (sz + 5), .int (iI 20), .int (iI 100), .int (iI 0), .ref (sz + 6), .ref (sz + 7), .ref (sz + 8), .int (iI 0), .ref (sz + 9), .ref (sz + 10), .ref (sz + 11), .ref (sz + 12), .ref (sz + 13), .ref (sz + 14), .ref (sz + 15), .ref (sz + 16), .ref (sz + 17), .null, .null, .null, .int (iI 0), .int (iI 0), .long (lI 0), .null, .null])) H := hO
  have hA := hA.keep hls hz2 ho2
  have hS := hS.put (k := i1) hz2 ho2 (Or.inl rfl)
  refine lv_aload_n hx hb dX6_init_163 rfl (lv_at hl 0 rfl) ?_
  refine q_sipush hx hb 240 dX6_init_164 (by decide +kernel) ?_
  refine q_newI (n := 240) hx hb (hts (.arrayClass .int) (by decide +kernel)) hK hS rfl (by decide) (Nat.le_of_ble_eq_true rfl) (Nat.le_of_ble_eq_true rfl) dX6_init_167 (fun nw H1 hq hN hz1 ho1 hS => ?_)
  obtain rfl : nw = sz + 18 := hq.trans hA.1
  have hA := hA.born (k := 24) (by decide) (by decide) rfl hN hz1 ho1
  have hO := hO.kept (ho1 _ (va_at.lt2 hO))
  refine q_putF (ty := (.array .int)) (v := .ref (sz + 18)) hx hb hts inX6 tyX6 tyX6_ok nmX6 hown hK hO rfl 24 (by decide) (hts (.fieldLink RX6 71 "TavernBenchModel" "worthDay" "[I") (by decide +kernel)) (fun _ h9 => h9) rfl hin rfl (by decide +kernel) rfl rfl (Nat.le_of_ble_eq_true rfl) dX6_init_169 (fun H i1 hO hz2 ho2 => ?_)
  have hO : va_at g.1 vwCl (a, .inr (7, [.int (iI 0), .ref (sz + 0), .int (iI 0), .ref (sz + 1), .ref (sz + 2), .ref (sz + 3), .ref (sz + 4), .ref (sz + 5), .int (iI 20), .int (iI 100), .int (iI 0), .ref (sz + 6), .ref (sz + 7), .ref (sz + 8), .int (iI 0), .ref (sz + 9), .ref (sz + 10), .ref (sz + 11), .ref (sz + 12), .ref (sz + 13), .ref (sz + 14), .ref (sz + 15), .ref (sz + 16), .ref (sz + 17), .ref (sz + 18), .null, .null, .int (iI 0), .int (iI 0), .long (lI 0), .null, .null])) H := hO
  have hA := hA.keep hls hz2 ho2
  have hS := hS.put (k := i1) hz2 ho2 (Or.inl rfl)
  refine lv_aload_n hx hb dX6_init_172 rfl (lv_at hl 0 rfl) ?_
  refine q_sipush hx hb 240 dX6_init_173 (by decide +kernel) ?_
  refine q_newI (n := 240) hx hb (hts (.arrayClass .int) (by decide +kernel)) hK hS rfl (by decide) (Nat.le_of_ble_eq_true rfl) (Nat.le_of_ble_eq_true rfl) dX6_init_176 (fun nw H1 hq hN hz1 ho1 hS => ?_)
  obtain rfl : nw = sz + 19 := hq.trans hA.1
  have hA := hA.born (k := 25) (by decide) (by decide) rfl hN hz1 ho1
  have hO := hO.kept (ho1 _ (va_at.lt2 hO))
  refine q_putF (ty := (.array .int)) (v := .ref (sz + 19)) hx hb hts inX6 tyX6 tyX6_ok nmX6 hown hK hO rfl 25 (by decide) (hts (.fieldLink RX6 74 "TavernBenchModel" "worth" "[I") (by decide +kernel)) (fun _ h9 => h9) rfl hin rfl (by decide +kernel) rfl rfl (Nat.le_of_ble_eq_true rfl) dX6_init_178 (fun H i1 hO hz2 ho2 => ?_)
  have hO : va_at g.1 vwCl (a, .inr (7, [.int (iI 0), .ref (sz + 0), .int (iI 0), .ref (sz + 1), .ref (sz + 2), .ref (sz + 3), .ref (sz + 4), .ref (sz + 5), .int (iI 20), .int (iI 100), .int (iI 0), .ref (sz + 6), .ref (sz + 7), .ref (sz + 8), .int (iI 0), .ref (sz + 9), .ref (sz + 10), .ref (sz + 11), .ref (sz + 12), .ref (sz + 13), .ref (sz + 14), .ref (sz + 15), .ref (sz + 16), .ref (sz + 17), .ref (sz + 18), .ref (sz + 19), .null, .int (iI 0), .int (iI 0), .long (lI 0), .null, .null])) H := hO
  have hA := hA.keep hls hz2 ho2
  have hS := hS.put (k := i1) hz2 ho2 (Or.inl rfl)
  refine lv_aload_n hx hb dX6_init_181 rfl (lv_at hl 0 rfl) ?_
  refine q_bipush hx hb 30 dX6_init_182 (by decide +kernel) ?_
  refine q_newZ (n := 30) hx hb (hts (.arrayClass .boolean) (by decide +kernel)) hK hS rfl (by decide) (Nat.le_of_ble_eq_true rfl) (Nat.le_of_ble_eq_true rfl) dX6_init_184 (fun nw H1 hq hN hz1 ho1 hS => ?_)
  obtain rfl : nw = sz + 20 := hq.trans hA.1
  have hA := hA.born (k := 26) (by decide) (by decide) rfl hN hz1 ho1
  have hO := hO.kept (ho1 _ (va_at.lt2 hO))
  refine q_putF (ty := (.array .boolean)) (v := .ref (sz + 20)) hx hb hts inX6 tyX6 tyX6_ok nmX6 hown hK hO rfl 26 (by decide) (hts (.fieldLink RX6 77 "TavernBenchModel" "isVisited" "[Z") (by decide +kernel)) (fun _ h9 => h9) rfl hin rfl (by decide +kernel) rfl rfl (Nat.le_of_ble_eq_true rfl) dX6_init_186 (fun H i1 hO hz2 ho2 => ?_)
  have hO : va_at g.1 vwCl (a, .inr (7, [.int (iI 0), .ref (sz + 0), .int (iI 0), .ref (sz + 1), .ref (sz + 2), .ref (sz + 3), .ref (sz + 4), .ref (sz + 5), .int (iI 20), .int (iI 100), .int (iI 0), .ref (sz + 6), .ref (sz + 7), .ref (sz + 8), .int (iI 0), .ref (sz + 9), .ref (sz + 10), .ref (sz + 11), .ref (sz + 12), .ref (sz + 13), .ref (sz + 14), .ref (sz + 15), .ref (sz + 16), .ref (sz + 17), .ref (sz + 18), .ref (sz + 19), .ref (sz + 20), .int (iI 0), .int (iI 0), .long (lI 0), .null, .null])) H := hO
  have hA := hA.keep hls hz2 ho2
  have hS := hS.put (k := i1) hz2 ho2 (Or.inl rfl)
  refine lv_aload_n hx hb dX6_init_189 rfl (lv_at hl 0 rfl) ?_
  refine lv_lconst (v := lI 1) hx hb dX6_init_190 (by decide +kernel) ?_
  refine q_put (ty := .long) (v := .long (lI 1)) hx hb hts inX6 tyX6 tyX6_ok nmX6 hown hK hO rfl 29 (by decide) (hts (.fieldLink RX6 81 "TavernBenchModel" "seed" "J") (by decide +kernel)) (fun _ h9 => h9) rfl (by decide +kernel) rfl rfl (Nat.le_of_ble_eq_true rfl) dX6_init_191 (fun H i1 hO hz2 ho2 => ?_)
  have hO : va_at g.1 vwCl (a, .inr (7, [.int (iI 0), .ref (sz + 0), .int (iI 0), .ref (sz + 1), .ref (sz + 2), .ref (sz + 3), .ref (sz + 4), .ref (sz + 5), .int (iI 20), .int (iI 100), .int (iI 0), .ref (sz + 6), .ref (sz + 7), .ref (sz + 8), .int (iI 0), .ref (sz + 9), .ref (sz + 10), .ref (sz + 11), .ref (sz + 12), .ref (sz + 13), .ref (sz + 14), .ref (sz + 15), .ref (sz + 16), .ref (sz + 17), .ref (sz + 18), .ref (sz + 19), .ref (sz + 20), .int (iI 0), .int (iI 0), .long (lI 1), .null, .null])) H := hO
  have hA := hA.keep hls hz2 ho2
  have hS := hS.put (k := i1) hz2 ho2 (Or.inl rfl)
  refine lv_aload_n hx hb dX6_init_194 rfl (lv_at hl 0 rfl) ?_
  refine q_bipush hx hb 30 dX6_init_195 (by decide +kernel) ?_
  refine q_newJ (n := 30) hx hb (hts (.arrayClass .long) (by decide +kernel)) hK hS rfl (by decide) (Nat.le_of_ble_eq_true rfl) (Nat.le_of_ble_eq_true rfl) dX6_init_197 (fun nw H1 hq hN hz1 ho1 hS => ?_)
  obtain rfl : nw = sz + 21 := hq.trans hA.1
  have hA := hA.born (k := 30) (by decide) (by decide) rfl hN hz1 ho1
  have hO := hO.kept (ho1 _ (va_at.lt2 hO))
  refine q_putF (ty := (.array .long)) (v := .ref (sz + 21)) hx hb hts inX6 tyX6 tyX6_ok nmX6 hown hK hO rfl 30 (by decide) (hts (.fieldLink RX6 85 "TavernBenchModel" "part" "[J") (by decide +kernel)) (fun _ h9 => h9) rfl hin rfl (by decide +kernel) rfl rfl (Nat.le_of_ble_eq_true rfl) dX6_init_199 (fun H i1 hO hz2 ho2 => ?_)
  have hO : va_at g.1 vwCl (a, .inr (7, [.int (iI 0), .ref (sz + 0), .int (iI 0), .ref (sz + 1), .ref (sz + 2), .ref (sz + 3), .ref (sz + 4), .ref (sz + 5), .int (iI 20), .int (iI 100), .int (iI 0), .ref (sz + 6), .ref (sz + 7), .ref (sz + 8), .int (iI 0), .ref (sz + 9), .ref (sz + 10), .ref (sz + 11), .ref (sz + 12), .ref (sz + 13), .ref (sz + 14), .ref (sz + 15), .ref (sz + 16), .ref (sz + 17), .ref (sz + 18), .ref (sz + 19), .ref (sz + 20), .int (iI 0), .int (iI 0), .long (lI 1), .ref (sz + 21), .null])) H := hO
  have hA := hA.keep hls hz2 ho2
  have hS := hS.put (k := i1) hz2 ho2 (Or.inl rfl)
  refine lv_aload_n hx hb dX6_init_202 rfl (lv_at hl 0 rfl) ?_
  refine q_bipush hx hb 30 dX6_init_203 (by decide +kernel) ?_
  refine q_newJ (n := 30) hx hb (hts (.arrayClass .long) (by decide +kernel)) hK hS rfl (by decide) (Nat.le_of_ble_eq_true rfl) (Nat.le_of_ble_eq_true rfl) dX6_init_205 (fun nw H1 hq hN hz1 ho1 hS => ?_)
  obtain rfl : nw = sz + 22 := hq.trans hA.1
  have hA := hA.born (k := 31) (by decide) (by decide) rfl hN hz1 ho1
  have hO := hO.kept (ho1 _ (va_at.lt2 hO))
  refine q_putF (ty := (.array .long)) (v := .ref (sz + 22)) hx hb hts inX6 tyX6 tyX6_ok nmX6 hown hK hO rfl 31 (by decide) (hts (.fieldLink RX6 89 "TavernBenchModel" "rest" "[J") (by decide +kernel)) (fun _ h9 => h9) rfl hin rfl (by decide +kernel) rfl rfl (Nat.le_of_ble_eq_true rfl) dX6_init_207 (fun H i1 hO hz2 ho2 => ?_)
  have hO : va_at g.1 vwCl (a, .inr (7, [.int (iI 0), .ref (sz + 0), .int (iI 0), .ref (sz + 1), .ref (sz + 2), .ref (sz + 3), .ref (sz + 4), .ref (sz + 5), .int (iI 20), .int (iI 100), .int (iI 0), .ref (sz + 6), .ref (sz + 7), .ref (sz + 8), .int (iI 0), .ref (sz + 9), .ref (sz + 10), .ref (sz + 11), .ref (sz + 12), .ref (sz + 13), .ref (sz + 14), .ref (sz + 15), .ref (sz + 16), .ref (sz + 17), .ref (sz + 18), .ref (sz + 19), .ref (sz + 20), .int (iI 0), .int (iI 0), .long (lI 1), .ref (sz + 21), .ref (sz + 22)])) H := hO
  have hA := hA.keep hls hz2 ho2
  have hS := hS.put (k := i1) hz2 ho2 (Or.inl rfl)
  refine W.widen (k := 23) (n := 2470) (by omega) (by omega) ?_
  refine q_mretv hx hb hr hlocks hS dX6_init_210 ?_
  exact hA.rep hO
