/-! the reference: its object and rows, as the state -/
def mLen : Nat → Nat
  | 1 => 20
  | 3 => 40
  | 4 => 40
  | 5 => 40
  | 6 => 40
  | 7 => 40
  | 11 => 20
  | 12 => 20
  | 13 => 20
  | 15 => 30
  | 16 => 30
  | 17 => 30
  | 18 => 30
  | 19 => 30
  | 20 => 480
  | 21 => 480
  | 22 => 480
  | 23 => 30
  | 24 => 240
  | 25 => 240
  | 26 => 30
  | 30 => 30
  | 31 => 30
  | _ => 0
def mFs (mad : Nat → Nat) (S : St) : List Value := [.int (iI (S 0 0)), .ref (mad 1), .int (iI (S 2 0)), .ref (mad 3), .ref (mad 4), .ref (mad 5), .ref (mad 6), .ref (mad 7), .int (iI (S 8 0)), .int (iI (S 9 0)), .int (iI (S 10 0)), .ref (mad 11), .ref (mad 12), .ref (mad 13), .int (iI (S 14 0)), .ref (mad 15), .ref (mad 16), .ref (mad 17), .ref (mad 18), .ref (mad 19), .ref (mad 20), .ref (mad 21), .ref (mad 22), .ref (mad 23), .ref (mad 24), .ref (mad 25), .ref (mad 26), .int (iI (S 27 0)), .int (iI (S 28 0)), .long (lI (S 29 0)), .ref (mad 30), .ref (mad 31)]
def mE (g : GG) (S : St) (k : Nat) : va_E := if k = 26 then .inl (g.2.2.2.1, 30, .inl (fun j => iI (S k (j : Int)))) else if k = 30 ∨ k = 31 then .inl (g.2.2.1, 30, .inr (.inl (fun j => lI (S k (j : Int))))) else .inl (g.2.1, mLen k, .inl (fun j => iI (S k (j : Int))))
def RepM (g : GG) (mad : Nat → Nat) (S : St) (H : Heap) : Prop := va_at g.1 vwCl (mad 0, .inr (7, mFs mad S)) H ∧ ∀ k, k < 32 → 0 < mLen k → va_at g.1 vwCl (mad k, mE g S k) H
def mInj (mad : Nat → Nat) : Prop := ∀ a b, a < 32 → b < 32 → (a = 0 ∨ 0 < mLen a) → (b = 0 ∨ 0 < mLen b) → mad a = mad b → a = b
def PM (mad : Nat → Nat) : Nat → Prop := fun q => ∃ k, k < 32 ∧ (k = 0 ∨ 0 < mLen k) ∧ mad k = q
theorem mE_congr {g : GG} {S S' : St} {k : Nat} (h : S' k = S k) : mE g S' k = mE g S k := by unfold mE; rw [h]
theorem RepM.obj {g : GG} {mad : Nat → Nat} {S S' : St} {H H1 : Heap} (hM : RepM g mad S H) (hi : mInj mad) (h1 : va_at g.1 vwCl (mad 0, .inr (7, mFs mad S')) H1) (hS : ∀ j, j < 32 → 0 < mLen j → S' j = S j) (ho : ∀ q : Nat, q ≠ mad 0 → H1[q]? = H[q]?) : RepM g mad S' H1 := by
  refine ⟨h1, fun k hk h0 => ?_⟩
  rw [mE_congr (hS k hk h0)]
  refine (hM.2 k hk h0).kept (ho _ (fun e => ?_))
  have := hi k 0 hk (by decide) (Or.inr h0) (Or.inl rfl) e
  subst this
  exact absurd h0 (by decide)
theorem RepM.arr {g : GG} {mad : Nat → Nat} {S S' : St} {H H1 : Heap} (hM : RepM g mad S H) (hi : mInj mad) {k : Nat} (hk : k < 32) (h0 : 0 < mLen k) (h1 : va_at g.1 vwCl (mad k, mE g S' k) H1) (hf : mFs mad S' = mFs mad S) (hS : ∀ j, j ≠ k → S' j = S j) (ho : ∀ q : Nat, q ≠ mad k → H1[q]? = H[q]?) : RepM g mad S' H1 := by
  refine ⟨?_, fun j hj hj0 => ?_⟩
  · rw [hf]
    refine hM.1.kept (ho _ (fun e => ?_))
    have := hi 0 k (by decide) hk (Or.inl rfl) (Or.inr h0) e
    subst this
    exact absurd h0 (by decide)
  · by_cases e : j = k
    · subst e; exact h1
    · rw [mE_congr (hS j e)]
      exact (hM.2 j hj hj0).kept (ho _ (fun z => e (hi j k hj hk (Or.inr hj0) (Or.inr h0) z)))
theorem RepM.kept {g : GG} {mad : Nat → Nat} {S : St} {H H1 : Heap} (hM : RepM g mad S H) (h : ∀ q, PM mad q → H1[q]? = H[q]?) : RepM g mad S H1 :=
  ⟨hM.1.kept (h _ ⟨0, by decide, Or.inl rfl, rfl⟩), fun k hk h0 => (hM.2 k hk h0).kept (h _ ⟨k, hk, Or.inr h0, rfl⟩)⟩
section QM
variable {p : Program} {l : Launch} {e : Env} {R : Room} {s : State} {m : MethodId} {args : Array Value} {below : List Frame} {meth : Method} {c : Code} {H : Heap} {locs : List Loc} {cells slots : Nat} {Q : State → Prop}
variable {cc : ByteArray} {pc : Nat} {ls : Array Slot} {rest : List Value} {g : GG}
/-- an int out of a row of the reference -/
theorem q_mld (hexec : p.tables.exec = Jvm.exec) (hb : c.code = cc) (hK : KK g s) {mad : Nat → Nat} {S : St} (hM : RepM g mad S H) (k n : Nat) (hk : k < 32 ∧ 0 < mLen k ∧ n < 2147483648) (he : mE g S k = .inl (g.2.1, n, .inl (fun j => iI (S k (j : Int))))) {z : Int} (hz : 0 ≤ z ∧ z < n) (hdg : decode cc pc = .ok (.iaload, 1)) (kk : W p l e R s m args below meth c H locs cells slots Q (F0 m (pc + 1) ls (.int (iI (S k z)) :: rest))) : W p l e R s m args below meth c H locs cells slots Q (F0 m pc ls (.int (iI z) :: .ref (mad k) :: rest)) := by
  have h := hM.2 k hk.1 hk.2.1
  rw [he] at h
  exact q_iald (f := S k) hexec hb hK h hk.2.2 hz hdg kk
theorem q_mldz (hexec : p.tables.exec = Jvm.exec) (hb : c.code = cc) (hK : KK g s) {mad : Nat → Nat} {S : St} (hM : RepM g mad S H) {z : Int} (hz : 0 ≤ z ∧ z < (30 : Nat)) (hdg : decode cc pc = .ok (.baload, 1)) (kk : W p l e R s m args below meth c H locs cells slots Q (F0 m (pc + 1) ls (.int (iI (S 26 z)) :: rest))) : W p l e R s m args below meth c H locs cells slots Q (F0 m pc ls (.int (iI z) :: .ref (mad 26) :: rest)) := by
  have h := hM.2 26 (by decide) (by decide)
  exact q_zald (f := S 26) hexec hb hK h (by decide) hz hdg kk
theorem q_mldj (hexec : p.tables.exec = Jvm.exec) (hb : c.code = cc) (hK : KK g s) {mad : Nat → Nat} {S : St} (hM : RepM g mad S H) (k : Nat) (hk : k = 30 ∨ k = 31) {z : Int} (hz : 0 ≤ z ∧ z < (30 : Nat)) (hdg : decode cc pc = .ok (.laload, 1)) (kk : W p l e R s m args below meth c H locs cells slots Q (F0 m (pc + 1) ls (.long (lI (S k z)) :: rest))) : W p l e R s m args below meth c H locs cells slots Q (F0 m pc ls (.int (iI z) :: .ref (mad k) :: rest)) := by
  rcases hk with rfl | rfl
  · have h := hM.2 30 (by decide) (by decide)
    exact q_lald (f := S 30) hexec hb hK h (by decide) hz hdg kk
  · have h := hM.2 31 (by decide) (by decide)
    exact q_lald (f := S 31) hexec hb hK h (by decide) hz hdg kk
/-- a number of the reference is written -/
theorem q_mput {own : String} {index : Nat} {Ts : List Cond} {A : Nat → Prop} {mad : Nat → Nat} {S : St} (hexec : p.tables.exec = Jvm.exec) (hb : c.code = cc) (hts : ∀ w ∈ Ts, w.before args s = true) (hin : ∀ w ∈ wsX60, w ∈ Ts) (hown : s.vm.findClass own = some m.cls) (hK : KK g s) (hM : RepM g mad S H) (hi : mInj mad) (hS : va_S A s.heap H locs) (hA : A (mad 0)) (k : Nat) (hk : k < 32) (hsc : mLen k = 0) (hlink : (Cond.fieldLink own index "TavernBenchModel" (TX6 k).2.1 (TX6 k).2.2.1).before args s = true) (hsame : ∀ x, s.fieldFound? (TX6 k).1 (TX6 k).2.1 (TX6 k).2.2.1 = some x → s.fieldFound? "TavernBenchModel" (TX6 k).2.1 (TX6 k).2.2.1 = some x) (hfin : (TX6 k).2.2.2 = false) (hd : parseFieldDescriptor (TX6 k).2.2.1 = some .int) (z : Int) (hset : (mFs mad S).set k (.int (iI z)) = mFs mad (up S k 0 z)) (hdg : decode cc pc = .ok (.putfield index, 3)) (kk : ∀ (H1 : Heap) (locs1 : List Loc), RepM g mad (up S k 0 z) H1 → va_S A s.heap H1 locs1 → W p l e R s m args below meth c H1 locs1 cells slots Q (F0 m (pc + 3) ls rest)) : W p l e R s m args below meth c H locs cells slots Q (F0 m pc ls (.int (iI z) :: .ref (mad 0) :: rest)) :=
  q_put hexec hb hts hin tyX6 tyX6_ok nmX6 hown hK hM.1 rfl k hk hlink hsame hfin hd rfl rfl hk hdg (fun H1 i h1 z1 o1 => kk H1 _ (hM.obj hi (by rw [← hset]; exact h1) (fun j _ h0 => up_ne S 0 z (fun e => by rw [e, hsc] at h0; exact absurd h0 (by decide))) o1) (hS.put z1 o1 hA))
theorem q_mputj {own : String} {index : Nat} {Ts : List Cond} {A : Nat → Prop} {mad : Nat → Nat} {S : St} (hexec : p.tables.exec = Jvm.exec) (hb : c.code = cc) (hts : ∀ w ∈ Ts, w.before args s = true) (hin : ∀ w ∈ wsX60, w ∈ Ts) (hown : s.vm.findClass own = some m.cls) (hK : KK g s) (hM : RepM g mad S H) (hi : mInj mad) (hS : va_S A s.heap H locs) (hA : A (mad 0)) (k : Nat) (hk : k < 32) (hsc : mLen k = 0) (hlink : (Cond.fieldLink own index "TavernBenchModel" (TX6 k).2.1 (TX6 k).2.2.1).before args s = true) (hsame : ∀ x, s.fieldFound? (TX6 k).1 (TX6 k).2.1 (TX6 k).2.2.1 = some x → s.fieldFound? "TavernBenchModel" (TX6 k).2.1 (TX6 k).2.2.1 = some x) (hfin : (TX6 k).2.2.2 = false) (hd : parseFieldDescriptor (TX6 k).2.2.1 = some .long) (z : Int) (hset : (mFs mad S).set k (.long (lI z)) = mFs mad (up S k 0 z)) (hdg : decode cc pc = .ok (.putfield index, 3)) (kk : ∀ (H1 : Heap) (locs1 : List Loc), RepM g mad (up S k 0 z) H1 → va_S A s.heap H1 locs1 → W p l e R s m args below meth c H1 locs1 cells slots Q (F0 m (pc + 3) ls rest)) : W p l e R s m args below meth c H locs cells slots Q (F0 m pc ls (.long (lI z) :: .ref (mad 0) :: rest)) :=
  q_put hexec hb hts hin tyX6 tyX6_ok nmX6 hown hK hM.1 rfl k hk hlink hsame hfin hd rfl rfl hk hdg (fun H1 i h1 z1 o1 => kk H1 _ (hM.obj hi (by rw [← hset]; exact h1) (fun j _ h0 => up_ne S 0 z (fun e => by rw [e, hsc] at h0; exact absurd h0 (by decide))) o1) (hS.put z1 o1 hA))
/-- an int is written into a row -/
theorem q_mst {A : Nat → Prop} {mad : Nat → Nat} {S : St} (hexec : p.tables.exec = Jvm.exec) (hb : c.code = cc) (hK : KK g s) (hM : RepM g mad S H) (hi : mInj mad) (hS : va_S A s.heap H locs) (k n : Nat) (hA : A (mad k)) (hk : k < 32 ∧ 0 < mLen k ∧ n < 2147483648) (z v : Int) (he : ∀ S' : St, mE g S' k = .inl (g.2.1, n, .inl (fun j => iI (S' k (j : Int))))) (hf : mFs mad (up S k z v) = mFs mad S) (hz : 0 ≤ z ∧ z < n) (hdg : decode cc pc = .ok (.iastore, 1)) (kk : ∀ (H1 : Heap) (locs1 : List Loc), RepM g mad (up S k z v) H1 → va_S A s.heap H1 locs1 → W p l e R s m args below meth c H1 locs1 cells slots Q (F0 m (pc + 1) ls rest)) : W p l e R s m args below meth c H locs cells slots Q (F0 m pc ls (.int (iI v) :: .int (iI z) :: .ref (mad k) :: rest)) := by
  have h := hM.2 k hk.1 hk.2.1
  rw [he S] at h
  refine q_iast (f := S k) hexec hb hK h hk.2.2 hz hdg (fun H1 i h1 z1 o1 => kk H1 _ (hM.arr hi hk.1 hk.2.1 ?_ hf (fun j hj => up_ne S z v hj) o1) (hS.put z1 o1 hA))
  rw [he (up S k z v)]
  simp only [up, if_true]
  exact h1
theorem q_mstz {A : Nat → Prop} {mad : Nat → Nat} {S : St} (hexec : p.tables.exec = Jvm.exec) (hb : c.code = cc) (hK : KK g s) (hM : RepM g mad S H) (hi : mInj mad) (hS : va_S A s.heap H locs) (hA : A (mad 26)) (z v : Int) (hv : v = 0 ∨ v = 1) (hz : 0 ≤ z ∧ z < (30 : Nat)) (hdg : decode cc pc = .ok (.bastore, 1)) (kk : ∀ (H1 : Heap) (locs1 : List Loc), RepM g mad (up S 26 z v) H1 → va_S A s.heap H1 locs1 → W p l e R s m args below meth c H1 locs1 cells slots Q (F0 m (pc + 1) ls rest)) : W p l e R s m args below meth c H locs cells slots Q (F0 m pc ls (.int (iI v) :: .int (iI z) :: .ref (mad 26) :: rest)) := by
  have h := hM.2 26 (by decide) (by decide)
  refine q_zast (f := S 26) hexec hb hK h (by decide) hz hv hdg (fun H1 i h1 z1 o1 => kk H1 _ (hM.arr hi (by decide) (by decide) ?_ rfl (fun j hj => up_ne S z v hj) o1) (hS.put z1 o1 hA))
  show va_at g.1 vwCl (mad 26, .inl (g.2.2.2.1, 30, .inl (fun j => iI (up S 26 z v 26 (j : Int))))) H1
  simp only [up, if_true]
  exact h1
theorem q_mstj {A : Nat → Prop} {mad : Nat → Nat} {S : St} (hexec : p.tables.exec = Jvm.exec) (hb : c.code = cc) (hK : KK g s) (hM : RepM g mad S H) (hi : mInj mad) (hS : va_S A s.heap H locs) (k : Nat) (hA : A (mad k)) (z v : Int) (hk : k < 32 ∧ 0 < mLen k) (he : ∀ S' : St, mE g S' k = .inl (g.2.2.1, 30, .inr (.inl (fun j => lI (S' k (j : Int)))))) (hf : mFs mad (up S k z v) = mFs mad S) (hz : 0 ≤ z ∧ z < (30 : Nat)) (hdg : decode cc pc = .ok (.lastore, 1)) (kk : ∀ (H1 : Heap) (locs1 : List Loc), RepM g mad (up S k z v) H1 → va_S A s.heap H1 locs1 → W p l e R s m args below meth c H1 locs1 cells slots Q (F0 m (pc + 1) ls rest)) : W p l e R s m args below meth c H locs cells slots Q (F0 m pc ls (.long (lI v) :: .int (iI z) :: .ref (mad k) :: rest)) := by
  have h := hM.2 k hk.1 hk.2
  rw [he S] at h
  refine q_last (f := S k) hexec hb hK h (by decide) hz hdg (fun H1 i h1 z1 o1 => kk H1 _ (hM.arr hi hk.1 hk.2 ?_ hf (fun j hj => up_ne S z v hj) o1) (hS.put z1 o1 hA))
  rw [he (up S k z v)]
  simp only [up, if_true]
  exact h1
theorem q_lcmp (hexec : p.tables.exec = Jvm.exec) (hb : c.code = cc) {a b : Int} (ra : R64 a) (rb : R64 b) (hdg : decode cc pc = .ok (.lcmp, 1)) (k : W p l e R s m args below meth c H locs cells slots Q (F0 m (pc + 1) ls (.int (iI (sg a b)) :: rest))) : W p l e R s m args below meth c H locs cells slots Q (F0 m pc ls (.long (lI b) :: .long (lI a) :: rest)) := by
  refine W.lcmp hexec hb hdg ?_
  have e1 : lg_cmp (lI a) (lI b) = iI (sg a b) := by
    unfold lg_cmp sg
    by_cases h : a < b
    · rw [if_neg (fun z => by have := (lI_lt rb ra).mp z; omega), if_neg (fun z => by have := (lI_eq ra rb).mp z; omega), if_pos h]; decide
    · by_cases h2 : a = b
      · rw [if_neg (fun z => by have := (lI_lt rb ra).mp z; omega), if_pos (by rw [h2]), if_neg h, if_pos h2]; decide
      · rw [if_pos ((lI_lt rb ra).mpr (by omega)), if_neg h, if_neg h2]; decide
  rw [e1]
  exact k
/-- a loop that writes -/
theorem q_loopW {σ : Type} {nL : Nat} {A : Nat → Prop} (I : σ → Heap → Prop) (μ : σ → Nat) (lc : σ → List (Nat × Value)) (x0 : σ) (h0 : I x0 H) (hS : va_S A s.heap H locs) (hl : lv_has ls nL (lc x0))
    (step : ∀ (x : σ) (H1 : Heap) (locs1 : List Loc), I x H1 → va_S A s.heap H1 locs1 → (∀ (y : σ) (H2 : Heap) (locs2 : List Loc), I y H2 → va_S A s.heap H2 locs2 → μ y < μ x → ∀ ls' : Array Slot, lv_has ls' nL (lc y) → W p l e R s m args below meth c H2 locs2 cells slots Q (F0 m pc ls' [])) → ∀ ls' : Array Slot, lv_has ls' nL (lc x) → W p l e R s m args below meth c H1 locs1 cells slots Q (F0 m pc ls' [])) : W p l e R s m args below meth c H locs cells slots Q (F0 m pc ls []) := by
  have key : ∀ k : Nat, ∀ (x : σ) (H1 : Heap) (locs1 : List Loc), I x H1 → va_S A s.heap H1 locs1 → μ x < k → ∀ ls' : Array Slot, lv_has ls' nL (lc x) → W p l e R s m args below meth c H1 locs1 cells slots Q (F0 m pc ls' []) := by
    intro k
    induction k with
    | zero => intro x _ _ _ _ h; exact absurd h (Nat.not_lt_zero _)
    | succ k ih => exact fun x H1 locs1 hx h1 hk ls' hl' => step x H1 locs1 hx h1 (fun y H2 locs2 hy h2 hm ls2 hl2 => ih y H2 locs2 hy h2 (by omega) ls2 hl2) ls' hl'
  exact key (μ x0 + 1) x0 H locs h0 hS (Nat.lt_succ_self _) ls hl
end QM
