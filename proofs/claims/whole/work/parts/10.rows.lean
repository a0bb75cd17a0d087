/-! rows of this claim: numbers by their integers, one-instruction rows over them, calls that read alone -/
def iI (z : Int) : Int32 := Int32.ofInt z
def lI (z : Int) : Int64 := Int64.ofInt z
abbrev R32 (z : Int) : Prop := -2147483648 ≤ z ∧ z ≤ 2147483647
abbrev R64 (z : Int) : Prop := -9223372036854775808 ≤ z ∧ z ≤ 9223372036854775807
theorem iI_toInt {z : Int} (h : R32 z) : (iI z).toInt = z := Int32.toInt_ofInt_of_le (by have := h.1; omega) (by have := h.2; omega)
theorem lI_toInt {z : Int} (h : R64 z) : (lI z).toInt = z := Int64.toInt_ofInt_of_le (by have := h.1; omega) (by have := h.2; omega)
theorem iI_self (x : Int32) : iI x.toInt = x := Int32.ofInt_toInt x
theorem iI_range (x : Int32) : R32 x.toInt := ⟨by have := Int32.le_toInt x; omega, by have := Int32.toInt_lt x; omega⟩
theorem iI_add (a b : Int) : iI a + iI b = iI (a + b) := (Int32.ofInt_add a b).symm
theorem iI_sub (a b : Int) : iI a - iI b = iI (a - b) := (Int32.ofInt_sub a b).symm
theorem iI_mul (a b : Int) : iI a * iI b = iI (a * b) := (Int32.ofInt_mul a b).symm
theorem lI_add (a b : Int) : lI a + lI b = lI (a + b) := (Int64.ofInt_add a b).symm
theorem lI_sub (a b : Int) : lI a - lI b = lI (a - b) := (Int64.ofInt_sub a b).symm
theorem lI_mul (a b : Int) : lI a * lI b = lI (a * b) := (Int64.ofInt_mul a b).symm
theorem iI_eq {a b : Int} (ha : R32 a) (hb : R32 b) : iI a = iI b ↔ a = b := by
  rw [← Int32.toInt_inj, iI_toInt ha, iI_toInt hb]
theorem iI_lt {a b : Int} (ha : R32 a) (hb : R32 b) : iI a < iI b ↔ a < b := by
  rw [Int32.lt_iff_toInt_lt, iI_toInt ha, iI_toInt hb]
theorem iI_le {a b : Int} (ha : R32 a) (hb : R32 b) : iI a ≤ iI b ↔ a ≤ b := by
  rw [Int32.le_iff_toInt_le, iI_toInt ha, iI_toInt hb]
theorem lI_lt {a b : Int} (ha : R64 a) (hb : R64 b) : lI a < lI b ↔ a < b := by
  rw [Int64.lt_iff_toInt_lt, lI_toInt ha, lI_toInt hb]
theorem lI_eq {a b : Int} (ha : R64 a) (hb : R64 b) : lI a = lI b ↔ a = b := by
  rw [← Int64.toInt_inj, lI_toInt ha, lI_toInt hb]
theorem iI_clamp {z : Int} (h0 : 0 ≤ z) (h1 : z < 2147483648) : (iI z).toNatClampNeg = z.toNat :=
  Int32.toNatClampNeg_ofInt_of_le (by omega) (by omega)
theorem iI_in {z : Int} {n : Nat} (h0 : 0 ≤ z) (h1 : z < n) (hn : n < 2147483648) : vp_in (iI z) n := by
  rw [vp_in_iff, iI_toInt ⟨by omega, by omega⟩]
  exact ⟨h0, h1⟩
theorem iI_nat (n : Nat) : Int32.ofNat n = iI (n : Int) := (Int32.ofInt_eq_ofNat).symm
theorem iI_div {a b : Int} (ha : 0 ≤ a) (ha2 : R32 a) (hb : 0 < b) (hb2 : R32 b) : iI a / iI b = iI (a / b) := by
  have h := Int32.ofInt_tdiv (a := a) (b := b) (by have := ha2.1; exact this) (by exact ha2.2) (by exact hb2.1) (by exact hb2.2)
  rw [Int.tdiv_eq_ediv_of_nonneg ha] at h
  exact h.symm
theorem lI_div {a b : Int} (ha : 0 ≤ a) (ha2 : R64 a) (hb : 0 < b) (hb2 : R64 b) : lI a / lI b = lI (a / b) := by
  have h := Int64.ofInt_tdiv (a := a) (b := b) (by exact ha2.1) (by exact ha2.2) (by exact hb2.1) (by exact hb2.2)
  rw [Int.tdiv_eq_ediv_of_nonneg ha] at h
  exact h.symm
theorem iI_rem {a b : Int} (ha : 0 ≤ a) (ha2 : R32 a) (hb : 0 < b) (hb2 : R32 b) : iI a - iI a / iI b * iI b = iI (a % b) := by
  rw [iI_div ha ha2 hb hb2, iI_mul, iI_sub]
  congr 1
  have := Int.emod_def a b
  rw [this, Int.mul_comm]
theorem lI_rem {a b : Int} (ha : 0 ≤ a) (ha2 : R64 a) (hb : 0 < b) (hb2 : R64 b) : lI a - lI a / lI b * lI b = lI (a % b) := by
  rw [lI_div ha ha2 hb hb2, lI_mul, lI_sub]
  congr 1
  have := Int.emod_def a b
  rw [this, Int.mul_comm]
theorem iI_long {a : Int} (ha : R32 a) : (iI a).toInt64 = lI a := Int32.toInt64_ofInt (by exact ha.1) (by exact ha.2)
theorem lI_int (a : Int) : (lI a).toInt32 = iI a := Int64.toInt32_ofInt
/-- a proposition as 1 or 0 -/
noncomputable def bI (q : Prop) : Int := @ite Int q (Classical.propDecidable q) 1 0
theorem bI_t {q : Prop} (h : q) : bI q = 1 := if_pos h
theorem bI_f {q : Prop} (h : ¬ q) : bI q = 0 := if_neg h
theorem bI_01 (q : Prop) : bI q = 0 ∨ bI q = 1 := by
  by_cases h : q
  · exact Or.inr (bI_t h)
  · exact Or.inl (bI_f h)
theorem bI_R (q : Prop) : R32 (bI q) := by
  rcases bI_01 q with h | h <;> rw [h] <;> decide
theorem bI_le (q : Prop) : 0 ≤ bI q ∧ bI q ≤ 1 := by
  rcases bI_01 q with h | h <;> rw [h] <;> decide
theorem bI_iff {q r : Prop} (h : q ↔ r) : bI q = bI r := by rw [propext h]
theorem bI_0 {q : Prop} : bI q = 0 ↔ ¬ q := by
  by_cases h : q
  · rw [bI_t h]; simp [h]
  · rw [bI_f h]; simp [h]
theorem bI_1 {q : Prop} : bI q = 1 ↔ q := by
  by_cases h : q
  · rw [bI_t h]; simp [h]
  · rw [bI_f h]; simp [h]
theorem bI_e1 {q : Prop} (h : q) : (1 : Int) = bI q := (bI_t h).symm
theorem bI_e0 {q : Prop} (h : ¬ q) : (0 : Int) = bI q := (bI_f h).symm
/-- one of two values -/
noncomputable def cI {α : Type} (q : Prop) (a b : α) : α := @ite α q (Classical.propDecidable q) a b
theorem cI_t {α : Type} {q : Prop} {a b : α} (h : q) : cI q a b = a := if_pos h
theorem cI_f {α : Type} {q : Prop} {a b : α} (h : ¬ q) : cI q a b = b := if_neg h
abbrev GG : Type := va_G × ClassId × ClassId × ClassId × ClassId
abbrev gT (g : GG) : List (ClassId × FieldType) := [(g.2.1, .int), (g.2.2.1, .long), (g.2.2.2.1, .boolean), (g.2.2.2.2, .object "java/lang/Object")]
def KK (g : GG) (U : State) : Prop := va_K g.1 vwCl (gT g) U ∧ va_Nw (.methodLinkNest RX1 97 yX5_isIn RX5) U
theorem KK.warm {g : GG} {s U : State} (hW : s.WarmedH U.vm) (h : KK g s) : KK g U := ⟨va_K.moved hW.alike h.1, va_Nw.warmM hW h.2⟩
theorem KK.calling {g : GG} {U : State} {f : JFrame} {mk : MethodId} {a : Array Value} (h : KK g U) : KK g (U.calling f mk a) := ⟨va_K.moved (u := U) (U := U.calling f mk a) (Vm.Alike.refl U.vm) h.1, va_Nw.same rfl (u := U) (U := U.calling f mk a) rfl h.2⟩
theorem va_P1 {D : va_G} {cl : List vw_C} {q : Nat × va_E} {H : Heap} (h : va_at D cl q H) : va_P D cl [q] H := by
  intro k x hx
  match k, hx with
  | 0, hx => cases hx; exact h
  | k + 1, hx => simp at hx
theorem va_D1 {A : Nat → Prop} {q : Nat × va_E} (h : A q.1) : va_D A [q] := by
  refine ⟨fun i j x y hx hy _ => ?_, fun k x hx => ?_⟩
  · have h1 : i < 1 := (List.getElem?_eq_some_iff.mp hx).1
    have h2 : j < 1 := (List.getElem?_eq_some_iff.mp hy).1
    omega
  · match k, hx with
    | 0, hx => cases hx; exact h
    | k + 1, hx => simp at hx
/-- a method that reads alone: its start -/
def RPc (as : List Value) (P : Heap → Prop) (g : GG) : Array Value → State → Prop := va_Pc as (fun U => P U.heap ∧ KK g U)
theorem RPc_blind {as : List Value} {P : Heap → Prop} {g : GG} : FrameBlind (RPc as P g) := fun _ _ _ _ q => ⟨q.1, q.2.1, q.2.2.calling⟩
theorem q_pS {s : State} {H : Heap} {g : GG} {As : List Value} {P : Heap → Prop} (hK : KK g s) (hp : P H) : PreS s H (RPc As P g) As :=
  ⟨RPc_blind, fun U hU hW => ⟨rfl, by rw [hU]; exact hp, hK.warm hW⟩⟩
theorem q_pV {s : State} {H : Heap} {g : GG} {b : Nat} {As : List Value} {P : Heap → Prop} {ci : Nat} {r : vw_C} {fs : List Value} (hK : KK g s) (hO : va_at g.1 vwCl (b, .inr (ci, fs)) H) (hc : vwCl[ci]? = some r) (hp : P H) : PreV s H r.1 b (RPc (.ref b :: As) P g) As :=
  ⟨RPc_blind, va_recv hK.1 (va_P1 hO) hc (q0 := 0) rfl, fun U hU hW => ⟨rfl, by rw [hU]; exact hp, hK.warm hW⟩⟩
abbrev MetI (l : Launch) (y : MethodName) (ws : List Cond) (rm : Room) (g : GG) (as : List Value) (P : Heap → Prop) (z : Int) : Prop := Met l y ws rm (RPc as P g) (vp_Si (fun r => r = iI z)) 0 0 (fun _ => False)
abbrev MetL (l : Launch) (y : MethodName) (ws : List Cond) (rm : Room) (g : GG) (as : List Value) (P : Heap → Prop) (z : Int) : Prop := Met l y ws rm (RPc as P g) (vp_Sl (fun r => r = lI z)) 0 0 (fun _ => False)
abbrev MetQ (l : Launch) (y : MethodName) (ws : List Cond) (rm : Room) (g : GG) (as : List Value) (P : Heap → Prop) (o : Option Nat) : Prop := Met l y ws rm (RPc as P g) (va_Sq (fun r => r = o)) 0 0 (fun _ => False)
section QRows
variable {p : Program} {l : Launch} {e : Env} {R : Room} {s : State} {m : MethodId} {args : Array Value} {below : List Frame} {meth : Method} {c : Code} {H : Heap} {locs : List Loc} {cells slots : Nat} {Q : State → Prop}
variable {cc : ByteArray} {pc : Nat} {ls : Array Slot} {rest : List Value} {g : GG}
theorem q_bipush (hexec : p.tables.exec = Jvm.exec) (hb : c.code = cc) {n : Int} (z : Int) (hdg : decode cc pc = .ok (.bipush n, 2)) (hv : (Int8.ofInt n).toInt32 = iI z) (k : W p l e R s m args below meth c H locs cells slots Q (F0 m (pc + 2) ls (.int (iI z) :: rest))) : W p l e R s m args below meth c H locs cells slots Q (F0 m pc ls rest) := lv_bipush hexec hb hdg hv k
theorem q_sipush (hexec : p.tables.exec = Jvm.exec) (hb : c.code = cc) {n : Int} (z : Int) (hdg : decode cc pc = .ok (.sipush n, 3)) (hv : (Int16.ofInt n).toInt32 = iI z) (k : W p l e R s m args below meth c H locs cells slots Q (F0 m (pc + 3) ls (.int (iI z) :: rest))) : W p l e R s m args below meth c H locs cells slots Q (F0 m pc ls rest) := lv_sipush hexec hb hdg hv k
theorem q_ldc (hexec : p.tables.exec = Jvm.exec) (hb : c.code = cc) {own : String} {index : Nat} {v : Int32} (z : Int) (hown : s.vm.findClass own = some m.cls) (hconst : (Jvm.Cond.constant own index v).before args s = true) (hv : v = iI z) (hdg : decode cc pc = .ok (.ldc index, 2)) (k : W p l e R s m args below meth c H locs cells slots Q (F0 m (pc + 2) ls (.int (iI z) :: rest))) : W p l e R s m args below meth c H locs cells slots Q (F0 m pc ls rest) := lv_ldc hexec hb hown hconst hdg (by rw [hv]; exact k)
theorem q_ldc2 (hexec : p.tables.exec = Jvm.exec) (hb : c.code = cc) {own : String} {index : Nat} {v : Int64} (z : Int) (hown : s.vm.findClass own = some m.cls) (hconst : (Jvm.Cond.constantLong own index v).before args s = true) (hv : v = lI z) (hdg : decode cc pc = .ok (.ldc2_w index, 3)) (k : W p l e R s m args below meth c H locs cells slots Q (F0 m (pc + 3) ls (.long (lI z) :: rest))) : W p l e R s m args below meth c H locs cells slots Q (F0 m pc ls rest) := lv_ldc2 hexec hb hown hconst hdg (by rw [hv]; exact k)
theorem q_iadd (hexec : p.tables.exec = Jvm.exec) (hb : c.code = cc) {a b : Int} (hdg : decode cc pc = .ok (.iadd, 1)) (k : W p l e R s m args below meth c H locs cells slots Q (F0 m (pc + 1) ls (.int (iI (a + b)) :: rest))) : W p l e R s m args below meth c H locs cells slots Q (F0 m pc ls (.int (iI b) :: .int (iI a) :: rest)) := lv_iadd hexec hb hdg (by rw [iI_add]; exact k)
theorem q_isub (hexec : p.tables.exec = Jvm.exec) (hb : c.code = cc) {a b : Int} (hdg : decode cc pc = .ok (.isub, 1)) (k : W p l e R s m args below meth c H locs cells slots Q (F0 m (pc + 1) ls (.int (iI (a - b)) :: rest))) : W p l e R s m args below meth c H locs cells slots Q (F0 m pc ls (.int (iI b) :: .int (iI a) :: rest)) := lv_isub hexec hb hdg (by rw [iI_sub]; exact k)
theorem q_imul (hexec : p.tables.exec = Jvm.exec) (hb : c.code = cc) {a b : Int} (hdg : decode cc pc = .ok (.imul, 1)) (k : W p l e R s m args below meth c H locs cells slots Q (F0 m (pc + 1) ls (.int (iI (a * b)) :: rest))) : W p l e R s m args below meth c H locs cells slots Q (F0 m pc ls (.int (iI b) :: .int (iI a) :: rest)) := lv_imul hexec hb hdg (by rw [iI_mul]; exact k)
theorem q_irem (hexec : p.tables.exec = Jvm.exec) (hb : c.code = cc) {a b : Int} (ha : 0 ≤ a ∧ R32 a) (hb0 : 0 < b ∧ R32 b) (hdg : decode cc pc = .ok (.irem, 1)) (k : W p l e R s m args below meth c H locs cells slots Q (F0 m (pc + 1) ls (.int (iI (a % b)) :: rest))) : W p l e R s m args below meth c H locs cells slots Q (F0 m pc ls (.int (iI b) :: .int (iI a) :: rest)) := by
  refine lv_irem hexec hb hdg (fun h => ?_) (by rw [iI_rem ha.1 ha.2 hb0.1 hb0.2]; exact k)
  have h0 : iI b = iI 0 := h
  rw [iI_eq hb0.2 (by decide)] at h0
  have := hb0.1
  omega
theorem q_ladd (hexec : p.tables.exec = Jvm.exec) (hb : c.code = cc) {a b : Int} (hdg : decode cc pc = .ok (.ladd, 1)) (k : W p l e R s m args below meth c H locs cells slots Q (F0 m (pc + 1) ls (.long (lI (a + b)) :: rest))) : W p l e R s m args below meth c H locs cells slots Q (F0 m pc ls (.long (lI b) :: .long (lI a) :: rest)) := lv_ladd hexec hb hdg (by rw [lI_add]; exact k)
theorem q_lsub (hexec : p.tables.exec = Jvm.exec) (hb : c.code = cc) {a b : Int} (hdg : decode cc pc = .ok (.lsub, 1)) (k : W p l e R s m args below meth c H locs cells slots Q (F0 m (pc + 1) ls (.long (lI (a - b)) :: rest))) : W p l e R s m args below meth c H locs cells slots Q (F0 m pc ls (.long (lI b) :: .long (lI a) :: rest)) := lv_lsub hexec hb hdg (by rw [lI_sub]; exact k)
theorem q_lmul (hexec : p.tables.exec = Jvm.exec) (hb : c.code = cc) {a b : Int} (hdg : decode cc pc = .ok (.lmul, 1)) (k : W p l e R s m args below meth c H locs cells slots Q (F0 m (pc + 1) ls (.long (lI (a * b)) :: rest))) : W p l e R s m args below meth c H locs cells slots Q (F0 m pc ls (.long (lI b) :: .long (lI a) :: rest)) := lv_lmul hexec hb hdg (by rw [lI_mul]; exact k)
theorem lI_ne0 {b : Int} (hb0 : 0 < b ∧ R64 b) : ¬ lI b = 0 := by
  intro h
  have h0 : lI b = lI 0 := h
  rw [lI_eq hb0.2 (by decide)] at h0
  have := hb0.1
  omega
theorem q_ldiv (hexec : p.tables.exec = Jvm.exec) (hb : c.code = cc) {a b : Int} (ha : 0 ≤ a ∧ R64 a) (hb0 : 0 < b ∧ R64 b) (hdg : decode cc pc = .ok (.ldiv, 1)) (k : W p l e R s m args below meth c H locs cells slots Q (F0 m (pc + 1) ls (.long (lI (a / b)) :: rest))) : W p l e R s m args below meth c H locs cells slots Q (F0 m pc ls (.long (lI b) :: .long (lI a) :: rest)) :=
  lv_ldiv hexec hb hdg (lI_ne0 hb0) (by rw [lI_div ha.1 ha.2 hb0.1 hb0.2]; exact k)
theorem q_lrem (hexec : p.tables.exec = Jvm.exec) (hb : c.code = cc) {a b : Int} (ha : 0 ≤ a ∧ R64 a) (hb0 : 0 < b ∧ R64 b) (hdg : decode cc pc = .ok (.lrem, 1)) (k : W p l e R s m args below meth c H locs cells slots Q (F0 m (pc + 1) ls (.long (lI (a % b)) :: rest))) : W p l e R s m args below meth c H locs cells slots Q (F0 m pc ls (.long (lI b) :: .long (lI a) :: rest)) :=
  lv_lrem hexec hb hdg (lI_ne0 hb0) (by rw [lI_rem ha.1 ha.2 hb0.1 hb0.2]; exact k)
theorem q_i2l (hexec : p.tables.exec = Jvm.exec) (hb : c.code = cc) {a : Int} (ha : R32 a) (hdg : decode cc pc = .ok (.i2l, 1)) (k : W p l e R s m args below meth c H locs cells slots Q (F0 m (pc + 1) ls (.long (lI a) :: rest))) : W p l e R s m args below meth c H locs cells slots Q (F0 m pc ls (.int (iI a) :: rest)) := lv_i2l hexec hb hdg (iI_long ha) k
theorem q_l2i (hexec : p.tables.exec = Jvm.exec) (hb : c.code = cc) {a : Int} (hdg : decode cc pc = .ok (.l2i, 1)) (k : W p l e R s m args below meth c H locs cells slots Q (F0 m (pc + 1) ls (.int (iI a) :: rest))) : W p l e R s m args below meth c H locs cells slots Q (F0 m pc ls (.long (lI a) :: rest)) := lv_l2i hexec hb hdg (lI_int a) k
/- BRANCHES -/
theorem q_icmp_eq (hexec : p.tables.exec = Jvm.exec) (hb : c.code = cc) {a b off : Int} {tgt : Nat} (hdg : decode cc pc = .ok (.if_icmp .eq off, 3)) (ht : (pc : Int) + off = (tgt : Int)) (ra : R32 a) (rb : R32 b) (kt : a = b → W p l e R s m args below meth c H locs cells slots Q (F0 m tgt ls rest)) (kf : a ≠ b → W p l e R s m args below meth c H locs cells slots Q (F0 m (pc + 3) ls rest)) : W p l e R s m args below meth c H locs cells slots Q (F0 m pc ls (.int (iI b) :: .int (iI a) :: rest)) := lv_icmp_eq hexec hb hdg ht (fun h => kt ((iI_eq ra rb).mp h)) (fun h => kf (fun z => h ((iI_eq ra rb).mpr z)))
theorem q_if_eq (hexec : p.tables.exec = Jvm.exec) (hb : c.code = cc) {a off : Int} {tgt : Nat} (hdg : decode cc pc = .ok (.ifCond .eq off, 3)) (ht : (pc : Int) + off = (tgt : Int)) (ra : R32 a) (kt : a = 0 → W p l e R s m args below meth c H locs cells slots Q (F0 m tgt ls rest)) (kf : a ≠ 0 → W p l e R s m args below meth c H locs cells slots Q (F0 m (pc + 3) ls rest)) : W p l e R s m args below meth c H locs cells slots Q (F0 m pc ls (.int (iI a) :: rest)) := by
  have rb : R32 0 := by decide
  exact lv_if_eq hexec hb hdg ht (fun h => kt ((iI_eq ra rb).mp h)) (fun h => kf (fun z => h ((iI_eq ra rb).mpr z)))
theorem q_icmp_ne (hexec : p.tables.exec = Jvm.exec) (hb : c.code = cc) {a b off : Int} {tgt : Nat} (hdg : decode cc pc = .ok (.if_icmp .ne off, 3)) (ht : (pc : Int) + off = (tgt : Int)) (ra : R32 a) (rb : R32 b) (kt : a ≠ b → W p l e R s m args below meth c H locs cells slots Q (F0 m tgt ls rest)) (kf : a = b → W p l e R s m args below meth c H locs cells slots Q (F0 m (pc + 3) ls rest)) : W p l e R s m args below meth c H locs cells slots Q (F0 m pc ls (.int (iI b) :: .int (iI a) :: rest)) := lv_icmp_ne hexec hb hdg ht (fun h => kt (fun z => h ((iI_eq ra rb).mpr z))) (fun h => kf ((iI_eq ra rb).mp h))
theorem q_if_ne (hexec : p.tables.exec = Jvm.exec) (hb : c.code = cc) {a off : Int} {tgt : Nat} (hdg : decode cc pc = .ok (.ifCond .ne off, 3)) (ht : (pc : Int) + off = (tgt : Int)) (ra : R32 a) (kt : a ≠ 0 → W p l e R s m args below meth c H locs cells slots Q (F0 m tgt ls rest)) (kf : a = 0 → W p l e R s m args below meth c H locs cells slots Q (F0 m (pc + 3) ls rest)) : W p l e R s m args below meth c H locs cells slots Q (F0 m pc ls (.int (iI a) :: rest)) := by
  have rb : R32 0 := by decide
  exact lv_if_ne hexec hb hdg ht (fun h => kt (fun z => h ((iI_eq ra rb).mpr z))) (fun h => kf ((iI_eq ra rb).mp h))
theorem q_icmp_lt (hexec : p.tables.exec = Jvm.exec) (hb : c.code = cc) {a b off : Int} {tgt : Nat} (hdg : decode cc pc = .ok (.if_icmp .lt off, 3)) (ht : (pc : Int) + off = (tgt : Int)) (ra : R32 a) (rb : R32 b) (kt : a < b → W p l e R s m args below meth c H locs cells slots Q (F0 m tgt ls rest)) (kf : b ≤ a → W p l e R s m args below meth c H locs cells slots Q (F0 m (pc + 3) ls rest)) : W p l e R s m args below meth c H locs cells slots Q (F0 m pc ls (.int (iI b) :: .int (iI a) :: rest)) := lv_icmp_lt hexec hb hdg ht (fun h => kt ((iI_lt ra rb).mp h)) (fun h => kf (Int.not_lt.mp (fun z => h ((iI_lt ra rb).mpr z))))
theorem q_if_lt (hexec : p.tables.exec = Jvm.exec) (hb : c.code = cc) {a off : Int} {tgt : Nat} (hdg : decode cc pc = .ok (.ifCond .lt off, 3)) (ht : (pc : Int) + off = (tgt : Int)) (ra : R32 a) (kt : a < 0 → W p l e R s m args below meth c H locs cells slots Q (F0 m tgt ls rest)) (kf : 0 ≤ a → W p l e R s m args below meth c H locs cells slots Q (F0 m (pc + 3) ls rest)) : W p l e R s m args below meth c H locs cells slots Q (F0 m pc ls (.int (iI a) :: rest)) := by
  have rb : R32 0 := by decide
  exact lv_if_lt hexec hb hdg ht (fun h => kt ((iI_lt ra rb).mp h)) (fun h => kf (Int.not_lt.mp (fun z => h ((iI_lt ra rb).mpr z))))
theorem q_icmp_ge (hexec : p.tables.exec = Jvm.exec) (hb : c.code = cc) {a b off : Int} {tgt : Nat} (hdg : decode cc pc = .ok (.if_icmp .ge off, 3)) (ht : (pc : Int) + off = (tgt : Int)) (ra : R32 a) (rb : R32 b) (kt : b ≤ a → W p l e R s m args below meth c H locs cells slots Q (F0 m tgt ls rest)) (kf : a < b → W p l e R s m args below meth c H locs cells slots Q (F0 m (pc + 3) ls rest)) : W p l e R s m args below meth c H locs cells slots Q (F0 m pc ls (.int (iI b) :: .int (iI a) :: rest)) := lv_icmp_ge hexec hb hdg ht (fun h => kt ((iI_le rb ra).mp h)) (fun h => kf (Int.not_le.mp (fun z => h ((iI_le rb ra).mpr z))))
theorem q_if_ge (hexec : p.tables.exec = Jvm.exec) (hb : c.code = cc) {a off : Int} {tgt : Nat} (hdg : decode cc pc = .ok (.ifCond .ge off, 3)) (ht : (pc : Int) + off = (tgt : Int)) (ra : R32 a) (kt : 0 ≤ a → W p l e R s m args below meth c H locs cells slots Q (F0 m tgt ls rest)) (kf : a < 0 → W p l e R s m args below meth c H locs cells slots Q (F0 m (pc + 3) ls rest)) : W p l e R s m args below meth c H locs cells slots Q (F0 m pc ls (.int (iI a) :: rest)) := by
  have rb : R32 0 := by decide
  exact lv_if_ge hexec hb hdg ht (fun h => kt ((iI_le rb ra).mp h)) (fun h => kf (Int.not_le.mp (fun z => h ((iI_le rb ra).mpr z))))
theorem q_icmp_gt (hexec : p.tables.exec = Jvm.exec) (hb : c.code = cc) {a b off : Int} {tgt : Nat} (hdg : decode cc pc = .ok (.if_icmp .gt off, 3)) (ht : (pc : Int) + off = (tgt : Int)) (ra : R32 a) (rb : R32 b) (kt : b < a → W p l e R s m args below meth c H locs cells slots Q (F0 m tgt ls rest)) (kf : a ≤ b → W p l e R s m args below meth c H locs cells slots Q (F0 m (pc + 3) ls rest)) : W p l e R s m args below meth c H locs cells slots Q (F0 m pc ls (.int (iI b) :: .int (iI a) :: rest)) := lv_icmp_gt hexec hb hdg ht (fun h => kt ((iI_lt rb ra).mp h)) (fun h => kf (Int.not_lt.mp (fun z => h ((iI_lt rb ra).mpr z))))
theorem q_if_gt (hexec : p.tables.exec = Jvm.exec) (hb : c.code = cc) {a off : Int} {tgt : Nat} (hdg : decode cc pc = .ok (.ifCond .gt off, 3)) (ht : (pc : Int) + off = (tgt : Int)) (ra : R32 a) (kt : 0 < a → W p l e R s m args below meth c H locs cells slots Q (F0 m tgt ls rest)) (kf : a ≤ 0 → W p l e R s m args below meth c H locs cells slots Q (F0 m (pc + 3) ls rest)) : W p l e R s m args below meth c H locs cells slots Q (F0 m pc ls (.int (iI a) :: rest)) := by
  have rb : R32 0 := by decide
  exact lv_if_gt hexec hb hdg ht (fun h => kt ((iI_lt rb ra).mp h)) (fun h => kf (Int.not_lt.mp (fun z => h ((iI_lt rb ra).mpr z))))
theorem q_icmp_le (hexec : p.tables.exec = Jvm.exec) (hb : c.code = cc) {a b off : Int} {tgt : Nat} (hdg : decode cc pc = .ok (.if_icmp .le off, 3)) (ht : (pc : Int) + off = (tgt : Int)) (ra : R32 a) (rb : R32 b) (kt : a ≤ b → W p l e R s m args below meth c H locs cells slots Q (F0 m tgt ls rest)) (kf : b < a → W p l e R s m args below meth c H locs cells slots Q (F0 m (pc + 3) ls rest)) : W p l e R s m args below meth c H locs cells slots Q (F0 m pc ls (.int (iI b) :: .int (iI a) :: rest)) := lv_icmp_le hexec hb hdg ht (fun h => kt ((iI_le ra rb).mp h)) (fun h => kf (Int.not_le.mp (fun z => h ((iI_le ra rb).mpr z))))
theorem q_if_le (hexec : p.tables.exec = Jvm.exec) (hb : c.code = cc) {a off : Int} {tgt : Nat} (hdg : decode cc pc = .ok (.ifCond .le off, 3)) (ht : (pc : Int) + off = (tgt : Int)) (ra : R32 a) (kt : a ≤ 0 → W p l e R s m args below meth c H locs cells slots Q (F0 m tgt ls rest)) (kf : 0 < a → W p l e R s m args below meth c H locs cells slots Q (F0 m (pc + 3) ls rest)) : W p l e R s m args below meth c H locs cells slots Q (F0 m pc ls (.int (iI a) :: rest)) := by
  have rb : R32 0 := by decide
  exact lv_if_le hexec hb hdg ht (fun h => kt ((iI_le ra rb).mp h)) (fun h => kf (Int.not_le.mp (fun z => h ((iI_le ra rb).mpr z))))
theorem q_ifb_eq (hexec : p.tables.exec = Jvm.exec) (hb : c.code = cc) {q : Prop} {off : Int} {tgt : Nat} (hdg : decode cc pc = .ok (.ifCond .eq off, 3)) (ht : (pc : Int) + off = (tgt : Int)) (kt : ¬ q → W p l e R s m args below meth c H locs cells slots Q (F0 m tgt ls rest)) (kf : q → W p l e R s m args below meth c H locs cells slots Q (F0 m (pc + 3) ls rest)) : W p l e R s m args below meth c H locs cells slots Q (F0 m pc ls (.int (iI (bI q)) :: rest)) := q_if_eq hexec hb hdg ht (bI_R q) (fun h => kt (bI_0.mp h)) (fun h => kf (Classical.not_not.mp (fun z => h (bI_0.mpr z))))
theorem q_ifb_ne (hexec : p.tables.exec = Jvm.exec) (hb : c.code = cc) {q : Prop} {off : Int} {tgt : Nat} (hdg : decode cc pc = .ok (.ifCond .ne off, 3)) (ht : (pc : Int) + off = (tgt : Int)) (kt : q → W p l e R s m args below meth c H locs cells slots Q (F0 m tgt ls rest)) (kf : ¬ q → W p l e R s m args below meth c H locs cells slots Q (F0 m (pc + 3) ls rest)) : W p l e R s m args below meth c H locs cells slots Q (F0 m pc ls (.int (iI (bI q)) :: rest)) := q_if_ne hexec hb hdg ht (bI_R q) (fun h => kt (Classical.not_not.mp (fun z => h (bI_0.mpr z)))) (fun h => kf (bI_0.mp h))
/-- long compare, then if -/
theorem lg_le0 {a b : Int} (ra : R64 a) (rb : R64 b) : True := trivial
/-- a field that is read -/
theorem q_get (hexec : p.tables.exec = Jvm.exec) (hb : c.code = cc) {own ref C : String} {T : u_T} {N ci index a : Nat} {Ts : List Cond} (hts : ∀ w ∈ Ts, w.before args s = true) (hin : ∀ w ∈ u_ws C T N, w ∈ Ts) (hown : s.vm.findClass own = some m.cls) (hK : KK g s) {fs : List Value} (hO : va_at g.1 vwCl (a, .inr (ci, fs)) H) (hc : vwCl[ci]? = some (C, T, N)) (k : Nat) (hk : k < N) (hlink : (Cond.fieldLink own index ref (T k).2.1 (T k).2.2.1).before args s = true) (hsame : ∀ x, s.fieldFound? (T k).1 (T k).2.1 (T k).2.2.1 = some x → s.fieldFound? ref (T k).2.1 (T k).2.2.1 = some x) {v : Value} (hv : fs[k]? = some v) (hdg : decode cc pc = .ok (.getfield index, 3)) (kk : W p l e R s m args below meth c H locs cells slots Q (F0 m (pc + 3) ls (v :: rest))) : W p l e R s m args below meth c H locs cells slots Q (F0 m pc ls (.ref a :: rest)) :=
  va_get hexec hb hts hin hown hK.1 (va_P1 hO) 0 rfl hc k hk hlink hsame hv hdg kk
/-- an int out of an array of ints -/
theorem q_iald (hexec : p.tables.exec = Jvm.exec) (hb : c.code = cc) (hK : KK g s) {a n : Nat} {f : Int → Int} (hO : va_at g.1 vwCl (a, .inl (g.2.1, n, .inl (fun j => iI (f (j : Int))))) H) (hn : n < 2147483648) {z : Int} (hz : 0 ≤ z ∧ z < n) (hdg : decode cc pc = .ok (.iaload, 1)) (kk : W p l e R s m args below meth c H locs cells slots Q (F0 m (pc + 1) ls (.int (iI (f z)) :: rest))) : W p l e R s m args below meth c H locs cells slots Q (F0 m pc ls (.int (iI z) :: .ref a :: rest)) := by
  refine va_iald hexec hb hK.1 (va_P1 hO) 0 0 rfl rfl (iI_in hz.1 hz.2 hn) hdg ?_
  rw [iI_clamp hz.1 (by omega)]
  have e : ((z.toNat : Nat) : Int) = z := Int.toNat_of_nonneg hz.1
  rw [e]
  exact kk
theorem q_zald (hexec : p.tables.exec = Jvm.exec) (hb : c.code = cc) (hK : KK g s) {a n : Nat} {f : Int → Int} (hO : va_at g.1 vwCl (a, .inl (g.2.2.2.1, n, .inl (fun j => iI (f (j : Int))))) H) (hn : n < 2147483648) {z : Int} (hz : 0 ≤ z ∧ z < n) (hdg : decode cc pc = .ok (.baload, 1)) (kk : W p l e R s m args below meth c H locs cells slots Q (F0 m (pc + 1) ls (.int (iI (f z)) :: rest))) : W p l e R s m args below meth c H locs cells slots Q (F0 m pc ls (.int (iI z) :: .ref a :: rest)) := by
  refine va_zald hexec hb hK.1 (va_P1 hO) 0 2 rfl rfl (iI_in hz.1 hz.2 hn) hdg ?_
  rw [iI_clamp hz.1 (by omega)]
  have e : ((z.toNat : Nat) : Int) = z := Int.toNat_of_nonneg hz.1
  rw [e]
  exact kk
theorem q_lald (hexec : p.tables.exec = Jvm.exec) (hb : c.code = cc) (hK : KK g s) {a n : Nat} {f : Int → Int} (hO : va_at g.1 vwCl (a, .inl (g.2.2.1, n, .inr (.inl (fun j => lI (f (j : Int)))))) H) (hn : n < 2147483648) {z : Int} (hz : 0 ≤ z ∧ z < n) (hdg : decode cc pc = .ok (.laload, 1)) (kk : W p l e R s m args below meth c H locs cells slots Q (F0 m (pc + 1) ls (.long (lI (f z)) :: rest))) : W p l e R s m args below meth c H locs cells slots Q (F0 m pc ls (.int (iI z) :: .ref a :: rest)) := by
  refine va_lald hexec hb hK.1 (va_P1 hO) 0 1 rfl rfl (iI_in hz.1 hz.2 hn) hdg ?_
  rw [iI_clamp hz.1 (by omega)]
  have e : ((z.toNat : Nat) : Int) = z := Int.toNat_of_nonneg hz.1
  rw [e]
  exact kk
theorem q_alen (hexec : p.tables.exec = Jvm.exec) (hb : c.code = cc) (hK : KK g s) {a t0 : Nat} {cA : ClassId} {x : vp_A} {ty : FieldType} (hO : va_at g.1 vwCl (a, .inl (cA, x)) H) (ht : (gT g)[t0]? = some (cA, ty)) {z : Int} (hz : (x.1 : Int) = z) (hdg : decode cc pc = .ok (.arraylength, 1)) (kk : W p l e R s m args below meth c H locs cells slots Q (F0 m (pc + 1) ls (.int (iI z) :: rest))) : W p l e R s m args below meth c H locs cells slots Q (F0 m pc ls (.ref a :: rest)) := by
  refine va_alen hexec hb hK.1 (va_P1 hO) 0 t0 rfl ht (v := iI z) ?_ hdg kk
  rw [iI_nat, hz]
theorem q_aldq (hexec : p.tables.exec = Jvm.exec) (hb : c.code = cc) (hK : KK g s) {a n : Nat} {f : Nat → Option Nat} (hO : va_at g.1 vwCl (a, .inl (g.2.2.2.2, n, .inr (.inr (.inr (.inr f))))) H) (hn : n < 2147483648) {z : Int} (hz : 0 ≤ z ∧ z < n) (hdg : decode cc pc = .ok (.aaload, 1)) (kk : W p l e R s m args below meth c H locs cells slots Q (F0 m (pc + 1) ls (va_rf (f z.toNat) :: rest))) : W p l e R s m args below meth c H locs cells slots Q (F0 m pc ls (.int (iI z) :: .ref a :: rest)) := by
  refine va_aldq hexec hb hK.1 (va_P1 hO) 0 3 rfl rfl (iI_in hz.1 hz.2 hn) hdg ?_
  rw [iI_clamp hz.1 (by omega)]
  exact kk
theorem q_aload (hexec : p.tables.exec = Jvm.exec) (hb : c.code = cc) {i : Nat} {x : Nat} (hdg : decode cc pc = .ok (.aload i, 2)) (hl : ls[i]? = some (.val (.ref x))) (k : W p l e R s m args below meth c H locs cells slots Q (F0 m (pc + 2) ls (.ref x :: rest))) : W p l e R s m args below meth c H locs cells slots Q (F0 m pc ls rest) := lv_aload hexec hb hdg hl k
theorem q_top {a : Int} (z : Int) (h : a = z) (k : W p l e R s m args below meth c H locs cells slots Q (F0 m pc ls (.int (iI z) :: rest))) : W p l e R s m args below meth c H locs cells slots Q (F0 m pc ls (.int (iI a) :: rest)) := by rw [h]; exact k
theorem q_join {nL : Nat} {st : List Value} (pj : Nat) (sj : List Value) (lj : List (Nat × Value)) (J : ∀ ls' : Array Slot, lv_has ls' nL lj → W p l e R s m args below meth c H locs cells slots Q (F0 m pj ls' sj)) (k : (∀ ls' : Array Slot, lv_has ls' nL lj → W p l e R s m args below meth c H locs cells slots Q (F0 m pj ls' sj)) → W p l e R s m args below meth c H locs cells slots Q (F0 m pc ls st)) : W p l e R s m args below meth c H locs cells slots Q (F0 m pc ls st) := k J
theorem q_tabOut (hexec : p.tables.exec = Jvm.exec) (hb : c.code = cc) {dflt lo hi : Int} {offs : Array Int} {len : Nat} {z : Int} {tgt : Nat} (hdg : decode cc pc = .ok (.tableswitch dflt lo hi offs, len)) (r : R32 z) (h : z < lo ∨ hi < z) (ht : (pc : Int) + dflt = (tgt : Int)) (k : W p l e R s m args below meth c H locs cells slots Q (F0 m tgt ls rest)) : W p l e R s m args below meth c H locs cells slots Q (F0 m pc ls (.int (iI z) :: rest)) :=
  lv_tableOut hexec hb hdg (by rw [iI_toInt r]; exact h) ht k
theorem q_tabIn (hexec : p.tables.exec = Jvm.exec) (hb : c.code = cc) {dflt lo hi : Int} {offs : Array Int} {len : Nat} {z k off : Int} {tgt : Nat} (hdg : decode cc pc = .ok (.tableswitch dflt lo hi offs, len)) (r : R32 z) (h : z = k) (h1 : ¬ k < lo) (h2 : ¬ hi < k) (ho : offs[(k - lo).toNat]? = some off) (ht : (pc : Int) + off = (tgt : Int)) (kk : W p l e R s m args below meth c H locs cells slots Q (F0 m tgt ls rest)) : W p l e R s m args below meth c H locs cells slots Q (F0 m pc ls (.int (iI z) :: rest)) :=
  lv_tableIn hexec hb hdg (by rw [iI_toInt r, h]; exact h1) (by rw [iI_toInt r, h]; exact h2) (by rw [iI_toInt r, h]; exact ho) ht kk
/-- a loop: by a measure; what the locals hold, by the loop's own state -/
theorem q_loop {σ : Type} {nL : Nat} (I : σ → Prop) (μ : σ → Nat) (lc : σ → List (Nat × Value)) (x0 : σ) (h0 : I x0) (hl : lv_has ls nL (lc x0))
    (step : ∀ x, I x → (∀ y, I y → μ y < μ x → ∀ ls' : Array Slot, lv_has ls' nL (lc y) → W p l e R s m args below meth c H locs cells slots Q (F0 m pc ls' [])) → ∀ ls' : Array Slot, lv_has ls' nL (lc x) → W p l e R s m args below meth c H locs cells slots Q (F0 m pc ls' [])) : W p l e R s m args below meth c H locs cells slots Q (F0 m pc ls []) := by
  have key : ∀ k : Nat, ∀ x, I x → μ x < k → ∀ ls' : Array Slot, lv_has ls' nL (lc x) → W p l e R s m args below meth c H locs cells slots Q (F0 m pc ls' []) := by
    intro k
    induction k with
    | zero => intro x _ h; exact absurd h (Nat.not_lt_zero _)
    | succ k ih => exact fun x hx hk ls' hl' => step x hx (fun y hy hm ls2 hl2 => ih y hy (by omega) ls2 hl2) ls' hl'
  exact key (μ x0 + 1) x0 h0 (Nat.lt_succ_self _) ls hl
/-- a loop that counts up to N -/
theorem q_loopN {nL : Nat} (N : Nat) (lc : Nat → List (Nat × Value)) (hl : lv_has ls nL (lc 0))
    (step : ∀ i, i ≤ N → (i + 1 ≤ N → ∀ ls' : Array Slot, lv_has ls' nL (lc (i + 1)) → W p l e R s m args below meth c H locs cells slots Q (F0 m pc ls' [])) → ∀ ls' : Array Slot, lv_has ls' nL (lc i) → W p l e R s m args below meth c H locs cells slots Q (F0 m pc ls' [])) : W p l e R s m args below meth c H locs cells slots Q (F0 m pc ls []) :=
  q_loop (fun i => i ≤ N) (fun i => N - i) lc 0 (Nat.zero_le _) hl (fun i hi ih ls' hl' => step i hi (fun h1 ls2 hl2 => ih (i + 1) h1 (by omega) ls2 hl2) ls' hl')
variable {y : MethodName} {bytes : ByteArray} {maxL nL n index : Nat} {ret : Option FieldType} {ws : List Cond} {rm : Room} {Ts : List Cond} {own C : String} {b : Nat} {As st0 : List Value} {P : Heap → Prop}
theorem q_cVi {z : Int} {nL : Nat} (S : CallFix p m c cc nL s args Ts own) (hM : MetI l y ws rm g (.ref b :: As) P z) (cw : CallW R s args own C index y bytes maxL ret ws rm 0 0 n) (hp : PreV s H C b (RPc (.ref b :: As) P g) As) (hn : As.length = n) (hl : ls.size = nL) (hst : st0 = As.reverse ++ .ref b :: rest) (hW : (rest.map fun v => v.category).sum ≤ 8) (hf : cells ≤ R.cells ∧ slots ≤ R.slots) (hdg : decode cc pc = .ok (.invokevirtual index, 3)) (kk : W p l e R s m args below meth c H locs cells slots Q (F0 m (pc + 3) ls (.int (iI z) :: rest))) : W p l e R s m args below meth c H locs cells slots Q (F0 m pc ls st0) :=
  vp_callSi (W.runV S hM cw hp rfl hn hl hst (lv_room hW) hdg hf) (fun r hr => by rw [hr]; exact kk)
theorem q_cVl {z : Int} {nL : Nat} (S : CallFix p m c cc nL s args Ts own) (hM : MetL l y ws rm g (.ref b :: As) P z) (cw : CallW R s args own C index y bytes maxL ret ws rm 0 0 n) (hp : PreV s H C b (RPc (.ref b :: As) P g) As) (hn : As.length = n) (hl : ls.size = nL) (hst : st0 = As.reverse ++ .ref b :: rest) (hW : (rest.map fun v => v.category).sum ≤ 8) (hf : cells ≤ R.cells ∧ slots ≤ R.slots) (hdg : decode cc pc = .ok (.invokevirtual index, 3)) (kk : W p l e R s m args below meth c H locs cells slots Q (F0 m (pc + 3) ls (.long (lI z) :: rest))) : W p l e R s m args below meth c H locs cells slots Q (F0 m pc ls st0) :=
  vp_callSl (W.runV S hM cw hp rfl hn hl hst (lv_room hW) hdg hf) (fun r hr => by rw [hr]; exact kk)
theorem q_cVq {o : Option Nat} {nL : Nat} (S : CallFix p m c cc nL s args Ts own) (hM : MetQ l y ws rm g (.ref b :: As) P o) (cw : CallW R s args own C index y bytes maxL ret ws rm 0 0 n) (hp : PreV s H C b (RPc (.ref b :: As) P g) As) (hn : As.length = n) (hl : ls.size = nL) (hst : st0 = As.reverse ++ .ref b :: rest) (hW : (rest.map fun v => v.category).sum ≤ 8) (hf : cells ≤ R.cells ∧ slots ≤ R.slots) (hdg : decode cc pc = .ok (.invokevirtual index, 3)) (kk : W p l e R s m args below meth c H locs cells slots Q (F0 m (pc + 3) ls (va_rf o :: rest))) : W p l e R s m args below meth c H locs cells slots Q (F0 m pc ls st0) :=
  va_csq (W.runV S hM cw hp rfl hn hl hst (lv_room hW) hdg hf) (fun r hr => by rw [hr]; exact kk)
theorem q_cSi {z : Int} {nL : Nat} (S : CallFix p m c cc nL s args Ts own) (hM : MetI l y ws rm g As P z) (cw : CallB R s args own index y bytes maxL ret ws rm 0 0 n ∧ (Cond.static y).before args s = true) (hp : PreS s H (RPc As P g) As) (hn : As.length = n) (hl : ls.size = nL) (hst : st0 = As.reverse ++ rest) (hW : (rest.map fun v => v.category).sum ≤ 8) (hf : cells ≤ R.cells ∧ slots ≤ R.slots) (hdg : decode cc pc = .ok (.invokestatic index, 3)) (kk : W p l e R s m args below meth c H locs cells slots Q (F0 m (pc + 3) ls (.int (iI z) :: rest))) : W p l e R s m args below meth c H locs cells slots Q (F0 m pc ls st0) :=
  vp_callSi (W.runS S hM cw hp rfl hn hl hst (lv_room hW) hdg hf) (fun r hr => by rw [hr]; exact kk)
end QRows
section QEnds
variable {p : Program} {l : Launch} {e : Env} {R : Room} {s : State} {m : MethodId} {args : Array Value} {below : List Frame} {meth : Method} {c : Code} {cc : ByteArray} {pc : Nat} {ls : Array Slot}
theorem q_reti (hexec : p.tables.exec = Jvm.exec) (hb : c.code = cc) (hr : meth.sig.returnType = some .int) (hlocks : meth.locks = false) {v z : Int} (hdg : decode cc pc = .ok (.ireturn, 1)) (hz : v = z) : W p l e R s m args below meth c s.heap [] 0 0 (MQ below (vp_Si (fun r => r = iI z)) args s 0 0 (fun _ => False)) (F0 m pc ls [.int (iI v)]) :=
  W.iret hexec hb hr (fun t ht _ => ⟨_, rfl, by rw [hz], ht⟩) (fun _ h => by cases h) hdg hlocks
theorem q_retz (hexec : p.tables.exec = Jvm.exec) (hb : c.code = cc) (hr : meth.sig.returnType = some .boolean) (hlocks : meth.locks = false) {v z : Int} (hv : v = 0 ∨ v = 1) (hdg : decode cc pc = .ok (.ireturn, 1)) (hz : v = z) : W p l e R s m args below meth c s.heap [] 0 0 (MQ below (vp_Si (fun r => r = iI z)) args s 0 0 (fun _ => False)) (F0 m pc ls [.int (iI v)]) :=
  W.zret hexec hb hr (by rcases hv with h | h <;> rw [h] <;> decide) (fun t ht _ => ⟨_, rfl, by rw [hz], ht⟩) (fun _ h => by cases h) hdg hlocks
theorem q_retl (hexec : p.tables.exec = Jvm.exec) (hb : c.code = cc) (hr : meth.sig.returnType = some .long) (hlocks : meth.locks = false) {v z : Int} (hdg : decode cc pc = .ok (.lreturn, 1)) (hz : v = z) : W p l e R s m args below meth c s.heap [] 0 0 (MQ below (vp_Sl (fun r => r = lI z)) args s 0 0 (fun _ => False)) (F0 m pc ls [.long (lI v)]) :=
  W.lret hexec hb hr (fun t ht _ => ⟨_, rfl, by rw [hz], ht⟩) (fun _ h => by cases h) hdg hlocks
theorem q_retq (hexec : p.tables.exec = Jvm.exec) (hb : c.code = cc) {rt : FieldType} (hr : meth.sig.returnType = some rt) (hrt : (∃ n, rt = .object n) ∨ ∃ t, rt = .array t) (hlocks : meth.locks = false) {v o : Option Nat} (hdg : decode cc pc = .ok (.areturn, 1)) (hz : v = o) : W p l e R s m args below meth c s.heap [] 0 0 (MQ below (va_Sq (fun r => r = o)) args s 0 0 (fun _ => False)) (F0 m pc ls [va_rf v]) :=
  W.aret hexec hb hr hrt (va_rf_or v) (fun t ht _ => ⟨_, rfl, hz, ht⟩) (fun _ h => by cases h) hdg hlocks
end QEnds
