/-! lists that grow: what they need of the machine's tables and statics -/
abbrev XX : Type := Nat × Nat × Nat
def EDA (eA b0 : Nat) (U : State) (H : Heap) : Prop := va_Z "java/util/ArrayList" "DEFAULTCAPACITY_EMPTY_ELEMENTDATA" "[Ljava/lang/Object;" (.ref eA) (fun q => b0 ≤ q) U H ∧ va_T (.object "java/lang/Object") eA 0 (fun _ => .null) (fun q => b0 ≤ q) U H
def KX (x : XX) (U : State) : Prop := (va_Mi "[Ljava/lang/Object;" x.1 U ∧ va_Dc U ∧ va_AO "java/lang/Object" U) ∧ (∀ ci r, vwCl[ci]? = some r → ci ∈ [1, 2, 3, 4, 5] → va_Nw (.castable r.1 "java/lang/Object") U) ∧ EDA x.2.1 x.2.2 U U.heap
theorem KX.go {x : XX} {s U : State} {H : Heap} (h : KX x s) (hW : s.WarmedH U.vm) (hU : U.heap = H) (hq : ∀ a : Nat, a < s.heap.size → ¬ x.2.2 ≤ a → H[a]? = s.heap[a]?) : KX x U := by
  subst hU
  exact ⟨⟨h.1.1.moved hW.alike, h.1.2.1.moved hW.alike, h.1.2.2.moved hW.alike⟩, fun ci r hc hm => va_Nw.warmC hW (h.2.1 ci r hc hm), (h.2.2.1.kept hq).moved hW.alike, (h.2.2.2.kept hq).moved hW.alike⟩
theorem KX.calling {x : XX} {U : State} {f : JFrame} {mk : MethodId} {a : Array Value} (h : KX x U) : KX x (U.calling f mk a) :=
  ⟨⟨h.1.1.moved (U := U.calling f mk a) (Vm.Alike.refl U.vm), h.1.2.1.moved (U := U.calling f mk a) (Vm.Alike.refl U.vm), h.1.2.2.moved (U := U.calling f mk a) (Vm.Alike.refl U.vm)⟩, fun ci r hc hm => va_Nw.same rfl (u := U) (U := U.calling f mk a) rfl (h.2.1 ci r hc hm), h.2.2.1.moved (U := U.calling f mk a) (Vm.Alike.refl U.vm), h.2.2.2.moved (U := U.calling f mk a) (Vm.Alike.refl U.vm)⟩
def XPc (as : List Value) (P : Heap → Prop) (g : GG) (x : XX) : Array Value → State → Prop := va_Pc as (fun U => P U.heap ∧ KK g U ∧ KX x U)
theorem XPc_blind {as : List Value} {P : Heap → Prop} {g : GG} {x : XX} : FrameBlind (XPc as P g x) := fun _ _ _ _ q => ⟨q.1, q.2.1, q.2.2.1.calling, q.2.2.2.calling⟩
/-- what the frame of a method leaves of the tables' statics -/
theorem va_S.low {A : Nat → Prop} {s : State} {H : Heap} {locs : List Loc} {b0 : Nat} (hS : va_S A s.heap H locs) (hA : ∀ q, A q → b0 ≤ q) : ∀ a : Nat, a < s.heap.size → ¬ b0 ≤ a → H[a]? = s.heap[a]? := fun a h1 h2 => hS.2.1 a h1 (fun z => h2 (hA a z))
theorem q_pSX {s : State} {H : Heap} {g : GG} {x : XX} {A : Nat → Prop} {locs : List Loc} {As : List Value} {P : Heap → Prop} (hK : KK g s) (hX : KX x s) (hS : va_S A s.heap H locs) (hA : ∀ q, A q → x.2.2 ≤ q) (hp : P H) : PreS s H (XPc As P g x) As :=
  ⟨XPc_blind, fun U hU hW => ⟨rfl, by rw [hU]; exact hp, hK.warm hW, hX.go hW hU (hS.low hA)⟩⟩
theorem q_pVX {s : State} {H : Heap} {g : GG} {x : XX} {A : Nat → Prop} {locs : List Loc} {b : Nat} {As : List Value} {P : Heap → Prop} {ci : Nat} {r : vw_C} {fs : List Value} (hK : KK g s) (hX : KX x s) (hS : va_S A s.heap H locs) (hA : ∀ q, A q → x.2.2 ≤ q) (hO : va_at g.1 vwCl (b, .inr (ci, fs)) H) (hc : vwCl[ci]? = some r) (hp : P H) : PreV s H r.1 b (XPc (.ref b :: As) P g x) As :=
  ⟨XPc_blind, va_recv hK.1 (va_P1 hO) hc (q0 := 0) rfl, fun U hU hW => ⟨rfl, by rw [hU]; exact hp, hK.warm hW, hX.go hW hU (hS.low hA)⟩⟩
def QR (a : Nat) (P' : Heap → Prop) (A : Nat → Prop) : Array Value → State → Outcome → State → Prop := fun _ st o t => (o = .returned (some (.ref a)) ∧ P' t.heap) ∧ va_F A st t
abbrev MetXM (l : Launch) (y : MethodName) (ws : List Cond) (rm : Room) (g : GG) (x : XX) (as : List Value) (P : Heap → Prop) (z : Int) (P' : Heap → Prop) (A : Nat → Prop) (mc ms : Nat) : Prop := Met l y ws rm (XPc as P g x) (QM z P' A) mc ms A
abbrev MetXV (l : Launch) (y : MethodName) (ws : List Cond) (rm : Room) (g : GG) (x : XX) (as : List Value) (P : Heap → Prop) (P' : Heap → Prop) (A : Nat → Prop) (mc ms : Nat) : Prop := Met l y ws rm (XPc as P g x) (QMv P' A) mc ms A
abbrev MetXR (l : Launch) (y : MethodName) (ws : List Cond) (rm : Room) (g : GG) (x : XX) (as : List Value) (P : Heap → Prop) (a : Nat) (P' : Heap → Prop) (A : Nat → Prop) (mc ms : Nat) : Prop := Met l y ws rm (XPc as P g x) (QR a P' A) mc ms A
theorem va_S.grow {A : Nat → Prop} {H0 H H1 : Heap} {locs : List Loc} (h : va_S A H0 H locs) (z : H.size ≤ H1.size) (o : ∀ q : Nat, q < H.size → H1[q]? = H[q]?) : va_S A H0 H1 locs :=
  ⟨Nat.le_trans h.1 z, fun q h1 h2 => (o q (Nat.lt_of_lt_of_le h1 h.1)).trans (h.2.1 q h1 h2), h.2.2⟩
theorem va_at.lt2 {D : va_G} {cl : List vw_C} {a : Nat} {e : va_E} {H : Heap} (h : va_at D cl (a, e) H) : a < H.size := va_at.lt h
section QX
variable {p : Program} {l : Launch} {e : Env} {R : Room} {s : State} {m : MethodId} {args : Array Value} {below : List Frame} {meth : Method} {c : Code} {H : Heap} {locs : List Loc} {cells slots : Nat} {Q : State → Prop}
variable {cc : ByteArray} {pc : Nat} {ls : Array Slot} {rest : List Value} {g : GG} {x : XX}
/-- a new object, by the name of its address -/
theorem q_newN {C own : String} {T : u_T} {N ci index : Nat} {Ts : List Cond} (hexec : p.tables.exec = Jvm.exec) (hb : c.code = cc) (hts : ∀ w ∈ Ts, w.before args s = true) (hin : ∀ w ∈ u_ws C T N, w ∈ Ts) (ty : Nat → FieldType) (hty : ∀ k, k < N → parseFieldDescriptor (T k).2.2.1 = some (ty k)) (hown : s.vm.findClass own = some m.cls) (hcl : (Cond.classLink own index C).before args s = true) (hinst : (Cond.instantiable C N).before args s = true) (hini : (Cond.initialized C).before args s = true)
    (hK : KK g s) (hc : vwCl[ci]? = some (C, T, N)) {A : Nat → Prop} {H0 : Heap} (hS : va_S A H0 H locs) {fs : List Value} (hfs : ∀ j, j < N → defaultValue (ty j) = vp_V fs j) (hcells : cells + 1 ≤ R.cells) (hslots : slots + N ≤ R.slots) (hdg : decode cc pc = .ok (.new index, 3))
    (kk : ∀ (q : Nat) (H1 : Heap), q = H.size → va_at g.1 vwCl (q, .inr (ci, fs)) H1 → H1.size = H.size + 1 → (∀ a : Nat, a < H.size → H1[a]? = H[a]?) → va_S A H0 H1 locs → W p l e R s m args below meth c H1 locs (cells + 1) (slots + N) Q (F0 m (pc + 3) ls (.ref q :: rest))) : W p l e R s m args below meth c H locs cells slots Q (F0 m pc ls rest) :=
  q_new hexec hb hts hin ty hty hown hcl hinst hini hK hc hfs hcells hslots hdg (fun H1 h1 z1 o1 => kk _ H1 rfl h1 z1 o1 (hS.grow (by omega) o1))
theorem q_eA {own : String} {index : Nat} {A : Nat → Prop} (hexec : p.tables.exec = Jvm.exec) (hb : c.code = cc) (hX : KX x s) (hS : va_S A s.heap H locs) (hA : ∀ q, A q → x.2.2 ≤ q) (hown : s.vm.findClass own = some m.cls) (hlink : (Cond.fieldLink own index "java/util/ArrayList" "DEFAULTCAPACITY_EMPTY_ELEMENTDATA" "[Ljava/lang/Object;").before args s = true) (hdg : decode cc pc = .ok (.getstatic index, 3)) (kk : W p l e R s m args below meth c H locs cells slots Q (F0 m (pc + 3) ls (.ref x.2.1 :: rest))) : W p l e R s m args below meth c H locs cells slots Q (F0 m pc ls rest) :=
  va_gets hexec hb (hX.2.2.1.narrow hA) hS hown hlink (fun _ h => h) hdg kk
theorem q_lenA {A : Nat → Prop} (hexec : p.tables.exec = Jvm.exec) (hb : c.code = cc) (hX : KX x s) (hS : va_S A s.heap H locs) (hA : ∀ q, A q → x.2.2 ≤ q) (hdg : decode cc pc = .ok (.arraylength, 1)) (kk : W p l e R s m args below meth c H locs cells slots Q (F0 m (pc + 1) ls (.int (iI 0) :: rest))) : W p l e R s m args below meth c H locs cells slots Q (F0 m pc ls (.ref x.2.1 :: rest)) :=
  va_tlen hexec hb (hX.2.2.2.narrow hA) hS (v := iI 0) (by decide) hdg kk
theorem q_ishr1 (hexec : p.tables.exec = Jvm.exec) (hb : c.code = cc) {a : Int} (ha : 0 ≤ a ∧ a < 2147483648) (hdg : decode cc pc = .ok (.ishr, 1)) (k : W p l e R s m args below meth c H locs cells slots Q (F0 m (pc + 1) ls (.int (iI (a / 2)) :: rest))) : W p l e R s m args below meth c H locs cells slots Q (F0 m pc ls (.int (iI 1) :: .int (iI a) :: rest)) := by
  refine lv_ishr hexec hb hdg ?_
  have e1 : iI a >>> (iI 1 &&& 31) = iI (a / 2) := by
    obtain ⟨n, hn⟩ : ∃ n : Nat, a = (n : Int) := ⟨a.toNat, (Int.toNat_of_nonneg ha.1).symm⟩
    subst hn
    have h := pk_shrN (n := n) (by omega) (iI 1 &&& 31) 1 (by decide)
    have e2 : nI n = iI (n : Int) := iI_nat n
    have e3 : nI (n / 2 ^ 1) = iI ((n : Int) / 2) := by
      rw [Nat.pow_one]
      exact iI_nat (n / 2)
    rw [e2, e3] at h
    exact h
  rw [e1]
  exact k
/-- a new array of references, with its class's number -/
theorem q_newq {own : String} {index : Nat} (hexec : p.tables.exec = Jvm.exec) (hb : c.code = cc) (hown : s.vm.findClass own = some m.cls) (hclink : (Cond.classLink own index "java/lang/Object").before args s = true) (hK : KK g s) (hX : KX x s) {A : Nat → Prop} {H0 : Heap} (hS : va_S A H0 H locs) (hA : ∀ q, H0.size ≤ q → A q) {z : Int} {n : Nat} (hz : z = (n : Int)) (hn : n ≤ 1000) (hcells : cells + 1 ≤ R.cells) (hslots : slots + n ≤ R.slots) (hdg : decode cc pc = .ok (.anewarray index, 3))
    (kk : ∀ (q : Nat) (H1 : Heap), q = H.size → va_at g.1 vwCl (q, .inl (g.2.2.2.2, n, .inr (.inr (.inr (.inr (fun _ => none)))))) H1 → H1.size = H.size + 1 → (∀ a : Nat, a < H.size → H1[a]? = H[a]?) → va_S A H0 H1 locs → W p l e R s m args below meth c H1 locs (cells + 1) (slots + n) Q (F0 m (pc + 3) ls (.ref q :: rest))) : W p l e R s m args below meth c H locs cells slots Q (F0 m pc ls (.int (iI z) :: rest)) := by
  subst hz
  have hneg : ¬ iI (n : Int) < 0 := fun h => by
    have h2 : iI (n : Int) < iI 0 := h
    rw [iI_lt (by omega) (by decide)] at h2
    omega
  have hcl : (iI (n : Int)).toNatClampNeg = n := by
    rw [iI_clamp (by omega) (by omega)]
    omega
  refine W.anew hexec hb hown hclink (va_AO.use hX.1.2.2) rfl hdg rfl hneg (by rw [hcl]; omega) hcells (by rw [hcl]; exact hslots) fun cA kA comp f1 f2 f3 f4 => ?_
  rw [hcl]
  generalize hH1 : H.push ({ cls := cA, slots := Array.replicate n .null, vm := .none } : Cell) = H1
  have z1 : H1.size = H.size + 1 := by rw [← hH1, Array.size_push]
  have e1 : H1[H.size]? = some (arrV cA n (fun _ => .null)) := by rw [← hH1, Array.getElem?_push_size, ← arrV_new]
  have o1 : ∀ q : Nat, q < H.size → H1[q]? = H[q]? := fun q hq => by rw [← hH1, Array.getElem?_push, if_neg (Nat.ne_of_lt hq)]
  have ecA : cA = g.2.2.2.2 := by
    obtain ⟨kA', comp', k1, k2, k3, k4⟩ := (hK.1.2 3 _ rfl).2
    first
    | exact Option.some.inj (f1.symm.trans k4)
    | exact Option.some.inj (f4.symm.trans k4)
  subst ecA
  exact kk H.size H1 rfl e1 z1 o1 (hS.grow (by omega) o1)
end QX
