/-! new arrays of numbers, with their classes' numbers -/
section QA
variable {p : Program} {l : Launch} {e : Env} {R : Room} {s : State} {m : MethodId} {args : Array Value} {below : List Frame} {meth : Method} {c : Code} {H : Heap} {locs : List Loc} {cells slots : Nat} {Q : State → Prop}
variable {cc : ByteArray} {pc : Nat} {ls : Array Slot} {rest : List Value} {g : GG}
theorem q_newI (hexec : p.tables.exec = Jvm.exec) (hb : c.code = cc) (harr : (Cond.arrayClass .int).before args s = true) (hK : KK g s) {A : Nat → Prop} {H0 : Heap} (hS : va_S A H0 H locs) {z : Int} {n : Nat} (hz : z = (n : Int)) (hn : n ≤ 1000) (hcells : cells + 1 ≤ R.cells) (hslots : slots + n ≤ R.slots) (hdg : decode cc pc = .ok (.newarray .int, 2))
    (kk : ∀ (q : Nat) (H1 : Heap), q = H.size → va_at g.1 vwCl (q, .inl (g.2.1, n, .inl (fun _ => iI 0))) H1 → H1.size = H.size + 1 → (∀ a : Nat, a < H.size → H1[a]? = H[a]?) → va_S A H0 H1 locs → W p l e R s m args below meth c H1 locs (cells + 1) (slots + n) Q (F0 m (pc + 2) ls (.ref q :: rest))) : W p l e R s m args below meth c H locs cells slots Q (F0 m pc ls (.int (iI z) :: rest)) := by
  subst hz
  have hneg : ¬ iI (n : Int) < 0 := fun h => by
    have h2 : iI (n : Int) < iI 0 := h
    rw [iI_lt (by omega) (by decide)] at h2
    omega
  have hcl : (iI (n : Int)).toNatClampNeg = n := by
    rw [iI_clamp (by omega) (by omega)]
    omega
  have hbytes : n * componentBytes (newarray.typeOf .int) ≤ 536870912 := by
    have h9 : componentBytes (newarray.typeOf .int) ≤ 8 := by decide
    have h8 := Nat.mul_le_mul hn h9
    omega
  refine va_newaK (atype := .int) hexec hb harr rfl hdg rfl hneg hcl hbytes hcells hslots rfl fun H1 cA e1 z1 o1 h3 h4 => ?_
  have ecA : cA = g.2.1 := by
    have k4 : s.vm.findClass ("[" ++ (.int : FieldType).toString) = some g.2.1 := (hK.1.2 0 _ rfl).2
    exact Option.some.inj (h4.symm.trans k4)
  subst ecA
  refine kk H.size H1 rfl ?_ z1 o1 (hS.grow (by omega) o1)
  show H1[H.size]? = some (vp_cell _ _)
  rw [e1, vp_cell_i]
  rfl
theorem q_newJ (hexec : p.tables.exec = Jvm.exec) (hb : c.code = cc) (harr : (Cond.arrayClass .long).before args s = true) (hK : KK g s) {A : Nat → Prop} {H0 : Heap} (hS : va_S A H0 H locs) {z : Int} {n : Nat} (hz : z = (n : Int)) (hn : n ≤ 1000) (hcells : cells + 1 ≤ R.cells) (hslots : slots + n ≤ R.slots) (hdg : decode cc pc = .ok (.newarray .long, 2))
    (kk : ∀ (q : Nat) (H1 : Heap), q = H.size → va_at g.1 vwCl (q, .inl (g.2.2.1, n, .inr (.inl (fun _ => lI 0)))) H1 → H1.size = H.size + 1 → (∀ a : Nat, a < H.size → H1[a]? = H[a]?) → va_S A H0 H1 locs → W p l e R s m args below meth c H1 locs (cells + 1) (slots + n) Q (F0 m (pc + 2) ls (.ref q :: rest))) : W p l e R s m args below meth c H locs cells slots Q (F0 m pc ls (.int (iI z) :: rest)) := by
  subst hz
  have hneg : ¬ iI (n : Int) < 0 := fun h => by
    have h2 : iI (n : Int) < iI 0 := h
    rw [iI_lt (by omega) (by decide)] at h2
    omega
  have hcl : (iI (n : Int)).toNatClampNeg = n := by
    rw [iI_clamp (by omega) (by omega)]
    omega
  have hbytes : n * componentBytes (newarray.typeOf .long) ≤ 536870912 := by
    have h9 : componentBytes (newarray.typeOf .long) ≤ 8 := by decide
    have h8 := Nat.mul_le_mul hn h9
    omega
  refine va_newaK (atype := .long) hexec hb harr rfl hdg rfl hneg hcl hbytes hcells hslots rfl fun H1 cA e1 z1 o1 h3 h4 => ?_
  have ecA : cA = g.2.2.1 := by
    have k4 : s.vm.findClass ("[" ++ (.long : FieldType).toString) = some g.2.2.1 := (hK.1.2 1 _ rfl).2
    exact Option.some.inj (h4.symm.trans k4)
  subst ecA
  refine kk H.size H1 rfl ?_ z1 o1 (hS.grow (by omega) o1)
  show H1[H.size]? = some (vp_cell _ _)
  rw [e1, vp_cell_l]
  rfl
theorem q_newZ (hexec : p.tables.exec = Jvm.exec) (hb : c.code = cc) (harr : (Cond.arrayClass .boolean).before args s = true) (hK : KK g s) {A : Nat → Prop} {H0 : Heap} (hS : va_S A H0 H locs) {z : Int} {n : Nat} (hz : z = (n : Int)) (hn : n ≤ 1000) (hcells : cells + 1 ≤ R.cells) (hslots : slots + n ≤ R.slots) (hdg : decode cc pc = .ok (.newarray .boolean, 2))
    (kk : ∀ (q : Nat) (H1 : Heap), q = H.size → va_at g.1 vwCl (q, .inl (g.2.2.2.1, n, .inl (fun _ => iI 0))) H1 → H1.size = H.size + 1 → (∀ a : Nat, a < H.size → H1[a]? = H[a]?) → va_S A H0 H1 locs → W p l e R s m args below meth c H1 locs (cells + 1) (slots + n) Q (F0 m (pc + 2) ls (.ref q :: rest))) : W p l e R s m args below meth c H locs cells slots Q (F0 m pc ls (.int (iI z) :: rest)) := by
  subst hz
  have hneg : ¬ iI (n : Int) < 0 := fun h => by
    have h2 : iI (n : Int) < iI 0 := h
    rw [iI_lt (by omega) (by decide)] at h2
    omega
  have hcl : (iI (n : Int)).toNatClampNeg = n := by
    rw [iI_clamp (by omega) (by omega)]
    omega
  have hbytes : n * componentBytes (newarray.typeOf .boolean) ≤ 536870912 := by
    have h9 : componentBytes (newarray.typeOf .boolean) ≤ 8 := by decide
    have h8 := Nat.mul_le_mul hn h9
    omega
  refine va_newaK (atype := .boolean) hexec hb harr rfl hdg rfl hneg hcl hbytes hcells hslots rfl fun H1 cA e1 z1 o1 h3 h4 => ?_
  have ecA : cA = g.2.2.2.1 := by
    have k4 : s.vm.findClass ("[" ++ (.boolean : FieldType).toString) = some g.2.2.2.1 := (hK.1.2 2 _ rfl).2
    exact Option.some.inj (h4.symm.trans k4)
  subst ecA
  refine kk H.size H1 rfl ?_ z1 o1 (hS.grow (by omega) o1)
  show H1[H.size]? = some (vp_cell _ _)
  rw [e1, vp_cell_i]
  rfl
end QA
