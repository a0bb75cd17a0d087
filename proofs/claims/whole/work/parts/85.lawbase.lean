/-! the law: what holds at its loop's head, and rows of its own -/
def sx (xs : Nat → Int32) (z : Int) : Int := (xs z.toNat).toInt
theorem sx_R (xs : Nat → Int32) (z : Int) : R32 (sx xs z) := iI_range _
def PC (mad : Nat → Nat) (b0 : Nat) : Nat → Prop := fun q => b0 ≤ q ∧ ¬ PM mad q
/-- both sides hold one state -/
def LI (g : GG) (x : XX) (mad : Nat → Nat) (xA : Nat) (S : St) (H : Heap) : Prop :=
  (Inv S ∧ InvC S) ∧ (∃ ad : AD, ad 0 0 0 = xA ∧ RepC g x.2.1 (PC mad x.2.2) ad S H) ∧ RepM g mad S H
/-- what stays through all calls -/
def LF (g : GG) (x : XX) (mad : Nat → Nat) (s : State) : Prop :=
  (KK g s ∧ KX x s) ∧ x.2.2 = s.heap.size ∧ mInj mad ∧ ∀ q, PM mad q → s.heap.size ≤ q
section LAWQ
variable {p : Program} {l : Launch} {e : Env} {R : Room} {s : State} {m : MethodId} {args : Array Value} {below : List Frame} {meth : Method} {c : Code} {H : Heap} {locs : List Loc} {cells slots : Nat} {Q : State → Prop}
variable {cc : ByteArray} {pc : Nat} {ls : Array Slot} {rest : List Value}
theorem q_sld (hexec : p.tables.exec = Jvm.exec) (hb : c.code = cc) {b L : Nat} {xs : Nat → Int32} (hL : L ≤ 3584) (hX : va_X b L xs s s.heap) (hbl : b < s.heap.size) (hS : va_S (fun q : Nat => s.heap.size ≤ q) s.heap H locs) {z : Int} (hz : 0 ≤ z ∧ z < (L : Int)) (hdg : decode cc pc = .ok (.iaload, 1)) (kk : W p l e R s m args below meth c H locs cells slots Q (F0 m (pc + 1) ls (.int (iI (sx xs z)) :: rest))) : W p l e R s m args below meth c H locs cells slots Q (F0 m pc ls (.int (iI z) :: .ref b :: rest)) := by
  have hbA : ¬ (fun q : Nat => s.heap.size ≤ q) b := Nat.not_le.mpr hbl
  refine va_sld hexec hb hX hbl hbA hS (iI_in hz.1 hz.2 (by omega)) hdg ?_
  rw [iI_clamp hz.1 (by omega)]
  have e1 : iI (sx xs z) = xs z.toNat := iI_self _
  rw [← e1]
  exact kk
theorem q_arg (hexec : p.tables.exec = Jvm.exec) (hb : c.code = cc) {b L xA mA : Nat} {xs : Nat → Int32} {iv : Int} (hL : L ≤ 3584) (hX : va_X b L xs s s.heap) (hbl : b < s.heap.size) (hS : va_S (fun q : Nat => s.heap.size ≤ q) s.heap H locs) (hl : lv_has ls 4 [(0, .ref b), (1, .ref xA), (2, .ref mA), (3, .int (iI iv))]) (k : Int) (hz : 0 ≤ iv + k ∧ iv + k < (L : Int)) (d0 : decode cc pc = .ok (.aload_n 0, 1)) (d1 : decode cc (pc + 1) = .ok (.iload_n 3, 1)) (d2 : decode cc (pc + 2) = .ok (.iconst k, 1)) (d3 : decode cc (pc + 3) = .ok (.iadd, 1)) (d4 : decode cc (pc + 4) = .ok (.iaload, 1)) (kk : W p l e R s m args below meth c H locs cells slots Q (F0 m (pc + 5) ls (.int (iI (sx xs (iv + k))) :: rest))) : W p l e R s m args below meth c H locs cells slots Q (F0 m pc ls rest) := by
  refine lv_aload_n hexec hb d0 rfl (lv_at hl 0 rfl) ?_
  refine lv_iload_n hexec hb d1 rfl (lv_at hl 3 rfl) ?_
  refine lv_iconst (v := iI k) hexec hb d2 rfl ?_
  refine q_iadd hexec hb d3 ?_
  exact q_sld hexec hb hL hX hbl hS hz d4 kk
theorem q_argb (hexec : p.tables.exec = Jvm.exec) (hb : c.code = cc) {b L xA mA : Nat} {xs : Nat → Int32} {iv : Int} (hL : L ≤ 3584) (hX : va_X b L xs s s.heap) (hbl : b < s.heap.size) (hS : va_S (fun q : Nat => s.heap.size ≤ q) s.heap H locs) (hl : lv_has ls 4 [(0, .ref b), (1, .ref xA), (2, .ref mA), (3, .int (iI iv))]) {n : Int} (k : Int) (hk : (Int8.ofInt n).toInt32 = iI k) (hz : 0 ≤ iv + k ∧ iv + k < (L : Int)) (d0 : decode cc pc = .ok (.aload_n 0, 1)) (d1 : decode cc (pc + 1) = .ok (.iload_n 3, 1)) (d2 : decode cc (pc + 2) = .ok (.bipush n, 2)) (d3 : decode cc (pc + 4) = .ok (.iadd, 1)) (d4 : decode cc (pc + 5) = .ok (.iaload, 1)) (kk : W p l e R s m args below meth c H locs cells slots Q (F0 m (pc + 6) ls (.int (iI (sx xs (iv + k))) :: rest))) : W p l e R s m args below meth c H locs cells slots Q (F0 m pc ls rest) := by
  refine lv_aload_n hexec hb d0 rfl (lv_at hl 0 rfl) ?_
  refine lv_iload_n hexec hb d1 rfl (lv_at hl 3 rfl) ?_
  refine q_bipush hexec hb k d2 hk ?_
  refine q_iadd hexec hb d3 ?_
  exact q_sld hexec hb hL hX hbl hS hz d4 kk
theorem q_same (hexec : p.tables.exec = Jvm.exec) (hb : c.code = cc) {v : Int32} {off : Int} {tgt : Nat} (hdg : decode cc pc = .ok (.if_icmp .eq off, 3)) (ht : (pc : Int) + off = (tgt : Int)) (kk : W p l e R s m args below meth c H locs cells slots Q (F0 m tgt ls rest)) : W p l e R s m args below meth c H locs cells slots Q (F0 m pc ls (.int v :: .int v :: rest)) :=
  lv_icmp_eq hexec hb hdg ht (fun _ => kk) (fun h => absurd rfl h)
end LAWQ
