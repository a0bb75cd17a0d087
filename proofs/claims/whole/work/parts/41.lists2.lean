section QX2
variable {p : Program} {l : Launch} {e : Env} {R : Room} {s : State} {m : MethodId} {args : Array Value} {below : List Frame} {meth : Method} {c : Code} {H : Heap} {locs : List Loc} {cells slots : Nat} {Q : State → Prop}
variable {cc : ByteArray} {pc : Nat} {ls : Array Slot} {rest : List Value} {g : GG} {x : XX}
/-- a reference is written into an array of references -/
theorem q_astq (hexec : p.tables.exec = Jvm.exec) (hb : c.code = cc) (hK : KK g s) {a n : Nat} {f : Nat → Option Nat} (hO : va_at g.1 vwCl (a, .inl (g.2.2.2.2, n, .inr (.inr (.inr (.inr f))))) H) (hn : n < 2147483648) {v ci : Nat} {r : vw_C} {vs : List Value} (hV : va_at g.1 vwCl (v, .inr (ci, vs)) H) (hc : vwCl[ci]? = some r) (hca : va_Nw (.castable r.1 "java/lang/Object") s) {z : Int} (hz : 0 ≤ z ∧ z < n) (hdg : decode cc pc = .ok (.aastore, 1)) (kk : ∀ (H1 : Heap) (i : Nat), va_at g.1 vwCl (a, .inl (g.2.2.2.2, n, .inr (.inr (.inr (.inr (va_up f z.toNat (some v))))))) H1 → H1.size = H.size → (∀ q : Nat, q ≠ a → H1[q]? = H[q]?) → W p l e R s m args below meth c H1 (locs ++ [⟨a, i⟩]) cells slots Q (F0 m (pc + 1) ls rest)) : W p l e R s m args below meth c H locs cells slots Q (F0 m pc ls (.ref v :: .int (iI z) :: .ref a :: rest)) := by
  have hin := iI_in hz.1 hz.2 hn
  have hlt : (iI z).toNatClampNeg < n := Nat.not_le.mp fun q => hin (Or.inr q)
  have h0 : ¬ iI z < 0 := fun q => hin (Or.inl q)
  obtain ⟨r', hr', cellV, g1, g2, g3, -⟩ := hV
  have hcls := (hK.1.1 ci r hc).2
  obtain ⟨kA, comp, k1, k2, k3, -⟩ := (hK.1.2 3 _ rfl).2
  obtain ⟨kE, hkE, -⟩ := Vm.findClass_spec k3
  obtain ⟨cF, tO, f1, f2, f3⟩ := Cond.castable_spec (va_Nw.use (A := args) rfl hca)
  cases hcls.1.symm.trans f1
  cases k3.symm.trans f2
  obtain ⟨kC, hkC, -⟩ := hcls.2
  refine W.aast hexec hb hO (fun q h => by cases h) (fun h => by cases h) k1 k2 rfl hkE ⟨h0, by show _ < (arrV _ _ _).slots.size; rw [arrV_size]; exact hlt⟩ g1 (fun q h => by rw [g3] at h; cases h) (by rw [g2]; exact hkC) (by rw [g2]; exact f3) rfl rfl hdg fun H1 e z1 oq => ?_
  refine kk H1 _ ?_ z1 oq
  show H1[a]? = some (vp_cell _ _)
  rw [e, iI_clamp hz.1 (by omega)]
  rw [vp_cell_q, vp_cell_q, arrV_store]
  congr 2
  funext q
  by_cases hq : q = z.toNat
  · subst hq
    simp [updV, va_up, va_rf]
  · simp [updV, va_up, hq]
/-- the elements of one array into another, new one (nothing is written before) -/
theorem q_copyq {own : String} {index : Nat} (hexec : p.tables.exec = Jvm.exec) (hb : c.code = cc) (hml : c.maxLocals = ls.size) (hown : s.vm.findClass own = some m.cls) (hlink : (Cond.methodLink own index arraycopyName).before args s = true) (hnat : (Cond.native arraycopyName).before args s = true) (hstat : (Cond.static arraycopyName).before args s = true) (hini : (Cond.initialized "java/lang/System").before args s = true) (hK : KK g s) {A : Nat → Prop} {H0 : Heap} (hS : va_S A H0 H []) {a0 a n0 n1 : Nat} {f : Nat → Option Nat} (h0 : va_at g.1 vwCl (a0, .inl (g.2.2.2.2, n0, .inr (.inr (.inr (.inr f))))) H) (h1 : va_at g.1 vwCl (a, .inl (g.2.2.2.2, n1, .inr (.inr (.inr (.inr (fun _ => none)))))) H) (hne : a0 ≠ a) (hA0 : A a0) (hA1 : A a) (hn : n0 ≤ n1 ∧ n1 < 1000) {ci : Nat} {r : vw_C} (hc : vwCl[ci]? = some r) (hca : va_Nw (.castable r.1 "java/lang/Object") s) (hel : ∀ (i y : Nat), i < n0 → f i = some y → ∃ vs, va_at g.1 vwCl (y, .inr (ci, vs)) H)
    (hframes : 1 ≤ R.frames) (hlocals : (rest.map fun v => v.category).sum + (nativeFrameWords "java/lang/System" "arraycopy" 5 + 11) ≤ R.locals) {z : Int} (hz : z = (n0 : Int)) (hdg : decode cc pc = .ok (.invokestatic index, 3))
    (kk : ∀ (H1 : Heap) (locs1 : List Loc), va_at g.1 vwCl (a, .inl (g.2.2.2.2, n1, .inr (.inr (.inr (.inr (fun k => if k < n0 then f k else none)))))) H1 → va_S A H0 H1 locs1 → H.size ≤ H1.size → (∀ q : Nat, q < H.size → q ≠ a0 → q ≠ a → H1[q]? = H[q]?) → W p l e R s m args below meth c H1 locs1 cells slots Q (F0 m (pc + 3) ls rest)) : W p l e R s m args below meth c H [] cells slots Q (F0 m pc ls (.int (iI z) :: .int (iI 0) :: .ref a :: .int (iI 0) :: .ref a0 :: rest)) := by
  subst hz
  have hP : va_P g.1 vwCl [(a0, .inl (g.2.2.2.2, n0, .inr (.inr (.inr (.inr f))))), (a, .inl (g.2.2.2.2, n1, .inr (.inr (.inr (.inr (fun _ => none))))))] H := by
    intro k q hq
    match k, hq with
    | 0, hq => cases hq; exact h0
    | 1, hq => cases hq; exact h1
    | k + 2, hq => simp at hq
  have hD : va_D (fun q => q = a0 ∨ q = a) [(a0, .inl (g.2.2.2.2, n0, .inr (.inr (.inr (.inr f))))), (a, .inl (g.2.2.2.2, n1, .inr (.inr (.inr (.inr (fun _ => none))))))] := by
    refine ⟨fun i j x y hx hy hxy => ?_, fun k q hq => ?_⟩
    · match i, hx, j, hy with
      | 0, hx, 0, hy => rfl
      | 1, hx, 1, hy => rfl
      | 0, hx, 1, hy => cases hx; cases hy; exact absurd hxy hne
      | 1, hx, 0, hy => cases hx; cases hy; exact absurd hxy.symm hne
      | i + 2, hx, _, _ => simp at hx
      | _, _, j + 2, hy => simp at hy
    · match k, hq with
      | 0, hq => cases hq; exact Or.inl rfl
      | 1, hq => cases hq; exact Or.inr rfl
      | k + 2, hq => simp at hq
  have c0 : (iI (0 : Int)).toNatClampNeg = 0 := by decide
  have cn : (iI (n0 : Int)).toNatClampNeg = n0 := by rw [iI_clamp (by omega) (by omega)]; omega
  have hng : ¬ iI (n0 : Int) < 0 := fun h => by
    have h2 : iI (n0 : Int) < iI 0 := h
    rw [iI_lt (by omega) (by decide)] at h2
    omega
  refine va_copyq (C := r.1) hexec hb hml hown hlink hnat hstat hini hK.1 hP hD (va_S.rf (H0 := H)) 0 1 3 3 rfl rfl rfl rfl (by decide) (by decide) hng (by rw [c0, cn]; omega) (by rw [c0, cn]; omega) (fun i hi y hy => ?_) (fun comp c1 g1 g2 => ?_) hframes hlocals hdg (fun H1 locs1 hP1 hD1 hS1 => ?_)
  · rw [cn] at hi
    rw [c0, Nat.zero_add] at hy
    obtain ⟨vs, hv⟩ := hel i y hi hy
    exact va_recv hK.1 (va_P1 hv) hc (q0 := 0) rfl
  · obtain ⟨cF, tO, f1, f2, f3⟩ := Cond.castable_spec (va_Nw.use (A := args) rfl hca)
    cases g2.symm.trans f1
    cases g1.symm.trans f2
    exact f3
  · have h3 := hP1 1 _ rfl
    rw [c0, cn] at h3
    have ef : va_cpy f (fun _ => none) 0 0 n0 = fun k => if k < n0 then f k else none := by
      funext k
      unfold va_cpy
      by_cases hk : k < n0
      · rw [if_pos ⟨Nat.zero_le _, by omega⟩, if_pos hk, Nat.zero_add, Nat.sub_zero]
      · rw [if_neg (fun z => hk (by omega)), if_neg hk]
    rw [ef] at h3
    refine kk H1 locs1 h3 ⟨Nat.le_trans hS.1 hS1.1, fun q q1 q2 => ?_, fun lc hlc => ?_⟩ hS1.1 (fun q q1 q2 q3 => hS1.2.1 q q1 (fun z => z.elim q2 q3))
    · rw [hS1.2.1 q (Nat.lt_of_lt_of_le q1 hS.1) (fun z => z.elim (fun y => q2 (by rw [y]; exact hA0)) (fun y => q2 (by rw [y]; exact hA1)))]
      exact hS.2.1 q q1 q2
    · rcases hS1.2.2 lc hlc with z | z <;> rw [z]
      · exact hA0
      · exact hA1
theorem q_mretr {A : Nat → Prop} {P' : Heap → Prop} (hexec : p.tables.exec = Jvm.exec) (hb : c.code = cc) {rt : FieldType} (hr : meth.sig.returnType = some rt) (hrt : (∃ n, rt = .object n) ∨ ∃ t, rt = .array t) (hlocks : meth.locks = false) (hS : va_S A s.heap H locs) {v z : Nat} (hdg : decode cc pc = .ok (.areturn, 1)) (hz : v = z) (hP : P' H) : W p l e R s m args below meth c H locs cells slots (MQ below (QR z P' A) args s cells slots A) (F0 m pc ls [.ref v]) :=
  W.aret hexec hb hr hrt (Or.inr ⟨v, rfl⟩) (fun t ht _ => ⟨⟨by rw [hz], by rw [ht]; exact hP⟩, hS.F ht⟩) hS.2.2 hdg hlocks
variable {y : MethodName} {bytes : ByteArray} {maxL n index mc ms : Nat} {ret : Option FieldType} {ws : List Cond} {rm : Room} {Ts : List Cond} {own C : String} {b : Nat} {As st0 : List Value} {P P' : Heap → Prop} {A0 A1 : Nat → Prop} {H0 : Heap}
theorem q_xVi {z : Int} {nL : Nat} (S : CallFix p m c cc nL s args Ts own) (hM : MetXM l y ws rm g x (.ref b :: As) P z P' A1 mc ms) (cw : CallW R s args own C index y bytes maxL ret ws rm mc ms n) (hp : PreV s H C b (XPc (.ref b :: As) P g x) As) (hn : As.length = n) (hl : ls.size = nL) (hst : st0 = As.reverse ++ .ref b :: rest) (hW : (rest.map fun v => v.category).sum ≤ 8) (hf : cells + mc ≤ R.cells ∧ slots + ms ≤ R.slots) (hdg : decode cc pc = .ok (.invokevirtual index, 3)) (hS : va_S A0 H0 H locs) (hA : ∀ q, A1 q → A0 q) (kk : ∀ (H1 : Heap) (locs1 : List Loc), P' H1 → H.size ≤ H1.size → (∀ q : Nat, q < H.size → ¬ A1 q → H1[q]? = H[q]?) → va_S A0 H0 H1 locs1 → W p l e R s m args below meth c H1 locs1 (cells + mc) (slots + ms) Q (F0 m (pc + 3) ls (.int (iI z) :: rest))) : W p l e R s m args below meth c H locs cells slots Q (F0 m pc ls st0) :=
  q_after (v := some (.int (iI z))) (W.runV S hM cw hp rfl hn hl hst (lv_room hW) hdg hf) (fun _ _ _ h => h) (fun _ h => h) hS hA kk
theorem q_xVv {nL : Nat} (S : CallFix p m c cc nL s args Ts own) (hM : MetXV l y ws rm g x (.ref b :: As) P P' A1 mc ms) (cw : CallW R s args own C index y bytes maxL ret ws rm mc ms n) (hp : PreV s H C b (XPc (.ref b :: As) P g x) As) (hn : As.length = n) (hl : ls.size = nL) (hst : st0 = As.reverse ++ .ref b :: rest) (hW : (rest.map fun v => v.category).sum ≤ 8) (hf : cells + mc ≤ R.cells ∧ slots + ms ≤ R.slots) (hdg : decode cc pc = .ok (.invokevirtual index, 3)) (hS : va_S A0 H0 H locs) (hA : ∀ q, A1 q → A0 q) (kk : ∀ (H1 : Heap) (locs1 : List Loc), P' H1 → H.size ≤ H1.size → (∀ q : Nat, q < H.size → ¬ A1 q → H1[q]? = H[q]?) → va_S A0 H0 H1 locs1 → W p l e R s m args below meth c H1 locs1 (cells + mc) (slots + ms) Q (F0 m (pc + 3) ls rest)) : W p l e R s m args below meth c H locs cells slots Q (F0 m pc ls st0) :=
  q_after (v := none) (W.runV S hM cw hp rfl hn hl hst (lv_room hW) hdg hf) (fun _ _ _ h => h) (fun _ h => h) hS hA kk
theorem q_xVr {a : Nat} {nL : Nat} (S : CallFix p m c cc nL s args Ts own) (hM : MetXR l y ws rm g x (.ref b :: As) P a P' A1 mc ms) (cw : CallW R s args own C index y bytes maxL ret ws rm mc ms n) (hp : PreV s H C b (XPc (.ref b :: As) P g x) As) (hn : As.length = n) (hl : ls.size = nL) (hst : st0 = As.reverse ++ .ref b :: rest) (hW : (rest.map fun v => v.category).sum ≤ 8) (hf : cells + mc ≤ R.cells ∧ slots + ms ≤ R.slots) (hdg : decode cc pc = .ok (.invokevirtual index, 3)) (hS : va_S A0 H0 H locs) (hA : ∀ q, A1 q → A0 q) (kk : ∀ (H1 : Heap) (locs1 : List Loc), P' H1 → H.size ≤ H1.size → (∀ q : Nat, q < H.size → ¬ A1 q → H1[q]? = H[q]?) → va_S A0 H0 H1 locs1 → W p l e R s m args below meth c H1 locs1 (cells + mc) (slots + ms) Q (F0 m (pc + 3) ls (.ref a :: rest))) : W p l e R s m args below meth c H locs cells slots Q (F0 m pc ls st0) :=
  q_after (v := some (.ref a)) (W.runV S hM cw hp rfl hn hl hst (lv_room hW) hdg hf) (fun _ _ _ h => h) (fun _ h => h) hS hA kk
theorem q_xSr {a : Nat} {nL : Nat} (S : CallFix p m c cc nL s args Ts own) (hM : MetXR l y ws rm g x As P a P' A1 mc ms) (cw : CallB R s args own index y bytes maxL ret ws rm mc ms n ∧ (Cond.static y).before args s = true) (hp : PreS s H (XPc As P g x) As) (hn : As.length = n) (hl : ls.size = nL) (hst : st0 = As.reverse ++ rest) (hW : (rest.map fun v => v.category).sum ≤ 8) (hf : cells + mc ≤ R.cells ∧ slots + ms ≤ R.slots) (hdg : decode cc pc = .ok (.invokestatic index, 3)) (hS : va_S A0 H0 H locs) (hA : ∀ q, A1 q → A0 q) (kk : ∀ (H1 : Heap) (locs1 : List Loc), P' H1 → H.size ≤ H1.size → (∀ q : Nat, q < H.size → ¬ A1 q → H1[q]? = H[q]?) → va_S A0 H0 H1 locs1 → W p l e R s m args below meth c H1 locs1 (cells + mc) (slots + ms) Q (F0 m (pc + 3) ls (.ref a :: rest))) : W p l e R s m args below meth c H locs cells slots Q (F0 m pc ls st0) :=
  q_after (v := some (.ref a)) (W.runS S hM cw hp rfl hn hl hst (lv_room hW) hdg hf) (fun _ _ _ h => h) (fun _ h => h) hS hA kk
theorem q_xI {nL : Nat} (S : CallFix p m c cc nL s args Ts own) (hM : MetXV l y ws rm g x (.ref b :: As) P P' A1 mc ms) (cw : CallB R s args own index y bytes maxL none ws rm mc ms n ∧ y.name = "<init>" ∧ (Cond.instanceMethod y).before args s = true) (hp : PreS s H (XPc (.ref b :: As) P g x) (.ref b :: As)) (hn : As.length = n) (hl : ls.size = nL) (hst : st0 = As.reverse ++ .ref b :: rest) (hW : (rest.map fun v => v.category).sum ≤ 8) (hf : cells + mc ≤ R.cells ∧ slots + ms ≤ R.slots) (hdg : decode cc pc = .ok (.invokespecial index, 3)) (hS : va_S A0 H0 H locs) (hA : ∀ q, A1 q → A0 q) (kk : ∀ (H1 : Heap) (locs1 : List Loc), P' H1 → H.size ≤ H1.size → (∀ q : Nat, q < H.size → ¬ A1 q → H1[q]? = H[q]?) → va_S A0 H0 H1 locs1 → W p l e R s m args below meth c H1 locs1 (cells + mc) (slots + ms) Q (F0 m (pc + 3) ls rest)) : W p l e R s m args below meth c H locs cells slots Q (F0 m pc ls st0) :=
  q_after (v := none) (W.runI S hM cw hp rfl hn hl hst (lv_room hW) hdg hf) (fun _ _ _ h => h) (fun _ h => h) hS hA kk

end QX2
