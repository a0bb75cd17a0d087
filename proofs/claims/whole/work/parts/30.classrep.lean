/-! the class: its objects as the state, each at the address of its role -/
abbrev AD : Type := Nat → Int → Int → Nat
def clen (S : St) (k : Int) : Int := if k = 0 then S 2 0 else if k = 1 then S 10 0 else S 14 0
def hlen (S : St) (i j : Int) : Int := if j = 0 then S 19 i else S 23 i
def capN (n : Int) : Nat := if n ≤ 10 then 10 else if n ≤ 15 then 15 else if n ≤ 22 then 22 else if n ≤ 33 then 33 else 49
def bfA (e0 ba : Nat) (n : Int) : Nat := if n = 0 then e0 else ba
abbrev lstE (e0 ba : Nat) (n : Int) : va_E := .inr (0, [.int (iI n), .ref (bfA e0 ba n), .int (iI n)])
abbrev arrF (n : Int) (el : Int → Nat) : Nat → Option Nat := fun j => if (j : Int) < n then some (el (j : Int)) else none
abbrev arrE (g : GG) (n : Int) (el : Int → Nat) : va_E := .inl (g.2.2.2.2, capN n, .inr (.inr (.inr (.inr (arrF n el)))))
def cFs (ad : AD) (S : St) : List Value := [.ref (ad 3 0 0), .ref (ad 3 1 0), .ref (ad 3 2 0), .ref (ad 1 0 0), .ref (ad 2 0 0), .int (iI (S 0 0)), .int (iI (S 8 0)), .int (iI (S 9 0)), .int (iI (S 28 0)), .int (iI (S 27 0)), .long (lI (S 29 0))]
abbrev lawFs (a b c d e : Int) : List Value := [.int (iI a), .int (iI b), .int (iI c), .int (iI d), .int (iI e)]
abbrev objFs (S : St) (i : Int) : List Value := [.int (iI (S 11 i)), .int (iI (S 12 i)), .int (iI (S 13 i))]
abbrev hFs (ad : AD) (S : St) (i : Int) : List Value := [.int (iI (S 15 i)), .int (iI (S 16 i)), .int (iI (S 17 i)), .int (iI (S 18 i)), .ref (ad 8 i 0), .ref (ad 8 i 1), .int (iI (S 26 i))]
abbrev evFs (S : St) (i j : Int) : List Value := [.int (iI (S 20 (16 * i + j))), .int (iI (S 21 (16 * i + j))), .int (iI (S 22 (16 * i + j))), .int (iI (S 40 (16 * i + j)))]
abbrev woFs (S : St) (i j : Int) : List Value := [.int (iI (S 24 (8 * i + j))), .int (iI (S 25 (8 * i + j)))]
def elA (ad : AD) (i : Int) : Int → Nat := fun q => if i = 0 then ad 5 q 0 else if i = 1 then ad 6 q 0 else ad 7 q 0
def elB (ad : AD) (i j : Int) : Int → Nat := fun q => if j = 0 then ad 10 i q else ad 11 i q
/-- what lies at a role's address -/
def cE (g : GG) (e0 : Nat) (ad : AD) (S : St) (r : Nat) (i j : Int) : va_E :=
  if r = 0 then .inr (6, cFs ad S) else if r = 1 then .inl (g.2.1, 20, .inl (fun q => iI (S 1 (q : Int)))) else if r = 2 then .inr (3, lawFs 0 0 0 0 0)
  else if r = 3 then lstE e0 (ad 4 i 0) (clen S i) else if r = 4 then arrE g (clen S i) (elA ad i)
  else if r = 5 then .inr (3, lawFs (S 3 i) (S 4 i) (S 5 i) (S 6 i) (S 7 i)) else if r = 6 then .inr (4, objFs S i) else if r = 7 then .inr (2, hFs ad S i)
  else if r = 8 then lstE e0 (ad 9 i j) (hlen S i j) else if r = 9 then arrE g (hlen S i j) (elB ad i j)
  else if r = 10 then .inr (1, evFs S i j) else .inr (5, woFs S i j)
/-- the roles that are held -/
def live (S : St) (r : Nat) (i j : Int) : Prop :=
  ((r = 0 ∨ r = 1 ∨ r = 2) ∧ i = 0 ∧ j = 0) ∨ (r = 3 ∧ (0 ≤ i ∧ i ≤ 2) ∧ j = 0) ∨ (r = 4 ∧ (0 ≤ i ∧ i ≤ 2) ∧ j = 0 ∧ 0 < clen S i) ∨
  (r = 5 ∧ (0 ≤ i ∧ i < S 2 0) ∧ j = 0) ∨ (r = 6 ∧ (0 ≤ i ∧ i < S 10 0) ∧ j = 0) ∨ (r = 7 ∧ (0 ≤ i ∧ i < S 14 0) ∧ j = 0) ∨
  (r = 8 ∧ (0 ≤ i ∧ i < S 14 0) ∧ 0 ≤ j ∧ j ≤ 1) ∨ (r = 9 ∧ (0 ≤ i ∧ i < S 14 0) ∧ (0 ≤ j ∧ j ≤ 1) ∧ 0 < hlen S i j) ∨
  (r = 10 ∧ (0 ≤ i ∧ i < S 14 0) ∧ 0 ≤ j ∧ j < S 19 i) ∨ (r = 11 ∧ (0 ≤ i ∧ i < S 14 0) ∧ 0 ≤ j ∧ j < S 23 i)
def RepC (g : GG) (e0 : Nat) (P : Nat → Prop) (ad : AD) (S : St) (H : Heap) : Prop :=
  (∀ r i j, live S r i j → va_at g.1 vwCl (ad r i j, cE g e0 ad S r i j) H ∧ P (ad r i j)) ∧
  (∀ r i j r' i' j', live S r i j → live S r' i' j' → ad r i j = ad r' i' j' → r = r' ∧ i = i' ∧ j = j')
section RC
variable {g : GG} {e0 : Nat} {P : Nat → Prop} {ad : AD} {S : St} {H : Heap}
theorem live0 (S : St) : live S 0 0 0 := Or.inl ⟨Or.inl rfl, rfl, rfl⟩
theorem live1 (S : St) : live S 1 0 0 := Or.inl ⟨Or.inr (Or.inl rfl), rfl, rfl⟩
theorem live2 (S : St) : live S 2 0 0 := Or.inl ⟨Or.inr (Or.inr rfl), rfl, rfl⟩
theorem live3 (S : St) {k : Int} (h : 0 ≤ k ∧ k ≤ 2) : live S 3 k 0 := Or.inr (Or.inl ⟨rfl, h, rfl⟩)
theorem live4 {S : St} {k : Int} (h : 0 ≤ k ∧ k ≤ 2) (h2 : 0 < clen S k) : live S 4 k 0 := Or.inr (Or.inr (Or.inl ⟨rfl, h, rfl, h2⟩))
theorem live5 {S : St} {k : Int} (h : 0 ≤ k ∧ k < S 2 0) : live S 5 k 0 := Or.inr (Or.inr (Or.inr (Or.inl ⟨rfl, h, rfl⟩)))
theorem live6 {S : St} {k : Int} (h : 0 ≤ k ∧ k < S 10 0) : live S 6 k 0 := Or.inr (Or.inr (Or.inr (Or.inr (Or.inl ⟨rfl, h, rfl⟩))))
theorem live7 {S : St} {k : Int} (h : 0 ≤ k ∧ k < S 14 0) : live S 7 k 0 := Or.inr (Or.inr (Or.inr (Or.inr (Or.inr (Or.inl ⟨rfl, h, rfl⟩)))))
theorem live8 {S : St} {k j : Int} (h : 0 ≤ k ∧ k < S 14 0) (h2 : 0 ≤ j ∧ j ≤ 1) : live S 8 k j := Or.inr (Or.inr (Or.inr (Or.inr (Or.inr (Or.inr (Or.inl ⟨rfl, h, h2⟩))))))
theorem live9 {S : St} {k j : Int} (h : 0 ≤ k ∧ k < S 14 0) (h2 : 0 ≤ j ∧ j ≤ 1) (h3 : 0 < hlen S k j) : live S 9 k j := Or.inr (Or.inr (Or.inr (Or.inr (Or.inr (Or.inr (Or.inr (Or.inl ⟨rfl, h, h2, h3⟩)))))))
theorem live10 {S : St} {k j : Int} (h : 0 ≤ k ∧ k < S 14 0) (h2 : 0 ≤ j ∧ j < S 19 k) : live S 10 k j := Or.inr (Or.inr (Or.inr (Or.inr (Or.inr (Or.inr (Or.inr (Or.inr (Or.inl ⟨rfl, h, h2⟩))))))))
theorem live11 {S : St} {k j : Int} (h : 0 ≤ k ∧ k < S 14 0) (h2 : 0 ≤ j ∧ j < S 23 k) : live S 11 k j := Or.inr (Or.inr (Or.inr (Or.inr (Or.inr (Or.inr (Or.inr (Or.inr (Or.inr ⟨rfl, h, h2⟩))))))))
theorem RepC.obj (h : RepC g e0 P ad S H) : va_at g.1 vwCl (ad 0 0 0, .inr (6, cFs ad S)) H := (h.1 0 0 0 (live0 S)).1
theorem RepC.feasts (h : RepC g e0 P ad S H) : va_at g.1 vwCl (ad 1 0 0, .inl (g.2.1, 20, .inl (fun q => iI (S 1 (q : Int))))) H := (h.1 1 0 0 (live1 S)).1
theorem RepC.shut (h : RepC g e0 P ad S H) : va_at g.1 vwCl (ad 2 0 0, .inr (3, lawFs 0 0 0 0 0)) H := (h.1 2 0 0 (live2 S)).1
theorem RepC.lst (h : RepC g e0 P ad S H) {k : Int} (hk : 0 ≤ k ∧ k ≤ 2) : va_at g.1 vwCl (ad 3 k 0, lstE e0 (ad 4 k 0) (clen S k)) H := (h.1 3 k 0 (live3 S hk)).1
theorem RepC.arr (h : RepC g e0 P ad S H) {k : Int} (hk : 0 ≤ k ∧ k ≤ 2) (h0 : 0 < clen S k) : va_at g.1 vwCl (ad 4 k 0, arrE g (clen S k) (elA ad k)) H := (h.1 4 k 0 (live4 hk h0)).1
theorem RepC.law (h : RepC g e0 P ad S H) {k : Int} (hk : 0 ≤ k ∧ k < S 2 0) : va_at g.1 vwCl (ad 5 k 0, .inr (3, lawFs (S 3 k) (S 4 k) (S 5 k) (S 6 k) (S 7 k))) H := (h.1 5 k 0 (live5 hk)).1
theorem RepC.objector (h : RepC g e0 P ad S H) {k : Int} (hk : 0 ≤ k ∧ k < S 10 0) : va_at g.1 vwCl (ad 6 k 0, .inr (4, objFs S k)) H := (h.1 6 k 0 (live6 hk)).1
theorem RepC.house (h : RepC g e0 P ad S H) {k : Int} (hk : 0 ≤ k ∧ k < S 14 0) : va_at g.1 vwCl (ad 7 k 0, .inr (2, hFs ad S k)) H := (h.1 7 k 0 (live7 hk)).1
theorem RepC.hlst (h : RepC g e0 P ad S H) {k j : Int} (hk : 0 ≤ k ∧ k < S 14 0) (hj : 0 ≤ j ∧ j ≤ 1) : va_at g.1 vwCl (ad 8 k j, lstE e0 (ad 9 k j) (hlen S k j)) H := (h.1 8 k j (live8 hk hj)).1
theorem RepC.harr (h : RepC g e0 P ad S H) {k j : Int} (hk : 0 ≤ k ∧ k < S 14 0) (hj : 0 ≤ j ∧ j ≤ 1) (h0 : 0 < hlen S k j) : va_at g.1 vwCl (ad 9 k j, arrE g (hlen S k j) (elB ad k j)) H := (h.1 9 k j (live9 hk hj h0)).1
theorem RepC.event (h : RepC g e0 P ad S H) {k j : Int} (hk : 0 ≤ k ∧ k < S 14 0) (hj : 0 ≤ j ∧ j < S 19 k) : va_at g.1 vwCl (ad 10 k j, .inr (1, evFs S k j)) H := (h.1 10 k j (live10 hk hj)).1
theorem RepC.worth (h : RepC g e0 P ad S H) {k j : Int} (hk : 0 ≤ k ∧ k < S 14 0) (hj : 0 ≤ j ∧ j < S 23 k) : va_at g.1 vwCl (ad 11 k j, .inr (5, woFs S k j)) H := (h.1 11 k j (live11 hk hj)).1
theorem va_at.lt' {D : va_G} {cl : List vw_C} {q : Nat × va_E} {H : Heap} (h : va_at D cl q H) : q.1 < H.size := va_at.lt h
/-- some cells anew: touched roles T; all others as they were -/
theorem RepC.ext {S' : St} {ad' : AD} {P' : Nat → Prop} {H1 : Heap} (hC : RepC g e0 P ad S H) (T : Nat → Int → Int → Prop)
    (h1 : ∀ r i j, live S' r i j → ¬ T r i j → live S r i j ∧ ad' r i j = ad r i j ∧ cE g e0 ad' S' r i j = cE g e0 ad S r i j)
    (hW : ∀ q : Nat, q < H.size → (∀ r i j, live S r i j → T r i j → q ≠ ad r i j) → H1[q]? = H[q]?)
    (h2 : ∀ r i j, live S' r i j → T r i j → va_at g.1 vwCl (ad' r i j, cE g e0 ad' S' r i j) H1 ∧ (H.size ≤ ad' r i j ∨ ∃ r1 i1 j1, live S r1 i1 j1 ∧ T r1 i1 j1 ∧ ad' r i j = ad r1 i1 j1))
    (h3 : ∀ r i j r' i' j', live S' r i j → T r i j → live S' r' i' j' → T r' i' j' → ad' r i j = ad' r' i' j' → r = r' ∧ i = i' ∧ j = j')
    (hP : ∀ q, P q → P' q) (hN : ∀ q, H.size ≤ q → P' q) : RepC g e0 P' ad' S' H1 := by
  have apart : ∀ r i j r' i' j', live S' r i j → T r i j → live S' r' i' j' → ¬ T r' i' j' → ad' r i j ≠ ad' r' i' j' := by
    intro r i j r' i' j' a b c d e
    obtain ⟨l1, e1, -⟩ := h1 r' i' j' c d
    rw [e1] at e
    rcases (h2 r i j a b).2 with z | ⟨r1, i1, j1, l2, t2, e2⟩
    · have := va_at.lt (hC.1 r' i' j' l1).1
      have h5 : ad r' i' j' < H.size := this
      omega
    · rw [e2] at e
      obtain ⟨x1, x2, x3⟩ := hC.2 _ _ _ _ _ _ l2 l1 e
      subst x1; subst x2; subst x3
      exact d t2
  refine ⟨fun r i j hl => ?_, fun r i j r' i' j' hl hl' e => ?_⟩
  · by_cases t : T r i j
    · refine ⟨(h2 r i j hl t).1, ?_⟩
      rcases (h2 r i j hl t).2 with z | ⟨r1, i1, j1, l2, -, e2⟩
      · exact hN _ z
      · rw [e2]; exact hP _ (hC.1 _ _ _ l2).2
    · obtain ⟨l1, e1, e2⟩ := h1 r i j hl t
      rw [e1, e2]
      have h5 := hC.1 r i j l1
      refine ⟨h5.1.kept (hW _ (va_at.lt h5.1) (fun r1 i1 j1 l2 t2 e3 => ?_)), hP _ h5.2⟩
      obtain ⟨x1, x2, x3⟩ := hC.2 _ _ _ _ _ _ l1 l2 e3
      subst x1; subst x2; subst x3
      exact t t2
  · by_cases t : T r i j
    · by_cases t' : T r' i' j'
      · exact h3 _ _ _ _ _ _ hl t hl' t' e
      · exact absurd e (apart _ _ _ _ _ _ hl t hl' t')
    · by_cases t' : T r' i' j'
      · exact absurd e.symm (apart _ _ _ _ _ _ hl' t' hl t)
      · obtain ⟨l1, e1, -⟩ := h1 r i j hl t
        obtain ⟨l2, e2, -⟩ := h1 r' i' j' hl' t'
        rw [e1, e2] at e
        exact hC.2 _ _ _ _ _ _ l1 l2 e
theorem RepC.kept {H1 : Heap} (h : RepC g e0 P ad S H) (hq : ∀ q, P q → H1[q]? = H[q]?) : RepC g e0 P ad S H1 :=
  ⟨fun r i j hl => ⟨(h.1 r i j hl).1.kept (hq _ (h.1 r i j hl).2), (h.1 r i j hl).2⟩, h.2⟩
/-- the law of a place in the list; without any: the one that is shut -/
def lawA (ad : AD) (z : Int) : Nat := if z < 0 then ad 2 0 0 else ad 5 z 0
theorem RepC.lawAt (h : RepC g e0 P ad S H) {z : Int} (hz : z < S 2 0) : va_at g.1 vwCl (lawA ad z, .inr (3, lawFs (lawF S 3 z) (lawF S 4 z) (lawF S 5 z) (lawF S 6 z) (lawF S 7 z))) H := by
  unfold lawA lawF
  by_cases c : z < 0
  · simp only [c, if_true]
    exact h.shut
  · simp only [c, if_false]
    exact h.law ⟨by omega, hz⟩
end RC
section RCQ
variable {p : Program} {l : Launch} {e : Env} {R : Room} {s : State} {m : MethodId} {args : Array Value} {below : List Frame} {meth : Method} {c : Code} {H : Heap} {locs : List Loc} {cells slots : Nat} {Q : State → Prop}
variable {cc : ByteArray} {pc : Nat} {ls : Array Slot} {rest : List Value} {g : GG}
theorem q_cast {own C : String} {T : u_T} {N ci index a : Nat} (hexec : p.tables.exec = Jvm.exec) (hb : c.code = cc) (hown : s.vm.findClass own = some m.cls) (hlink : (Cond.classLink own index C).before args s = true) (hK : KK g s) {fs : List Value} (hO : va_at g.1 vwCl (a, .inr (ci, fs)) H) (hc : vwCl[ci]? = some (C, T, N)) (hdg : decode cc pc = .ok (.checkcast index, 3)) (k : W p l e R s m args below meth c H locs cells slots Q (F0 m (pc + 3) ls (.ref a :: rest))) : W p l e R s m args below meth c H locs cells slots Q (F0 m pc ls (.ref a :: rest)) :=
  va_castS hexec hb hown hlink (hK.1.1 ci _ hc).2 (va_recv hK.1 (va_P1 hO) hc (q0 := 0) rfl) hdg k
variable {y : MethodName} {bytes : ByteArray} {maxL nL n index : Nat} {ret : Option FieldType} {ws : List Cond} {rm : Room} {Ts : List Cond} {own C : String} {b : Nat} {As st0 : List Value} {P : Heap → Prop}
theorem q_cVr {a : Nat} {nL : Nat} (S : CallFix p m c cc nL s args Ts own) (hM : MetQ l y ws rm g (.ref b :: As) P (some a)) (cw : CallW R s args own C index y bytes maxL ret ws rm 0 0 n) (hp : PreV s H C b (RPc (.ref b :: As) P g) As) (hn : As.length = n) (hl : ls.size = nL) (hst : st0 = As.reverse ++ .ref b :: rest) (hW : (rest.map fun v => v.category).sum ≤ 8) (hf : cells ≤ R.cells ∧ slots ≤ R.slots) (hdg : decode cc pc = .ok (.invokevirtual index, 3)) (kk : W p l e R s m args below meth c H locs cells slots Q (F0 m (pc + 3) ls (.ref a :: rest))) : W p l e R s m args below meth c H locs cells slots Q (F0 m pc ls st0) :=
  q_cVq S hM cw hp hn hl hst hW hf hdg kk
theorem q_cNi {z : Int} {nL : Nat} {host : String} (S : CallFix p m c cc nL s args Ts own) (hM : MetI l y ws rm g As P z) (cw : va_CN R s args own index y host bytes maxL ret ws rm 0 0 n ∧ (Cond.static y).before args s = true ∧ True) (hp : PreS s H (RPc As P g) As) (hn : As.length = n) (hl : ls.size = nL) (hst : st0 = As.reverse ++ rest) (hW : (rest.map fun v => v.category).sum ≤ 8) (hf : cells ≤ R.cells ∧ slots ≤ R.slots) (hdg : decode cc pc = .ok (.invokestatic index, 3)) (kk : W p l e R s m args below meth c H locs cells slots Q (F0 m (pc + 3) ls (.int (iI z) :: rest))) : W p l e R s m args below meth c H locs cells slots Q (F0 m pc ls st0) := by
  intro T hT X
  obtain ⟨v, st₀, t, T', L, h0, X', hL, e1, -, ⟨r, hv, hp2, hh⟩, st⟩ := va_runSN S hM cw hp rfl hn hl hst (lv_room hW) hdg hf T hT X
  cases hv
  obtain ⟨t2, a1, b1⟩ := kk T' (by rw [e1, hh, h0]) (Stand.forget X' (fun q h => (hL q h).elim))
  rw [hp2] at st
  exact ⟨t2, st t2 a1, b1⟩
theorem q_mmax {x y' : Int} {own : String} {index : Nat} (hexec : p.tables.exec = Jvm.exec) (hb : c.code = cc) (hml : c.maxLocals = ls.size) (hown : s.vm.findClass own = some m.cls) (hlink : (Cond.methodLink own index Lib.Math.max.name).before args s = true) (hstat : (Cond.static Lib.Math.max.name).before args s = true) (hini : (Cond.initialized "java/lang/Math").before args s = true) (hcode : (Cond.code Lib.Math.max.name Lib.Math.max.code 2 (some .int)).before args s = true) (hframes : 1 ≤ R.frames) (hlocals : (rest.map fun v => v.category).sum + 13 ≤ R.locals) (hc : cells ≤ R.cells) (hs : slots ≤ R.slots) (hdg : decode cc pc = .ok (.invokestatic index, 3)) (rx : R32 x) (ry : R32 y') (kk : W p l e R s m args below meth c H locs cells slots Q (F0 m (pc + 3) ls (.int (iI (max x y')) :: rest))) : W p l e R s m args below meth c H locs cells slots Q (F0 m pc ls (.int (iI y') :: .int (iI x) :: rest)) := by
  refine va_mmax hexec hb hml hown hlink hstat hini hcode hframes hlocals hc hs hdg ?_
  have e1 : (if iI x < iI y' then iI y' else iI x) = iI (max x y') := by
    by_cases h : x < y'
    · rw [if_pos ((iI_lt rx ry).mpr h), show max x y' = y' by omega]
    · rw [if_neg (fun z => h ((iI_lt rx ry).mp z)), show max x y' = x by omega]
  rw [e1]
  exact kk
theorem q_mmin {x y' : Int} {own : String} {index : Nat} (hexec : p.tables.exec = Jvm.exec) (hb : c.code = cc) (hml : c.maxLocals = ls.size) (hown : s.vm.findClass own = some m.cls) (hlink : (Cond.methodLink own index Lib.Math.min.name).before args s = true) (hstat : (Cond.static Lib.Math.min.name).before args s = true) (hini : (Cond.initialized "java/lang/Math").before args s = true) (hcode : (Cond.code Lib.Math.min.name Lib.Math.min.code 2 (some .int)).before args s = true) (hframes : 1 ≤ R.frames) (hlocals : (rest.map fun v => v.category).sum + 13 ≤ R.locals) (hc : cells ≤ R.cells) (hs : slots ≤ R.slots) (hdg : decode cc pc = .ok (.invokestatic index, 3)) (rx : R32 x) (ry : R32 y') (kk : W p l e R s m args below meth c H locs cells slots Q (F0 m (pc + 3) ls (.int (iI (min x y')) :: rest))) : W p l e R s m args below meth c H locs cells slots Q (F0 m pc ls (.int (iI y') :: .int (iI x) :: rest)) := by
  refine va_mmin hexec hb hml hown hlink hstat hini hcode hframes hlocals hc hs hdg ?_
  have e1 : (if iI y' < iI x then iI y' else iI x) = iI (min x y') := by
    by_cases h : y' < x
    · rw [if_pos ((iI_lt ry rx).mpr h), show min x y' = y' by omega]
    · rw [if_neg (fun z => h ((iI_lt ry rx).mp z)), show min x y' = x by omega]
  rw [e1]
  exact kk
end RCQ
