/-! the reference: its object and rows, as the state -/
def mLen : Nat → Nat
  | 1 => 20
  | 3 => 40
  | 4 => 40
  | 5 => 40
  | 6 => 40
  | 7 => 40
  | 11 => 20
  | 12 => 20
  | 13 => 20
  | 15 => 30
  | 16 => 30
  | 17 => 30
  | 18 => 30
  | 19 => 30
  | 20 => 480
  | 21 => 480
  | 22 => 480
  | 23 => 30
  | 24 => 240
  | 25 => 240
  | 26 => 30
  | 30 => 30
  | 31 => 30
  | _ => 0
def mFs (mad : Nat → Nat) (S : St) : List Value := [.int (iI (S 0 0)), .ref (mad 1), .int (iI (S 2 0)), .ref (mad 3), .ref (mad 4), .ref (mad 5), .ref (mad 6), .ref (mad 7), .int (iI (S 8 0)), .int (iI (S 9 0)), .int (iI (S 10 0)), .ref (mad 11), .ref (mad 12), .ref (mad 13), .int (iI (S 14 0)), .ref (mad 15), .ref (mad 16), .ref (mad 17), .ref (mad 18), .ref (mad 19), .ref (mad 20), .ref (mad 21), .ref (mad 22), .ref (mad 23), .ref (mad 24), .ref (mad 25), .ref (mad 26), .int (iI (S 27 0)), .int (iI (S 28 0)), .long (lI (S 29 0)), .ref (mad 30), .ref (mad 31)]
def mE (g : GG) (S : St) (k : Nat) : va_E := if k = 26 then .inl (g.2.2.2.1, 30, .inl (fun j => iI (S 26 (j : Int)))) else if k = 30 ∨ k = 31 then .inl (g.2.2.1, 30, .inr (.inl (fun j => lI (S k (j : Int))))) else .inl (g.2.1, mLen k, .inl (fun j => iI (S k (j : Int))))
def RepM (g : GG) (mad : Nat → Nat) (S : St) (H : Heap) : Prop := va_at g.1 vwCl (mad 0, .inr (7, mFs mad S)) H ∧ ∀ k, k < 32 → 0 < mLen k → va_at g.1 vwCl (mad k, mE g S k) H
section QM
variable {p : Program} {l : Launch} {e : Env} {R : Room} {s : State} {m : MethodId} {args : Array Value} {below : List Frame} {meth : Method} {c : Code} {H : Heap} {locs : List Loc} {cells slots : Nat} {Q : State → Prop}
variable {cc : ByteArray} {pc : Nat} {ls : Array Slot} {rest : List Value} {g : GG}
/-- an int out of a row of the reference -/
theorem q_mld (hexec : p.tables.exec = Jvm.exec) (hb : c.code = cc) (hK : KK g s) {mad : Nat → Nat} {S : St} (hM : RepM g mad S H) (k n : Nat) (hk : k < 32 ∧ 0 < mLen k ∧ n < 2147483648) (he : mE g S k = .inl (g.2.1, n, .inl (fun j => iI (S k (j : Int))))) {z : Int} (hz : 0 ≤ z ∧ z < n) (hdg : decode cc pc = .ok (.iaload, 1)) (kk : W p l e R s m args below meth c H locs cells slots Q (F0 m (pc + 1) ls (.int (iI (S k z)) :: rest))) : W p l e R s m args below meth c H locs cells slots Q (F0 m pc ls (.int (iI z) :: .ref (mad k) :: rest)) := by
  have h := hM.2 k hk.1 hk.2.1
  rw [he] at h
  exact q_iald (f := S k) hexec hb hK h hk.2.2 hz hdg kk
theorem q_mldz (hexec : p.tables.exec = Jvm.exec) (hb : c.code = cc) (hK : KK g s) {mad : Nat → Nat} {S : St} (hM : RepM g mad S H) {z : Int} (hz : 0 ≤ z ∧ z < (30 : Nat)) (hdg : decode cc pc = .ok (.baload, 1)) (kk : W p l e R s m args below meth c H locs cells slots Q (F0 m (pc + 1) ls (.int (iI (S 26 z)) :: rest))) : W p l e R s m args below meth c H locs cells slots Q (F0 m pc ls (.int (iI z) :: .ref (mad 26) :: rest)) := by
  have h := hM.2 26 (by decide) (by decide)
  exact q_zald (f := S 26) hexec hb hK h (by decide) hz hdg kk
theorem q_mldj (hexec : p.tables.exec = Jvm.exec) (hb : c.code = cc) (hK : KK g s) {mad : Nat → Nat} {S : St} (hM : RepM g mad S H) (k : Nat) (hk : k = 30 ∨ k = 31) {z : Int} (hz : 0 ≤ z ∧ z < (30 : Nat)) (hdg : decode cc pc = .ok (.laload, 1)) (kk : W p l e R s m args below meth c H locs cells slots Q (F0 m (pc + 1) ls (.long (lI (S k z)) :: rest))) : W p l e R s m args below meth c H locs cells slots Q (F0 m pc ls (.int (iI z) :: .ref (mad k) :: rest)) := by
  rcases hk with rfl | rfl
  · have h := hM.2 30 (by decide) (by decide)
    exact q_lald (f := S 30) hexec hb hK h (by decide) hz hdg kk
  · have h := hM.2 31 (by decide) (by decide)
    exact q_lald (f := S 31) hexec hb hK h (by decide) hz hdg kk
end QM
