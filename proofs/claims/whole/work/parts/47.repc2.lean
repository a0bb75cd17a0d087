/-! the class's objects, changed: one at a time, or a list that grows -/
/-- below sz as it was -/
abbrev KP (H0 H : Heap) : Prop := H0.size ≤ H.size ∧ ∀ q : Nat, q < H0.size → H[q]? = H0[q]?
theorem KP.rf {H : Heap} : KP H H := ⟨Nat.le_refl _, fun _ _ => rfl⟩
theorem KP.new {H0 H H1 : Heap} (h : KP H0 H) (z : H1.size = H.size + 1) (o : ∀ a : Nat, a < H.size → H1[a]? = H[a]?) : KP H0 H1 :=
  ⟨by have := h.1; omega, fun q hq => (o q (Nat.lt_of_lt_of_le hq h.1)).trans (h.2 q hq)⟩
theorem KP.call {H0 H H1 : Heap} {A1 : Nat → Prop} (h : KP H0 H) (z : H.size ≤ H1.size) (k : ∀ q : Nat, q < H.size → ¬ A1 q → H1[q]? = H[q]?) (hA : ∀ q : Nat, q < H0.size → ¬ A1 q) : KP H0 H1 :=
  ⟨Nat.le_trans h.1 z, fun q hq => (k q (Nat.lt_of_lt_of_le hq h.1) (hA q hq)).trans (h.2 q hq)⟩
section RC2
variable {g : GG} {e0 : Nat} {P : Nat → Prop} {ad : AD} {S S' : St} {H H0 H1 : Heap}
theorem RepC.kp (h : RepC g e0 P ad S H0) (k : KP H0 H) : RepC g e0 P ad S H :=
  ⟨fun r i j hl => ⟨(h.1 r i j hl).1.kept (k.2 _ (va_at.lt2 (h.1 r i j hl).1)), (h.1 r i j hl).2⟩, h.2⟩
theorem RepC.lt (h : RepC g e0 P ad S H) {r : Nat} {i j : Int} (hl : live S r i j) : ad r i j < H.size := va_at.lt2 (h.1 r i j hl).1
theorem RepC.one (hC : RepC g e0 P ad S H) {r : Nat} {i j : Int} (hl : live S r i j) (hlv : ∀ r i j, live S' r i j → live S r i j) (hs : ∀ r' i' j', live S r' i' j' → ¬ (r' = r ∧ i' = i ∧ j' = j) → cE g e0 ad S' r' i' j' = cE g e0 ad S r' i' j') (hO : va_at g.1 vwCl (ad r i j, cE g e0 ad S' r i j) H1) (ho : ∀ q : Nat, q ≠ ad r i j → H1[q]? = H[q]?) : RepC g e0 P ad S' H1 := by
  refine ⟨fun r' i' j' hl' => ?_, fun _ _ _ _ _ _ a b e => hC.2 _ _ _ _ _ _ (hlv _ _ _ a) (hlv _ _ _ b) e⟩
  have hl2 := hlv _ _ _ hl'
  by_cases t : r' = r ∧ i' = i ∧ j' = j
  · obtain ⟨rfl, rfl, rfl⟩ := t
    exact ⟨hO, (hC.1 _ _ _ hl2).2⟩
  · rw [hs _ _ _ hl2 t]
    have h5 := hC.1 _ _ _ hl2
    exact ⟨h5.1.kept (ho _ (fun e => t (hC.2 _ _ _ _ _ _ hl2 hl e))), h5.2⟩
theorem live_same (h : ∀ k, k = 2 ∨ k = 10 ∨ k = 14 ∨ k = 19 ∨ k = 23 → S' k = S k) (r : Nat) (i j : Int) : live S' r i j ↔ live S r i j := by
  have h2 := h 2 (by decide); have h10 := h 10 (by decide); have h14 := h 14 (by decide); have h19 := h 19 (by decide); have h23 := h 23 (by decide)
  unfold live clen hlen
  simp only [h2, h10, h14, h19, h23]
theorem cE_top (h : ∀ k, k ≠ 0 → k ≠ 8 → k ≠ 9 → k ≠ 27 → k ≠ 28 → k ≠ 29 → S' k = S k) {r : Nat} {i j : Int} (hr : r ≠ 0) : cE g e0 ad S' r i j = cE g e0 ad S r i j := by
  have f := fun k (a : k ≠ 0 ∧ k ≠ 8 ∧ k ≠ 9 ∧ k ≠ 27 ∧ k ≠ 28 ∧ k ≠ 29) => h k a.1 a.2.1 a.2.2.1 a.2.2.2.1 a.2.2.2.2.1 a.2.2.2.2.2
  unfold cE
  rw [if_neg hr, if_neg hr]
  simp only [clen, hlen, objFs, hFs, evFs, woFs, f 1 (by decide), f 2 (by decide), f 3 (by decide), f 4 (by decide), f 5 (by decide), f 6 (by decide), f 7 (by decide), f 10 (by decide), f 11 (by decide), f 12 (by decide), f 13 (by decide), f 14 (by decide), f 15 (by decide), f 16 (by decide), f 17 (by decide), f 18 (by decide), f 19 (by decide), f 20 (by decide), f 21 (by decide), f 22 (by decide), f 23 (by decide), f 24 (by decide), f 25 (by decide), f 26 (by decide), f 40 (by decide)]
theorem RepC.top (hC : RepC g e0 P ad S H) (h : ∀ k, k ≠ 0 → k ≠ 8 → k ≠ 9 → k ≠ 27 → k ≠ 28 → k ≠ 29 → S' k = S k) (hO : va_at g.1 vwCl (ad 0 0 0, .inr (6, cFs ad S')) H1) (ho : ∀ q : Nat, q ≠ ad 0 0 0 → H1[q]? = H[q]?) : RepC g e0 P ad S' H1 := by
  refine hC.one (live0 S) (fun r i j => (live_same (fun k hk => h k (by omega) (by omega) (by omega) (by omega) (by omega) (by omega)) r i j).mp) (fun r i j hl t => cE_top h (fun z => t ?_)) hO ho
  subst z
  rcases hl with z | z | z | z | z | z | z | z | z | z
  · exact ⟨rfl, z.2⟩
  all_goals exact absurd z.1 (by decide)
theorem RepC.feastput (hC : RepC g e0 P ad S H) {z v : Int} (hO : va_at g.1 vwCl (ad 1 0 0, .inl (g.2.1, 20, .inl (fun q => iI (if (q : Int) = z then v else S 1 (q : Int))))) H1) (ho : ∀ q : Nat, q ≠ ad 1 0 0 → H1[q]? = H[q]?) : RepC g e0 P ad (up S 1 z v) H1 := by
  refine hC.one (live1 S) (fun r i j => (live_same (fun k hk => up_ne S z v (by omega)) r i j).mp) (fun r i j hl t => ?_) hO ho
  rcases hl with ⟨q | q | q, a, b⟩ | ⟨q, _⟩ | ⟨q, _⟩ | ⟨q, _⟩ | ⟨q, _⟩ | ⟨q, _⟩ | ⟨q, _⟩ | ⟨q, _⟩ | ⟨q, _⟩ | ⟨q, _⟩ <;> subst q
  · rfl
  · exact absurd ⟨rfl, a, b⟩ t
  all_goals rfl
theorem RepC.visput (hC : RepC g e0 P ad S H) {h v : Int} (h0 : 0 ≤ h ∧ h < S 14 0) (hO : va_at g.1 vwCl (ad 7 h 0, .inr (2, [.int (iI (S 15 h)), .int (iI (S 16 h)), .int (iI (S 17 h)), .int (iI (S 18 h)), .ref (ad 8 h 0), .ref (ad 8 h 1), .int (iI v)])) H1) (ho : ∀ q : Nat, q ≠ ad 7 h 0 → H1[q]? = H[q]?) : RepC g e0 P ad (up S 26 h v) H1 := by
  refine hC.one (live7 h0) (fun r i j => (live_same (fun k hk => up_ne S h v (by omega)) r i j).mp) (fun r i j hl t => ?_) ?_ ho
  · rcases hl with ⟨q | q | q, a, b⟩ | ⟨q, _⟩ | ⟨q, _⟩ | ⟨q, _⟩ | ⟨q, _⟩ | ⟨q, _, b⟩ | ⟨q, _⟩ | ⟨q, _⟩ | ⟨q, _⟩ | ⟨q, _⟩ <;> subst q
    all_goals first | rfl | skip
    have hi : i ≠ h := fun z => t ⟨rfl, z, b⟩
    show (Sum.inr (2, hFs ad (up S 26 h v) i) : va_E) = Sum.inr (2, hFs ad S i)
    unfold hFs
    rw [up_z S 26 v hi]
    rfl
  · show va_at g.1 vwCl (ad 7 h 0, .inr (2, hFs ad (up S 26 h v) h)) H1
    unfold hFs
    rw [up_s]
    exact hO
theorem RepC.qfput (hC : RepC g e0 P ad S H) {h j v : Int} (h0 : 0 ≤ h ∧ h < S 14 0) (hj : 0 ≤ j ∧ j < S 19 h) (hB : ∀ h, 0 ≤ h → h < S 14 0 → S 19 h ≤ 16) (hO : va_at g.1 vwCl (ad 10 h j, .inr (1, [.int (iI (S 20 (16 * h + j))), .int (iI (S 21 (16 * h + j))), .int (iI (S 22 (16 * h + j))), .int (iI v)])) H1) (ho : ∀ q : Nat, q ≠ ad 10 h j → H1[q]? = H[q]?) : RepC g e0 P ad (up S 40 (16 * h + j) v) H1 := by
  refine hC.one (live10 h0 hj) (fun r i j => (live_same (fun k hk => up_ne S _ v (by omega)) r i j).mp) (fun r i' j' hl t => ?_) ?_ ho
  · rcases hl with ⟨q | q | q, a, b⟩ | ⟨q, _⟩ | ⟨q, _⟩ | ⟨q, _⟩ | ⟨q, _⟩ | ⟨q, _⟩ | ⟨q, _⟩ | ⟨q, _⟩ | ⟨q, a, b⟩ | ⟨q, _⟩ <;> subst q
    all_goals first | rfl | skip
    have b1 := hB h h0.1 h0.2
    have b2 := hB i' a.1 a.2
    have hi : 16 * i' + j' ≠ 16 * h + j := fun z => t ⟨rfl, by omega, by omega⟩
    show (Sum.inr (1, evFs (up S 40 (16 * h + j) v) i' j') : va_E) = Sum.inr (1, evFs S i' j')
    unfold evFs
    rw [up_z S 40 v hi]
    rfl
  · show va_at g.1 vwCl (ad 10 h j, .inr (1, evFs (up S 40 (16 * h + j) v) h j)) H1
    unfold evFs
    rw [up_s]
    exact hO
/-- a list grows by one; new roles N -/
theorem RepC.extL {ad' : AD} (hC : RepC g e0 P ad S H0) (hkp : KP H0 H) {rl : Nat} {i j n : Int} {szA : Nat} (N : Nat → Int → Int → Prop)
    (hll : live S rl i j) (hla : 0 < n → live S (rl + 1) i j)
    (ha1 : ad' rl i j = ad rl i j) (ha2 : ad' (rl + 1) i j = nbA (ad (rl + 1) i j) szA n)
    (hN : ∀ r' i' j', live S' r' i' j' → N r' i' j' → (H0.size ≤ ad' r' i' j' ∧ ad' r' i' j' < szA) ∧ va_at g.1 vwCl (ad' r' i' j', cE g e0 ad' S' r' i' j') H1)
    (hNi : ∀ r i j r' i' j', live S' r i j → N r i j → live S' r' i' j' → N r' i' j' → ad' r i j = ad' r' i' j' → r = r' ∧ i = i' ∧ j = j')
    (h1 : ∀ r' i' j', live S' r' i' j' → ¬ (r' = rl ∧ i' = i ∧ j' = j) → ¬ (r' = rl + 1 ∧ i' = i ∧ j' = j) → ¬ N r' i' j' → live S r' i' j' ∧ ad' r' i' j' = ad r' i' j' ∧ cE g e0 ad' S' r' i' j' = cE g e0 ad S r' i' j')
    (hL : va_at g.1 vwCl (ad rl i j, cE g e0 ad' S' rl i j) H1) (hA : va_at g.1 vwCl (nbA (ad (rl + 1) i j) szA n, cE g e0 ad' S' (rl + 1) i j) H1)
    (hk : ∀ q : Nat, q < H.size → ¬ ADA (ad rl i j) (ad (rl + 1) i j) szA n q → H1[q]? = H[q]?) (hsz : H.size = szA) (hPs : ∀ q, H0.size ≤ q → P q) : RepC g e0 P ad' S' H1 := by
  have hbs : H0.size ≤ szA := by rw [← hsz]; exact hkp.1
  have hnb : (nbA (ad (rl + 1) i j) szA n = ad (rl + 1) i j ∧ 0 < n) ∨ nbA (ad (rl + 1) i j) szA n = szA := by
    unfold nbA
    by_cases z : 0 < n ∧ n < (capN n : Int)
    · rw [if_pos z]; exact Or.inl ⟨rfl, z.1⟩
    · rw [if_neg z]; exact Or.inr rfl
  have hl1 := hC.lt hll
  refine hC.ext (fun r' i' j' => (r' = rl ∧ i' = i ∧ j' = j) ∨ (r' = rl + 1 ∧ i' = i ∧ j' = j) ∨ N r' i' j') (fun r' i' j' hl t => h1 _ _ _ hl (fun z => t (Or.inl z)) (fun z => t (Or.inr (Or.inl z))) (fun z => t (Or.inr (Or.inr z)))) (fun q hq hne => ?_) (fun r' i' j' hl t => ?_) (fun r i2 j2 r' i' j' hl t hl' t' e => ?_) (fun _ h => h) hPs
  · rw [hk q (Nat.lt_of_lt_of_le hq hkp.1) (fun z => ?_), hkp.2 q hq]
    rcases z with z | z | z
    · exact hne _ _ _ hll (Or.inl ⟨rfl, rfl, rfl⟩) z
    · exact hne _ _ _ (hla z.1) (Or.inr (Or.inl ⟨rfl, rfl, rfl⟩)) z.2
    · omega
  · rcases t with ⟨rfl, rfl, rfl⟩ | ⟨rfl, rfl, rfl⟩ | t
    · rw [ha1]
      exact ⟨hL, Or.inr ⟨_, _, _, hll, Or.inl ⟨rfl, rfl, rfl⟩, rfl⟩⟩
    · rw [ha2]
      refine ⟨hA, ?_⟩
      rcases hnb with z | z
      · exact Or.inr ⟨_, _, _, hla z.2, Or.inr (Or.inl ⟨rfl, rfl, rfl⟩), z.1⟩
      · rw [z]; exact Or.inl hbs
    · have h5 := hN _ _ _ hl t
      exact ⟨h5.2, Or.inl h5.1.1⟩
  · have key : ∀ r i2 j2, live S' r i2 j2 → ((r = rl ∧ i2 = i ∧ j2 = j) ∨ (r = rl + 1 ∧ i2 = i ∧ j2 = j) ∨ N r i2 j2) → (ad' r i2 j2 < H0.size ∧ ((r = rl ∧ i2 = i ∧ j2 = j ∧ ad' r i2 j2 = ad rl i j) ∨ (r = rl + 1 ∧ i2 = i ∧ j2 = j ∧ 0 < n ∧ ad' r i2 j2 = ad (rl + 1) i j))) ∨ (ad' r i2 j2 = szA ∧ (r = rl + 1 ∧ i2 = i ∧ j2 = j)) ∨ ((H0.size ≤ ad' r i2 j2 ∧ ad' r i2 j2 < szA) ∧ N r i2 j2) := by
      intro r i2 j2 hl t
      rcases t with ⟨rfl, rfl, rfl⟩ | ⟨rfl, rfl, rfl⟩ | t
      · exact Or.inl ⟨by rw [ha1]; exact hl1, Or.inl ⟨rfl, rfl, rfl, ha1⟩⟩
      · rcases hnb with z | z
        · exact Or.inl ⟨by rw [ha2, z.1]; exact hC.lt (hla z.2), Or.inr ⟨rfl, rfl, rfl, z.2, ha2.trans z.1⟩⟩
        · exact Or.inr (Or.inl ⟨ha2.trans z, rfl, rfl, rfl⟩)
      · exact Or.inr (Or.inr ⟨(hN _ _ _ hl t).1, t⟩)
    rcases key _ _ _ hl t with ⟨a, b⟩ | ⟨a, b⟩ | ⟨a, b⟩ <;> rcases key _ _ _ hl' t' with ⟨a', b'⟩ | ⟨a', b'⟩ | ⟨a', b'⟩
    · rcases b with ⟨rfl, rfl, rfl, b⟩ | ⟨rfl, rfl, rfl, bn, b⟩ <;> rcases b' with ⟨rfl, rfl, rfl, b'⟩ | ⟨rfl, rfl, rfl, bn', b'⟩
      · exact ⟨rfl, rfl, rfl⟩
      · rw [b, b'] at e
        exact absurd (hC.2 _ _ _ _ _ _ hll (hla bn') e).1 (by omega)
      · rw [b, b'] at e
        exact absurd (hC.2 _ _ _ _ _ _ (hla bn) hll e).1 (by omega)
      · exact ⟨rfl, rfl, rfl⟩
    · omega
    · omega
    · omega
    · obtain ⟨rfl, rfl, rfl⟩ := b
      obtain ⟨rfl, rfl, rfl⟩ := b'
      exact ⟨rfl, rfl, rfl⟩
    · omega
    · omega
    · omega
    · exact hNi _ _ _ _ _ _ hl b hl' b' e
end RC2
