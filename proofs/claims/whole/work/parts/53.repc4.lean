/-! a house's lists grow; a house more -/
theorem arrF_congr {n : Int} {f f' : Int → Nat} (h : ∀ i, 0 ≤ i → i < n → f i = f' i) : arrF n f = arrF n f' := by
  funext j
  unfold arrF
  by_cases z : (j : Int) < n
  · rw [if_pos z, if_pos z, h _ (by omega) z]
  · rw [if_neg z, if_neg z]
section RC4
variable {g : GG} {x : XX} {P : Nat → Prop} {ad : AD} {S : St} {H H0 H1 : Heap}
abbrev evS (S : St) (h d k v : Int) : St := up (newEvent S h d k v) 40 (16 * h + S 19 h) 1000000
theorem RepC.addEvent { h d k v : Int} {w9 szA : Nat} (hC : RepC g x.2.1 P ad S H0) (h0 : 0 ≤ h ∧ h < S 14 0) (hB : 0 ≤ S 19 h ∧ S 19 h < 16) (hB2 : ∀ i, 0 ≤ i → i < S 14 0 → S 19 i ≤ 16) (hkp : KP H0 H) (hV : va_at g.1 vwCl (w9, .inr (1, [.int (iI d), .int (iI k), .int (iI v), .int (iI 1000000)])) H1) (hv : H0.size ≤ w9 ∧ w9 < szA) (hQ : ADQ g x (ad 8 h 0) (ad 9 h 0) szA w9 (S 19 h) (fun q => ad 10 h q) H1) (hk : ∀ q : Nat, q < H.size → ¬ ADA (ad 8 h 0) (ad 9 h 0) szA (S 19 h) q → H1[q]? = H[q]?) (hsz : H.size = szA) (hPs : ∀ q, H0.size ≤ q → P q) : ∃ ad', ad' 0 0 0 = ad 0 0 0 ∧ ad' 7 h 0 = ad 7 h 0 ∧ RepC g x.2.1 P ad' (evS S h d k v) H1 := by
  refine ⟨fun r i j => if r = 9 ∧ i = h ∧ j = 0 then nbA (ad 9 h 0) szA (S 19 h) else if r = 10 ∧ i = h ∧ j = S 19 h then w9 else ad r i j, rfl, rfl, ?_⟩
  generalize hnad : (fun r i j => if r = 9 ∧ i = h ∧ j = 0 then nbA (ad 9 h 0) szA (S 19 h) else if r = 10 ∧ i = h ∧ j = S 19 h then w9 else ad r i j : AD) = ad'
  have a0 : ∀ r i j, r ≠ 9 → r ≠ 10 → ad' r i j = ad r i j := fun r i j z1 z2 => by rw [← hnad]; simp [z1, z2]
  have a9 : ∀ i j, ¬ (i = h ∧ j = 0) → ad' 9 i j = ad 9 i j := fun i j z => by rw [← hnad]; simp [z]
  have a90 : ad' 9 h 0 = nbA (ad 9 h 0) szA (S 19 h) := by rw [← hnad]; simp
  have a5 : ∀ i j, ¬ (i = h ∧ j = S 19 h) → ad' 10 i j = ad 10 i j := fun i j z => by rw [← hnad]; simp [z]
  have a50 : ad' 10 h (S 19 h) = w9 := by rw [← hnad]; simp
  generalize hS' : evS S h d k v = S'
  have s0 : ∀ q : Nat, q ≠ 20 → q ≠ 21 → q ≠ 22 → q ≠ 40 → q ≠ 19 → S' q = S q := fun q z20 z21 z22 z40 z19 => by rw [← hS']; funext z; simp [evS, newEvent, up, z20, z21, z22, z40, z19]
  have sz : ∀ (q : Nat) (z : Int), q ≠ 19 → z ≠ 16 * h + S 19 h → S' q z = S q z := fun q z h1 h2 => by rw [← hS']; simp [evS, newEvent, up, h1, h2]
  have sl : S' 19 h = S 19 h + 1 := by rw [← hS']; simp [evS, newEvent, up]
  have sn : ∀ z, z ≠ h → S' 19 z = S 19 z := fun z h1 => by rw [← hS']; simp [evS, newEvent, up, h1]
  have c0 : clen S' = clen S := by funext i; unfold clen; rw [s0 2 (by decide) (by decide) (by decide) (by decide) (by decide), s0 10 (by decide) (by decide) (by decide) (by decide) (by decide), s0 14 (by decide) (by decide) (by decide) (by decide) (by decide)]
  have hl9 : ∀ i j, (0 ≤ j ∧ j ≤ 1) → ¬ (i = h ∧ j = 0) → hlen S' i j = hlen S i j := fun i j hj z => by
    unfold hlen
    have h1 : j = 0 ∨ j = 1 := by omega
    rcases h1 with h1 | h1 <;> subst h1
    · show S' 19 i = S 19 i
      exact sn i (fun y => z ⟨y, rfl⟩)
    · show S' 23 i = S 23 i
      rw [s0 23 (by decide) (by decide) (by decide) (by decide) (by decide)]
  have el9 : ∀ i j, (0 ≤ j ∧ j ≤ 1) → ¬ (i = h ∧ j = 0) → elB ad' i j = elB ad i j := fun i j hj z => by
    unfold elB
    funext q
    have h1 : j = 0 ∨ j = 1 := by omega
    rcases h1 with h1 | h1 <;> subst h1
    · exact a5 i q (fun y => z ⟨y.1, rfl⟩)
    · exact a0 11 _ _ (by decide) (by decide)
  have n14 : S' 14 0 = S 14 0 := by rw [s0 14 (by decide) (by decide) (by decide) (by decide) (by decide)]
  have hl1 : hlen S' h 0 = S 19 h + 1 := sl
  refine hC.extL (ad' := ad') hkp (rl := 8) (i := h) (j := 0) (n := S 19 h) (szA := szA) (fun r i j => r = 10 ∧ i = h ∧ j = S 19 h) (live8 h0 (by decide)) (fun z => live9 h0 (by decide) z) (a0 8 h 0 (by decide) (by decide)) a90 ?_ ?_ ?_ ?_ ?_ hk hsz hPs
  · rintro r i j - ⟨rfl, hi9, hj9⟩
    rw [hi9, hj9, a50]
    refine ⟨hv, ?_⟩
    show va_at g.1 vwCl (w9, .inr (1, evFs S' h (S 19 h))) H1
    have e1 : evFs S' h (S 19 h) = [.int (iI d), .int (iI k), .int (iI v), .int (iI 1000000)] := by rw [← hS']; simp [evS, newEvent, up]
    rw [e1]
    exact hV
  · rintro r i j r' i' j' - ⟨rfl, rfl, rfl⟩ - ⟨rfl, rfl, rfl⟩ -
    exact ⟨rfl, rfl, rfl⟩
  · intro r i j hl t1 t2 t3
    rcases hl with ⟨q | q | q, a, b⟩ | ⟨q, a, b⟩ | ⟨q, a, b, d9⟩ | ⟨q, a, b⟩ | ⟨q, a, b⟩ | ⟨q, a, b⟩ | ⟨q, a, b⟩ | ⟨q, a, b, d9⟩ | ⟨q, a, b⟩ | ⟨q, a, b⟩ <;> subst q
    · refine ⟨Or.inl ⟨Or.inl rfl, a, b⟩, a0 _ _ _ (by decide) (by decide), ?_⟩
      show (Sum.inr (6, cFs ad' S') : va_E) = Sum.inr (6, cFs ad S)
      rw [fs0 (fun r i j hr => a0 r i j (by omega) (by omega)) (fun k hk => s0 k (by omega) (by omega) (by omega) (by omega) (by omega))]
    · refine ⟨Or.inl ⟨Or.inr (Or.inl rfl), a, b⟩, a0 _ _ _ (by decide) (by decide), ?_⟩
      show (Sum.inl (g.2.1, 20, .inl (fun q => iI (S' 1 (q : Int)))) : va_E) = Sum.inl (g.2.1, 20, .inl (fun q => iI (S 1 (q : Int))))
      rw [s0 1 (by decide) (by decide) (by decide) (by decide) (by decide)]
    · exact ⟨Or.inl ⟨Or.inr (Or.inr rfl), a, b⟩, a0 _ _ _ (by decide) (by decide), rfl⟩
    · subst b
      refine ⟨live3 S a, a0 _ _ _ (by decide) (by decide), ?_⟩
      show lstE x.2.1 (ad' 4 i 0) (clen S' i) = lstE x.2.1 (ad 4 i 0) (clen S i)
      rw [a0 4 _ _ (by decide) (by decide), c0]
    · subst b
      rw [c0] at d9
      refine ⟨live4 a d9, a0 _ _ _ (by decide) (by decide), ?_⟩
      show arrE g (clen S' i) (elA ad' i) = arrE g (clen S i) (elA ad i)
      have e9 : elA ad' i = elA ad i := by funext q; unfold elA; rw [a0 5 _ _ (by decide) (by decide), a0 6 _ _ (by decide) (by decide), a0 7 _ _ (by decide) (by decide)]
      rw [c0, e9]
    · subst b
      rw [s0 2 (by decide) (by decide) (by decide) (by decide) (by decide)] at a
      refine ⟨live5 a, a0 _ _ _ (by decide) (by decide), ?_⟩
      show (Sum.inr (3, lawFs (S' 3 i) (S' 4 i) (S' 5 i) (S' 6 i) (S' 7 i)) : va_E) = Sum.inr (3, lawFs (S 3 i) (S 4 i) (S 5 i) (S 6 i) (S 7 i))
      rw [s0 3 (by decide) (by decide) (by decide) (by decide) (by decide), s0 4 (by decide) (by decide) (by decide) (by decide) (by decide), s0 5 (by decide) (by decide) (by decide) (by decide) (by decide), s0 6 (by decide) (by decide) (by decide) (by decide) (by decide), s0 7 (by decide) (by decide) (by decide) (by decide) (by decide)]
    · subst b
      rw [s0 10 (by decide) (by decide) (by decide) (by decide) (by decide)] at a
      refine ⟨live6 a, a0 _ _ _ (by decide) (by decide), ?_⟩
      show (Sum.inr (4, objFs S' i) : va_E) = Sum.inr (4, objFs S i)
      unfold objFs
      rw [s0 11 (by decide) (by decide) (by decide) (by decide) (by decide), s0 12 (by decide) (by decide) (by decide) (by decide) (by decide), s0 13 (by decide) (by decide) (by decide) (by decide) (by decide)]
    · subst b
      rw [n14] at a
      refine ⟨live7 a, a0 _ _ _ (by decide) (by decide), ?_⟩
      show (Sum.inr (2, hFs ad' S' i) : va_E) = Sum.inr (2, hFs ad S i)
      unfold hFs
      rw [a0 8 _ _ (by decide) (by decide), a0 8 _ _ (by decide) (by decide), s0 15 (by decide) (by decide) (by decide) (by decide) (by decide), s0 16 (by decide) (by decide) (by decide) (by decide) (by decide), s0 17 (by decide) (by decide) (by decide) (by decide) (by decide), s0 18 (by decide) (by decide) (by decide) (by decide) (by decide), s0 26 (by decide) (by decide) (by decide) (by decide) (by decide)]
    · rw [n14] at a
      have hi : ¬ (i = h ∧ j = 0) := fun z => t1 ⟨rfl, z⟩
      refine ⟨live8 a b, a0 _ _ _ (by decide) (by decide), ?_⟩
      show lstE x.2.1 (ad' 9 i j) (hlen S' i j) = lstE x.2.1 (ad 9 i j) (hlen S i j)
      rw [a9 _ _ hi, hl9 _ _ b hi]
    · rw [n14] at a
      have hi : ¬ (i = h ∧ j = 0) := fun z => t2 ⟨rfl, z⟩
      rw [hl9 _ _ b hi] at d9
      refine ⟨live9 a b d9, a9 _ _ hi, ?_⟩
      show arrE g (hlen S' i j) (elB ad' i j) = arrE g (hlen S i j) (elB ad i j)
      rw [hl9 _ _ b hi, el9 _ _ b hi]
    · rw [n14] at a
      have hi : ¬ (i = h ∧ j = S 19 h) := fun z => t3 ⟨rfl, z⟩
      have hj : j < S 19 i := by
        have b2 := b.2
        by_cases z : i = h
        · subst z
          rw [sl] at b2
          have : j ≠ S 19 i := fun y => hi ⟨rfl, y⟩
          omega
        · rw [sn i z] at b2; exact b2
      have h9 := hB2 i a.1 a.2
      have hz : 16 * i + j ≠ 16 * h + S 19 h := fun z => hi ⟨by omega, by omega⟩
      refine ⟨live10 a ⟨b.1, hj⟩, a5 _ _ hi, ?_⟩
      show (Sum.inr (1, evFs S' i j) : va_E) = Sum.inr (1, evFs S i j)
      unfold evFs
      rw [sz 20 _ (by decide) hz, sz 21 _ (by decide) hz, sz 22 _ (by decide) hz, sz 40 _ (by decide) hz]
    · rw [n14] at a
      rw [s0 23 (by decide) (by decide) (by decide) (by decide) (by decide)] at b
      refine ⟨live11 a b, a0 _ _ _ (by decide) (by decide), ?_⟩
      show (Sum.inr (5, woFs S' i j) : va_E) = Sum.inr (5, woFs S i j)
      unfold woFs
      rw [s0 24 (by decide) (by decide) (by decide) (by decide) (by decide), s0 25 (by decide) (by decide) (by decide) (by decide) (by decide)]
  · show va_at g.1 vwCl (ad 8 h 0, lstE x.2.1 (ad' 9 h 0) (hlen S' h 0)) H1
    rw [a90, hl1]
    exact hQ.1
  · show va_at g.1 vwCl (nbA (ad 9 h 0) szA (S 19 h), arrE g (hlen S' h 0) (elB ad' h 0)) H1
    have e9 : elB ad' h 0 = fun q => if q = S 19 h then w9 else ad 10 h q := by
      funext q
      show ad' 10 h q = _
      by_cases z : q = S 19 h
      · rw [if_pos z, z, a50]
      · rw [if_neg z, a5 _ _ (fun y => z y.2)]
    rw [hl1, e9]
    exact hQ.2
abbrev woS (S : St) (h t w : Int) : St := up (up (up S 24 (8 * h + S 23 h) t) 25 (8 * h + S 23 h) w) 23 h (S 23 h + 1)
theorem RepC.addWorth { h t w : Int} {w9 szA : Nat} (hC : RepC g x.2.1 P ad S H0) (h0 : 0 ≤ h ∧ h < S 14 0) (hB : 0 ≤ S 23 h ∧ S 23 h < 8) (hB2 : ∀ i, 0 ≤ i → i < S 14 0 → S 23 i ≤ 8) (hkp : KP H0 H) (hV : va_at g.1 vwCl (w9, .inr (5, [.int (iI t), .int (iI w)])) H1) (hv : H0.size ≤ w9 ∧ w9 < szA) (hQ : ADQ g x (ad 8 h 1) (ad 9 h 1) szA w9 (S 23 h) (fun q => ad 11 h q) H1) (hk : ∀ q : Nat, q < H.size → ¬ ADA (ad 8 h 1) (ad 9 h 1) szA (S 23 h) q → H1[q]? = H[q]?) (hsz : H.size = szA) (hPs : ∀ q, H0.size ≤ q → P q) : ∃ ad', ad' 0 0 0 = ad 0 0 0 ∧ ad' 7 h 0 = ad 7 h 0 ∧ RepC g x.2.1 P ad' (woS S h t w) H1 := by
  refine ⟨fun r i j => if r = 9 ∧ i = h ∧ j = 1 then nbA (ad 9 h 1) szA (S 23 h) else if r = 11 ∧ i = h ∧ j = S 23 h then w9 else ad r i j, rfl, rfl, ?_⟩
  generalize hnad : (fun r i j => if r = 9 ∧ i = h ∧ j = 1 then nbA (ad 9 h 1) szA (S 23 h) else if r = 11 ∧ i = h ∧ j = S 23 h then w9 else ad r i j : AD) = ad'
  have a0 : ∀ r i j, r ≠ 9 → r ≠ 11 → ad' r i j = ad r i j := fun r i j z1 z2 => by rw [← hnad]; simp [z1, z2]
  have a9 : ∀ i j, ¬ (i = h ∧ j = 1) → ad' 9 i j = ad 9 i j := fun i j z => by rw [← hnad]; simp [z]
  have a90 : ad' 9 h 1 = nbA (ad 9 h 1) szA (S 23 h) := by rw [← hnad]; simp
  have a5 : ∀ i j, ¬ (i = h ∧ j = S 23 h) → ad' 11 i j = ad 11 i j := fun i j z => by rw [← hnad]; simp [z]
  have a50 : ad' 11 h (S 23 h) = w9 := by rw [← hnad]; simp
  generalize hS' : woS S h t w = S'
  have s0 : ∀ q : Nat, q ≠ 24 → q ≠ 25 → q ≠ 23 → S' q = S q := fun q z24 z25 z23 => by rw [← hS']; funext z; simp [woS, up, z24, z25, z23]
  have sz : ∀ (q : Nat) (z : Int), q ≠ 23 → z ≠ 8 * h + S 23 h → S' q z = S q z := fun q z h1 h2 => by rw [← hS']; simp [woS, up, h1, h2]
  have sl : S' 23 h = S 23 h + 1 := by rw [← hS']; simp [woS, up]
  have sn : ∀ z, z ≠ h → S' 23 z = S 23 z := fun z h1 => by rw [← hS']; simp [woS, up, h1]
  have c0 : clen S' = clen S := by funext i; unfold clen; rw [s0 2 (by decide) (by decide) (by decide), s0 10 (by decide) (by decide) (by decide), s0 14 (by decide) (by decide) (by decide)]
  have hl9 : ∀ i j, (0 ≤ j ∧ j ≤ 1) → ¬ (i = h ∧ j = 1) → hlen S' i j = hlen S i j := fun i j hj z => by
    unfold hlen
    have h1 : j = 0 ∨ j = 1 := by omega
    rcases h1 with h1 | h1 <;> subst h1
    · show S' 19 i = S 19 i
      rw [s0 19 (by decide) (by decide) (by decide)]
    · show S' 23 i = S 23 i
      exact sn i (fun y => z ⟨y, rfl⟩)
  have el9 : ∀ i j, (0 ≤ j ∧ j ≤ 1) → ¬ (i = h ∧ j = 1) → elB ad' i j = elB ad i j := fun i j hj z => by
    unfold elB
    funext q
    have h1 : j = 0 ∨ j = 1 := by omega
    rcases h1 with h1 | h1 <;> subst h1
    · exact a0 10 _ _ (by decide) (by decide)
    · exact a5 i q (fun y => z ⟨y.1, rfl⟩)
  have n14 : S' 14 0 = S 14 0 := by rw [s0 14 (by decide) (by decide) (by decide)]
  have hl1 : hlen S' h 1 = S 23 h + 1 := sl
  refine hC.extL (ad' := ad') hkp (rl := 8) (i := h) (j := 1) (n := S 23 h) (szA := szA) (fun r i j => r = 11 ∧ i = h ∧ j = S 23 h) (live8 h0 (by decide)) (fun z => live9 h0 (by decide) z) (a0 8 h 1 (by decide) (by decide)) a90 ?_ ?_ ?_ ?_ ?_ hk hsz hPs
  · rintro r i j - ⟨rfl, hi9, hj9⟩
    rw [hi9, hj9, a50]
    refine ⟨hv, ?_⟩
    show va_at g.1 vwCl (w9, .inr (5, woFs S' h (S 23 h))) H1
    have e1 : woFs S' h (S 23 h) = [.int (iI t), .int (iI w)] := by rw [← hS']; simp [woS, up]
    rw [e1]
    exact hV
  · rintro r i j r' i' j' - ⟨rfl, rfl, rfl⟩ - ⟨rfl, rfl, rfl⟩ -
    exact ⟨rfl, rfl, rfl⟩
  · intro r i j hl t1 t2 t3
    rcases hl with ⟨q | q | q, a, b⟩ | ⟨q, a, b⟩ | ⟨q, a, b, d9⟩ | ⟨q, a, b⟩ | ⟨q, a, b⟩ | ⟨q, a, b⟩ | ⟨q, a, b⟩ | ⟨q, a, b, d9⟩ | ⟨q, a, b⟩ | ⟨q, a, b⟩ <;> subst q
    · refine ⟨Or.inl ⟨Or.inl rfl, a, b⟩, a0 _ _ _ (by decide) (by decide), ?_⟩
      show (Sum.inr (6, cFs ad' S') : va_E) = Sum.inr (6, cFs ad S)
      rw [fs0 (fun r i j hr => a0 r i j (by omega) (by omega)) (fun k hk => s0 k (by omega) (by omega) (by omega))]
    · refine ⟨Or.inl ⟨Or.inr (Or.inl rfl), a, b⟩, a0 _ _ _ (by decide) (by decide), ?_⟩
      show (Sum.inl (g.2.1, 20, .inl (fun q => iI (S' 1 (q : Int)))) : va_E) = Sum.inl (g.2.1, 20, .inl (fun q => iI (S 1 (q : Int))))
      rw [s0 1 (by decide) (by decide) (by decide)]
    · exact ⟨Or.inl ⟨Or.inr (Or.inr rfl), a, b⟩, a0 _ _ _ (by decide) (by decide), rfl⟩
    · subst b
      refine ⟨live3 S a, a0 _ _ _ (by decide) (by decide), ?_⟩
      show lstE x.2.1 (ad' 4 i 0) (clen S' i) = lstE x.2.1 (ad 4 i 0) (clen S i)
      rw [a0 4 _ _ (by decide) (by decide), c0]
    · subst b
      rw [c0] at d9
      refine ⟨live4 a d9, a0 _ _ _ (by decide) (by decide), ?_⟩
      show arrE g (clen S' i) (elA ad' i) = arrE g (clen S i) (elA ad i)
      have e9 : elA ad' i = elA ad i := by funext q; unfold elA; rw [a0 5 _ _ (by decide) (by decide), a0 6 _ _ (by decide) (by decide), a0 7 _ _ (by decide) (by decide)]
      rw [c0, e9]
    · subst b
      rw [s0 2 (by decide) (by decide) (by decide)] at a
      refine ⟨live5 a, a0 _ _ _ (by decide) (by decide), ?_⟩
      show (Sum.inr (3, lawFs (S' 3 i) (S' 4 i) (S' 5 i) (S' 6 i) (S' 7 i)) : va_E) = Sum.inr (3, lawFs (S 3 i) (S 4 i) (S 5 i) (S 6 i) (S 7 i))
      rw [s0 3 (by decide) (by decide) (by decide), s0 4 (by decide) (by decide) (by decide), s0 5 (by decide) (by decide) (by decide), s0 6 (by decide) (by decide) (by decide), s0 7 (by decide) (by decide) (by decide)]
    · subst b
      rw [s0 10 (by decide) (by decide) (by decide)] at a
      refine ⟨live6 a, a0 _ _ _ (by decide) (by decide), ?_⟩
      show (Sum.inr (4, objFs S' i) : va_E) = Sum.inr (4, objFs S i)
      unfold objFs
      rw [s0 11 (by decide) (by decide) (by decide), s0 12 (by decide) (by decide) (by decide), s0 13 (by decide) (by decide) (by decide)]
    · subst b
      rw [n14] at a
      refine ⟨live7 a, a0 _ _ _ (by decide) (by decide), ?_⟩
      show (Sum.inr (2, hFs ad' S' i) : va_E) = Sum.inr (2, hFs ad S i)
      unfold hFs
      rw [a0 8 _ _ (by decide) (by decide), a0 8 _ _ (by decide) (by decide), s0 15 (by decide) (by decide) (by decide), s0 16 (by decide) (by decide) (by decide), s0 17 (by decide) (by decide) (by decide), s0 18 (by decide) (by decide) (by decide), s0 26 (by decide) (by decide) (by decide)]
    · rw [n14] at a
      have hi : ¬ (i = h ∧ j = 1) := fun z => t1 ⟨rfl, z⟩
      refine ⟨live8 a b, a0 _ _ _ (by decide) (by decide), ?_⟩
      show lstE x.2.1 (ad' 9 i j) (hlen S' i j) = lstE x.2.1 (ad 9 i j) (hlen S i j)
      rw [a9 _ _ hi, hl9 _ _ b hi]
    · rw [n14] at a
      have hi : ¬ (i = h ∧ j = 1) := fun z => t2 ⟨rfl, z⟩
      rw [hl9 _ _ b hi] at d9
      refine ⟨live9 a b d9, a9 _ _ hi, ?_⟩
      show arrE g (hlen S' i j) (elB ad' i j) = arrE g (hlen S i j) (elB ad i j)
      rw [hl9 _ _ b hi, el9 _ _ b hi]
    · rw [n14] at a
      rw [s0 19 (by decide) (by decide) (by decide)] at b
      refine ⟨live10 a b, a0 _ _ _ (by decide) (by decide), ?_⟩
      show (Sum.inr (1, evFs S' i j) : va_E) = Sum.inr (1, evFs S i j)
      unfold evFs
      rw [s0 20 (by decide) (by decide) (by decide), s0 21 (by decide) (by decide) (by decide), s0 22 (by decide) (by decide) (by decide), s0 40 (by decide) (by decide) (by decide)]
    · rw [n14] at a
      have hi : ¬ (i = h ∧ j = S 23 h) := fun z => t3 ⟨rfl, z⟩
      have hj : j < S 23 i := by
        have b2 := b.2
        by_cases z : i = h
        · subst z
          rw [sl] at b2
          have : j ≠ S 23 i := fun y => hi ⟨rfl, y⟩
          omega
        · rw [sn i z] at b2; exact b2
      have h9 := hB2 i a.1 a.2
      have hz : 8 * i + j ≠ 8 * h + S 23 h := fun z => hi ⟨by omega, by omega⟩
      refine ⟨live11 a ⟨b.1, hj⟩, a5 _ _ hi, ?_⟩
      show (Sum.inr (5, woFs S' i j) : va_E) = Sum.inr (5, woFs S i j)
      unfold woFs
      rw [sz 24 _ (by decide) hz, sz 25 _ (by decide) hz]
  · show va_at g.1 vwCl (ad 8 h 1, lstE x.2.1 (ad' 9 h 1) (hlen S' h 1)) H1
    rw [a90, hl1]
    exact hQ.1
  · show va_at g.1 vwCl (nbA (ad 9 h 1) szA (S 23 h), arrE g (hlen S' h 1) (elB ad' h 1)) H1
    have e9 : elB ad' h 1 = fun q => if q = S 23 h then w9 else ad 11 h q := by
      funext q
      show ad' 11 h q = _
      by_cases z : q = S 23 h
      · rw [if_pos z, z, a50]
      · rw [if_neg z, a5 _ _ (fun y => z y.2)]
    rw [hl1, e9]
    exact hQ.2

theorem RepC.addHouse {px py k t w : Int} {a9 q1 q2 q3 q4 szA : Nat} (hI : Inv S) (hC : RepC g x.2.1 P ad S H0) (hkp : KP H0 H)
    (hVa : va_at g.1 vwCl (a9, .inr (2, [.int (iI px), .int (iI py), .int (iI k), .int (iI t), .ref q1, .ref q2, .int (iI 0)])) H1) (hV1 : va_at g.1 vwCl (q1, .inr (0, [.int (iI 0), .ref x.2.1, .int (iI 0)])) H1) (hV2 : va_at g.1 vwCl (q2, .inr (0, [.int (iI 1), .ref q4, .int (iI 1)])) H1) (hV3 : va_at g.1 vwCl (q3, .inr (5, [.int (iI t), .int (iI w)])) H1) (hV4 : va_at g.1 vwCl (q4, arrE g 1 (fun _ => q3)) H1)
    (hv : H0.size ≤ a9 ∧ a9 < q1 ∧ q1 < q2 ∧ q2 < q3 ∧ q3 < q4 ∧ q4 < szA) (hQ : ADQ g x (ad 3 2 0) (ad 4 2 0) szA a9 (S 14 0) (fun q => ad 7 q 0) H1) (hk : ∀ q : Nat, q < H.size → ¬ ADA (ad 3 2 0) (ad 4 2 0) szA (S 14 0) q → H1[q]? = H[q]?) (hsz : H.size = szA) (hPs : ∀ q, H0.size ≤ q → P q) : ∃ ad', ad' 0 0 0 = ad 0 0 0 ∧ RepC g x.2.1 P ad' (newHouse S px py k w t) H1 := by
  have hNu := hI.nums
  have hout := hI.out (h := S 14 0) (Int.le_refl _)
  refine ⟨fun r i j => if i = S 14 0 ∧ (r = 7 ∨ r = 8 ∨ r = 9 ∨ r = 11) then (if r = 7 then a9 else if r = 8 then (if j = 0 then q1 else q2) else if r = 9 then q4 else q3) else if r = 4 ∧ i = 2 ∧ j = 0 then nbA (ad 4 2 0) szA (S 14 0) else ad r i j, if_neg (fun z => by omega), ?_⟩
  generalize hnad : (fun r i j => if i = S 14 0 ∧ (r = 7 ∨ r = 8 ∨ r = 9 ∨ r = 11) then (if r = 7 then a9 else if r = 8 then (if j = 0 then q1 else q2) else if r = 9 then q4 else q3) else if r = 4 ∧ i = 2 ∧ j = 0 then nbA (ad 4 2 0) szA (S 14 0) else ad r i j : AD) = ad'
  have a0 : ∀ r i j, r ≠ 4 → ¬ (i = S 14 0 ∧ (r = 7 ∨ r = 8 ∨ r = 9 ∨ r = 11)) → ad' r i j = ad r i j := fun r i j z1 z2 => by rw [← hnad]; simp [z1, z2]
  have a4 : ∀ i j, i ≠ 2 → ad' 4 i j = ad 4 i j := fun i j z => by rw [← hnad]; simp [z]
  have a40 : ad' 4 2 0 = nbA (ad 4 2 0) szA (S 14 0) := by rw [← hnad]; simp
  have b7 : ad' 7 (S 14 0) 0 = a9 := by rw [← hnad]; simp
  have b8 : ad' 8 (S 14 0) 0 = q1 := by rw [← hnad]; simp
  have b81 : ad' 8 (S 14 0) 1 = q2 := by rw [← hnad]; simp
  have b9 : ad' 9 (S 14 0) 1 = q4 := by rw [← hnad]; simp
  have b11 : ad' 11 (S 14 0) 0 = q3 := by rw [← hnad]; simp
  generalize hS' : newHouse S px py k w t = S'
  have s0 : ∀ q : Nat, q ≠ 14 → q ≠ 15 → q ≠ 16 → q ≠ 17 → q ≠ 18 → q ≠ 23 → q ≠ 24 → q ≠ 25 → S' q = S q := fun q z14 z15 z16 z17 z18 z23 z24 z25 => by rw [← hS']; funext z; simp [newHouse, up, z14, z15, z16, z17, z18, z23, z24, z25]
  have sz : ∀ (q : Nat) (z : Int), q ≠ 14 → q ≠ 24 → q ≠ 25 → z ≠ S 14 0 → S' q z = S q z := fun q z h1 h3 h4 h2 => by rw [← hS']; simp [newHouse, up, h1, h2, h3, h4]
  have sw : ∀ (q : Nat) (z : Int), (q = 24 ∨ q = 25) → z ≠ 8 * S 14 0 → S' q z = S q z := fun q z h1 h2 => by rw [← hS']; rcases h1 with h1 | h1 <;> subst h1 <;> simp [newHouse, up, h2]
  have sl : S' 14 0 = S 14 0 + 1 := by rw [← hS']; simp [newHouse, up]
  have e15 : S' 15 (S 14 0) = px ∧ S' 16 (S 14 0) = py ∧ S' 17 (S 14 0) = k ∧ S' 18 (S 14 0) = t ∧ S' 23 (S 14 0) = 1 ∧ S' 24 (8 * S 14 0 + 0) = t ∧ S' 25 (8 * S 14 0 + 0) = w := by rw [← hS']; simp [newHouse, up]
  have e19 : S' 19 (S 14 0) = 0 ∧ S' 26 (S 14 0) = 0 := by rw [s0 19 (by decide) (by decide) (by decide) (by decide) (by decide) (by decide) (by decide) (by decide), s0 26 (by decide) (by decide) (by decide) (by decide) (by decide) (by decide) (by decide) (by decide)]; exact hout
  have c0 : ∀ i, i ≠ 2 → 0 ≤ i ∧ i ≤ 2 → clen S' i = clen S i := fun i z zz => by
    have h1 : i = 0 ∨ i = 1 := by omega
    rcases h1 with h1 | h1 <;> subst h1
    · show S' 2 0 = S 2 0
      rw [s0 2 (by decide) (by decide) (by decide) (by decide) (by decide) (by decide) (by decide) (by decide)]
    · show S' 10 0 = S 10 0
      rw [s0 10 (by decide) (by decide) (by decide) (by decide) (by decide) (by decide) (by decide) (by decide)]
  have ck : clen S' 2 = S 14 0 + 1 := sl
  have hl9 : ∀ i j, (0 ≤ j ∧ j ≤ 1) → i ≠ S 14 0 → hlen S' i j = hlen S i j := fun i j hj z => by
    have h1 : j = 0 ∨ j = 1 := by omega
    rcases h1 with h1 | h1 <;> subst h1
    · show S' 19 i = S 19 i
      rw [s0 19 (by decide) (by decide) (by decide) (by decide) (by decide) (by decide) (by decide) (by decide)]
    · exact sz 23 i (by decide) (by decide) (by decide) z
  have hl0 : hlen S' (S 14 0) 0 = 0 := e19.1
  have hl1 : hlen S' (S 14 0) 1 = 1 := e15.2.2.2.2.1
  refine hC.extL (ad' := ad') hkp (rl := 3) (i := 2) (j := 0) (n := S 14 0) (szA := szA) (fun r i j => i = S 14 0 ∧ (r = 7 ∨ r = 8 ∨ r = 9 ∨ r = 11)) (live3 S (by decide)) (fun z => live4 (by decide) z) (a0 3 2 0 (by decide) (by omega)) a40 ?_ ?_ ?_ ?_ ?_ hk hsz hPs
  · rintro r i j hl ⟨hi, hr⟩
    subst i
    rcases hl with ⟨q | q | q, a, b⟩ | ⟨q, a, b⟩ | ⟨q, a, b, d9⟩ | ⟨q, a, b⟩ | ⟨q, a, b⟩ | ⟨q, a, b⟩ | ⟨q, a, b⟩ | ⟨q, a, b, d9⟩ | ⟨q, a, b⟩ | ⟨q, a, b⟩ <;> subst q
    all_goals first | (exfalso; omega) | skip
    · subst b
      rw [b7]
      refine ⟨by omega, ?_⟩
      show va_at g.1 vwCl (a9, .inr (2, hFs ad' S' (S 14 0))) H1
      unfold hFs
      rw [b8, b81, e15.1, e15.2.1, e15.2.2.1, e15.2.2.2.1, e19.2]
      exact hVa
    · have h1 : j = 0 ∨ j = 1 := by omega
      rcases h1 with h1 | h1 <;> subst h1
      · rw [b8]
        refine ⟨by omega, ?_⟩
        show va_at g.1 vwCl (q1, lstE x.2.1 (ad' 9 (S 14 0) 0) (hlen S' (S 14 0) 0)) H1
        rw [hl0]
        exact hV1
      · rw [b81]
        refine ⟨by omega, ?_⟩
        show va_at g.1 vwCl (q2, lstE x.2.1 (ad' 9 (S 14 0) 1) (hlen S' (S 14 0) 1)) H1
        rw [hl1, b9]
        exact hV2
    · have h1 : j = 1 := by
        have h2 : j = 0 ∨ j = 1 := by omega
        rcases h2 with h2 | h2
        · subst h2
          rw [hl0] at d9
          omega
        · exact h2
      subst h1
      rw [b9]
      refine ⟨by omega, ?_⟩
      show va_at g.1 vwCl (q4, arrE g (hlen S' (S 14 0) 1) (elB ad' (S 14 0) 1)) H1
      rw [hl1]
      have e9 : arrF 1 (elB ad' (S 14 0) 1) = arrF 1 (fun _ => q3) := arrF_congr (fun i z0 z1 => by
        have z2 : i = 0 := by omega
        subst z2
        exact b11)
      show va_at g.1 vwCl (q4, .inl (g.2.2.2.2, capN 1, .inr (.inr (.inr (.inr (arrF 1 (elB ad' (S 14 0) 1))))))) H1
      rw [e9]
      exact hV4
    · have h1 : j = 0 := by
        have b2 := b.2
        rw [e15.2.2.2.2.1] at b2
        omega
      subst h1
      rw [b11]
      refine ⟨by omega, ?_⟩
      show va_at g.1 vwCl (q3, .inr (5, woFs S' (S 14 0) 0)) H1
      unfold woFs
      rw [e15.2.2.2.2.2.1, e15.2.2.2.2.2.2]
      exact hV3
  · have key : ∀ r i j, live S' r i j → (i = S 14 0 ∧ (r = 7 ∨ r = 8 ∨ r = 9 ∨ r = 11)) → (r = 7 ∧ i = S 14 0 ∧ j = 0 ∧ ad' r i j = a9) ∨ (r = 8 ∧ i = S 14 0 ∧ j = 0 ∧ ad' r i j = q1) ∨ (r = 8 ∧ i = S 14 0 ∧ j = 1 ∧ ad' r i j = q2) ∨ (r = 9 ∧ i = S 14 0 ∧ j = 1 ∧ ad' r i j = q4) ∨ (r = 11 ∧ i = S 14 0 ∧ j = 0 ∧ ad' r i j = q3) := by
      rintro r i j hl ⟨hi, hr⟩
      subst i
      rcases hl with ⟨q | q | q, a, b⟩ | ⟨q, a, b⟩ | ⟨q, a, b, d9⟩ | ⟨q, a, b⟩ | ⟨q, a, b⟩ | ⟨q, a, b⟩ | ⟨q, a, b⟩ | ⟨q, a, b, d9⟩ | ⟨q, a, b⟩ | ⟨q, a, b⟩ <;> subst q
      all_goals first | (exfalso; omega) | skip
      · subst b
        exact Or.inl ⟨rfl, rfl, rfl, b7⟩
      · have h1 : j = 0 ∨ j = 1 := by omega
        rcases h1 with h1 | h1 <;> subst h1
        · exact Or.inr (Or.inl ⟨rfl, rfl, rfl, b8⟩)
        · exact Or.inr (Or.inr (Or.inl ⟨rfl, rfl, rfl, b81⟩))
      · have h2 : j = 0 ∨ j = 1 := by omega
        rcases h2 with h2 | h2 <;> subst h2
        · rw [hl0] at d9
          omega
        · exact Or.inr (Or.inr (Or.inr (Or.inl ⟨rfl, rfl, rfl, b9⟩)))
      · have b2 := b.2
        rw [e15.2.2.2.2.1] at b2
        have h1 : j = 0 := by omega
        subst h1
        exact Or.inr (Or.inr (Or.inr (Or.inr ⟨rfl, rfl, rfl, b11⟩)))
    intro r i j r' i' j' hl hn hl' hn' e
    have k1 := key _ _ _ hl hn
    have k2 := key _ _ _ hl' hn'
    omega
  · intro r i j hl t1 t2 t3
    rcases hl with ⟨q | q | q, a, b⟩ | ⟨q, a, b⟩ | ⟨q, a, b, d9⟩ | ⟨q, a, b⟩ | ⟨q, a, b⟩ | ⟨q, a, b⟩ | ⟨q, a, b⟩ | ⟨q, a, b, d9⟩ | ⟨q, a, b⟩ | ⟨q, a, b⟩ <;> subst q
    · refine ⟨Or.inl ⟨Or.inl rfl, a, b⟩, a0 _ _ _ (by decide) (by omega), ?_⟩
      show (Sum.inr (6, cFs ad' S') : va_E) = Sum.inr (6, cFs ad S)
      rw [fs0 (fun r i j hr => a0 r i j (by omega) (by omega)) (fun k hk => s0 k (by omega) (by omega) (by omega) (by omega) (by omega) (by omega) (by omega) (by omega))]
    · refine ⟨Or.inl ⟨Or.inr (Or.inl rfl), a, b⟩, a0 _ _ _ (by decide) (by omega), ?_⟩
      show (Sum.inl (g.2.1, 20, .inl (fun q => iI (S' 1 (q : Int)))) : va_E) = Sum.inl (g.2.1, 20, .inl (fun q => iI (S 1 (q : Int))))
      rw [s0 1 (by decide) (by decide) (by decide) (by decide) (by decide) (by decide) (by decide) (by decide)]
    · exact ⟨Or.inl ⟨Or.inr (Or.inr rfl), a, b⟩, a0 _ _ _ (by decide) (by omega), rfl⟩
    · subst b
      have hi : i ≠ 2 := fun z => t1 ⟨rfl, z, rfl⟩
      refine ⟨live3 S a, a0 _ _ _ (by decide) (by omega), ?_⟩
      show lstE x.2.1 (ad' 4 i 0) (clen S' i) = lstE x.2.1 (ad 4 i 0) (clen S i)
      rw [a4 _ _ hi, c0 _ hi a]
    · subst b
      have hi : i ≠ 2 := fun z => t2 ⟨rfl, z, rfl⟩
      rw [c0 _ hi a] at d9
      refine ⟨live4 a d9, a4 _ _ hi, ?_⟩
      show arrE g (clen S' i) (elA ad' i) = arrE g (clen S i) (elA ad i)
      have e9 : elA ad' i = elA ad i := by
        have h1 : i = 0 ∨ i = 1 := by omega
        funext q
        rcases h1 with h1 | h1 <;> subst h1
        · exact a0 5 _ _ (by decide) (by omega)
        · exact a0 6 _ _ (by decide) (by omega)
      rw [c0 _ hi a, e9]
    · subst b
      rw [s0 2 (by decide) (by decide) (by decide) (by decide) (by decide) (by decide) (by decide) (by decide)] at a
      refine ⟨live5 a, a0 _ _ _ (by decide) (by omega), ?_⟩
      show (Sum.inr (3, lawFs (S' 3 i) (S' 4 i) (S' 5 i) (S' 6 i) (S' 7 i)) : va_E) = Sum.inr (3, lawFs (S 3 i) (S 4 i) (S 5 i) (S 6 i) (S 7 i))
      rw [s0 3 (by decide) (by decide) (by decide) (by decide) (by decide) (by decide) (by decide) (by decide), s0 4 (by decide) (by decide) (by decide) (by decide) (by decide) (by decide) (by decide) (by decide), s0 5 (by decide) (by decide) (by decide) (by decide) (by decide) (by decide) (by decide) (by decide), s0 6 (by decide) (by decide) (by decide) (by decide) (by decide) (by decide) (by decide) (by decide), s0 7 (by decide) (by decide) (by decide) (by decide) (by decide) (by decide) (by decide) (by decide)]
    · subst b
      rw [s0 10 (by decide) (by decide) (by decide) (by decide) (by decide) (by decide) (by decide) (by decide)] at a
      refine ⟨live6 a, a0 _ _ _ (by decide) (by omega), ?_⟩
      show (Sum.inr (4, objFs S' i) : va_E) = Sum.inr (4, objFs S i)
      unfold objFs
      rw [s0 11 (by decide) (by decide) (by decide) (by decide) (by decide) (by decide) (by decide) (by decide), s0 12 (by decide) (by decide) (by decide) (by decide) (by decide) (by decide) (by decide) (by decide), s0 13 (by decide) (by decide) (by decide) (by decide) (by decide) (by decide) (by decide) (by decide)]
    · subst b
      have hi : i ≠ S 14 0 := fun z => t3 ⟨z, by decide⟩
      rw [sl] at a
      refine ⟨live7 ⟨a.1, by omega⟩, a0 _ _ _ (by decide) (by omega), ?_⟩
      show (Sum.inr (2, hFs ad' S' i) : va_E) = Sum.inr (2, hFs ad S i)
      unfold hFs
      rw [a0 8 _ _ (by decide) (by omega), a0 8 _ _ (by decide) (by omega), sz 15 _ (by decide) (by decide) (by decide) hi, sz 16 _ (by decide) (by decide) (by decide) hi, sz 17 _ (by decide) (by decide) (by decide) hi, sz 18 _ (by decide) (by decide) (by decide) hi, s0 26 (by decide) (by decide) (by decide) (by decide) (by decide) (by decide) (by decide) (by decide)]
    · have hi : i ≠ S 14 0 := fun z => t3 ⟨z, by decide⟩
      rw [sl] at a
      refine ⟨live8 ⟨a.1, by omega⟩ b, a0 _ _ _ (by decide) (by omega), ?_⟩
      show lstE x.2.1 (ad' 9 i j) (hlen S' i j) = lstE x.2.1 (ad 9 i j) (hlen S i j)
      rw [a0 9 _ _ (by decide) (by omega), hl9 _ _ b hi]
    · have hi : i ≠ S 14 0 := fun z => t3 ⟨z, by decide⟩
      rw [sl] at a
      rw [hl9 _ _ b hi] at d9
      refine ⟨live9 ⟨a.1, by omega⟩ b d9, a0 _ _ _ (by decide) (by omega), ?_⟩
      show arrE g (hlen S' i j) (elB ad' i j) = arrE g (hlen S i j) (elB ad i j)
      have e9 : elB ad' i j = elB ad i j := by funext q; unfold elB; rw [a0 10 _ _ (by decide) (by omega), a0 11 _ _ (by decide) (by omega)]
      rw [hl9 _ _ b hi, e9]
    · rw [s0 19 (by decide) (by decide) (by decide) (by decide) (by decide) (by decide) (by decide) (by decide)] at b
      rw [sl] at a
      have hi : i ≠ S 14 0 := fun z => by
        subst z
        rw [hout.1] at b
        omega
      refine ⟨live10 ⟨a.1, by omega⟩ b, a0 _ _ _ (by decide) (by omega), ?_⟩
      show (Sum.inr (1, evFs S' i j) : va_E) = Sum.inr (1, evFs S i j)
      unfold evFs
      rw [s0 20 (by decide) (by decide) (by decide) (by decide) (by decide) (by decide) (by decide) (by decide), s0 21 (by decide) (by decide) (by decide) (by decide) (by decide) (by decide) (by decide) (by decide), s0 22 (by decide) (by decide) (by decide) (by decide) (by decide) (by decide) (by decide) (by decide), s0 40 (by decide) (by decide) (by decide) (by decide) (by decide) (by decide) (by decide) (by decide)]
    · have hi : i ≠ S 14 0 := fun z => t3 ⟨z, by decide⟩
      rw [sz 23 _ (by decide) (by decide) (by decide) hi] at b
      rw [sl] at a
      have hH := hI.house (h := i) a.1 (by omega)
      have hz : 8 * i + j ≠ 8 * S 14 0 := by omega
      refine ⟨live11 ⟨a.1, by omega⟩ b, a0 _ _ _ (by decide) (by omega), ?_⟩
      show (Sum.inr (5, woFs S' i j) : va_E) = Sum.inr (5, woFs S i j)
      unfold woFs
      rw [sw 24 _ (by decide) hz, sw 25 _ (by decide) hz]
  · show va_at g.1 vwCl (ad 3 2 0, lstE x.2.1 (ad' 4 2 0) (clen S' 2)) H1
    rw [a40, ck]
    exact hQ.1
  · show va_at g.1 vwCl (nbA (ad 4 2 0) szA (S 14 0), arrE g (clen S' 2) (elA ad' 2)) H1
    have e9 : elA ad' 2 = fun q => if q = S 14 0 then a9 else ad 7 q 0 := by
      funext q
      show ad' 7 q 0 = _
      by_cases z : q = S 14 0
      · rw [if_pos z, z, b7]
      · rw [if_neg z, a0 7 _ _ (by decide) (by omega)]
    rw [ck, e9]
    exact hQ.2
end RC4
