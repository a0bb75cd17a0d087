/-! a list that grows: the state behind it -/
theorem fs0 {ad ad' : AD} {S S' : St} (ha : ∀ r i j, r ≤ 3 → ad' r i j = ad r i j) (hs : ∀ k, k = 0 ∨ k = 8 ∨ k = 9 ∨ k = 27 ∨ k = 28 ∨ k = 29 → S' k = S k) : cFs ad' S' = cFs ad S := by
  unfold cFs
  rw [ha 3 0 0 (by decide), ha 3 1 0 (by decide), ha 3 2 0 (by decide), ha 1 0 0 (by decide), ha 2 0 0 (by decide), hs 0 (by decide), hs 8 (by decide), hs 9 (by decide), hs 27 (by decide), hs 28 (by decide), hs 29 (by decide)]
section RC3
variable {g : GG} {x : XX} {P : Nat → Prop} {ad : AD} {S : St} {H H0 H1 : Heap}
abbrev lawS (S : St) (d k w f t : Int) : St := up (up (up (up (up (up S 3 (S 2 0) d) 4 (S 2 0) k) 5 (S 2 0) w) 6 (S 2 0) f) 7 (S 2 0) t) 2 0 (S 2 0 + 1)
theorem RepC.addLaw {d k w f t : Int} {v szA : Nat} (hC : RepC g x.2.1 P ad S H0) (hB : 0 ≤ S 2 0) (hkp : KP H0 H) (hV : va_at g.1 vwCl (v, .inr (3, lawFs d k w f t)) H1) (hv : H0.size ≤ v ∧ v < szA) (hQ : ADQ g x (ad 3 0 0) (ad 4 0 0) szA v (S 2 0) (fun q => ad 5 q 0) H1) (hk : ∀ q : Nat, q < H.size → ¬ ADA (ad 3 0 0) (ad 4 0 0) szA (S 2 0) q → H1[q]? = H[q]?) (hsz : H.size = szA) (hPs : ∀ q, H0.size ≤ q → P q) : ∃ ad', ad' 0 0 0 = ad 0 0 0 ∧ RepC g x.2.1 P ad' (lawS S d k w f t) H1 := by
  refine ⟨fun r i j => if r = 4 ∧ i = 0 ∧ j = 0 then nbA (ad 4 0 0) szA (S 2 0) else if r = 5 ∧ i = (S 2 0) ∧ j = 0 then v else ad r i j, rfl, ?_⟩
  generalize hnad : (fun r i j => if r = 4 ∧ i = 0 ∧ j = 0 then nbA (ad 4 0 0) szA (S 2 0) else if r = 5 ∧ i = (S 2 0) ∧ j = 0 then v else ad r i j : AD) = ad'
  have a0 : ∀ r i j, r ≠ 4 → r ≠ 5 → ad' r i j = ad r i j := fun r i j z1 z2 => by rw [← hnad]; simp [z1, z2]
  have a4 : ∀ i j, i ≠ 0 → ad' 4 i j = ad 4 i j := fun i j z => by rw [← hnad]; simp [z]
  have a40 : ad' 4 0 0 = nbA (ad 4 0 0) szA (S 2 0) := by rw [← hnad]; simp
  have a5 : ∀ i j, i ≠ (S 2 0) → ad' 5 i j = ad 5 i j := fun i j z => by rw [← hnad]; simp [z]
  have a50 : ad' 5 (S 2 0) 0 = v := by rw [← hnad]; simp
  generalize hS' : lawS S d k w f t = S'
  have s0 : ∀ q : Nat, q ≠ 3 → q ≠ 4 → q ≠ 5 → q ≠ 6 → q ≠ 7 → q ≠ 2 → S' q = S q := fun q z3 z4 z5 z6 z7 z2 => by rw [← hS']; funext z; simp [lawS, up, z3, z4, z5, z6, z7, z2]
  have sz : ∀ (q : Nat) (z : Int), q ≠ 2 → z ≠ (S 2 0) → S' q z = S q z := fun q z h1 h2 => by rw [← hS']; simp [lawS, up, h1, h2]
  have sl : S' 2 0 = (S 2 0) + 1 := by rw [← hS']; simp [lawS, up]
  have c0 : ∀ i, i ≠ 0 → 0 ≤ i ∧ i ≤ 2 → clen S' i = clen S i := fun i z zz => by
    unfold clen
    have h1 : i = 1 ∨ i = 2 := by omega
    rw [if_neg z, if_neg z, s0 10 (by decide) (by decide) (by decide) (by decide) (by decide) (by decide), s0 14 (by decide) (by decide) (by decide) (by decide) (by decide) (by decide)]
  have ck : clen S' 0 = (S 2 0) + 1 := sl
  have hh : hlen S' = hlen S := by funext a b; unfold hlen; rw [s0 19 (by decide) (by decide) (by decide) (by decide) (by decide) (by decide), s0 23 (by decide) (by decide) (by decide) (by decide) (by decide) (by decide)]
  have el4 : ∀ i, i ≠ 0 → 0 ≤ i ∧ i ≤ 2 → elA ad' i = elA ad i := fun i z zz => by
    unfold elA
    funext q
    rw [if_neg z, if_neg z, a0 6 _ _ (by decide) (by decide), a0 7 _ _ (by decide) (by decide)]
  have n14 : ∀ i, i < S' 14 0 → i < S 14 0 := fun i h => by rw [s0 14 (by decide) (by decide) (by decide) (by decide) (by decide) (by decide)] at h; exact h
  refine hC.extL (ad' := ad') hkp (rl := 3) (i := 0) (j := 0) (n := (S 2 0)) (szA := szA) (fun r i j => r = 5 ∧ i = (S 2 0) ∧ j = 0) (live3 S (by decide)) (fun h => live4 (by decide) h) (a0 3 0 0 (by decide) (by decide)) a40 ?_ ?_ ?_ ?_ ?_ hk hsz hPs
  · rintro r i j - ⟨rfl, rfl, rfl⟩
    rw [a50]
    refine ⟨hv, ?_⟩
    show va_at g.1 vwCl (v, .inr (3, lawFs (S' 3 (S 2 0)) (S' 4 (S 2 0)) (S' 5 (S 2 0)) (S' 6 (S 2 0)) (S' 7 (S 2 0)))) H1
    have e1 : lawFs (S' 3 (S 2 0)) (S' 4 (S 2 0)) (S' 5 (S 2 0)) (S' 6 (S 2 0)) (S' 7 (S 2 0)) = lawFs d k w f t := by rw [← hS']; simp [lawS, up]
    rw [e1]
    exact hV
  · rintro r i j r' i' j' - ⟨rfl, rfl, rfl⟩ - ⟨rfl, rfl, rfl⟩ -
    exact ⟨rfl, rfl, rfl⟩
  · intro r i j hl t1 t2 t3
    rcases hl with ⟨q | q | q, a, b⟩ | ⟨q, a, b⟩ | ⟨q, a, b, d9⟩ | ⟨q, a, b⟩ | ⟨q, a, b⟩ | ⟨q, a, b⟩ | ⟨q, a, b⟩ | ⟨q, a, b, d9⟩ | ⟨q, a, b⟩ | ⟨q, a, b⟩ <;> subst q
    · refine ⟨Or.inl ⟨Or.inl rfl, a, b⟩, a0 _ _ _ (by decide) (by decide), ?_⟩
      show (Sum.inr (6, cFs ad' S') : va_E) = Sum.inr (6, cFs ad S)
      rw [fs0 (fun r i j hr => a0 r i j (by omega) (by omega)) (fun k hk => s0 k (by omega) (by omega) (by omega) (by omega) (by omega) (by omega))]
    · refine ⟨Or.inl ⟨Or.inr (Or.inl rfl), a, b⟩, a0 _ _ _ (by decide) (by decide), ?_⟩
      show (Sum.inl (g.2.1, 20, .inl (fun q => iI (S' 1 (q : Int)))) : va_E) = Sum.inl (g.2.1, 20, .inl (fun q => iI (S 1 (q : Int))))
      rw [s0 1 (by decide) (by decide) (by decide) (by decide) (by decide) (by decide)]
    · exact ⟨Or.inl ⟨Or.inr (Or.inr rfl), a, b⟩, a0 _ _ _ (by decide) (by decide), rfl⟩
    · subst b
      have hi : i ≠ 0 := fun z => t1 ⟨rfl, z, rfl⟩
      refine ⟨live3 S a, a0 _ _ _ (by decide) (by decide), ?_⟩
      show lstE x.2.1 (ad' 4 i 0) (clen S' i) = lstE x.2.1 (ad 4 i 0) (clen S i)
      rw [a4 _ _ hi, c0 _ hi a]
    · subst b
      have hi : i ≠ 0 := fun z => t2 ⟨rfl, z, rfl⟩
      rw [c0 _ hi a] at d9
      refine ⟨live4 a d9, a4 _ _ hi, ?_⟩
      show arrE g (clen S' i) (elA ad' i) = arrE g (clen S i) (elA ad i)
      rw [c0 _ hi a, el4 _ hi a]
    · subst b
      have hi : i ≠ (S 2 0) := fun z => t3 ⟨rfl, z, rfl⟩
      rw [sl] at a
      refine ⟨live5 ⟨a.1, by omega⟩, a5 _ _ hi, ?_⟩
      show (Sum.inr (3, lawFs (S' 3 i) (S' 4 i) (S' 5 i) (S' 6 i) (S' 7 i)) : va_E) = Sum.inr (3, lawFs (S 3 i) (S 4 i) (S 5 i) (S 6 i) (S 7 i))
      skip
      rw [sz 3 _ (by decide) hi, sz 4 _ (by decide) hi, sz 5 _ (by decide) hi, sz 6 _ (by decide) hi, sz 7 _ (by decide) hi]
    · subst b
      rw [s0 10 (by decide) (by decide) (by decide) (by decide) (by decide) (by decide)] at a
      refine ⟨live6 a, a0 _ _ _ (by decide) (by decide), ?_⟩
      show (Sum.inr (4, objFs S' i) : va_E) = Sum.inr (4, objFs S i)
      unfold objFs
      rw [s0 11 (by decide) (by decide) (by decide) (by decide) (by decide) (by decide), s0 12 (by decide) (by decide) (by decide) (by decide) (by decide) (by decide), s0 13 (by decide) (by decide) (by decide) (by decide) (by decide) (by decide)]
    · subst b
      refine ⟨live7 ⟨a.1, n14 _ a.2⟩, a0 _ _ _ (by decide) (by decide), ?_⟩
      show (Sum.inr (2, hFs ad' S' i) : va_E) = Sum.inr (2, hFs ad S i)
      unfold hFs
      rw [a0 8 _ _ (by decide) (by decide), a0 8 _ _ (by decide) (by decide), s0 15 (by decide) (by decide) (by decide) (by decide) (by decide) (by decide), s0 16 (by decide) (by decide) (by decide) (by decide) (by decide) (by decide), s0 17 (by decide) (by decide) (by decide) (by decide) (by decide) (by decide), s0 18 (by decide) (by decide) (by decide) (by decide) (by decide) (by decide), s0 26 (by decide) (by decide) (by decide) (by decide) (by decide) (by decide)]
    · refine ⟨live8 ⟨a.1, n14 _ a.2⟩ b, a0 _ _ _ (by decide) (by decide), ?_⟩
      show lstE x.2.1 (ad' 9 i j) (hlen S' i j) = lstE x.2.1 (ad 9 i j) (hlen S i j)
      rw [a0 9 _ _ (by decide) (by decide), hh]
    · rw [hh] at d9
      refine ⟨live9 ⟨a.1, n14 _ a.2⟩ b d9, a0 _ _ _ (by decide) (by decide), ?_⟩
      show arrE g (hlen S' i j) (elB ad' i j) = arrE g (hlen S i j) (elB ad i j)
      have e9 : elB ad' i j = elB ad i j := by funext q; unfold elB; rw [a0 10 _ _ (by decide) (by decide), a0 11 _ _ (by decide) (by decide)]
      rw [hh, e9]
    · rw [s0 19 (by decide) (by decide) (by decide) (by decide) (by decide) (by decide)] at b
      refine ⟨live10 ⟨a.1, n14 _ a.2⟩ b, a0 _ _ _ (by decide) (by decide), ?_⟩
      show (Sum.inr (1, evFs S' i j) : va_E) = Sum.inr (1, evFs S i j)
      unfold evFs
      rw [s0 20 (by decide) (by decide) (by decide) (by decide) (by decide) (by decide), s0 21 (by decide) (by decide) (by decide) (by decide) (by decide) (by decide), s0 22 (by decide) (by decide) (by decide) (by decide) (by decide) (by decide), s0 40 (by decide) (by decide) (by decide) (by decide) (by decide) (by decide)]
    · rw [s0 23 (by decide) (by decide) (by decide) (by decide) (by decide) (by decide)] at b
      refine ⟨live11 ⟨a.1, n14 _ a.2⟩ b, a0 _ _ _ (by decide) (by decide), ?_⟩
      show (Sum.inr (5, woFs S' i j) : va_E) = Sum.inr (5, woFs S i j)
      unfold woFs
      rw [s0 24 (by decide) (by decide) (by decide) (by decide) (by decide) (by decide), s0 25 (by decide) (by decide) (by decide) (by decide) (by decide) (by decide)]
  · show va_at g.1 vwCl (ad 3 0 0, lstE x.2.1 (ad' 4 0 0) (clen S' 0)) H1
    rw [a40, ck]
    exact hQ.1
  · show va_at g.1 vwCl (nbA (ad 4 0 0) szA (S 2 0), arrE g (clen S' 0) (elA ad' 0)) H1
    have e9 : elA ad' 0 = fun q => if q = (S 2 0) then v else ad 5 q 0 := by
      funext q
      show ad' 5 q 0 = _
      by_cases z : q = (S 2 0)
      · rw [if_pos z, z, a50]
      · rw [if_neg z, a5 _ _ z]
    rw [ck, e9]
    exact hQ.2
abbrev objS (S : St) (a1 a2 a3 : Int) : St := up (up (up (up S 11 (S 10 0) a1) 12 (S 10 0) a2) 13 (S 10 0) a3) 10 0 (S 10 0 + 1)
theorem RepC.addObj {a1 a2 a3 : Int} {v szA : Nat} (hC : RepC g x.2.1 P ad S H0) (hB : 0 ≤ S 10 0) (hkp : KP H0 H) (hV : va_at g.1 vwCl (v, .inr (4, [.int (iI a1), .int (iI a2), .int (iI a3)])) H1) (hv : H0.size ≤ v ∧ v < szA) (hQ : ADQ g x (ad 3 1 0) (ad 4 1 0) szA v (S 10 0) (fun q => ad 6 q 0) H1) (hk : ∀ q : Nat, q < H.size → ¬ ADA (ad 3 1 0) (ad 4 1 0) szA (S 10 0) q → H1[q]? = H[q]?) (hsz : H.size = szA) (hPs : ∀ q, H0.size ≤ q → P q) : ∃ ad', ad' 0 0 0 = ad 0 0 0 ∧ RepC g x.2.1 P ad' (objS S a1 a2 a3) H1 := by
  refine ⟨fun r i j => if r = 4 ∧ i = 1 ∧ j = 0 then nbA (ad 4 1 0) szA (S 10 0) else if r = 6 ∧ i = (S 10 0) ∧ j = 0 then v else ad r i j, rfl, ?_⟩
  generalize hnad : (fun r i j => if r = 4 ∧ i = 1 ∧ j = 0 then nbA (ad 4 1 0) szA (S 10 0) else if r = 6 ∧ i = (S 10 0) ∧ j = 0 then v else ad r i j : AD) = ad'
  have a0 : ∀ r i j, r ≠ 4 → r ≠ 6 → ad' r i j = ad r i j := fun r i j z1 z2 => by rw [← hnad]; simp [z1, z2]
  have a4 : ∀ i j, i ≠ 1 → ad' 4 i j = ad 4 i j := fun i j z => by rw [← hnad]; simp [z]
  have a40 : ad' 4 1 0 = nbA (ad 4 1 0) szA (S 10 0) := by rw [← hnad]; simp
  have a5 : ∀ i j, i ≠ (S 10 0) → ad' 6 i j = ad 6 i j := fun i j z => by rw [← hnad]; simp [z]
  have a50 : ad' 6 (S 10 0) 0 = v := by rw [← hnad]; simp
  generalize hS' : objS S a1 a2 a3 = S'
  have s0 : ∀ q : Nat, q ≠ 11 → q ≠ 12 → q ≠ 13 → q ≠ 10 → S' q = S q := fun q z11 z12 z13 z10 => by rw [← hS']; funext z; simp [objS, up, z11, z12, z13, z10]
  have sz : ∀ (q : Nat) (z : Int), q ≠ 10 → z ≠ (S 10 0) → S' q z = S q z := fun q z h1 h2 => by rw [← hS']; simp [objS, up, h1, h2]
  have sl : S' 10 0 = (S 10 0) + 1 := by rw [← hS']; simp [objS, up]
  have c0 : ∀ i, i ≠ 1 → 0 ≤ i ∧ i ≤ 2 → clen S' i = clen S i := fun i z zz => by
    unfold clen
    have h1 : i = 0 ∨ i = 2 := by omega
    rcases h1 with h1 | h1 <;> subst h1
    · show S' 2 0 = S 2 0
      rw [s0 2 (by decide) (by decide) (by decide) (by decide)]
    · show S' 14 0 = S 14 0
      rw [s0 14 (by decide) (by decide) (by decide) (by decide)]
  have ck : clen S' 1 = (S 10 0) + 1 := sl
  have hh : hlen S' = hlen S := by funext a b; unfold hlen; rw [s0 19 (by decide) (by decide) (by decide) (by decide), s0 23 (by decide) (by decide) (by decide) (by decide)]
  have el4 : ∀ i, i ≠ 1 → 0 ≤ i ∧ i ≤ 2 → elA ad' i = elA ad i := fun i z zz => by
    unfold elA
    funext q
    have h1 : i = 0 ∨ i = 2 := by omega
    rcases h1 with h1 | h1 <;> subst h1
    · exact a0 5 _ _ (by decide) (by decide)
    · exact a0 7 _ _ (by decide) (by decide)
  have n14 : ∀ i, i < S' 14 0 → i < S 14 0 := fun i h => by rw [s0 14 (by decide) (by decide) (by decide) (by decide)] at h; exact h
  refine hC.extL (ad' := ad') hkp (rl := 3) (i := 1) (j := 0) (n := (S 10 0)) (szA := szA) (fun r i j => r = 6 ∧ i = (S 10 0) ∧ j = 0) (live3 S (by decide)) (fun h => live4 (by decide) h) (a0 3 1 0 (by decide) (by decide)) a40 ?_ ?_ ?_ ?_ ?_ hk hsz hPs
  · rintro r i j - ⟨rfl, rfl, rfl⟩
    rw [a50]
    refine ⟨hv, ?_⟩
    show va_at g.1 vwCl (v, .inr (4, objFs S' (S 10 0))) H1
    have e1 : objFs S' (S 10 0) = [.int (iI a1), .int (iI a2), .int (iI a3)] := by rw [← hS']; simp [objS, up]
    rw [e1]
    exact hV
  · rintro r i j r' i' j' - ⟨rfl, rfl, rfl⟩ - ⟨rfl, rfl, rfl⟩ -
    exact ⟨rfl, rfl, rfl⟩
  · intro r i j hl t1 t2 t3
    rcases hl with ⟨q | q | q, a, b⟩ | ⟨q, a, b⟩ | ⟨q, a, b, d9⟩ | ⟨q, a, b⟩ | ⟨q, a, b⟩ | ⟨q, a, b⟩ | ⟨q, a, b⟩ | ⟨q, a, b, d9⟩ | ⟨q, a, b⟩ | ⟨q, a, b⟩ <;> subst q
    · refine ⟨Or.inl ⟨Or.inl rfl, a, b⟩, a0 _ _ _ (by decide) (by decide), ?_⟩
      show (Sum.inr (6, cFs ad' S') : va_E) = Sum.inr (6, cFs ad S)
      rw [fs0 (fun r i j hr => a0 r i j (by omega) (by omega)) (fun k hk => s0 k (by omega) (by omega) (by omega) (by omega))]
    · refine ⟨Or.inl ⟨Or.inr (Or.inl rfl), a, b⟩, a0 _ _ _ (by decide) (by decide), ?_⟩
      show (Sum.inl (g.2.1, 20, .inl (fun q => iI (S' 1 (q : Int)))) : va_E) = Sum.inl (g.2.1, 20, .inl (fun q => iI (S 1 (q : Int))))
      rw [s0 1 (by decide) (by decide) (by decide) (by decide)]
    · exact ⟨Or.inl ⟨Or.inr (Or.inr rfl), a, b⟩, a0 _ _ _ (by decide) (by decide), rfl⟩
    · subst b
      have hi : i ≠ 1 := fun z => t1 ⟨rfl, z, rfl⟩
      refine ⟨live3 S a, a0 _ _ _ (by decide) (by decide), ?_⟩
      show lstE x.2.1 (ad' 4 i 0) (clen S' i) = lstE x.2.1 (ad 4 i 0) (clen S i)
      rw [a4 _ _ hi, c0 _ hi a]
    · subst b
      have hi : i ≠ 1 := fun z => t2 ⟨rfl, z, rfl⟩
      rw [c0 _ hi a] at d9
      refine ⟨live4 a d9, a4 _ _ hi, ?_⟩
      show arrE g (clen S' i) (elA ad' i) = arrE g (clen S i) (elA ad i)
      rw [c0 _ hi a, el4 _ hi a]
    · subst b
      rw [s0 2 (by decide) (by decide) (by decide) (by decide)] at a
      refine ⟨live5 a, a0 _ _ _ (by decide) (by decide), ?_⟩
      show (Sum.inr (3, lawFs (S' 3 i) (S' 4 i) (S' 5 i) (S' 6 i) (S' 7 i)) : va_E) = Sum.inr (3, lawFs (S 3 i) (S 4 i) (S 5 i) (S 6 i) (S 7 i))
      skip
      rw [s0 3 (by decide) (by decide) (by decide) (by decide), s0 4 (by decide) (by decide) (by decide) (by decide), s0 5 (by decide) (by decide) (by decide) (by decide), s0 6 (by decide) (by decide) (by decide) (by decide), s0 7 (by decide) (by decide) (by decide) (by decide)]
    · subst b
      have hi : i ≠ (S 10 0) := fun z => t3 ⟨rfl, z, rfl⟩
      rw [sl] at a
      refine ⟨live6 ⟨a.1, by omega⟩, a5 _ _ hi, ?_⟩
      show (Sum.inr (4, objFs S' i) : va_E) = Sum.inr (4, objFs S i)
      unfold objFs
      rw [sz 11 _ (by decide) hi, sz 12 _ (by decide) hi, sz 13 _ (by decide) hi]
    · subst b
      refine ⟨live7 ⟨a.1, n14 _ a.2⟩, a0 _ _ _ (by decide) (by decide), ?_⟩
      show (Sum.inr (2, hFs ad' S' i) : va_E) = Sum.inr (2, hFs ad S i)
      unfold hFs
      rw [a0 8 _ _ (by decide) (by decide), a0 8 _ _ (by decide) (by decide), s0 15 (by decide) (by decide) (by decide) (by decide), s0 16 (by decide) (by decide) (by decide) (by decide), s0 17 (by decide) (by decide) (by decide) (by decide), s0 18 (by decide) (by decide) (by decide) (by decide), s0 26 (by decide) (by decide) (by decide) (by decide)]
    · refine ⟨live8 ⟨a.1, n14 _ a.2⟩ b, a0 _ _ _ (by decide) (by decide), ?_⟩
      show lstE x.2.1 (ad' 9 i j) (hlen S' i j) = lstE x.2.1 (ad 9 i j) (hlen S i j)
      rw [a0 9 _ _ (by decide) (by decide), hh]
    · rw [hh] at d9
      refine ⟨live9 ⟨a.1, n14 _ a.2⟩ b d9, a0 _ _ _ (by decide) (by decide), ?_⟩
      show arrE g (hlen S' i j) (elB ad' i j) = arrE g (hlen S i j) (elB ad i j)
      have e9 : elB ad' i j = elB ad i j := by funext q; unfold elB; rw [a0 10 _ _ (by decide) (by decide), a0 11 _ _ (by decide) (by decide)]
      rw [hh, e9]
    · rw [s0 19 (by decide) (by decide) (by decide) (by decide)] at b
      refine ⟨live10 ⟨a.1, n14 _ a.2⟩ b, a0 _ _ _ (by decide) (by decide), ?_⟩
      show (Sum.inr (1, evFs S' i j) : va_E) = Sum.inr (1, evFs S i j)
      unfold evFs
      rw [s0 20 (by decide) (by decide) (by decide) (by decide), s0 21 (by decide) (by decide) (by decide) (by decide), s0 22 (by decide) (by decide) (by decide) (by decide), s0 40 (by decide) (by decide) (by decide) (by decide)]
    · rw [s0 23 (by decide) (by decide) (by decide) (by decide)] at b
      refine ⟨live11 ⟨a.1, n14 _ a.2⟩ b, a0 _ _ _ (by decide) (by decide), ?_⟩
      show (Sum.inr (5, woFs S' i j) : va_E) = Sum.inr (5, woFs S i j)
      unfold woFs
      rw [s0 24 (by decide) (by decide) (by decide) (by decide), s0 25 (by decide) (by decide) (by decide) (by decide)]
  · show va_at g.1 vwCl (ad 3 1 0, lstE x.2.1 (ad' 4 1 0) (clen S' 1)) H1
    rw [a40, ck]
    exact hQ.1
  · show va_at g.1 vwCl (nbA (ad 4 1 0) szA (S 10 0), arrE g (clen S' 1) (elA ad' 1)) H1
    have e9 : elA ad' 1 = fun q => if q = (S 10 0) then v else ad 6 q 0 := by
      funext q
      show ad' 6 q 0 = _
      by_cases z : q = (S 10 0)
      · rw [if_pos z, z, a50]
      · rw [if_neg z, a5 _ _ z]
    rw [ck, e9]
    exact hQ.2
end RC3
