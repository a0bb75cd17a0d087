/-! the fund: the greatest rest, and the end -/
def bestN (f : Nat → Int) : Nat → Nat
  | 0 => 0
  | n + 1 => if f (bestN f n) < f n then n else bestN f n
theorem bestN_lt (f : Nat → Int) : ∀ n : Nat, 1 ≤ n → bestN f n < n := by
  intro n
  induction n with
  | zero => intro h; omega
  | succ n ih =>
    intro _
    show (if f (bestN f n) < f n then n else bestN f n) < n + 1
    by_cases c : f (bestN f n) < f n
    · rw [if_pos c]; omega
    · rw [if_neg c]
      by_cases h : 1 ≤ n
      · have := ih h; omega
      · have e : n = 0 := by omega
        subst e
        show 0 < 0 + 1
        omega
theorem bestN_max (f : Nat → Int) : ∀ n k : Nat, k < n → f k ≤ f (bestN f n) ∧ (k < bestN f n → f k < f (bestN f n)) := by
  intro n
  induction n with
  | zero => intro k h; omega
  | succ n ih =>
    intro k hk
    show f k ≤ f (if f (bestN f n) < f n then n else bestN f n) ∧ (k < (if f (bestN f n) < f n then n else bestN f n) → f k < f (if f (bestN f n) < f n then n else bestN f n))
    by_cases c : f (bestN f n) < f n
    · rw [if_pos c]
      by_cases e : k = n
      · subst e
        exact ⟨Int.le_refl _, fun z => by omega⟩
      · have h9 := ih k (by omega)
        exact ⟨by omega, fun _ => by omega⟩
    · rw [if_neg c]
      by_cases e : k = n
      · subst e
        refine ⟨by omega, fun z => ?_⟩
        by_cases h : 1 ≤ k
        · have := bestN_lt f k h; omega
        · have e2 : k = 0 := by omega
          subst e2
          exact absurd z (by show ¬ 0 < 0; omega)
      · exact ih k (by omega)
theorem cnt_ex2 {q r : Nat → Prop} {n : Nat} (h : cnt q n < cnt r n) : ∃ k, k < n ∧ r k ∧ ¬ q k := by
  refine Classical.byContradiction (fun z => ?_)
  have h9 := cnt_le2 (q := r) (r := q) (n := n) (fun k hk hr => Classical.byContradiction (fun y => z ⟨k, hk, hr, y⟩))
  omega
theorem gS_31_b (S : St) (day T : Int) {A : Int} (hA : 0 < A) (n : Nat) (Q : Nat → Prop) {k : Nat} (hk : k < n) : -1 ≤ gS S day T A n Q 31 (k : Int) ∧ gS S day T A n Q 31 (k : Int) < A := by
  rw [gS_31 _ _ _ _ _ _ hk]
  by_cases c : Q k
  · rw [cI_t c]; omega
  · rw [cI_f c]
    unfold restI
    by_cases c2 : sHas S (k : Int) day
    · rw [cI_t c2]
      have h1 := Int.emod_nonneg (T * sWorth S (k : Int) day) (by omega : A ≠ 0)
      have h2 := Int.emod_lt_of_pos (T * sWorth S (k : Int) day) hA
      show -1 ≤ T * sWorth S (k : Int) day % A ∧ T * sWorth S (k : Int) day % A < A
      omega
    · rw [cI_f c2]; omega
/-- who has the greatest rest is the next -/
theorem best_ok {S : St} {day T A : Int} {n : Nat} {Q : Nat → Prop} (hA : 0 < A) (hT9 : oTook S day T A n Q) (hc : cnt Q n < oPay S day n) (hn : 1 ≤ n) : (bestN (fun k => gS S day T A n Q 31 (k : Int)) n < n ∧ ¬ Q (bestN (fun k => gS S day T A n Q 31 (k : Int)) n)) ∧ oTook S day T A n (fun k => Q k ∨ k = bestN (fun k => gS S day T A n Q 31 (k : Int)) n) ∧ cnt (fun k => Q k ∨ k = bestN (fun k => gS S day T A n Q 31 (k : Int)) n) n = cnt Q n + 1 := by
  have hlt := bestN_lt (fun k => gS S day T A n Q 31 (k : Int)) n hn
  have hmx := bestN_max (fun k => gS S day T A n Q 31 (k : Int)) n
  generalize bestN (fun k => gS S day T A n Q 31 (k : Int)) n = b at *
  obtain ⟨k0, k1, k2, k3⟩ := cnt_ex2 (q := Q) (r := fun k => sHas S (k : Int) day) hc
  have h0 : 0 ≤ gS S day T A n Q 31 (k0 : Int) := by
    rw [gS_31 _ _ _ _ _ _ k1, cI_f k3]
    unfold restI
    rw [cI_t k2]
    exact Int.emod_nonneg _ (by omega)
  have h1 := (hmx k0 k1).1
  have hbq : ¬ Q b := fun z => by
    have e := gS_31 S day T A n Q hlt
    rw [cI_t z] at e
    have h2 : gS S day T A n Q 31 (k0 : Int) ≤ gS S day T A n Q 31 (b : Int) := h1
    omega
  have eb : gS S day T A n Q 31 (b : Int) = restI S day T A (b : Int) := by rw [gS_31 _ _ _ _ _ _ hlt, cI_f hbq]
  have hbp : sHas S (b : Int) day := Classical.byContradiction (fun z => by
    have h2 : gS S day T A n Q 31 (k0 : Int) ≤ gS S day T A n Q 31 (b : Int) := h1
    rw [eb] at h2
    unfold restI at h2
    rw [cI_f z] at h2
    omega)
  refine ⟨⟨hlt, hbq⟩, oTook_next hA hT9 hlt hbp hbq (fun k hk hkp hkq hpre => ?_)⟩
  have ek : gS S day T A n Q 31 (k : Int) = oRest S day T A (k : Int) := by
    rw [gS_31 _ _ _ _ _ _ hk, cI_f hkq]
    unfold restI
    rw [cI_t hkp]
  have eb2 : gS S day T A n Q 31 (b : Int) = oRest S day T A (b : Int) := by
    rw [eb]
    unfold restI
    rw [cI_t hbp]
  have h2 : gS S day T A n Q 31 (k : Int) ≤ gS S day T A n Q 31 (b : Int) := (hmx k hk).1
  have h3 : k < b → gS S day T A n Q 31 (k : Int) < gS S day T A n Q 31 (b : Int) := (hmx k hk).2
  rw [ek, eb2] at h2 h3
  rcases hpre with z | z
  · omega
  · have := h3 z.2
    omega
theorem owes_end {S : St} (hI : Inv S) {h1 h2 : Int} (g1 : 0 ≤ h1 ∧ h1 < S 14 0) (g2 : 0 ≤ h2 ∧ h2 < S 14 0) (hdd : isD (oDay S h2)) (hno : ¬ sHas S h2 (oDay S h2)) {Q : Nat → Prop} (hT9 : oTook S (oDay S h2) (sWorth S h2 (oDay S h2) * 3) (oAll S (oDay S h2) (S 14 0).toNat) (S 14 0).toNat Q) {j : Nat} (hc : cnt Q (S 14 0).toNat = (j : Int))
    (hj : j = 0 ∨ (j : Int) ≤ sWorth S h2 (oDay S h2) * 3 - oSum S (oDay S h2) (sWorth S h2 (oDay S h2) * 3) (oAll S (oDay S h2) (S 14 0).toNat) (S 14 0).toNat)
    (hx : oAll S (oDay S h2) (S 14 0).toNat ≤ 0 ∨ sWorth S h2 (oDay S h2) * 3 - oSum S (oDay S h2) (sWorth S h2 (oDay S h2) * 3) (oAll S (oDay S h2) (S 14 0).toNat) (S 14 0).toNat - (j : Int) ≤ 0) : gS S (oDay S h2) (sWorth S h2 (oDay S h2) * 3) (oAll S (oDay S h2) (S 14 0).toNat) (S 14 0).toNat Q 30 h1 = aOwes S h1 h2 := by
  have hk : h1.toNat < (S 14 0).toNat := by omega
  have ek : ((h1.toNat : Nat) : Int) = h1 := Int.toNat_of_nonneg g1.1
  have e1 := gS_30 S (oDay S h2) (sWorth S h2 (oDay S h2) * 3) (oAll S (oDay S h2) (S 14 0).toNat) (S 14 0).toNat Q hk
  rw [ek] at e1
  rw [e1]
  unfold aOwes
  rw [cI_t ⟨g1, g2⟩, cI_f (by omega)]
  by_cases c : h1 = h2 ∨ ¬ sHas S h1 (oDay S h2)
  · have hns : ¬ sHas S h1 (oDay S h2) := c.elim (fun z => by rw [z]; exact hno) id
    rw [cI_t c]
    unfold partI
    rw [cI_f hns, bI_f (fun z => hns (by have := (hT9.1 _ z).2; rw [ek] at this; exact this))]
    rfl
  · have hs : sHas S h1 (oDay S h2) := Classical.byContradiction (fun z => c (Or.inr z))
    rw [cI_f c]
    have hap := oAll_pos hI (day := oDay S h2) (k := h1.toNat) (by omega) (by rw [ek]; exact hs)
    have hlb := oLeft_b (S := S) (day := oDay S h2) (T := sWorth S h2 (oDay S h2) * 3) (n := (S 14 0).toNat) hap
    have he := oTook_end hT9 hk (by rw [ek]; exact hs)
    rw [ek, hc] at he
    unfold oPart partI
    rw [cI_t hs, cI_t hap]
    have e2 : bI (Q h1.toNat) = bI (oBef S (oDay S h2) (sWorth S h2 (oDay S h2) * 3) (oAll S (oDay S h2) (S 14 0).toNat) h1 (S 14 0).toNat < sWorth S h2 (oDay S h2) * 3 - oSum S (oDay S h2) (sWorth S h2 (oDay S h2) * 3) (oAll S (oDay S h2) (S 14 0).toNat) (S 14 0).toNat) := by
      refine bI_iff ?_
      rw [he]
      omega
    rw [e2]
