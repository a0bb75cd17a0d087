theorem c6_hasC (l : Launch) (g : GG) (mad : Nat → Nat) {S S' : St} (hI' : Inv S') (hS9 : ∀ k, k ≠ 30 → k ≠ 31 → S' k = S k) (h : Int) (day : Int) (r_h : R32 h) (r_day : R32 day) (h0 : 0 ≤ h ∧ h < S 14 0) : MetI l yX6_has wsX6_has ({ frames := 3, cells := 0, slots := 0, locals := 77 }) g [.ref (mad 0), .int (iI h), .int (iI day)] (fun H => RepM g mad S' H) (bI (sHas S h day)) := by
  have e := c6_has l g mad S' hI' h day r_h r_day (by rw [hS9 14 (by decide) (by decide)]; exact h0)
  rw [show sHas S' h day = sHas S h day by
    show (sState _ _ _ _ = 1) = (sState _ _ _ _ = 1)
    rw [sHas_congr (hS9 18 (by decide) (by decide)) (hS9 19 (by decide) (by decide)) (hS9 20 (by decide) (by decide)) (hS9 21 (by decide) (by decide)) (hS9 22 (by decide) (by decide))]] at e
  exact e
theorem c6_worthOnC (l : Launch) (g : GG) (mad : Nat → Nat) {S S' : St} (hI' : Inv S') (hS9 : ∀ k, k ≠ 30 → k ≠ 31 → S' k = S k) (h : Int) (day : Int) (r_h : R32 h) (r_day : R32 day) (h0 : 0 ≤ h ∧ h < S 14 0) : MetI l yX6_worthOn wsX6_worthOn ({ frames := 0, cells := 0, slots := 0, locals := 0 }) g [.ref (mad 0), .int (iI h), .int (iI day)] (fun H => RepM g mad S' H) (sWorth S h day) := by
  have e := c6_worthOn l g mad S' hI' h day r_h r_day (by rw [hS9 14 (by decide) (by decide)]; exact h0)
  rw [sWorth_congr (hS9 23 (by decide) (by decide)) (hS9 24 (by decide) (by decide)) (hS9 25 (by decide) (by decide))] at e
  exact e
noncomputable def partI (S : St) (day T A b : Int) : Int := cI (sHas S b day) (T * sWorth S b day / A) 0
noncomputable def restI (S : St) (day T A b : Int) : Int := cI (sHas S b day) (oRest S day T A b) (-1)
noncomputable def pUp (S : St) (day T A u : Int) : St := fun a b => if a = 30 then (if 0 ≤ b ∧ b < u then partI S day T A b else S a b) else if a = 31 then (if 0 ≤ b ∧ b < u then restI S day T A b else S a b) else S a b
theorem pUp_0 (S : St) (day T A : Int) : pUp S day T A ((0 : Nat) : Int) = S := by
  funext a b
  unfold pUp
  by_cases h : a = 30
  · rw [if_pos h, if_neg (by omega)]
  · rw [if_neg h]
    by_cases h2 : a = 31
    · rw [if_pos h2, if_neg (by omega)]
    · rw [if_neg h2]
theorem pUp_s (S : St) (day T A : Int) (u : Nat) : up (up (pUp S day T A (u : Int)) 30 (u : Int) (partI S day T A (u : Int))) 31 (u : Int) (restI S day T A (u : Int)) = pUp S day T A ((u + 1 : Nat) : Int) := by
  funext a b
  by_cases h : a = 30
  · subst h
    rw [up_k _ _ _ _ (by decide)]
    by_cases hb9 : b = (u : Int)
    · rw [hb9, up_s]
      show _ = if 0 ≤ (u : Int) ∧ (u : Int) < ((u + 1 : Nat) : Int) then partI S day T A (u : Int) else S 30 (u : Int)
      rw [if_pos (by omega)]
    · rw [up_z _ _ _ hb9]
      show (if 0 ≤ b ∧ b < (u : Int) then partI S day T A b else S 30 b) = if 0 ≤ b ∧ b < ((u + 1 : Nat) : Int) then partI S day T A b else S 30 b
      by_cases c : 0 ≤ b ∧ b < (u : Int)
      · rw [if_pos c, if_pos (by omega)]
      · rw [if_neg c, if_neg (by omega)]
  · by_cases h2 : a = 31
    · subst h2
      by_cases hb9 : b = (u : Int)
      · rw [hb9, up_s]
        show _ = if 0 ≤ (u : Int) ∧ (u : Int) < ((u + 1 : Nat) : Int) then restI S day T A (u : Int) else S 31 (u : Int)
        rw [if_pos (by omega)]
      · rw [up_z _ _ _ hb9, up_k _ _ _ _ (by decide)]
        show (if 0 ≤ b ∧ b < (u : Int) then restI S day T A b else S 31 b) = if 0 ≤ b ∧ b < ((u + 1 : Nat) : Int) then restI S day T A b else S 31 b
        by_cases c : 0 ≤ b ∧ b < (u : Int)
        · rw [if_pos c, if_pos (by omega)]
        · rw [if_neg c, if_neg (by omega)]
    · rw [up_k _ _ _ _ h2, up_k _ _ _ _ h]
      simp [pUp, h, h2]
theorem pUp_ne (S : St) (day T A u : Int) : ∀ k, k ≠ 30 → k ≠ 31 → pUp S day T A u k = S k := fun k h h2 => by
  funext b
  simp [pUp, h, h2]
/-- the state while they take: Q took one -/
noncomputable def gS (S : St) (day T A : Int) (n : Nat) (Q : Nat → Prop) : St := fun a b => if a = 30 then (if 0 ≤ b ∧ b < (n : Int) then partI S day T A b + bI (Q b.toNat) else S a b) else if a = 31 then (if 0 ≤ b ∧ b < (n : Int) then cI (Q b.toNat) (-1) (restI S day T A b) else S a b) else S a b
theorem gS_0 (S : St) (day T A : Int) (n : Nat) : pUp S day T A (n : Int) = gS S day T A n (fun _ => False) := by
  funext a b
  unfold pUp gS
  rw [bI_f (fun z => z), cI_f (fun z => z), Int.add_zero]
theorem gS_ne (S : St) (day T A : Int) (n : Nat) (Q : Nat → Prop) : ∀ k, k ≠ 30 → k ≠ 31 → gS S day T A n Q k = S k := fun k h h2 => by
  funext b
  simp [gS, h, h2]
theorem gS_30 (S : St) (day T A : Int) (n : Nat) (Q : Nat → Prop) {k : Nat} (hk : k < n) : gS S day T A n Q 30 (k : Int) = partI S day T A (k : Int) + bI (Q k) := by
  show (if 0 ≤ (k : Int) ∧ (k : Int) < (n : Int) then _ else _) = _
  rw [if_pos (by omega)]
  rfl
theorem gS_31 (S : St) (day T A : Int) (n : Nat) (Q : Nat → Prop) {k : Nat} (hk : k < n) : gS S day T A n Q 31 (k : Int) = cI (Q k) (-1) (restI S day T A (k : Int)) := by
  show (if 0 ≤ (k : Int) ∧ (k : Int) < (n : Int) then _ else _) = _
  rw [if_pos (by omega)]
  rfl
theorem gS_s (S : St) (day T A : Int) (n : Nat) (Q : Nat → Prop) {u : Nat} (hu : u < n) (hQ9 : ¬ Q u) : up (up (gS S day T A n Q) 30 (u : Int) (gS S day T A n Q 30 (u : Int) + 1)) 31 (u : Int) (-1) = gS S day T A n (fun k => Q k ∨ k = u) := by
  funext a b
  by_cases h : a = 30
  · subst h
    rw [up_k _ _ _ _ (by decide)]
    by_cases hb9 : b = (u : Int)
    · rw [hb9, up_s, gS_30 _ _ _ _ _ _ hu, gS_30 _ _ _ _ _ _ hu, bI_f hQ9, bI_t (Or.inr rfl)]
      omega
    · rw [up_z _ _ _ hb9]
      show (if 0 ≤ b ∧ b < (n : Int) then _ + bI (Q b.toNat) else _) = (if 0 ≤ b ∧ b < (n : Int) then _ + bI (Q b.toNat ∨ b.toNat = u) else _)
      by_cases c : 0 ≤ b ∧ b < (n : Int)
      · rw [if_pos c, if_pos c, bI_iff (q := Q b.toNat ∨ b.toNat = u) (r := Q b.toNat) ⟨fun z => z.elim id (fun y => absurd y (by omega)), Or.inl⟩]
      · rw [if_neg c, if_neg c]
  · by_cases h2 : a = 31
    · subst h2
      by_cases hb9 : b = (u : Int)
      · rw [hb9, up_s, gS_31 _ _ _ _ _ _ hu, cI_t (Or.inr rfl)]
      · rw [up_z _ _ _ hb9, up_k _ _ _ _ (by decide)]
        show (if 0 ≤ b ∧ b < (n : Int) then cI (Q b.toNat) (-1) _ else _) = (if 0 ≤ b ∧ b < (n : Int) then cI (Q b.toNat ∨ b.toNat = u) (-1) _ else _)
        by_cases c : 0 ≤ b ∧ b < (n : Int)
        · rw [if_pos c, if_pos c]
          by_cases c2 : Q b.toNat
          · rw [cI_t c2, cI_t (Or.inl c2)]
          · rw [cI_f c2, cI_f (fun z => z.elim c2 (fun y => absurd y (by omega)))]
        · rw [if_neg c, if_neg c]
    · rw [up_k _ _ _ _ h2, up_k _ _ _ _ h]
      simp [gS, h, h2]
/-- the day of the surrender, as the reference reckons it -/
theorem oDay_m {S : St} (hI : Inv S) {h2 : Int} (h0 : 0 ≤ h2 ∧ h2 < S 14 0) : (sSur S h2 3999 100000 (S 19 h2).toNat = 100000 ∧ oDay S h2 = 1000000) ∨ (sSur S h2 3999 100000 (S 19 h2).toNat = oDay S h2 ∧ isD (oDay S h2) ∧ ¬ sHas S h2 (oDay S h2)) := by
  have hH := hI.house h0.1 h0.2
  have hev : ∀ k : Nat, k < (S 19 h2).toNat → 0 ≤ S 20 (16 * h2 + (k : Int)) ∧ S 20 (16 * h2 + (k : Int)) ≤ 3999 := fun k hk => by
    have hv := hI.ev h0.1 h0.2 (j := (k : Int)) (by omega) (by omega)
    omega
  have hi := mn_init (q := qSur S h2 3999) (f := fun j => S 20 (16 * h2 + j)) (n := (S 19 h2).toNat) (fun k hk _ => by have := hev k hk; show S 20 (16 * h2 + (k : Int)) < 100000; omega)
  rcases hi with z | z
  · exact Or.inl ⟨z.2, z.1⟩
  · refine Or.inr ⟨z.1.symm, ?_⟩
    rcases mn_at (qSur S h2 3999) (fun j => S 20 (16 * h2 + j)) 100000 (S 19 h2).toNat with y | ⟨k, k1, k2, k3⟩
    · omega
    · have e : oDay S h2 = S 20 (16 * h2 + (k : Int)) := z.1.trans k3
      have hk := hev k k1
      refine ⟨by omega, fun hs => ?_⟩
      have hlb := mn_lb (qSur S h2 (oDay S h2)) (fun j => S 20 (16 * h2 + j)) 100000 (S 19 h2).toNat k k1 ⟨k2.1, by omega⟩
      have hU : sSur S h2 (oDay S h2) 100000 (S 19 h2).toNat ≤ S 20 (16 * h2 + (k : Int)) := hlb
      have hs2 : sState S h2 (oDay S h2) 100000 = 1 := hs
      unfold sState at hs2
      by_cases c1 : oDay S h2 < S 18 h2
      · rw [cI_t c1] at hs2; omega
      · rw [cI_f c1, cI_f (fun w => by have := w.2.2; omega)] at hs2
        by_cases c2 : sEnd S h2 (oDay S h2) 100000 (S 19 h2).toNat ≤ sLap S h2 (oDay S h2) 100000 (S 19 h2).toNat ∧ sEnd S h2 (oDay S h2) 100000 (S 19 h2).toNat ≤ sSur S h2 (oDay S h2) 100000 (S 19 h2).toNat
        · rw [cI_t c2] at hs2; omega
        · rw [cI_f c2] at hs2
          by_cases c3 : sLap S h2 (oDay S h2) 100000 (S 19 h2).toNat ≤ sSur S h2 (oDay S h2) 100000 (S 19 h2).toNat
          · rw [cI_t c3] at hs2; omega
          · rw [cI_f c3] at hs2; omega
theorem oAll_pos {S : St} (hI : Inv S) {day : Int} {k : Nat} (hk : (k : Int) < S 14 0) (hs : sHas S (k : Int) day) : 0 < oAll S day (S 14 0).toNat := by
  have key : ∀ n : Nat, (n : Int) ≤ S 14 0 → k < n → 0 < oAll S day n := by
    intro n
    induction n with
    | zero => intro _ h; omega
    | succ n ih =>
      intro hn hkn
      have h9 := oAll_b hI day (n := n) (by omega)
      show 0 < oAll S day n + cI _ _ _
      have hw := sWorth_b hI (h := (n : Int)) ⟨by omega, by omega⟩ day
      by_cases e : k = n
      · subst e
        rw [cI_t hs]
        omega
      · have h8 := ih (by omega) (by omega)
        by_cases c : sHas S (n : Int) day
        · rw [cI_t c]; omega
        · rw [cI_f c]; omega
  exact key _ (by have := hI.nums; omega) (by have := hI.nums; omega)
