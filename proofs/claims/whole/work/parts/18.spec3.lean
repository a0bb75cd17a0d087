/-! the class's own ways to the same numbers -/
abbrev iQf (S : St) (h : Int) : Prop := ∀ j : Nat, (j : Int) < S 19 h → (0 ≤ S 40 (16 * h + j) ∧ S 40 (16 * h + j) ≤ 1000000) ∧ (S 21 (16 * h + j) = 0 → ∀ day : Int, isD day → (day < S 40 (16 * h + j) ↔ ¬ exN (sQuash S h (16 * h + j) day) (S 19 h).toNat))
def InvC (S : St) : Prop := ∀ h : Int, 0 ≤ h → h < S 14 0 → iQf S h
/-- offences counted by the class: from day - 1825 to day, not quashed by the day asked -/
abbrev qOffC (S : St) (h day asked : Int) (q : Nat) : Prop := ((day - 1825 ≤ S 20 (16 * h + q) ∧ S 20 (16 * h + q) ≤ day) ∧ S 21 (16 * h + q) = 0) ∧ asked < S 40 (16 * h + q)
noncomputable def sOffC (S : St) (h day asked : Int) (n : Nat) : Int := cnt (qOffC S h day asked) n
abbrev qEndC (S : St) (h asked : Int) (j : Nat) : Prop := (S 21 (16 * h + j) = 0 ∧ S 20 (16 * h + j) ≤ asked) ∧ 3 ≤ sOffC S h (S 20 (16 * h + j)) asked (S 19 h).toNat
noncomputable def sEndC (S : St) (h asked : Int) (n : Nat) : Int := mn (qEndC S h asked) (fun j => S 20 (16 * h + j)) 1000000 n
theorem mn_eq {q p : Nat → Prop} {f : Nat → Int} {a : Int} {n : Nat} (h1 : ∀ k, k < n → q k → p k) (h2 : ∀ k, k < n → p k → ∃ k', k' < n ∧ q k' ∧ f k' ≤ f k) : mn p f a n = mn q f a n := by
  refine Int.le_antisymm ?_ ?_
  · rcases mn_at q f a n with e | ⟨k, k1, k2, k3⟩
    · rw [e]; exact mn_le p f a n
    · rw [k3]; exact mn_lb p f a n k k1 (h1 k k1 k2)
  · rcases mn_at p f a n with e | ⟨k, k1, k2, k3⟩
    · rw [e]; exact mn_le q f a n
    · rw [k3]
      obtain ⟨k', g1, g2, g3⟩ := h2 k k1 k2
      have := mn_lb q f a n k' g1 g2
      omega
/-- the class's NEVER and the reference's -/
theorem mn_init {q : Nat → Prop} {f : Nat → Int} {n : Nat} (hf : ∀ k, k < n → q k → f k < 100000) : (mn q f 1000000 n = 1000000 ∧ mn q f 100000 n = 100000) ∨ (mn q f 1000000 n = mn q f 100000 n ∧ mn q f 100000 n < 100000) := by
  rcases mn_at q f 1000000 n with e | ⟨k, k1, k2, k3⟩
  · refine Or.inl ⟨e, ?_⟩
    rcases mn_at q f 100000 n with e2 | ⟨k, k1, k2, k3⟩
    · exact e2
    · have h1 := mn_lb q f 1000000 n k k1 k2
      have h2 := hf k k1 k2
      omega
  · have h2 := hf k k1 k2
    have h3 := mn_lb q f 100000 n k k1 k2
    refine Or.inr ⟨?_, by omega⟩
    rcases mn_at q f 100000 n with e2 | ⟨k', g1, g2, g3⟩
    · omega
    · have h4 := mn_lb q f 1000000 n k' g1 g2
      omega
section SC
variable {S : St}
theorem sCnt_iff (hQ : InvC S) {h asked : Int} (h0 : 0 ≤ h ∧ h < S 14 0) (hd : isD asked) {j : Nat} (hj : (j : Int) < S 19 h) : sCnt S h (16 * h + j) asked ↔ ((S 21 (16 * h + j) = 0 ∧ S 20 (16 * h + j) ≤ asked) ∧ asked < S 40 (16 * h + j)) := by
  have hq := hQ h h0.1 h0.2 j hj
  exact ⟨fun z => ⟨z.1, (hq.2 z.1.1 asked hd).mpr z.2⟩, fun z => ⟨z.1, (hq.2 z.1.1 asked hd).mp z.2⟩⟩
theorem sOffC_eq (hQ : InvC S) {h asked : Int} (h0 : 0 ≤ h ∧ h < S 14 0) (hd : isD asked) {j : Nat} (hle : S 20 (16 * h + j) ≤ asked) : sOffC S h (S 20 (16 * h + j)) asked (S 19 h).toNat = sNum S h asked j (S 19 h).toNat := by
  refine cnt_congr (fun q hq => ?_)
  have e := sCnt_iff hQ h0 hd (j := q) (by omega)
  constructor
  · rintro ⟨⟨⟨a, b⟩, c⟩, d⟩
    exact ⟨e.mpr ⟨⟨c, by omega⟩, d⟩, b, a⟩
  · rintro ⟨a, b, c⟩
    have a2 := e.mp a
    exact ⟨⟨⟨c, b⟩, a2.1.1⟩, a2.2⟩
theorem sOffC_on (hQ : InvC S) {h day : Int} (h0 : 0 ≤ h ∧ h < S 14 0) (hd : isD day) : sOffC S h day day (S 19 h).toNat = sOff S h day := by
  refine cnt_congr (fun q hq => ?_)
  have e := sCnt_iff hQ h0 hd (j := q) (by omega)
  constructor
  · rintro ⟨⟨⟨a, b⟩, c⟩, d⟩
    exact ⟨e.mpr ⟨⟨c, b⟩, d⟩, a⟩
  · rintro ⟨a, b⟩
    have a2 := e.mp a
    exact ⟨⟨⟨b, a2.1.2⟩, a2.1.1⟩, a2.2⟩
theorem cnt_pos {q : Nat → Prop} {n : Nat} (h : 0 < cnt q n) : ∃ k, k < n ∧ q k := by
  induction n with
  | zero => exact absurd h (by show ¬ (0 : Int) < 0; decide)
  | succ n ih =>
    have h2 : 0 < cnt q n + bI (q n) := h
    by_cases c : q n
    · exact ⟨n, by omega, c⟩
    · rw [bI_f c] at h2
      obtain ⟨k, k1, k2⟩ := ih (by omega)
      exact ⟨k, by omega, k2⟩
/-- of those with q, one with the greatest f -/
theorem max_ex {q : Nat → Prop} {f : Nat → Int} {n : Nat} (h : ∃ k, k < n ∧ q k) : ∃ k, k < n ∧ q k ∧ ∀ k', k' < n → q k' → f k' ≤ f k := by
  induction n with
  | zero => obtain ⟨k, k1, -⟩ := h; exact absurd k1 (Nat.not_lt_zero _)
  | succ n ih =>
    by_cases c : ∃ k, k < n ∧ q k
    · obtain ⟨k, k1, k2, k3⟩ := ih c
      by_cases d : q n ∧ f k < f n
      · refine ⟨n, by omega, d.1, fun k' g1 g2 => ?_⟩
        by_cases e : k' = n
        · rw [e]; exact Int.le_refl _
        · have := k3 k' (by omega) g2; omega
      · refine ⟨k, by omega, k2, fun k' g1 g2 => ?_⟩
        by_cases e : k' = n
        · rw [e]
          rw [e] at g2
          exact Int.not_lt.mp (fun z => d ⟨g2, z⟩)
        · exact k3 k' (by omega) g2
    · obtain ⟨k, k1, k2⟩ := h
      have e : k = n := by
        by_cases e : k = n
        · exact e
        · exact absurd ⟨k, by omega, k2⟩ c
      subst e
      refine ⟨k, by omega, k2, fun k' g1 g2 => ?_⟩
      by_cases e : k' = k
      · rw [e]; exact Int.le_refl _
      · exact absurd ⟨k', by omega, g2⟩ c
theorem cnt_sub {q p : Nat → Prop} {n : Nat} (h : ∀ k, k < n → q k → p k) : cnt q n ≤ cnt p n := by
  induction n with
  | zero => exact Int.le_refl _
  | succ n ih =>
    show cnt q n + bI (q n) ≤ cnt p n + bI (p n)
    have h1 := ih (fun k hk => h k (by omega))
    by_cases c : q n
    · rw [bI_t c, bI_t (h n (by omega) c)]; omega
    · rw [bI_f c]
      have := bI_le (p n)
      omega
/-- where the class ends a house, there the reference does: of three offences that count together, the last -/
theorem sEndC_eq (hQ : InvC S) {h asked : Int} (h0 : 0 ≤ h ∧ h < S 14 0) (hd : isD asked) : sEndC S h asked (S 19 h).toNat = sEnd S h asked 1000000 (S 19 h).toNat := by
  refine mn_eq (fun k hk hq => ?_) (fun k hk hp => ?_)
  · have e := sCnt_iff hQ h0 hd (j := k) (by omega)
    have a := e.mp hq.1
    refine ⟨a.1, ?_⟩
    rw [sOffC_eq hQ h0 hd a.1.2]
    have := hq.2
    omega
  · have hle := hp.1.2
    have h3 := hp.2
    rw [sOffC_eq hQ h0 hd hle] at h3
    obtain ⟨x, x1, x2, x3⟩ := max_ex (f := fun q => S 20 (16 * h + q)) (cnt_pos (q := qNum S h asked k) (n := (S 19 h).toNat) (by show 0 < sNum S h asked k _; omega))
    refine ⟨x, x1, ⟨x2.1, ?_⟩, x2.2.1⟩
    have hc : sNum S h asked k (S 19 h).toNat ≤ sNum S h asked x (S 19 h).toNat := cnt_sub (fun q hq z => ⟨z.1, x3 q hq z, by
      have a1 := z.2.2
      have a2 := x2.2.1
      omega⟩)
    omega
theorem sState_eq (hI : Inv S) {h day : Int} (h0 : 0 ≤ h ∧ h < S 14 0) : sState S h day 1000000 = sState S h day 100000 := by
  have hE : (sEnd S h day 1000000 (S 19 h).toNat = 1000000 ∧ sEnd S h day 100000 (S 19 h).toNat = 100000) ∨ (sEnd S h day 1000000 (S 19 h).toNat = sEnd S h day 100000 (S 19 h).toNat ∧ sEnd S h day 100000 (S 19 h).toNat < 100000) :=
    mn_init (fun k hk _ => by have := hI.ev h0.1 h0.2 (j := k) (by omega) (by omega); show S 20 (16 * h + k) < 100000; omega)
  have hL : (sLap S h day 1000000 (S 19 h).toNat = 1000000 ∧ sLap S h day 100000 (S 19 h).toNat = 100000) ∨ (sLap S h day 1000000 (S 19 h).toNat = sLap S h day 100000 (S 19 h).toNat ∧ sLap S h day 100000 (S 19 h).toNat < 100000) :=
    mn_init (fun k hk _ => by have := hI.ev h0.1 h0.2 (j := k) (by omega) (by omega); show S 20 (16 * h + k) + 28 < 100000; omega)
  have hU : (sSur S h day 1000000 (S 19 h).toNat = 1000000 ∧ sSur S h day 100000 (S 19 h).toNat = 100000) ∨ (sSur S h day 1000000 (S 19 h).toNat = sSur S h day 100000 (S 19 h).toNat ∧ sSur S h day 100000 (S 19 h).toNat < 100000) :=
    mn_init (fun k hk _ => by have := hI.ev h0.1 h0.2 (j := k) (by omega) (by omega); show S 20 (16 * h + k) < 100000; omega)
  unfold sState
  by_cases c1 : day < S 18 h
  · rw [cI_t c1, cI_t c1]
  · rw [cI_f c1, cI_f c1]
    by_cases c2 : sEnd S h day 100000 (S 19 h).toNat = 100000 ∧ sLap S h day 100000 (S 19 h).toNat = 100000 ∧ sSur S h day 100000 (S 19 h).toNat = 100000
    · rw [cI_t c2, cI_t (by omega)]
    · rw [cI_f c2, cI_f (by omega)]
      by_cases c3 : sEnd S h day 100000 (S 19 h).toNat ≤ sLap S h day 100000 (S 19 h).toNat ∧ sEnd S h day 100000 (S 19 h).toNat ≤ sSur S h day 100000 (S 19 h).toNat
      · rw [cI_t c3, cI_t (by omega)]
      · rw [cI_f c3, cI_f (by omega)]
        by_cases c4 : sLap S h day 100000 (S 19 h).toNat ≤ sSur S h day 100000 (S 19 h).toNat
        · rw [cI_t c4, cI_t (by omega)]
        · rw [cI_f c4, cI_f (by omega)]
end SC
