/-! the state as integers: field k of the reference, place z; what each method answers, in words of it -/
abbrev St : Type := Nat → Int → Int
def up (S : St) (k : Nat) (z v : Int) : St := fun a b => if a = k then (if b = z then v else S a b) else S a b
theorem up_s (S : St) (k : Nat) (z v : Int) : up S k z v k z = v := by simp [up]
theorem up_k (S : St) {k a : Nat} (z v b : Int) (h : a ≠ k) : up S k z v a b = S a b := by simp [up, h]
theorem up_z (S : St) (k : Nat) {z b : Int} (v : Int) (h : b ≠ z) : up S k z v k b = S k b := by simp [up, h]
/-- some k below n -/
def exN (q : Nat → Prop) (n : Nat) : Prop := ∃ k, k < n ∧ q k
theorem exN_0 {q : Nat → Prop} : ¬ exN q 0 := fun ⟨_, h, _⟩ => absurd h (Nat.not_lt_zero _)
theorem exN_s {q : Nat → Prop} {n : Nat} : exN q (n + 1) ↔ exN q n ∨ q n := by
  constructor
  · rintro ⟨k, h1, h2⟩
    by_cases h : k = n
    · exact Or.inr (h ▸ h2)
    · exact Or.inl ⟨k, by omega, h2⟩
  · rintro (⟨k, h1, h2⟩ | h)
    · exact ⟨k, by omega, h2⟩
    · exact ⟨n, by omega, h⟩
/-- how many k below n -/
noncomputable def cnt (q : Nat → Prop) : Nat → Int
  | 0 => 0
  | n + 1 => cnt q n + bI (q n)
theorem cnt_le (q : Nat → Prop) (n : Nat) : 0 ≤ cnt q n ∧ cnt q n ≤ n := by
  induction n with
  | zero => exact ⟨Int.le_refl _, Int.le_refl _⟩
  | succ n ih =>
    have := bI_le (q n)
    have h : cnt q (n + 1) = cnt q n + bI (q n) := rfl
    rw [h]
    omega
theorem cnt_congr {q r : Nat → Prop} {n : Nat} (h : ∀ k, k < n → (q k ↔ r k)) : cnt q n = cnt r n := by
  induction n with
  | zero => rfl
  | succ n ih =>
    show cnt q n + bI (q n) = cnt r n + bI (r n)
    rw [ih (fun k hk => h k (by omega)), bI_iff (h n (by omega))]
/-- a sum over k below n -/
def sumN (f : Nat → Int) : Nat → Int
  | 0 => 0
  | n + 1 => sumN f n + f n
theorem sumN_congr {f h : Nat → Int} {n : Nat} (e : ∀ k, k < n → f k = h k) : sumN f n = sumN h n := by
  induction n with
  | zero => rfl
  | succ n ih =>
    show sumN f n + f n = sumN h n + h n
    rw [ih (fun k hk => e k (by omega)), e n (by omega)]
theorem sumN_le {f : Nat → Int} {n : Nat} {a b : Int} (e : ∀ k, k < n → a ≤ f k ∧ f k ≤ b) : n * a ≤ sumN f n ∧ sumN f n ≤ n * b := by
  induction n with
  | zero => simp [sumN]
  | succ n ih =>
    have h1 := ih (fun k hk => e k (by omega))
    have h2 := e n (by omega)
    have e1 : ((n + 1 : Nat) : Int) * a = n * a + a := by rw [Int.natCast_add, Int.add_mul]; simp
    have e2 : ((n + 1 : Nat) : Int) * b = n * b + b := by rw [Int.natCast_add, Int.add_mul]; simp
    have e3 : sumN f (n + 1) = sumN f n + f n := rfl
    rw [e1, e2, e3]
    omega
/-- the least f k of those with q k, or a -/
noncomputable def mn (q : Nat → Prop) (f : Nat → Int) (a : Int) : Nat → Int
  | 0 => a
  | n + 1 => cI (q n ∧ f n < mn q f a n) (f n) (mn q f a n)
theorem mn_s (q : Nat → Prop) (f : Nat → Int) (a : Int) (n : Nat) : mn q f a (n + 1) = cI (q n ∧ f n < mn q f a n) (f n) (mn q f a n) := rfl
theorem mn_le (q : Nat → Prop) (f : Nat → Int) (a : Int) (n : Nat) : mn q f a n ≤ a := by
  induction n with
  | zero => exact Int.le_refl _
  | succ n ih =>
    rw [mn_s]
    by_cases h : q n ∧ f n < mn q f a n
    · rw [cI_t h]; omega
    · rw [cI_f h]; exact ih
theorem mn_lb (q : Nat → Prop) (f : Nat → Int) (a : Int) (n : Nat) : ∀ k, k < n → q k → mn q f a n ≤ f k := by
  induction n with
  | zero => intro k h; exact absurd h (Nat.not_lt_zero _)
  | succ n ih =>
    intro k hk hq
    rw [mn_s]
    by_cases h : q n ∧ f n < mn q f a n
    · rw [cI_t h]
      by_cases e : k = n
      · rw [e]; omega
      · have := ih k (by omega) hq; omega
    · rw [cI_f h]
      by_cases e : k = n
      · rw [e] at hq ⊢
        have : ¬ f n < mn q f a n := fun z => h ⟨hq, z⟩
        omega
      · exact ih k (by omega) hq
theorem mn_at (q : Nat → Prop) (f : Nat → Int) (a : Int) (n : Nat) : mn q f a n = a ∨ ∃ k, k < n ∧ q k ∧ mn q f a n = f k := by
  induction n with
  | zero => exact Or.inl rfl
  | succ n ih =>
    rw [mn_s]
    by_cases h : q n ∧ f n < mn q f a n
    · rw [cI_t h]; exact Or.inr ⟨n, by omega, h.1, rfl⟩
    · rw [cI_f h]
      rcases ih with h1 | ⟨k, h1, h2, h3⟩
      · exact Or.inl h1
      · exact Or.inr ⟨k, by omega, h2, h3⟩
/-- the last place ix k with q k, of those with the greatest f; -1 -/
noncomputable def lastN (ix : Nat → Int) (q : Nat → Prop) (f : Int → Int) : Nat → Int
  | 0 => -1
  | n + 1 => cI (q n ∧ (lastN ix q f n < 0 ∨ f (lastN ix q f n) ≤ f (ix n))) (ix n) (lastN ix q f n)
theorem lastN_s (ix : Nat → Int) (q : Nat → Prop) (f : Int → Int) (n : Nat) : lastN ix q f (n + 1) = cI (q n ∧ (lastN ix q f n < 0 ∨ f (lastN ix q f n) ≤ f (ix n))) (ix n) (lastN ix q f n) := rfl
theorem lastN_t {ix : Nat → Int} {q : Nat → Prop} {f : Int → Int} {n : Nat} (h : q n) (h2 : lastN ix q f n < 0 ∨ f (lastN ix q f n) ≤ f (ix n)) : lastN ix q f (n + 1) = ix n := by rw [lastN_s, cI_t ⟨h, h2⟩]
theorem lastN_f {ix : Nat → Int} {q : Nat → Prop} {f : Int → Int} {n : Nat} (h : ¬ (q n ∧ (lastN ix q f n < 0 ∨ f (lastN ix q f n) ≤ f (ix n)))) : lastN ix q f (n + 1) = lastN ix q f n := by rw [lastN_s, cI_f h]
theorem lastN_q (ix : Nat → Int) (q : Nat → Prop) (f : Int → Int) (n : Nat) : lastN ix q f n = -1 ∨ ∃ k, k < n ∧ lastN ix q f n = ix k ∧ q k := by
  induction n with
  | zero => exact Or.inl rfl
  | succ n ih =>
    rw [lastN_s]
    by_cases h : q n ∧ (lastN ix q f n < 0 ∨ f (lastN ix q f n) ≤ f (ix n))
    · rw [cI_t h]; exact Or.inr ⟨n, by omega, rfl, h.1⟩
    · rw [cI_f h]
      rcases ih with h1 | ⟨k, h1, h2, h3⟩
      · exact Or.inl h1
      · exact Or.inr ⟨k, by omega, h2, h3⟩
theorem mn_t {q : Nat → Prop} {f : Nat → Int} {a : Int} {n : Nat} (h : q n) (h2 : f n < mn q f a n) : mn q f a (n + 1) = f n := by rw [mn_s, cI_t ⟨h, h2⟩]
theorem mn_f {q : Nat → Prop} {f : Nat → Int} {a : Int} {n : Nat} (h : ¬ (q n ∧ f n < mn q f a n)) : mn q f a (n + 1) = mn q f a n := by rw [mn_s, cI_f h]
theorem mn_b {q : Nat → Prop} {f : Nat → Int} {a : Int} {n : Nat} {lo : Int} (ha : lo ≤ a) (h : ∀ k, k < n → q k → lo ≤ f k) : lo ≤ mn q f a n ∧ mn q f a n ≤ a := by
  refine ⟨?_, mn_le q f a n⟩
  rcases mn_at q f a n with e | ⟨k, h1, h2, e⟩
  · rw [e]; exact ha
  · rw [e]; exact h k h1 h2
theorem ex_1 {q : Nat → Prop} {n : Nat} (h : exN q n) : bI (exN q (n + 1)) = 1 := bI_t (exN_s.mpr (Or.inl h))
theorem ex_1' {q : Nat → Prop} {n : Nat} (h : q n) : bI (exN q (n + 1)) = 1 := bI_t (exN_s.mpr (Or.inr h))
theorem ex_0 {q : Nat → Prop} {n : Nat} (h : ¬ exN q n) (h2 : ¬ q n) : bI (exN q (n + 1)) = 0 := bI_f (fun z => (exN_s.mp z).elim h h2)
theorem nx_0 {q : Nat → Prop} {n : Nat} (h : ¬ ¬ exN q n) : bI (¬ exN q (n + 1)) = 0 := bI_f (fun z => h (fun y => z (exN_s.mpr (Or.inl y))))
theorem nx_0' {q : Nat → Prop} {n : Nat} (h : q n) : bI (¬ exN q (n + 1)) = 0 := bI_f (fun z => z (exN_s.mpr (Or.inr h)))
theorem nx_1 {q : Nat → Prop} {n : Nat} (h : ¬ exN q n) (h2 : ¬ q n) : bI (¬ exN q (n + 1)) = 1 := bI_t (fun z => (exN_s.mp z).elim h h2)
theorem nx_00 {q : Nat → Prop} : bI (¬ exN q 0) = 1 := bI_t exN_0
theorem cnt_1 {q : Nat → Prop} {n : Nat} (h : q n) : cnt q (n + 1) = cnt q n + 1 := by
  show cnt q n + bI (q n) = _
  rw [bI_t h]
theorem cnt_0 {q : Nat → Prop} {n : Nat} (h : ¬ q n) : cnt q (n + 1) = cnt q n + 0 := by
  show cnt q n + bI (q n) = _
  rw [bI_f h]
theorem two_cI {C : Prop} {x : Int} : 2 < cI C x 0 ↔ C ∧ 2 < x := by
  by_cases h : C
  · rw [cI_t h]; exact ⟨fun z => ⟨h, z⟩, fun z => z.2⟩
  · rw [cI_f h]; exact ⟨fun z => absurd z (by decide), fun z => absurd z.1 h⟩
theorem sq_b {a b : Int} (h0 : 0 ≤ a) (h1 : a ≤ b) : 0 ≤ a * a ∧ a * a ≤ b * b := ⟨Int.mul_nonneg h0 h0, Int.mul_le_mul h1 h1 h0 (by omega)⟩
theorem sq_b2 {a b : Int} (h0 : -b ≤ a) (h1 : a ≤ b) : 0 ≤ a * a ∧ a * a ≤ b * b := by
  by_cases h : 0 ≤ a
  · exact sq_b h h1
  · have := sq_b (a := -a) (b := b) (by omega) (by omega)
    rw [Int.neg_mul_neg] at this
    exact this
abbrev isD (d : Int) : Prop := 0 ≤ d ∧ d ≤ 3999
abbrev isP (x y : Int) : Prop := (0 ≤ x ∧ x ≤ 999) ∧ (0 ≤ y ∧ y ≤ 999)
/-- a feast -/
abbrev sFeast (S : St) (d : Int) : Prop := exN (fun k => S 1 (k : Int) = d) (S 0 0).toNat
abbrev off2 (x y x2 y2 : Int) : Int := (x - x2) * (x - x2) + (y - y2) * (y - y2)
/-- offence e (its place in the rows) counts on a day -/
abbrev sQuash (S : St) (h e day : Int) (q : Nat) : Prop := S 21 (16 * h + q) = 1 ∧ S 22 (16 * h + q) = S 22 e ∧ S 20 (16 * h + q) ≤ day
abbrev sCnt (S : St) (h e day : Int) : Prop := (S 21 e = 0 ∧ S 20 e ≤ day) ∧ ¬ exN (sQuash S h e day) (S 19 h).toNat
abbrev qNum (S : St) (h day : Int) (j q : Nat) : Prop := sCnt S h (16 * h + q) day ∧ (S 20 (16 * h + q) ≤ S 20 (16 * h + j) ∧ S 20 (16 * h + j) - 1825 ≤ S 20 (16 * h + q))
noncomputable def sNum (S : St) (h day : Int) (j : Nat) (n : Nat) : Int := cnt (qNum S h day j) n
abbrev qEnd (S : St) (h day : Int) (j : Nat) : Prop := sCnt S h (16 * h + j) day ∧ 2 < sNum S h day j (S 19 h).toNat
noncomputable def sEnd (S : St) (h day a : Int) (n : Nat) : Int := mn (qEnd S h day) (fun j => S 20 (16 * h + j)) a n
abbrev sTrans (S : St) (h : Int) (j : Nat) (q : Nat) : Prop := S 21 (16 * h + q) = 3 ∧ (S 20 (16 * h + j) ≤ S 20 (16 * h + q) ∧ S 20 (16 * h + q) ≤ S 20 (16 * h + j) + 27)
abbrev qLap (S : St) (h day : Int) (j : Nat) : Prop := (S 21 (16 * h + j) = 2 ∧ ¬ exN (sTrans S h j) (S 19 h).toNat) ∧ S 20 (16 * h + j) + 28 ≤ day
noncomputable def sLap (S : St) (h day a : Int) (n : Nat) : Int := mn (qLap S h day) (fun j => S 20 (16 * h + j) + 28) a n
abbrev qSur (S : St) (h day : Int) (j : Nat) : Prop := S 21 (16 * h + j) = 6 ∧ S 20 (16 * h + j) ≤ day
noncomputable def sSur (S : St) (h day a : Int) (n : Nat) : Int := mn (qSur S h day) (fun j => S 20 (16 * h + j)) a n
noncomputable def sState (S : St) (h day a : Int) : Int := cI (day < S 18 h) 0 (cI (sEnd S h day a (S 19 h).toNat = a ∧ sLap S h day a (S 19 h).toNat = a ∧ sSur S h day a (S 19 h).toNat = a) 1 (cI (sEnd S h day a (S 19 h).toNat ≤ sLap S h day a (S 19 h).toNat ∧ sEnd S h day a (S 19 h).toNat ≤ sSur S h day a (S 19 h).toNat) 2 (cI (sLap S h day a (S 19 h).toNat ≤ sSur S h day a (S 19 h).toNat) 3 4)))
abbrev sHas (S : St) (h day : Int) : Prop := sState S h day 100000 = 1
abbrev qCat (S : St) (h day : Int) (j : Nat) : Prop := (4 ≤ S 21 (16 * h + j) ∧ S 21 (16 * h + j) ≤ 5) ∧ S 20 (16 * h + j) ≤ day
noncomputable def sCat (S : St) (h day : Int) (n : Nat) : Int := lastN (fun j => 16 * h + j) (qCat S h day) (S 20) n
noncomputable def sCond (S : St) (h day : Int) : Int := cI (sCat S h day (S 19 h).toNat < 0 ∨ S 21 (sCat S h day (S 19 h).toNat) = 5) (-4) (S 22 (sCat S h day (S 19 h).toNat))
noncomputable def sWat (S : St) (h day : Int) : Nat → Int
  | 0 => 8 * h
  | n + 1 => cI (S 24 (8 * h + n) ≤ day ∧ S 24 (sWat S h day n) ≤ S 24 (8 * h + n)) (8 * h + n) (sWat S h day n)
theorem sWat_s (S : St) (h day : Int) (n : Nat) : sWat S h day (n + 1) = cI (S 24 (8 * h + n) ≤ day ∧ S 24 (sWat S h day n) ≤ S 24 (8 * h + n)) (8 * h + n) (sWat S h day n) := rfl
theorem sWat_le (S : St) (h day : Int) (n : Nat) : sWat S h day n = 8 * h ∨ ∃ k, k < n ∧ sWat S h day n = 8 * h + (k : Nat) := by
  induction n with
  | zero => exact Or.inl rfl
  | succ n ih =>
    rw [sWat_s]
    by_cases c : S 24 (8 * h + n) ≤ day ∧ S 24 (sWat S h day n) ≤ S 24 (8 * h + n)
    · rw [cI_t c]; exact Or.inr ⟨n, by omega, rfl⟩
    · rw [cI_f c]
      rcases ih with e | ⟨k, h1, h2⟩
      · exact Or.inl e
      · exact Or.inr ⟨k, by omega, h2⟩
noncomputable def sWorth (S : St) (h day : Int) : Int := S 25 (sWat S h day (S 23 h).toNat)
noncomputable def sWeek (S : St) (day : Int) : Int := cI (sFeast S day) 7 (day % 7)
abbrev qLaw (S : St) (k day : Int) (j : Nat) : Prop := (S 4 j = k ∧ S 5 j = sWeek S day) ∧ S 3 j ≤ day
noncomputable def sLaw (S : St) (k day : Int) (n : Nat) : Int := lastN (fun j => (j : Int)) (qLaw S k day) (S 3) n
noncomputable def sLawOf (S : St) (k day : Int) : Int := sLaw S k day (S 2 0).toNat
abbrev sOpen (S : St) (at' minute : Int) : Prop := (0 ≤ at' ∧ S 6 at' ≤ minute) ∧ minute < S 7 at'
abbrev sMay (S : St) (minute : Int) (now ahead : Prop) (shut law before : Int) : Prop := ((now ∧ sOpen S law minute) ∧ (shut < 0 ∨ minute < shut)) ∨ (((now ∧ ahead) ∧ shut < 0) ∧ sOpen S before (minute + 1440))
noncomputable def sOff (S : St) (h day : Int) : Int := cnt (fun q => sCnt S h (16 * h + q) day ∧ day - 1825 ≤ S 20 (16 * h + q)) (S 19 h).toNat
noncomputable def sBefore (S : St) (h day : Int) : Int := cI (0 < day) (sLawOf S (S 17 h) (day - 1)) (-1)
noncomputable def sOpens (S : St) (h day fr : Int) (n : Nat) : Int := cnt (fun i => sMay S (fr + i) (sHas S h day) (0 < day ∧ sHas S h (day - 1)) (sCond S h day) (sLawOf S (S 17 h) day) (sBefore S h day)) n
/-- what holds of the state always -/
abbrev hEv (S : St) (h : Int) : Prop := 0 ≤ S 19 h ∧ S 19 h ≤ 16
abbrev iLaw (S : St) (j : Int) : Prop := (0 ≤ S 3 j ∧ S 3 j ≤ 3999) ∧ (0 ≤ S 4 j ∧ S 4 j ≤ 2) ∧ (0 ≤ S 5 j ∧ S 5 j ≤ 7) ∧ (0 ≤ S 6 j ∧ S 6 j ≤ 1439) ∧ (0 ≤ S 7 j ∧ S 7 j ≤ 1800)
abbrev iObj (S : St) (j : Int) : Prop := (0 ≤ S 11 j ∧ S 11 j ≤ 999) ∧ (0 ≤ S 12 j ∧ S 12 j ≤ 999) ∧ (1 ≤ S 13 j ∧ S 13 j ≤ 10)
abbrev iEv (S : St) (h j : Int) : Prop := (S 18 h ≤ S 20 (16 * h + j) ∧ S 20 (16 * h + j) ≤ 3999) ∧ (0 ≤ S 21 (16 * h + j) ∧ S 21 (16 * h + j) ≤ 6) ∧ (S 21 (16 * h + j) = 4 → 0 ≤ S 22 (16 * h + j) ∧ S 22 (16 * h + j) ≤ 1439)
abbrev iWo (S : St) (h j : Int) : Prop := (S 18 h ≤ S 24 (8 * h + j) ∧ S 24 (8 * h + j) ≤ 3999) ∧ (1 ≤ S 25 (8 * h + j) ∧ S 25 (8 * h + j) ≤ 100000)
abbrev iHouse (S : St) (h : Int) : Prop := ((0 ≤ S 15 h ∧ S 15 h ≤ 999) ∧ (0 ≤ S 16 h ∧ S 16 h ≤ 999) ∧ (0 ≤ S 17 h ∧ S 17 h ≤ 2) ∧ (0 ≤ S 18 h ∧ S 18 h ≤ 3999)) ∧ ((0 ≤ S 19 h ∧ S 19 h ≤ 16) ∧ (1 ≤ S 23 h ∧ S 23 h ≤ 8)) ∧ (S 26 h = 0 ∨ S 26 h = 1) ∧ S 24 (8 * h) = S 18 h
abbrev iUni (S : St) (h : Int) : Prop := ∀ i j : Nat, (i : Int) < S 19 h → (j : Int) < S 19 h → S 21 (16 * h + i) = 0 → S 21 (16 * h + j) = 0 → S 22 (16 * h + i) = S 22 (16 * h + j) → i = j
abbrev iQua (S : St) (h : Int) : Prop := ∀ i : Nat, (i : Int) < S 19 h → S 21 (16 * h + i) = 1 → ∃ j : Nat, (j : Int) < S 19 h ∧ S 21 (16 * h + j) = 0 ∧ S 22 (16 * h + j) = S 22 (16 * h + i)
def Inv (S : St) : Prop :=
  ((∀ k z, k < 26 → R32 (S k z)) ∧ (1 ≤ S 29 0 ∧ S 29 0 ≤ 2147483646)) ∧
  ((0 ≤ S 0 0 ∧ S 0 0 ≤ 20) ∧ (0 ≤ S 2 0 ∧ S 2 0 ≤ 40) ∧ (0 ≤ S 8 0 ∧ S 8 0 ≤ 200) ∧ (0 ≤ S 9 0 ∧ S 9 0 ≤ 500) ∧ (0 ≤ S 10 0 ∧ S 10 0 ≤ 20) ∧ (0 ≤ S 14 0 ∧ S 14 0 ≤ 30)) ∧
  (∀ j : Int, 0 ≤ j → j < S 2 0 → iLaw S j) ∧ (∀ j : Int, 0 ≤ j → j < S 10 0 → iObj S j) ∧
  (∀ h : Int, 0 ≤ h → h < S 14 0 → iHouse S h) ∧
  (∀ h j : Int, 0 ≤ h → h < S 14 0 → 0 ≤ j → j < S 19 h → iEv S h j) ∧ (∀ h j : Int, 0 ≤ h → h < S 14 0 → 0 ≤ j → j < S 23 h → iWo S h j) ∧
  (∀ h : Int, 0 ≤ h → h < S 14 0 → iUni S h ∧ iQua S h) ∧ (∀ h : Int, S 14 0 ≤ h → S 19 h = 0 ∧ S 26 h = 0)
theorem Inv.R {S : St} (h : Inv S) {k : Nat} {z : Int} (hk : k < 26) : R32 (S k z) := h.1.1 k z hk
theorem Inv.nums {S : St} (h : Inv S) : (0 ≤ S 0 0 ∧ S 0 0 ≤ 20) ∧ (0 ≤ S 2 0 ∧ S 2 0 ≤ 40) ∧ (0 ≤ S 8 0 ∧ S 8 0 ≤ 200) ∧ (0 ≤ S 9 0 ∧ S 9 0 ≤ 500) ∧ (0 ≤ S 10 0 ∧ S 10 0 ≤ 20) ∧ (0 ≤ S 14 0 ∧ S 14 0 ≤ 30) := h.2.1
theorem Inv.law {S : St} (h : Inv S) {j : Int} (h0 : 0 ≤ j) (h1 : j < S 2 0) : iLaw S j := h.2.2.1 j h0 h1
theorem Inv.obj {S : St} (h : Inv S) {j : Int} (h0 : 0 ≤ j) (h1 : j < S 10 0) : iObj S j := h.2.2.2.1 j h0 h1
theorem Inv.house {S : St} (hi : Inv S) {h : Int} (h0 : 0 ≤ h) (h1 : h < S 14 0) : iHouse S h := hi.2.2.2.2.1 h h0 h1
theorem Inv.ev {S : St} (hi : Inv S) {h j : Int} (h0 : 0 ≤ h) (h1 : h < S 14 0) (h2 : 0 ≤ j) (h3 : j < S 19 h) : iEv S h j := hi.2.2.2.2.2.1 h j h0 h1 h2 h3
theorem Inv.wo {S : St} (hi : Inv S) {h j : Int} (h0 : 0 ≤ h) (h1 : h < S 14 0) (h2 : 0 ≤ j) (h3 : j < S 23 h) : iWo S h j := hi.2.2.2.2.2.2.1 h j h0 h1 h2 h3
theorem Inv.uni {S : St} (hi : Inv S) {h : Int} (h0 : 0 ≤ h) (h1 : h < S 14 0) : iUni S h ∧ iQua S h := hi.2.2.2.2.2.2.2.1 h h0 h1
theorem Inv.out {S : St} (hi : Inv S) {h : Int} (h0 : S 14 0 ≤ h) : S 19 h = 0 ∧ S 26 h = 0 := hi.2.2.2.2.2.2.2.2 h h0
theorem Inv.seed {S : St} (hi : Inv S) : 1 ≤ S 29 0 ∧ S 29 0 ≤ 2147483646 := hi.1.2

theorem Inv.endB {S : St} (hi : Inv S) {h day a : Int} (h0 : 0 ≤ h ∧ h < S 14 0) (ha : 0 ≤ a) {n : Nat} (hn : (n : Int) ≤ S 19 h) : 0 ≤ sEnd S h day a n ∧ sEnd S h day a n ≤ a :=
  mn_b ha (fun k hk _ => by have := hi.ev h0.1 h0.2 (j := k) (by omega) (by omega); have := hi.house h0.1 h0.2; show 0 ≤ S 20 (16 * h + k); omega)
theorem Inv.lapB {S : St} (hi : Inv S) {h day a : Int} (h0 : 0 ≤ h ∧ h < S 14 0) (ha : 0 ≤ a) {n : Nat} (hn : (n : Int) ≤ S 19 h) : 0 ≤ sLap S h day a n ∧ sLap S h day a n ≤ a :=
  mn_b ha (fun k hk _ => by have := hi.ev h0.1 h0.2 (j := k) (by omega) (by omega); have := hi.house h0.1 h0.2; show 0 ≤ S 20 (16 * h + k) + 28; omega)
theorem Inv.surB {S : St} (hi : Inv S) {h day a : Int} (h0 : 0 ≤ h ∧ h < S 14 0) (ha : 0 ≤ a) {n : Nat} (hn : (n : Int) ≤ S 19 h) : 0 ≤ sSur S h day a n ∧ sSur S h day a n ≤ a :=
  mn_b ha (fun k hk _ => by have := hi.ev h0.1 h0.2 (j := k) (by omega) (by omega); have := hi.house h0.1 h0.2; show 0 ≤ S 20 (16 * h + k); omega)
theorem sCat_b (S : St) {h : Int} (day : Int) (n : Nat) (h0 : 0 ≤ h) : sCat S h day n = -1 ∨ (16 * h ≤ sCat S h day n ∧ sCat S h day n < 16 * h + n) := by
  rcases lastN_q (fun j => 16 * h + j) (qCat S h day) (S 20) n with e | ⟨k, h1, h2, -⟩
  · exact Or.inl e
  · refine Or.inr ?_
    show 16 * h ≤ lastN _ _ _ n ∧ lastN _ _ _ n < 16 * h + n
    rw [h2]
    omega
theorem sLaw_b (S : St) (k day : Int) (n : Nat) : sLaw S k day n = -1 ∨ (0 ≤ sLaw S k day n ∧ sLaw S k day n < n) := by
  rcases lastN_q (fun j => (j : Int)) (qLaw S k day) (S 3) n with e | ⟨k', h1, h2, -⟩
  · exact Or.inl e
  · refine Or.inr ?_
    show 0 ≤ lastN _ _ _ n ∧ lastN _ _ _ n < n
    rw [h2]
    omega
theorem sWat_b (S : St) (h day : Int) (n : Nat) (hn : 1 ≤ n) : 8 * h ≤ sWat S h day n ∧ sWat S h day n < 8 * h + n := by
  rcases sWat_le S h day n with e | ⟨k, h1, h2⟩
  · rw [e]; omega
  · rw [h2]; omega
theorem off2_b {x y x2 y2 : Int} (h : isP x y) (h2 : isP x2 y2) : 0 ≤ off2 x y x2 y2 ∧ off2 x y x2 y2 ≤ 1996002 := by
  have a := sq_b2 (a := x - x2) (b := 999) (by omega) (by omega)
  have b := sq_b2 (a := y - y2) (b := 999) (by omega) (by omega)
  show 0 ≤ (x - x2) * (x - x2) + (y - y2) * (y - y2) ∧ (x - x2) * (x - x2) + (y - y2) * (y - y2) ≤ 1996002
  omega
theorem sLap_t {S : St} {h day a : Int} {n : Nat} (h1 : qLap S h day n) (h2 : S 20 (16 * h + n) + 28 < sLap S h day a n) : sLap S h day a (n + 1) = S 20 (16 * h + n) + 28 := mn_t (f := fun j => S 20 (16 * h + j) + 28) h1 h2
theorem sLap_f {S : St} {h day a : Int} {n : Nat} (h1 : ¬ (qLap S h day n ∧ S 20 (16 * h + n) + 28 < sLap S h day a n)) : sLap S h day a (n + 1) = sLap S h day a n := mn_f (f := fun j => S 20 (16 * h + j) + 28) h1
