/-! conditions, worths, hours: the class's way and the reference's -/
noncomputable def latD (S : St) (h day : Int) (n : Nat) : Int := cI (sCat S h day n < 0) 0 (S 20 (sCat S h day n))
noncomputable def conD (S : St) (h day : Int) (n : Nat) : Int := cI (sCat S h day n < 0 ∨ S 21 (sCat S h day n) = 5) (-4) (S 22 (sCat S h day n))
theorem latD_t {S : St} {h day : Int} {n : Nat} (h0 : 0 ≤ h) (h1 : 4 ≤ S 21 (16 * h + n) ∧ S 21 (16 * h + n) ≤ 5) (h2 : latD S h day n ≤ S 20 (16 * h + n) ∧ S 20 (16 * h + n) ≤ day) : latD S h day (n + 1) = S 20 (16 * h + n) ∧ conD S h day (n + 1) = cI (S 21 (16 * h + n) = 5) (-4) (S 22 (16 * h + n)) := by
  have e : sCat S h day (n + 1) = 16 * h + n := by
    refine lastN_t (ix := fun j => 16 * h + j) (q := qCat S h day) (f := S 20) ⟨h1, h2.2⟩ ?_
    have h3 := h2.1
    unfold latD at h3
    by_cases c : sCat S h day n < 0
    · exact Or.inl c
    · rw [cI_f c] at h3; exact Or.inr h3
  unfold latD conD
  rw [e, cI_f (show ¬ 16 * h + (n : Int) < 0 by omega)]
  refine ⟨rfl, ?_⟩
  by_cases c : S 21 (16 * h + n) = 5
  · rw [cI_t (Or.inr c), cI_t c]
  · rw [cI_f (fun z => z.elim (fun y => absurd y (by omega)) c), cI_f c]
theorem latD_f {S : St} {h day : Int} {n : Nat} (hd : 0 ≤ S 20 (16 * h + n)) (h1 : ¬ ((4 ≤ S 21 (16 * h + n) ∧ S 21 (16 * h + n) ≤ 5) ∧ (latD S h day n ≤ S 20 (16 * h + n) ∧ S 20 (16 * h + n) ≤ day))) : latD S h day (n + 1) = latD S h day n ∧ conD S h day (n + 1) = conD S h day n := by
  have e : sCat S h day (n + 1) = sCat S h day n := by
    refine lastN_f (ix := fun j => 16 * h + j) (q := qCat S h day) (f := S 20) (fun z => h1 ⟨z.1.1, ?_, z.1.2⟩)
    unfold latD
    by_cases c : sCat S h day n < 0
    · rw [cI_t c]; exact hd
    · rw [cI_f c]
      exact z.2.elim (fun y => absurd y c) id
  unfold latD conD
  rw [e]
  exact ⟨rfl, rfl⟩
theorem latD_b {S : St} (hI : Inv S) {h : Int} (h0 : 0 ≤ h ∧ h < S 14 0) (day : Int) {n : Nat} (hn : (n : Int) ≤ S 19 h) : 0 ≤ latD S h day n ∧ latD S h day n ≤ 3999 := by
  have hH := hI.house h0.1 h0.2
  unfold latD
  by_cases c : sCat S h day n < 0
  · rw [cI_t c]; decide
  · rw [cI_f c]
    rcases lastN_q (fun j => 16 * h + j) (qCat S h day) (S 20) n with e | ⟨k, h1, h2, h3⟩
    · exact absurd (show lastN _ _ _ _ < 0 by rw [e]; decide) c
    · have e2 : sCat S h day n = 16 * h + (k : Nat) := h2
      rw [e2]
      have hv := hI.ev h0.1 h0.2 (j := (k : Int)) (by omega) (by omega)
      omega
noncomputable def wLat (S : St) (h day : Int) (n : Nat) : Int := cI (n = 0 ∨ day < S 18 h) 0 (S 24 (sWat S h day n))
theorem wLat_t {S : St} (hI : Inv S) {h day : Int} (h0 : 0 ≤ h ∧ h < S 14 0) {n : Nat} (hn : (n : Int) < S 23 h) (h2 : wLat S h day n ≤ S 24 (8 * h + n) ∧ S 24 (8 * h + n) ≤ day) : wLat S h day (n + 1) = S 24 (8 * h + n) ∧ sWat S h day (n + 1) = 8 * h + n := by
  have hH := hI.house h0.1 h0.2
  have hw := hI.wo h0.1 h0.2 (j := (n : Int)) (by omega) hn
  have e : sWat S h day (n + 1) = 8 * h + n := by
    rw [sWat_s]
    refine cI_t ⟨h2.2, ?_⟩
    have h3 := h2.1
    unfold wLat at h3
    by_cases c : n = 0 ∨ day < S 18 h
    · rcases c with c | c
      · subst c
        show S 24 (8 * h) ≤ S 24 (8 * h + 0)
        rw [Int.add_zero]; exact Int.le_refl _
      · omega
    · rw [cI_f c] at h3; exact h3
  refine ⟨?_, e⟩
  unfold wLat
  rw [cI_f (by omega), e]
theorem wLat_f {S : St} (hI : Inv S) {h day : Int} (h0 : 0 ≤ h ∧ h < S 14 0) {n : Nat} (hn : (n : Int) < S 23 h) (h2 : ¬ (wLat S h day n ≤ S 24 (8 * h + n) ∧ S 24 (8 * h + n) ≤ day)) : wLat S h day (n + 1) = wLat S h day n ∧ sWat S h day (n + 1) = sWat S h day n := by
  have hH := hI.house h0.1 h0.2
  have hw := hI.wo h0.1 h0.2 (j := (n : Int)) (by omega) hn
  have hnz : ¬ (n = 0 ∧ S 18 h ≤ day) := by
    intro z
    refine h2 ⟨?_, ?_⟩
    · unfold wLat; rw [cI_t (Or.inl z.1)]; omega
    · rw [z.1]
      show S 24 (8 * h + 0) ≤ day
      rw [Int.add_zero]; omega
  have e : sWat S h day (n + 1) = sWat S h day n := by
    rw [sWat_s]
    refine cI_f (fun z => h2 ⟨?_, z.1⟩)
    unfold wLat
    by_cases c : n = 0 ∨ day < S 18 h
    · rw [cI_t c]; omega
    · rw [cI_f c]; exact z.2
  refine ⟨?_, e⟩
  unfold wLat
  rw [e]
  by_cases c : day < S 18 h
  · rw [cI_t (Or.inr c), cI_t (Or.inr c)]
  · rw [cI_f (by omega), cI_f (by omega)]
theorem wLat_b {S : St} (hI : Inv S) {h day : Int} (h0 : 0 ≤ h ∧ h < S 14 0) {n : Nat} (hn : (n : Int) ≤ S 23 h) : 0 ≤ wLat S h day n ∧ wLat S h day n ≤ 3999 := by
  have hH := hI.house h0.1 h0.2
  unfold wLat
  by_cases c : n = 0 ∨ day < S 18 h
  · rw [cI_t c]; decide
  · rw [cI_f c]
    rcases sWat_le S h day n with e | ⟨k, k1, k2⟩
    · rw [e]; omega
    · rw [k2]
      have hw := hI.wo h0.1 h0.2 (j := (k : Int)) (by omega) (by omega)
      omega
theorem sWorth_b {S : St} (hI : Inv S) {h : Int} (h0 : 0 ≤ h ∧ h < S 14 0) (day : Int) : 1 ≤ sWorth S h day ∧ sWorth S h day ≤ 100000 := by
  have hH := hI.house h0.1 h0.2
  unfold sWorth
  rcases sWat_le S h day (S 23 h).toNat with e | ⟨k, k1, k2⟩
  · have hw := (hI.wo h0.1 h0.2 (j := 0) (by omega) (by omega)).2
    rw [Int.add_zero] at hw
    rw [e]; omega
  · rw [k2]
    have hw := hI.wo h0.1 h0.2 (j := (k : Int)) (by omega) (by omega)
    omega
/-- hours -/
def lawF (S : St) (k : Nat) (z : Int) : Int := if z < 0 then 0 else S k z
theorem lawF_le {S : St} {k : Nat} {z x : Int} (hx : 0 ≤ x) : lawF S k z ≤ x ↔ (z < 0 ∨ S k z ≤ x) := by
  unfold lawF
  by_cases c : z < 0
  · rw [if_pos c]; exact ⟨fun _ => Or.inl c, fun _ => hx⟩
  · rw [if_neg c]; exact ⟨fun y => Or.inr y, fun y => y.elim (fun w => absurd w c) id⟩
theorem lawF_R {S : St} (hI : Inv S) {k : Nat} (hk : k < 26) (z : Int) : R32 (lawF S k z) := by
  unfold lawF
  by_cases c : z < 0
  · rw [if_pos c]; decide
  · rw [if_neg c]; exact hI.R hk
theorem lawF_b {S : St} (hI : Inv S) (k day : Int) : (0 ≤ lawF S 6 (sLawOf S k day) ∧ lawF S 6 (sLawOf S k day) ≤ 1439) ∧ (0 ≤ lawF S 7 (sLawOf S k day) ∧ lawF S 7 (sLawOf S k day) ≤ 1800) := by
  unfold lawF
  rcases sLaw_b S k day (S 2 0).toNat with e | e
  · have e2 : sLawOf S k day = -1 := e
    rw [e2, if_pos (by decide), if_pos (by decide)]; decide
  · have e2 : 0 ≤ sLawOf S k day ∧ sLawOf S k day < (S 2 0).toNat := e
    have hl := hI.law e2.1 (by omega)
    rw [if_neg (by omega), if_neg (by omega)]
    omega
theorem sLawOf_b' (S : St) (k day : Int) : sLawOf S k day = -1 ∨ (0 ≤ sLawOf S k day ∧ sLawOf S k day < S 2 0) := by
  rcases sLaw_b S k day (S 2 0).toNat with e | e
  · exact Or.inl e
  · have e2 : 0 ≤ sLawOf S k day ∧ sLawOf S k day < (S 2 0).toNat := e
    exact Or.inr ⟨e2.1, by omega⟩
noncomputable def oM (S : St) (h day : Int) : Int := cI (day = 0 ∨ sCond S h day ≠ -4 ∨ ¬ sHas S h day ∨ ¬ sHas S h (day - 1)) 0 (max 0 (lawF S 7 (sLawOf S (S 17 h) (day - 1)) - 1440))
noncomputable def oT (S : St) (h day : Int) : Int := cI (sHas S h day) (min (lawF S 7 (sLawOf S (S 17 h) day)) (cI (sCond S h day = -4) 1440 (sCond S h day))) 0
theorem may_iff {S : St} (hI : Inv S) {h day m : Int} (h0 : 0 ≤ h ∧ h < S 14 0) (hd : isD day) (hm : 0 ≤ m ∧ m ≤ 1439) (hc : sCond S h day = -4 ∨ (0 ≤ sCond S h day ∧ sCond S h day ≤ 1439)) : sMay S m (sHas S h day) (0 < day ∧ sHas S h (day - 1)) (sCond S h day) (sLawOf S (S 17 h) day) (sBefore S h day) ↔ (m < oM S h day ∨ (lawF S 6 (sLawOf S (S 17 h) day) ≤ m ∧ m < oT S h day)) := by
  have b1 := lawF_b hI (S 17 h) day
  have b2 := lawF_b hI (S 17 h) (day - 1)
  have own : (((sHas S h day) ∧ sOpen S (sLawOf S (S 17 h) day) m) ∧ (sCond S h day < 0 ∨ m < sCond S h day)) ↔ (lawF S 6 (sLawOf S (S 17 h) day) ≤ m ∧ m < oT S h day) := by
    unfold oT
    by_cases c : sHas S h day
    · rw [cI_t c]
      have e : sOpen S (sLawOf S (S 17 h) day) m ↔ (lawF S 6 (sLawOf S (S 17 h) day) ≤ m ∧ m < lawF S 7 (sLawOf S (S 17 h) day)) := by
        unfold lawF
        rcases sLawOf_b' S (S 17 h) day with z | z
        · rw [z]
          show ((0 ≤ (-1 : Int) ∧ _) ∧ _) ↔ _
          rw [if_pos (by decide), if_pos (by decide)]
          omega
        · rw [if_neg (by omega), if_neg (by omega)]
          exact ⟨fun y => ⟨y.1.2, y.2⟩, fun y => ⟨⟨z.1, y.1⟩, y.2⟩⟩
      rw [e]
      by_cases c2 : sCond S h day = -4
      · rw [cI_t c2]; constructor <;> intro y <;> omega
      · rw [cI_f c2]; constructor <;> intro y <;> omega
    · rw [cI_f c]
      exact ⟨fun y => absurd y.1.1 c, fun y => by omega⟩
  have over : ((((sHas S h day) ∧ (0 < day ∧ sHas S h (day - 1))) ∧ sCond S h day < 0) ∧ sOpen S (sBefore S h day) (m + 1440)) ↔ m < oM S h day := by
    unfold oM sBefore
    by_cases c : day = 0 ∨ sCond S h day ≠ -4 ∨ ¬ sHas S h day ∨ ¬ sHas S h (day - 1)
    · rw [cI_t c]
      refine ⟨fun y => ?_, fun y => by omega⟩
      rcases c with c | c | c | c
      · have := y.1.1.2.1; omega
      · have := y.1.2; omega
      · exact absurd y.1.1.1 c
      · exact absurd y.1.1.2.2 c
    · rw [cI_f c]
      have d1 : ¬ day = 0 := fun z => c (Or.inl z)
      have d2 : sCond S h day = -4 := Classical.not_not.mp (fun z => c (Or.inr (Or.inl z)))
      have d3 : sHas S h day := Classical.not_not.mp (fun z => c (Or.inr (Or.inr (Or.inl z))))
      have d4 : sHas S h (day - 1) := Classical.not_not.mp (fun z => c (Or.inr (Or.inr (Or.inr z))))
      rw [cI_t (show 0 < day by omega)]
      have e : sOpen S (sLawOf S (S 17 h) (day - 1)) (m + 1440) ↔ m + 1440 < lawF S 7 (sLawOf S (S 17 h) (day - 1)) := by
        unfold lawF
        rcases sLawOf_b' S (S 17 h) (day - 1) with z | z
        · rw [z]
          show ((0 ≤ (-1 : Int) ∧ _) ∧ _) ↔ _
          rw [if_pos (by decide)]
          omega
        · rw [if_neg (by omega)]
          have hl := hI.law z.1 (by omega)
          exact ⟨fun y => y.2, fun y => ⟨⟨z.1, by omega⟩, y⟩⟩
      rw [e]
      constructor
      · rintro ⟨-, y⟩; omega
      · intro y; exact ⟨⟨⟨d3, by omega, d4⟩, by omega⟩, by omega⟩
  constructor
  · rintro (y | y)
    · exact Or.inr (own.mp y)
    · exact Or.inl (over.mp y)
  · rintro (y | y)
    · exact Or.inr (over.mpr y)
    · exact Or.inl (own.mpr y)
theorem cnt_two {a b c : Int} (ha : 0 ≤ a) (n : Nat) : cnt (fun i => (i : Int) < a ∨ (b ≤ (i : Int) ∧ (i : Int) < c)) n = min a n + max 0 (min c n - max b a) ∨ b < 0 := by
  by_cases hb : b < 0
  · exact Or.inr hb
  · refine Or.inl ?_
    induction n with
    | zero => show (0 : Int) = _; omega
    | succ n ih =>
      show cnt _ n + bI _ = _
      rw [ih]
      by_cases q : (n : Int) < a ∨ (b ≤ (n : Int) ∧ (n : Int) < c)
      · rw [bI_t q]; omega
      · rw [bI_f q]; omega
theorem minutes_eq {S : St} (hI : Inv S) {h day : Int} (h0 : 0 ≤ h ∧ h < S 14 0) (hd : isD day) (hc : sCond S h day = -4 ∨ (0 ≤ sCond S h day ∧ sCond S h day ≤ 1439)) : sOpens S h day 0 1440 = oM S h day + max 0 (oT S h day - max (lawF S 6 (sLawOf S (S 17 h) day)) (oM S h day)) := by
  have b1 := lawF_b hI (S 17 h) day
  have b2 := lawF_b hI (S 17 h) (day - 1)
  have m1 : 0 ≤ oM S h day ∧ oM S h day ≤ 360 := by
    unfold oM
    by_cases c : day = 0 ∨ sCond S h day ≠ -4 ∨ ¬ sHas S h day ∨ ¬ sHas S h (day - 1)
    · rw [cI_t c]; decide
    · rw [cI_f c]; omega
  have m2 : oT S h day ≤ 1440 := by
    unfold oT
    by_cases c : sHas S h day
    · rw [cI_t c]
      by_cases c2 : sCond S h day = -4
      · rw [cI_t c2]; omega
      · rw [cI_f c2]; omega
    · rw [cI_f c]; decide
  have e : sOpens S h day 0 1440 = cnt (fun i => (i : Int) < oM S h day ∨ (lawF S 6 (sLawOf S (S 17 h) day) ≤ (i : Int) ∧ (i : Int) < oT S h day)) 1440 := by
    refine cnt_congr (fun k hk => ?_)
    show sMay S (0 + (k : Int)) _ _ _ _ _ ↔ _
    rw [Int.zero_add]
    exact may_iff hI h0 hd (by omega) hc
  rw [e]
  rcases cnt_two (a := oM S h day) (b := lawF S 6 (sLawOf S (S 17 h) day)) (c := oT S h day) m1.1 1440 with z | z
  · rw [z]; omega
  · omega
