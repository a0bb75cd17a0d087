/-! what each call answers, and the state behind it -/
noncomputable def aFeast (S : St) (d : Int) : Int := cI (isD d) (cI (sFeast S d) (-2) (cI (S 0 0 = 20) (-3) (S 0 0 + 1))) (-1)
noncomputable def tFeast (S : St) (d : Int) : St := cI (isD d ∧ ¬ sFeast S d ∧ S 0 0 ≠ 20) (up (up S 1 (S 0 0) d) 0 0 (S 0 0 + 1)) S
abbrev vLaw (d k w f t : Int) : Prop := (isD d ∧ (0 ≤ k ∧ k ≤ 2) ∧ (0 ≤ w ∧ w ≤ 7)) ∧ ((f = 0 ∧ t = 0) ∨ ((0 ≤ f ∧ f ≤ 1439) ∧ f < t ∧ t ≤ 1800))
noncomputable def aLaw (S : St) (d k w f t : Int) : Int := cI (vLaw d k w f t) (cI (S 2 0 = 40) (-3) (S 2 0 + 1)) (-1)
noncomputable def tLaw (S : St) (d k w f t : Int) : St := cI (vLaw d k w f t ∧ S 2 0 ≠ 40) (up (up (up (up (up (up S 3 (S 2 0) d) 4 (S 2 0) k) 5 (S 2 0) w) 6 (S 2 0) f) 7 (S 2 0) t) 2 0 (S 2 0 + 1)) S
abbrev vRule (what v : Int) : Prop := (what = 0 ∧ 0 ≤ v ∧ v ≤ 200) ∨ (what = 1 ∧ 0 ≤ v ∧ v ≤ 500)
noncomputable def aRule (S : St) (what v : Int) : Int := cI (vRule what v) (cI (what = 0) (S 8 0) (S 9 0)) (-1)
noncomputable def tRule (S : St) (what v : Int) : St := cI (vRule what v) (up (up S 8 0 (cI (what = 0) v (S 8 0))) 9 0 (cI (what = 1) v (S 9 0))) S
abbrev vObj (x y w : Int) : Prop := isP x y ∧ 1 ≤ w ∧ w ≤ 10
noncomputable def aObj (S : St) (x y w : Int) : Int := cI (vObj x y w) (cI (S 10 0 = 20) (-3) (S 10 0 + 1)) (-1)
noncomputable def tObj (S : St) (x y w : Int) : St := cI (vObj x y w ∧ S 10 0 ≠ 20) (up (up (up (up S 11 (S 10 0) x) 12 (S 10 0) y) 13 (S 10 0) w) 10 0 (S 10 0 + 1)) S
abbrev qCrowd (S : St) (x y day : Int) (h : Nat) : Prop := sHas S (h : Int) day ∧ off2 x y (S 15 (h : Int)) (S 16 (h : Int)) < S 8 0 * S 8 0
noncomputable def sHeard (S : St) (x y : Int) (n : Nat) : Int := sumN (fun k => cI (off2 x y (S 11 (k : Int)) (S 12 (k : Int)) ≤ S 9 0 * S 9 0) (S 13 (k : Int)) 0) n
noncomputable def sJudge (S : St) (x y no se : Int) : Int := cI (se - no < 21) 1 (cI (exN (qCrowd S x y se) (S 14 0).toNat) 2 (cI (10 < sHeard S x y (S 10 0).toNat) 3 0))
abbrev vAsk (x y k w no se : Int) : Prop := isP x y ∧ (0 ≤ k ∧ k ≤ 2) ∧ (1 ≤ w ∧ w ≤ 100000) ∧ isD no ∧ isD se ∧ no ≤ se
noncomputable def aAsk (S : St) (x y k w no se : Int) : Int := cI (vAsk x y k w no se) (cI (S 14 0 = 30) (-3) (cI (0 < sJudge S x y no se) (-10 - sJudge S x y no se) (S 14 0))) (-1)
def newHouse (S : St) (x y k w se : Int) : St := up (up (up (up (up (up (up (up S 15 (S 14 0) x) 16 (S 14 0) y) 17 (S 14 0) k) 18 (S 14 0) se) 23 (S 14 0) 1) 24 (8 * S 14 0) se) 25 (8 * S 14 0) w) 14 0 (S 14 0 + 1)
noncomputable def tAsk (S : St) (x y k w no se : Int) : St := cI (vAsk x y k w no se ∧ S 14 0 ≠ 30) (cI (0 < sJudge S x y no se) (up S 28 0 (S 28 0 + 1)) (newHouse S x y k w se)) S
abbrev vEv (k v : Int) : Prop := ((k = 0 ∨ k = 1) ∧ 0 ≤ v ∧ v ≤ 99) ∨ (k = 4 ∧ 0 ≤ v ∧ v ≤ 1439) ∨ (k ≠ 0 ∧ k ≠ 1 ∧ k ≠ 4 ∧ 2 ≤ k ∧ k ≤ 6)
abbrev qTold (S : St) (h v : Int) (q : Nat) : Prop := S 21 (16 * h + (q : Nat)) = 0 ∧ S 22 (16 * h + (q : Nat)) = v
abbrev sTold (S : St) (h v : Int) : Prop := exN (qTold S h v) (S 19 h).toNat
abbrev nEv (S : St) (h d k v : Int) : Prop := d < S 18 h ∨ (k = 0 ∧ sTold S h v) ∨ (k = 1 ∧ ¬ sTold S h v)
noncomputable def aEvent (S : St) (h d k v : Int) : Int := cI ((0 ≤ h ∧ h < S 14 0) ∧ isD d ∧ vEv k v) (cI (nEv S h d k v) (-2) (cI (S 19 h = 16) (-3) (S 19 h + 1))) (-1)
def newEvent (S : St) (h d k v : Int) : St := up (up (up (up S 20 (16 * h + S 19 h) d) 21 (16 * h + S 19 h) k) 22 (16 * h + S 19 h) v) 19 h (S 19 h + 1)
noncomputable def tEvent (S : St) (h d k v : Int) : St := cI (((0 ≤ h ∧ h < S 14 0) ∧ isD d ∧ vEv k v) ∧ ¬ nEv S h d k v ∧ S 19 h ≠ 16) (newEvent S h d k v) S
noncomputable def aWorth (S : St) (h d w : Int) : Int := cI ((0 ≤ h ∧ h < S 14 0) ∧ isD d ∧ 1 ≤ w ∧ w ≤ 100000) (cI (S 23 h = 8) (-3) (S 23 h + 1)) (-1)
noncomputable def newWorth (S : St) (h d w : Int) : St := up (up (up S 24 (8 * h + S 23 h) (cI (d < S 18 h) (S 18 h) d)) 25 (8 * h + S 23 h) w) 23 h (S 23 h + 1)
noncomputable def tWorth (S : St) (h d w : Int) : St := cI (((0 ≤ h ∧ h < S 14 0) ∧ isD d ∧ 1 ≤ w ∧ w ≤ 100000) ∧ S 23 h ≠ 8) (newWorth S h d w) S
noncomputable def aOn (S : St) (h day what : Int) : Int := cI ((0 ≤ h ∧ h < S 14 0) ∧ isD day ∧ 0 ≤ what ∧ what ≤ 3) (cI (what = 0) (sState S h day 100000) (cI (what = 1) (sOff S h day) (cI (what = 2) (sCond S h day) (sWorth S h day)))) (-1)
noncomputable def aCount (S : St) (what : Int) : Int := cI (what = 0) (S 14 0) (cI (what = 1) (S 2 0) (cI (what = 2) (S 0 0) (cI (what = 3) (S 10 0) (cI (what = 4) (S 27 0) (cI (what = 5) (S 28 0) (-1))))))
abbrev qMany (S : St) (day a : Int) (h : Nat) : Prop := sHas S (h : Int) day ∧ (a ≠ 0 ∨ S 26 (h : Int) = 0)
noncomputable def sMany (S : St) (day a : Int) (n : Nat) : Int := cnt (qMany S day a) n
def clr (S : St) (n : Int) : St := fun a b => if a = 26 then (if 0 ≤ b ∧ b < n then 0 else S a b) else S a b
def tRound (S : St) : St := up (clr S 30) 27 0 0
noncomputable def aSeed (v : Int) : Int := cI (1 ≤ v ∧ v ≤ 2147483646) 0 (-1)
noncomputable def tSeed (S : St) (v : Int) : St := cI (1 ≤ v ∧ v ≤ 2147483646) (tRound (up S 29 0 v)) S
/-- the r-th (from 0) of those with q, below n; -1 -/
noncomputable def pkN (q : Nat → Prop) (r : Int) : Nat → Int
  | 0 => -1
  | n + 1 => cI (pkN q r n < 0 ∧ q n ∧ cnt q n = r) (n : Int) (pkN q r n)
theorem pkN_s (q : Nat → Prop) (r : Int) (n : Nat) : pkN q r (n + 1) = cI (pkN q r n < 0 ∧ q n ∧ cnt q n = r) (n : Int) (pkN q r n) := rfl
theorem pkN_m (q : Nat → Prop) (r : Int) (n : Nat) : pkN q r n = -1 ∨ (0 ≤ pkN q r n ∧ pkN q r n < n) := by
  induction n with
  | zero => exact Or.inl rfl
  | succ n ih =>
    rw [pkN_s]
    by_cases h : pkN q r n < 0 ∧ q n ∧ cnt q n = r
    · rw [cI_t h]; omega
    · rw [cI_f h]; omega
theorem pkN_stay (q : Nat → Prop) (r : Int) (n : Nat) (h : 0 ≤ pkN q r n) : ∀ k, pkN q r (n + k) = pkN q r n := by
  intro k
  induction k with
  | zero => rfl
  | succ k ih =>
    show pkN q r (n + k + 1) = _
    rw [pkN_s, cI_f (fun z => by have := z.1; omega), ih]
theorem cnt_mono (q : Nat → Prop) (n : Nat) : ∀ k, cnt q n ≤ cnt q (n + k) := by
  intro k
  induction k with
  | zero => exact Int.le_refl _
  | succ k ih =>
    show _ ≤ cnt q (n + k) + bI (q (n + k))
    have := bI_le (q (n + k))
    omega
/-- it is there, when r is below how many there are -/
theorem pkN_ex (q : Nat → Prop) (r : Int) (n : Nat) (h0 : 0 ≤ r) (h : r < cnt q n) : 0 ≤ pkN q r n := by
  induction n with
  | zero => exact absurd h (by show ¬ r < 0; omega)
  | succ n ih =>
    rw [pkN_s]
    by_cases c : pkN q r n < 0 ∧ q n ∧ cnt q n = r
    · rw [cI_t c]; omega
    · rw [cI_f c]
      by_cases d : r < cnt q n
      · exact ih d
      · have h2 : r < cnt q n + bI (q n) := h
        by_cases e : q n
        · rw [bI_t e] at h2
          by_cases f : pkN q r n < 0
          · exact absurd ⟨f, e, by omega⟩ c
          · omega
        · rw [bI_f e] at h2; omega
/-- the state in which a visit draws -/
noncomputable def tVis1 (S : St) (day : Int) : St := cI (sMany S day 0 (S 14 0).toNat = 0) (tRound S) S
noncomputable def tVis2 (S : St) (day : Int) : St := up (tVis1 S day) 29 0 (S 29 0 * 16807 % 2147483647)
noncomputable def sVis (S : St) (day : Int) : Int := pkN (qMany (tVis2 S day) day 0) (S 29 0 * 16807 % 2147483647 % sMany (tVis2 S day) day 0 (S 14 0).toNat) (S 14 0).toNat
noncomputable def aVisit (S : St) (day : Int) : Int := cI (isD day) (cI (sMany S day 1 (S 14 0).toNat = 0) (-2) (sVis S day)) (-1)
noncomputable def tVisit (S : St) (day : Int) : St := cI (isD day ∧ sMany S day 1 (S 14 0).toNat ≠ 0) (up (up (tVis2 S day) 26 (sVis S day) 1) 27 0 (tVis2 S day 27 0 + 1)) S
/-- what of the state the licences look at -/
theorem sHas_congr {S S' : St} (h18 : S' 18 = S 18) (h19 : S' 19 = S 19) (h20 : S' 20 = S 20) (h21 : S' 21 = S 21) (h22 : S' 22 = S 22) (h day a : Int) : sState S' h day a = sState S h day a := by
  have hQ : ∀ e, sQuash S' h e day = sQuash S h e day := fun e => funext fun q => by simp only [sQuash, h20, h21, h22]
  have hC : ∀ e, sCnt S' h e day = sCnt S h e day := fun e => by simp only [sCnt, hQ, h19, h20, h21]
  have hN : ∀ j, qNum S' h day j = qNum S h day j := fun j => funext fun q => by simp only [qNum, hC, h20]
  have hE : qEnd S' h day = qEnd S h day := funext fun j => by simp only [qEnd, sNum, hN, hC, h19]
  have hT : ∀ j, sTrans S' h j = sTrans S h j := fun j => funext fun q => by simp only [sTrans, h20, h21]
  have hL : qLap S' h day = qLap S h day := funext fun j => by simp only [qLap, hT, h19, h20, h21]
  have hU : qSur S' h day = qSur S h day := funext fun j => by simp only [qSur, h20, h21]
  simp only [sState, sEnd, sLap, sSur, hE, hL, hU, h18, h19, h20]
theorem sWorth_congr {S S' : St} (h23 : S' 23 = S 23) (h24 : S' 24 = S 24) (h25 : S' 25 = S 25) (h day : Int) : sWorth S' h day = sWorth S h day := by
  have e : ∀ n, sWat S' h day n = sWat S h day n := by
    intro n
    induction n with
    | zero => rfl
    | succ n ih => rw [sWat_s, sWat_s, ih, h24]
  simp only [sWorth, h23, h25, e]
theorem qMany_congr {S S' : St} (h18 : S' 18 = S 18) (h19 : S' 19 = S 19) (h20 : S' 20 = S 20) (h21 : S' 21 = S 21) (h22 : S' 22 = S 22) (h26 : S' 26 = S 26) (day a : Int) : qMany S' day a = qMany S day a := by
  funext h
  simp only [qMany, sHas, sHas_congr h18 h19 h20 h21 h22, h26]
theorem up_ne (S : St) {k j : Nat} (z v : Int) (h : j ≠ k) : up S k z v j = S j := by
  funext b
  simp [up, h]
theorem clr_ne (S : St) {j : Nat} (n : Int) (h : j ≠ 26) : clr S n j = S j := by
  funext b
  simp [clr, h]
theorem clr_0 (S : St) : clr S ((0 : Nat) : Int) = S := by
  funext a b
  by_cases h : a = 26
  · subst h
    show (if 0 ≤ b ∧ b < ((0 : Nat) : Int) then 0 else S 26 b) = S 26 b
    rw [if_neg (by omega)]
  · simp [clr, h]
theorem clr_s (S : St) (n : Nat) : up (clr S (n : Int)) 26 (n : Int) 0 = clr S (((n + 1 : Nat)) : Int) := by
  funext a b
  by_cases h : a = 26
  · subst h
    show (if b = (n : Int) then 0 else (if 0 ≤ b ∧ b < (n : Int) then 0 else S 26 b)) = (if 0 ≤ b ∧ b < ((n + 1 : Nat) : Int) then 0 else S 26 b)
    by_cases h1 : b = (n : Int)
    · rw [if_pos h1, if_pos (by omega)]
    · rw [if_neg h1]
      by_cases h2 : 0 ≤ b ∧ b < (n : Int)
      · rw [if_pos h2, if_pos (by omega)]
      · rw [if_neg h2, if_neg (by omega)]
  · simp [up, clr, h]
/-- long compare -/
def sg (a b : Int) : Int := if a < b then -1 else if a = b then 0 else 1
theorem sg_le {a b : Int} : sg a b ≤ 0 ↔ a ≤ b := by
  unfold sg
  by_cases h : a < b
  · rw [if_pos h]; omega
  · rw [if_neg h]
    by_cases h2 : a = b
    · rw [if_pos h2]; omega
    · rw [if_neg h2]; omega
theorem sg_R (a b : Int) : R32 (sg a b) := by
  unfold sg
  by_cases h : a < b
  · rw [if_pos h]; decide
  · rw [if_neg h]
    by_cases h2 : a = b
    · rw [if_pos h2]; decide
    · rw [if_neg h2]; decide
/-- the state's numbers, but of the two rows that the fund uses -/
theorem Inv.congr {S S' : St} (h : ∀ k, k < 30 → S' k = S k) (hi : Inv S) : Inv S' := by
  have e := fun k (hk : k < 30) => h k hk
  unfold Inv at hi ⊢
  refine ⟨⟨fun k z hk => by rw [h k (by omega)]; exact hi.1.1 k z hk, by rw [h 29 (by decide)]; exact hi.1.2⟩, ?_⟩
  have hi2 := hi.2
  simp only [iLaw, iObj, iHouse, iEv, iWo, iUni, iQua, h 0 (by decide), h 2 (by decide), h 3 (by decide), h 4 (by decide), h 5 (by decide), h 6 (by decide), h 7 (by decide), h 8 (by decide), h 9 (by decide), h 10 (by decide), h 11 (by decide), h 12 (by decide), h 13 (by decide), h 14 (by decide), h 15 (by decide), h 16 (by decide), h 17 (by decide), h 18 (by decide), h 19 (by decide), h 20 (by decide), h 21 (by decide), h 22 (by decide), h 23 (by decide), h 24 (by decide), h 25 (by decide), h 26 (by decide)] at hi2 ⊢
  exact hi2
