/-! the invariant of the class's own numbers, kept by all calls -/
theorem InvC.xFeast {S : St} {d : Int} (hQ : InvC S) : InvC (tFeast S d) := by
  unfold tFeast
  by_cases c : isD d ∧ ¬ sFeast S d ∧ S 0 0 ≠ 20
  · rw [cI_t c]; exact hQ.same rfl rfl rfl rfl rfl rfl
  · rw [cI_f c]; exact hQ
theorem InvC.xLaw {S : St} {d k w f t : Int} (hQ : InvC S) : InvC (tLaw S d k w f t) := by
  unfold tLaw
  by_cases c : vLaw d k w f t ∧ S 2 0 ≠ 40
  · rw [cI_t c]; exact hQ.same rfl rfl rfl rfl rfl rfl
  · rw [cI_f c]; exact hQ
theorem InvC.xRule {S : St} {what v : Int} (hQ : InvC S) : InvC (tRule S what v) := by
  unfold tRule
  by_cases c : vRule what v
  · rw [cI_t c]; exact hQ.same rfl rfl rfl rfl rfl rfl
  · rw [cI_f c]; exact hQ
theorem InvC.xObj {S : St} {px py w : Int} (hQ : InvC S) : InvC (tObj S px py w) := by
  unfold tObj
  by_cases c : vObj px py w ∧ S 10 0 ≠ 20
  · rw [cI_t c]; exact hQ.same rfl rfl rfl rfl rfl rfl
  · rw [cI_f c]; exact hQ
theorem InvC.xAsk {S : St} {px py k w no se : Int} (hI : Inv S) (hQ : InvC S) : InvC (tAsk S px py k w no se) := by
  unfold tAsk
  by_cases c : vAsk px py k w no se ∧ S 14 0 ≠ 30
  · rw [cI_t c]
    by_cases c2 : 0 < sJudge S px py no se
    · rw [cI_t c2]; exact hQ.same rfl rfl rfl rfl rfl rfl
    · rw [cI_f c2]
      intro z z0 z1
      have e : (newHouse S px py k w se) 14 0 = S 14 0 + 1 := by simp [newHouse, up]
      rw [e] at z1
      by_cases c3 : z = S 14 0
      · subst c3
        intro j hj
        have e2 : (newHouse S px py k w se) 19 (S 14 0) = S 19 (S 14 0) := rfl
        rw [e2, (hI.out (Int.le_refl _)).1] at hj
        omega
      · exact hQ z z0 (by omega)
  · rw [cI_f c]; exact hQ
theorem InvC.xWorth {S : St} {h d w : Int} (hQ : InvC S) : InvC (tWorth S h d w) := by
  unfold tWorth
  by_cases c : ((0 ≤ h ∧ h < S 14 0) ∧ isD d ∧ 1 ≤ w ∧ w ≤ 100000) ∧ S 23 h ≠ 8
  · rw [cI_t c]; exact hQ.same rfl rfl rfl rfl rfl rfl
  · rw [cI_f c]; exact hQ
theorem InvC.xSeed {S : St} {v : Int} (hQ : InvC S) : InvC (tSeed S v) := by
  unfold tSeed
  by_cases c : 1 ≤ v ∧ v ≤ 2147483646
  · rw [cI_t c]; exact hQ.same rfl rfl rfl rfl rfl rfl
  · rw [cI_f c]; exact hQ
theorem InvC.xVisit {S : St} {day : Int} (hQ : InvC S) : InvC (tVisit S day) := by
  unfold tVisit
  by_cases c : isD day ∧ sMany S day 1 (S 14 0).toNat ≠ 0
  · rw [cI_t c]; exact (hQ.xVis2 (day := day)).same (S := tVis2 S day) rfl rfl rfl rfl rfl rfl
  · rw [cI_f c]; exact hQ
theorem Inv.xVisit {S : St} {day : Int} (hI : Inv S) : Inv (tVisit S day) := by
  unfold tVisit
  by_cases c : isD day ∧ sMany S day 1 (S 14 0).toNat ≠ 0
  · rw [cI_t c]
    have hI2 := hI.xVis2 (day := day)
    have e2 := vis2_eq S day
    have hvp := vis_pos hI c.1 c.2
    have hm := pkN_m (qMany (tVis2 S day) day 0) (S 29 0 * 16807 % 2147483647 % sMany (tVis2 S day) day 0 (S 14 0).toNat) (S 14 0).toNat
    rw [e2.1] at hvp
    have hx := pkN_ex (qMany (tVis2 S day) day 0) (S 29 0 * 16807 % 2147483647 % sMany (tVis2 S day) day 0 (S 14 0).toNat) (S 14 0).toNat (Int.emod_nonneg _ (by omega)) (Int.emod_lt_of_pos _ hvp)
    have hN := hI.nums
    have h3 : 0 ≤ sVis S day ∧ sVis S day < (tVis2 S day) 14 0 := by
      rw [e2.1]
      show 0 ≤ pkN _ _ _ ∧ pkN _ _ _ < S 14 0
      omega
    exact (hI2.up26 h3).up27
  · rw [cI_f c]; exact hI
theorem Inv.xEvC {S : St} {h d k v : Int} (hr : R32 v) (hI : Inv S) : Inv (tEvC S h d k v) :=
  Inv.congr (S := tEvent S h d k v) (fun k9 hk9 => tEvC_ne S h d k v (by omega)) (hI.xEvent hr)
