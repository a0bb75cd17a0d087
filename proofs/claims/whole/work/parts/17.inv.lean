theorem Inv.xFeast {S : St} {d : Int} (hI : Inv S) : Inv (tFeast S d) := by
  unfold tFeast
  by_cases c : isD d ∧ ¬ sFeast S d ∧ S 0 0 ≠ 20
  · rw [cI_t c]
    have hN := hI.nums
    refine ⟨⟨fun k z hk => ?_, ?_⟩, ?_, fun j h0 h1 => ?_, fun j h0 h1 => ?_, fun h h0 h1 => ?_, fun h j h0 h1 h2 h3 => ?_, fun h j h0 h1 h2 h3 => ?_, fun h h0 h1 => ?_, fun h h0 => ?_⟩
    · first | exact hI.R hk | (simp only [up]; repeat' split) <;> (have hq := hI.R (z := z) hk; omega)
    · exact hI.seed
    · show (0 ≤ S 0 0 + 1 ∧ S 0 0 + 1 ≤ 20) ∧ _
      exact ⟨by omega, hN.2⟩
    · exact hI.law h0 h1
    · exact hI.obj h0 h1
    · exact hI.house h0 h1
    · exact hI.ev h0 h1 h2 h3
    · exact hI.wo h0 h1 h2 h3
    · exact hI.uni h0 h1
    · exact hI.out h0
  · rw [cI_f c]; exact hI

theorem Inv.xLaw {S : St} {d kd w f t : Int} (hI : Inv S) : Inv (tLaw S d kd w f t) := by
  unfold tLaw
  by_cases c : vLaw d kd w f t ∧ S 2 0 ≠ 40
  · rw [cI_t c]
    have hN := hI.nums
    refine ⟨⟨fun k z hk => ?_, ?_⟩, ?_, fun j h0 h1 => ?_, fun j h0 h1 => ?_, fun h h0 h1 => ?_, fun h j h0 h1 h2 h3 => ?_, fun h j h0 h1 h2 h3 => ?_, fun h h0 h1 => ?_, fun h h0 => ?_⟩
    · first | exact hI.R hk | (simp only [up]; repeat' split) <;> (have hq := hI.R (z := z) hk; omega)
    · exact hI.seed
    · show (0 ≤ S 0 0 ∧ S 0 0 ≤ 20) ∧ (0 ≤ S 2 0 + 1 ∧ S 2 0 + 1 ≤ 40) ∧ _
      exact ⟨hN.1, by omega, hN.2.2⟩
    · have h1 : j < S 2 0 + 1 := h1
      by_cases e : j = S 2 0
      · simp only [iLaw, up, e, if_true, reduceIte]
        simp
        omega
      · have hl := hI.law h0 (by omega)
        simp only [iLaw, up, e]
        simp
        omega
    · exact hI.obj h0 h1
    · exact hI.house h0 h1
    · exact hI.ev h0 h1 h2 h3
    · exact hI.wo h0 h1 h2 h3
    · exact hI.uni h0 h1
    · exact hI.out h0
  · rw [cI_f c]; exact hI

theorem Inv.xRule {S : St} {what v : Int} (hI : Inv S) : Inv (tRule S what v) := by
  unfold tRule
  by_cases c : vRule what v
  · rw [cI_t c]
    have hN := hI.nums
    have ha : 0 ≤ cI (what = 0) v (S 8 0) ∧ cI (what = 0) v (S 8 0) ≤ 200 := by
      by_cases z : what = 0
      · rw [cI_t z]; omega
      · rw [cI_f z]; omega
    have hb : 0 ≤ cI (what = 1) v (S 9 0) ∧ cI (what = 1) v (S 9 0) ≤ 500 := by
      by_cases z : what = 1
      · rw [cI_t z]; omega
      · rw [cI_f z]; omega
    refine ⟨⟨fun k z hk => ?_, ?_⟩, ?_, fun j h0 h1 => ?_, fun j h0 h1 => ?_, fun h h0 h1 => ?_, fun h j h0 h1 h2 h3 => ?_, fun h j h0 h1 h2 h3 => ?_, fun h h0 h1 => ?_, fun h h0 => ?_⟩
    · first | exact hI.R hk | (simp only [up]; repeat' split) <;> (have hq := hI.R (z := z) hk; omega)
    · exact hI.seed
    · exact ⟨hN.1, hN.2.1, ha, hb, hN.2.2.2.2⟩
    · exact hI.law h0 h1
    · exact hI.obj h0 h1
    · exact hI.house h0 h1
    · exact hI.ev h0 h1 h2 h3
    · exact hI.wo h0 h1 h2 h3
    · exact hI.uni h0 h1
    · exact hI.out h0
  · rw [cI_f c]; exact hI

theorem Inv.xObj {S : St} {x y w : Int} (hI : Inv S) : Inv (tObj S x y w) := by
  unfold tObj
  by_cases c : vObj x y w ∧ S 10 0 ≠ 20
  · rw [cI_t c]
    have hN := hI.nums
    refine ⟨⟨fun k z hk => ?_, ?_⟩, ?_, fun j h0 h1 => ?_, fun j h0 h1 => ?_, fun h h0 h1 => ?_, fun h j h0 h1 h2 h3 => ?_, fun h j h0 h1 h2 h3 => ?_, fun h h0 h1 => ?_, fun h h0 => ?_⟩
    · first | exact hI.R hk | (simp only [up]; repeat' split) <;> (have hq := hI.R (z := z) hk; omega)
    · exact hI.seed
    · exact ⟨hN.1, hN.2.1, hN.2.2.1, hN.2.2.2.1, (by show 0 ≤ S 10 0 + 1 ∧ S 10 0 + 1 ≤ 20; omega), hN.2.2.2.2.2⟩
    · exact hI.law h0 h1
    · have h1 : j < S 10 0 + 1 := h1
      by_cases e : j = S 10 0
      · simp only [iObj, up, e, if_true, reduceIte]
        simp
        omega
      · have hl := hI.obj h0 (by omega)
        simp only [iObj, up, e]
        simp
        omega
    · exact hI.house h0 h1
    · exact hI.ev h0 h1 h2 h3
    · exact hI.wo h0 h1 h2 h3
    · exact hI.uni h0 h1
    · exact hI.out h0
  · rw [cI_f c]; exact hI


theorem Inv.up28 {S : St} {v : Int} (hI : Inv S) : Inv (up S 28 0 v) := by
  refine ⟨⟨fun k z hk => ?_, ?_⟩, ?_, fun j h0 h1 => ?_, fun j h0 h1 => ?_, fun h h0 h1 => ?_, fun h j h0 h1 h2 h3 => ?_, fun h j h0 h1 h2 h3 => ?_, fun h h0 h1 => ?_, fun h h0 => ?_⟩
  · rw [up_ne S 0 v (show k ≠ 28 by omega)]; exact hI.R hk
  · exact hI.seed
  · exact hI.nums
  · exact hI.law h0 h1
  · exact hI.obj h0 h1
  · exact hI.house h0 h1
  · exact hI.ev h0 h1 h2 h3
  · exact hI.wo h0 h1 h2 h3
  · exact hI.uni h0 h1
  · exact hI.out h0

theorem Inv.up27 {S : St} {v : Int} (hI : Inv S) : Inv (up S 27 0 v) := by
  refine ⟨⟨fun k z hk => ?_, ?_⟩, ?_, fun j h0 h1 => ?_, fun j h0 h1 => ?_, fun h h0 h1 => ?_, fun h j h0 h1 h2 h3 => ?_, fun h j h0 h1 h2 h3 => ?_, fun h h0 h1 => ?_, fun h h0 => ?_⟩
  · rw [up_ne S 0 v (show k ≠ 27 by omega)]; exact hI.R hk
  · exact hI.seed
  · exact hI.nums
  · exact hI.law h0 h1
  · exact hI.obj h0 h1
  · exact hI.house h0 h1
  · exact hI.ev h0 h1 h2 h3
  · exact hI.wo h0 h1 h2 h3
  · exact hI.uni h0 h1
  · exact hI.out h0

theorem Inv.up29 {S : St} {v : Int} (hv : 1 ≤ v ∧ v ≤ 2147483646) (hI : Inv S) : Inv (up S 29 0 v) := by
  refine ⟨⟨fun k z hk => ?_, ?_⟩, ?_, fun j h0 h1 => ?_, fun j h0 h1 => ?_, fun h h0 h1 => ?_, fun h j h0 h1 h2 h3 => ?_, fun h j h0 h1 h2 h3 => ?_, fun h h0 h1 => ?_, fun h h0 => ?_⟩
  · rw [up_ne S 0 v (show k ≠ 29 by omega)]; exact hI.R hk
  · exact hv
  · exact hI.nums
  · exact hI.law h0 h1
  · exact hI.obj h0 h1
  · exact hI.house h0 h1
  · exact hI.ev h0 h1 h2 h3
  · exact hI.wo h0 h1 h2 h3
  · exact hI.uni h0 h1
  · exact hI.out h0

theorem Inv.clr {S : St} {n : Int} (hI : Inv S) : Inv (clr S n) := by
  refine ⟨⟨fun k z hk => ?_, ?_⟩, ?_, fun j h0 h1 => ?_, fun j h0 h1 => ?_, fun h h0 h1 => ?_, fun h j h0 h1 h2 h3 => ?_, fun h j h0 h1 h2 h3 => ?_, fun h h0 h1 => ?_, fun h h0 => ?_⟩
  · rw [clr_ne S n (show k ≠ 26 by omega)]; exact hI.R hk
  · exact hI.seed
  · exact hI.nums
  · exact hI.law h0 h1
  · exact hI.obj h0 h1
  · have hl := hI.house h0 h1
    refine ⟨hl.1, hl.2.1, ?_, hl.2.2.2⟩
    show (if 0 ≤ h ∧ h < n then 0 else S 26 h) = 0 ∨ (if 0 ≤ h ∧ h < n then 0 else S 26 h) = 1
    by_cases e : 0 ≤ h ∧ h < n
    · rw [if_pos e]; exact Or.inl rfl
    · rw [if_neg e]; exact hl.2.2.1
  · exact hI.ev h0 h1 h2 h3
  · exact hI.wo h0 h1 h2 h3
  · exact hI.uni h0 h1
  · refine ⟨(hI.out h0).1, ?_⟩
    show (if 0 ≤ h ∧ h < n then 0 else S 26 h) = 0
    by_cases e : 0 ≤ h ∧ h < n
    · rw [if_pos e]
    · rw [if_neg e]; exact (hI.out h0).2

theorem Inv.xRound {S : St} (hI : Inv S) : Inv (tRound S) := (hI.clr (n := 30)).up27

theorem Inv.up26 {S : St} {z : Int} (hz : 0 ≤ z ∧ z < S 14 0) (hI : Inv S) : Inv (up S 26 z 1) := by
  refine ⟨⟨fun k z hk => ?_, ?_⟩, ?_, fun j h0 h1 => ?_, fun j h0 h1 => ?_, fun h h0 h1 => ?_, fun h j h0 h1 h2 h3 => ?_, fun h j h0 h1 h2 h3 => ?_, fun h h0 h1 => ?_, fun h h0 => ?_⟩
  · rw [up_ne S _ 1 (show k ≠ 26 by omega)]; exact hI.R hk
  · exact hI.seed
  · exact hI.nums
  · exact hI.law h0 h1
  · exact hI.obj h0 h1
  · have hl := hI.house h0 h1
    refine ⟨hl.1, hl.2.1, ?_, hl.2.2.2⟩
    show (if h = z then 1 else S 26 h) = 0 ∨ (if h = z then 1 else S 26 h) = 1
    by_cases e : h = z
    · rw [if_pos e]; exact Or.inr rfl
    · rw [if_neg e]; exact hl.2.2.1
  · exact hI.ev h0 h1 h2 h3
  · exact hI.wo h0 h1 h2 h3
  · exact hI.uni h0 h1
  · have h0 : S 14 0 ≤ h := h0
    refine ⟨(hI.out h0).1, ?_⟩
    show (if h = z then 1 else S 26 h) = 0
    rw [if_neg (by omega)]; exact (hI.out h0).2

theorem Inv.xnewHouse {S : St} {x y kd w se : Int} (hp : isP x y) (hk3 : 0 ≤ kd ∧ kd ≤ 2) (hw : 1 ≤ w ∧ w ≤ 100000) (hs : isD se) (hn : S 14 0 ≠ 30) (hI : Inv S) : Inv (newHouse S x y kd w se) := by
  unfold newHouse
  have hN := hI.nums
  refine ⟨⟨fun k z hk => ?_, ?_⟩, ?_, fun j h0 h1 => ?_, fun j h0 h1 => ?_, fun h h0 h1 => ?_, fun h j h0 h1 h2 h3 => ?_, fun h j h0 h1 h2 h3 => ?_, fun h h0 h1 => ?_, fun h h0 => ?_⟩
  · simp only [up]
    repeat' split
    all_goals (have hq := hI.R (z := z) hk; omega)
  · exact hI.seed
  · exact ⟨hN.1, hN.2.1, hN.2.2.1, hN.2.2.2.1, hN.2.2.2.2.1, (by show 0 ≤ S 14 0 + 1 ∧ S 14 0 + 1 ≤ 30; omega)⟩
  · exact hI.law h0 h1
  · exact hI.obj h0 h1
  · have h1 : h < S 14 0 + 1 := h1
    have ho := hI.out (h := S 14 0) (by omega)
    by_cases e : h = S 14 0
    · simp only [iHouse, up, e]
      simp
      omega
    · have hl := hI.house h0 (by omega)
      have e8 : ¬ 8 * h = 8 * S 14 0 := by omega
      simp only [iHouse, up, e, e8]
      simp
      omega
  · have h1 : h < S 14 0 + 1 := h1
    have ho := hI.out (h := S 14 0) (by omega)
    have h3 : j < S 19 h := h3
    by_cases e : h = S 14 0
    · rw [e] at h3; omega
    · have hl := hI.ev h0 (by omega) h2 h3
      simp only [iEv, up, e]
      simp
      omega
  · have h1 : h < S 14 0 + 1 := h1
    by_cases e : h = S 14 0
    · have h3 : j < 1 := by
        have h4 : j < (if h = S 14 0 then 1 else S 23 h) := h3
        rw [if_pos e] at h4; exact h4
      have ej : j = 0 := by omega
      simp only [iWo, up, e, ej]
      simp
      omega
    · have h3 : j < S 23 h := by
        have h4 : j < (if h = S 14 0 then 1 else S 23 h) := h3
        rw [if_neg e] at h4; exact h4
      have hl := hI.wo h0 (by omega) h2 h3
      have hh := hI.house h0 (by omega)
      have e8 : ¬ 8 * h + j = 8 * S 14 0 := by omega
      simp only [iWo, up, e, e8]
      simp
      omega
  · have h1 : h < S 14 0 + 1 := h1
    have ho := hI.out (h := S 14 0) (by omega)
    by_cases e : h = S 14 0
    · refine ⟨fun i j hi => ?_, fun i hi => ?_⟩
      · have hi : (i : Int) < S 19 h := hi
        rw [e] at hi; omega
      · have hi : (i : Int) < S 19 h := hi
        rw [e] at hi; omega
    · exact hI.uni h0 (by omega)
  · have h0 : S 14 0 + 1 ≤ h := h0
    exact hI.out (by omega)

theorem Inv.xAsk {S : St} {x y k w no se : Int} (hI : Inv S) : Inv (tAsk S x y k w no se) := by
  unfold tAsk
  by_cases c : vAsk x y k w no se ∧ S 14 0 ≠ 30
  · rw [cI_t c]
    by_cases d : 0 < sJudge S x y no se
    · rw [cI_t d]; exact hI.up28
    · rw [cI_f d]; exact hI.xnewHouse c.1.1 c.1.2.1 c.1.2.2.1 c.1.2.2.2.2.1 c.2
  · rw [cI_f c]; exact hI

theorem Inv.xnewEvent {S : St} {hh d kd v : Int} (hh0 : 0 ≤ hh ∧ hh < S 14 0) (hd : isD d) (hv : vEv kd v) (hr : R32 v) (hne : ¬ nEv S hh d kd v) (h16 : S 19 hh ≠ 16) (hI : Inv S) : Inv (newEvent S hh d kd v) := by
  unfold newEvent
  have hN := hI.nums
  have hH := hI.house hh0.1 hh0.2
  have hg : S 18 hh ≤ d := Int.not_lt.mp (fun z => hne (Or.inl z))
  refine ⟨⟨fun k z hk => ?_, ?_⟩, ?_, fun j h0 h1 => ?_, fun j h0 h1 => ?_, fun h h0 h1 => ?_, fun h j h0 h1 h2 h3 => ?_, fun h j h0 h1 h2 h3 => ?_, fun h h0 h1 => ?_, fun h h0 => ?_⟩
  · simp only [up]
    repeat' split
    all_goals (have hq := hI.R (z := z) hk; omega)
  · exact hI.seed
  · exact hI.nums
  · exact hI.law h0 h1
  · exact hI.obj h0 h1
  · have hl := hI.house h0 h1
    by_cases e : h = hh
    · subst e
      simp only [iHouse, up]
      simp
      omega
    · simp only [iHouse, up, e]
      simp
      omega
  · have h1 : h < S 14 0 := h1
    by_cases e : h = hh
    · subst e
      have h3 : j < S 19 h + 1 := by
        have h4 : j < (if h = h then S 19 h + 1 else S 19 h) := h3
        rw [if_pos rfl] at h4; exact h4
      by_cases e2 : j = S 19 h
      · simp only [iEv, up, e2]
        simp
        omega
      · have hl := hI.ev h0 h1 h2 (by omega)
        have e3 : ¬ 16 * h + j = 16 * h + S 19 h := by omega
        simp only [iEv, up, e3]
        simp
        omega
    · have h3 : j < S 19 h := by
        have h4 : j < (if h = hh then S 19 hh + 1 else S 19 h) := h3
        rw [if_neg e] at h4; exact h4
      have hl := hI.ev h0 h1 h2 h3
      have hl2 := hI.house h0 h1
      have e3 : ¬ 16 * h + j = 16 * hh + S 19 hh := by omega
      simp only [iEv, up, e3]
      simp
      omega
  · exact hI.wo h0 h1 h2 h3
  · have h1 : h < S 14 0 := h1
    have hu := hI.uni h0 h1
    by_cases e : h = hh
    · subst e
      have hA : ∀ i : Nat, (i : Int) < S 19 h → (up (up (up (up S 20 (16 * h + S 19 h) d) 21 (16 * h + S 19 h) kd) 22 (16 * h + S 19 h) v) 19 h (S 19 h + 1)) 21 (16 * h + (i : Int)) = S 21 (16 * h + (i : Int)) ∧ (up (up (up (up S 20 (16 * h + S 19 h) d) 21 (16 * h + S 19 h) kd) 22 (16 * h + S 19 h) v) 19 h (S 19 h + 1)) 22 (16 * h + (i : Int)) = S 22 (16 * h + (i : Int)) := by
        intro i hi
        have e3 : ¬ 16 * h + (i : Int) = 16 * h + S 19 h := by omega
        simp [up, e3]
      have hB : ∀ i : Nat, (i : Int) = S 19 h → (up (up (up (up S 20 (16 * h + S 19 h) d) 21 (16 * h + S 19 h) kd) 22 (16 * h + S 19 h) v) 19 h (S 19 h + 1)) 21 (16 * h + (i : Int)) = kd ∧ (up (up (up (up S 20 (16 * h + S 19 h) d) 21 (16 * h + S 19 h) kd) 22 (16 * h + S 19 h) v) 19 h (S 19 h + 1)) 22 (16 * h + (i : Int)) = v := by
        intro i hi
        simp [up, hi]
      have hC : (up (up (up (up S 20 (16 * h + S 19 h) d) 21 (16 * h + S 19 h) kd) 22 (16 * h + S 19 h) v) 19 h (S 19 h + 1)) 19 h = S 19 h + 1 := by simp [up]
      refine ⟨fun i j hi hj a b c2 => ?_, fun i hi a => ?_⟩
      · rw [hC] at hi hj
        by_cases ei : (i : Int) = S 19 h
        · by_cases ej : (j : Int) = S 19 h
          · omega
          · rw [(hB i ei).1] at a
            rw [(hA j (by omega)).1] at b
            rw [(hB i ei).2, (hA j (by omega)).2] at c2
            exact absurd (Or.inr (Or.inl ⟨a, j, by omega, b, c2.symm⟩)) hne
        · by_cases ej : (j : Int) = S 19 h
          · rw [(hA i (by omega)).1] at a
            rw [(hB j ej).1] at b
            rw [(hA i (by omega)).2, (hB j ej).2] at c2
            exact absurd (Or.inr (Or.inl ⟨b, i, by omega, a, c2⟩)) hne
          · rw [(hA i (by omega)).1] at a
            rw [(hA j (by omega)).1] at b
            rw [(hA i (by omega)).2, (hA j (by omega)).2] at c2
            exact hu.1 i j (by omega) (by omega) a b c2
      · rw [hC] at hi
        by_cases ei : (i : Int) = S 19 h
        · rw [(hB i ei).1] at a
          have ht : sTold S h v := Classical.not_not.mp (fun z => hne (Or.inr (Or.inr ⟨a, z⟩)))
          obtain ⟨j, hj, t1, t2⟩ := ht
          refine ⟨j, by rw [hC]; omega, ?_, ?_⟩
          · rw [(hA j (by omega)).1]; exact t1
          · rw [(hA j (by omega)).2, (hB i ei).2]; exact t2
        · rw [(hA i (by omega)).1] at a
          obtain ⟨j, hj, t1, t2⟩ := hu.2 i (by omega) a
          refine ⟨j, by rw [hC]; omega, ?_, ?_⟩
          · rw [(hA j hj).1]; exact t1
          · rw [(hA j hj).2, (hA i (by omega)).2]; exact t2
    · have hA : ∀ i : Nat, (i : Int) < S 19 h → (up (up (up (up S 20 (16 * hh + S 19 hh) d) 21 (16 * hh + S 19 hh) kd) 22 (16 * hh + S 19 hh) v) 19 hh (S 19 hh + 1)) 21 (16 * h + (i : Int)) = S 21 (16 * h + (i : Int)) ∧ (up (up (up (up S 20 (16 * hh + S 19 hh) d) 21 (16 * hh + S 19 hh) kd) 22 (16 * hh + S 19 hh) v) 19 hh (S 19 hh + 1)) 22 (16 * h + (i : Int)) = S 22 (16 * h + (i : Int)) := by
        intro i hi
        have hl2 := hI.house h0 h1
        have e3 : ¬ 16 * h + (i : Int) = 16 * hh + S 19 hh := by omega
        simp [up, e3]
      have hC : (up (up (up (up S 20 (16 * hh + S 19 hh) d) 21 (16 * hh + S 19 hh) kd) 22 (16 * hh + S 19 hh) v) 19 hh (S 19 hh + 1)) 19 h = S 19 h := by simp [up, e]
      refine ⟨fun i j hi hj a b c2 => ?_, fun i hi a => ?_⟩
      · rw [hC] at hi hj
        rw [(hA i hi).1] at a
        rw [(hA j hj).1] at b
        rw [(hA i hi).2, (hA j hj).2] at c2
        exact hu.1 i j hi hj a b c2
      · rw [hC] at hi
        rw [(hA i hi).1] at a
        obtain ⟨j, hj, t1, t2⟩ := hu.2 i hi a
        exact ⟨j, by rw [hC]; exact hj, by rw [(hA j hj).1]; exact t1, by rw [(hA j hj).2, (hA i hi).2]; exact t2⟩
  · have h0 : S 14 0 ≤ h := h0
    have ho := hI.out h0
    have e : ¬ h = hh := by omega
    simp only [up, e]
    simp
    exact ho

theorem Inv.xEvent {S : St} {h d k v : Int} (hr : R32 v) (hI : Inv S) : Inv (tEvent S h d k v) := by
  unfold tEvent
  by_cases c : ((0 ≤ h ∧ h < S 14 0) ∧ isD d ∧ vEv k v) ∧ ¬ nEv S h d k v ∧ S 19 h ≠ 16
  · rw [cI_t c]; exact hI.xnewEvent c.1.1 c.1.2.1 c.1.2.2 hr c.2.1 c.2.2
  · rw [cI_f c]; exact hI

theorem Inv.xnewWorth {S : St} {hh d w : Int} (hh0 : 0 ≤ hh ∧ hh < S 14 0) (hd : isD d) (hw : 1 ≤ w ∧ w ≤ 100000) (h8 : S 23 hh ≠ 8) (hI : Inv S) : Inv (newWorth S hh d w) := by
  unfold newWorth
  have hN := hI.nums
  have hH := hI.house hh0.1 hh0.2
  have hx : S 18 hh ≤ cI (d < S 18 hh) (S 18 hh) d ∧ cI (d < S 18 hh) (S 18 hh) d ≤ 3999 := by
    by_cases z : d < S 18 hh
    · rw [cI_t z]; omega
    · rw [cI_f z]; omega
  generalize cI (d < S 18 hh) (S 18 hh) d = dd at hx ⊢
  refine ⟨⟨fun k z hk => ?_, ?_⟩, ?_, fun j h0 h1 => ?_, fun j h0 h1 => ?_, fun h h0 h1 => ?_, fun h j h0 h1 h2 h3 => ?_, fun h j h0 h1 h2 h3 => ?_, fun h h0 h1 => ?_, fun h h0 => ?_⟩
  · simp only [up]
    repeat' split
    all_goals (have hq := hI.R (z := z) hk; omega)
  · exact hI.seed
  · exact hI.nums
  · exact hI.law h0 h1
  · exact hI.obj h0 h1
  · have hl := hI.house h0 h1
    have h1 : h < S 14 0 := h1
    have e3 : ¬ 8 * h = 8 * hh + S 23 hh := by omega
    by_cases e : h = hh
    · subst e
      simp only [iHouse, up, e3]
      simp
      omega
    · simp only [iHouse, up, e, e3]
      simp
      omega
  · exact hI.ev h0 h1 h2 h3
  · have h1 : h < S 14 0 := h1
    by_cases e : h = hh
    · subst e
      have h3 : j < S 23 h + 1 := by
        have h4 : j < (if h = h then S 23 h + 1 else S 23 h) := h3
        rw [if_pos rfl] at h4; exact h4
      by_cases e2 : j = S 23 h
      · simp only [iWo, up, e2]
        simp
        omega
      · have hl := hI.wo h0 h1 h2 (by omega)
        have e3 : ¬ 8 * h + j = 8 * h + S 23 h := by omega
        simp only [iWo, up, e3]
        simp
        omega
    · have h3 : j < S 23 h := by
        have h4 : j < (if h = hh then S 23 hh + 1 else S 23 h) := h3
        rw [if_neg e] at h4; exact h4
      have hl := hI.wo h0 h1 h2 h3
      have hl2 := hI.house h0 h1
      have e3 : ¬ 8 * h + j = 8 * hh + S 23 hh := by omega
      simp only [iWo, up, e3]
      simp
      omega
  · exact hI.uni h0 h1
  · exact hI.out h0

theorem Inv.xWorth {S : St} {h d w : Int} (hI : Inv S) : Inv (tWorth S h d w) := by
  unfold tWorth
  by_cases c : ((0 ≤ h ∧ h < S 14 0) ∧ isD d ∧ 1 ≤ w ∧ w ≤ 100000) ∧ S 23 h ≠ 8
  · rw [cI_t c]; exact hI.xnewWorth c.1.1 c.1.2.1 c.1.2.2 c.2
  · rw [cI_f c]; exact hI
theorem Inv.xSeed {S : St} {v : Int} (hI : Inv S) : Inv (tSeed S v) := by
  unfold tSeed
  by_cases c : 1 ≤ v ∧ v ≤ 2147483646
  · rw [cI_t c]; exact (hI.up29 c).xRound
  · rw [cI_f c]; exact hI
/-- the seed never becomes 0: its modulus is a prime -/
theorem seed_ok {z : Int} (h : 1 ≤ z ∧ z ≤ 2147483646) : 1 ≤ z * 16807 % 2147483647 ∧ z * 16807 % 2147483647 ≤ 2147483646 := by
  have h1 : 0 ≤ z * 16807 % 2147483647 := Int.emod_nonneg _ (by decide)
  have h2 : z * 16807 % 2147483647 < 2147483647 := Int.emod_lt_of_pos _ (by decide)
  refine ⟨?_, by omega⟩
  by_cases e : z * 16807 % 2147483647 = 0
  · exfalso
    -- 16807 * 1407677000 = 1 modulo 2147483647
    have e2 : (z * 16807 * 1407677000) % 2147483647 = 0 := by rw [Int.mul_emod, e]; decide
    have e3 : z * 16807 * 1407677000 = z + 2147483647 * (z * 11017) := by omega
    rw [e3, Int.add_mul_emod_self_left] at e2
    omega
  · omega

theorem Inv.xVis2 {S : St} {day : Int} (hI : Inv S) : Inv (tVis2 S day) := by
  unfold tVis2 tVis1
  by_cases c : sMany S day 0 (S 14 0).toNat = 0
  · rw [cI_t c]; exact hI.xRound.up29 (seed_ok hI.seed)
  · rw [cI_f c]; exact hI.up29 (seed_ok hI.seed)
