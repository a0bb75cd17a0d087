theorem evS_R {S : St} (hI : Inv S) {h d k v : Int} (h0 : 0 ≤ h ∧ h < S 14 0) (rd9 : R32 d) (rk9 : R32 k) (rv9 : R32 v) : ∀ (k9 : Nat) (z9 : Int), k9 < 26 → R32 (evS S h d k v k9 z9) := by
  intro k9 z9 hk9
  have hH := hI.house h0.1 h0.2
  have hq := hI.R (z := z9) hk9
  unfold evS newEvent up
  repeat' split
  all_goals first | assumption | omega
theorem evS_19 (S : St) (h d k v : Int) : evS S h d k v 19 h = S 19 h + 1 := by simp [evS, newEvent, up]
noncomputable abbrev nbS (S : St) (h d k v : Int) : Int := sNumb (evS S h d k v) h v ((evS S h d k v) 19 h).toNat
noncomputable def tellS (S : St) (h d k v : Int) : St := cI (k = 1 ∧ sTold (evS S h d k v) h v) (up (evS S h d k v) 40 (16 * h + nbS S h d k v) (min ((evS S h d k v) 40 (16 * h + nbS S h d k v)) d)) (evS S h d k v)
theorem tellS_ne (S : St) (h d k v : Int) {q : Nat} (hq : q ≠ 40) : tellS S h d k v q = newEvent S h d k v q := by
  unfold tellS
  by_cases c : k = 1 ∧ sTold (evS S h d k v) h v
  · rw [cI_t c, up_ne _ _ _ hq]
    exact up_ne _ _ _ hq
  · rw [cI_f c]
    exact up_ne _ _ _ hq
theorem tellS_40 (S : St) (h d k v z : Int) : tellS S h d k v 40 z = cI ((k = 1 ∧ sTold (evS S h d k v) h v) ∧ z = 16 * h + nbS S h d k v) (min ((evS S h d k v) 40 z) d) ((evS S h d k v) 40 z) := by
  unfold tellS
  by_cases c : k = 1 ∧ sTold (evS S h d k v) h v
  · rw [cI_t c]
    by_cases c2 : z = 16 * h + nbS S h d k v
    · rw [cI_t ⟨c, c2⟩, c2, up_s]
    · rw [cI_f (fun y => c2 y.2), up_z _ _ _ c2]
  · rw [cI_f c, cI_f (fun y => c y.1)]
theorem InvC.xTell {S : St} {h d k v : Int} (hI : Inv S) (hQ : InvC S) (h0 : 0 ≤ h ∧ h < S 14 0) (hd : isD d) (hne : ¬ nEv S h d k v) (h16 : S 19 h ≠ 16) : InvC (tellS S h d k v) := by
  have hH := hI.house h0.1 h0.2
  have hN19 : 0 ≤ S 19 h ∧ S 19 h < 16 := by have h9 := hH.2.1.1; omega
  have hU := hI.uni h0.1 h0.2
  generalize hT : tellS S h d k v = T
  have t0 : ∀ q : Nat, q ≠ 40 → T q = newEvent S h d k v q := fun q hq => by rw [← hT]; exact tellS_ne S h d k v hq
  have t40 : ∀ z, T 40 z = cI ((k = 1 ∧ sTold (evS S h d k v) h v) ∧ z = 16 * h + nbS S h d k v) (min ((evS S h d k v) 40 z) d) ((evS S h d k v) 40 z) := fun z => by rw [← hT]; exact tellS_40 S h d k v z
  have o : ∀ (q : Nat) (z : Int), q ≠ 19 → q ≠ 40 → z ≠ 16 * h + S 19 h → T q z = S q z := fun q z h1 h2 h3 => by rw [t0 q h2]; simp [newEvent, up, h1, h3]
  have t14 : T 14 0 = S 14 0 := by rw [t0 14 (by decide)]; rfl
  have t19 : T 19 h = S 19 h + 1 := by rw [t0 19 (by decide)]; simp [newEvent, up]
  have t19' : ∀ z, z ≠ h → T 19 z = S 19 z := fun z hz => by rw [t0 19 (by decide)]; simp [newEvent, up, hz]
  have n20 : T 20 (16 * h + S 19 h) = d := by rw [t0 20 (by decide)]; simp [newEvent, up]
  have n21 : T 21 (16 * h + S 19 h) = k := by rw [t0 21 (by decide)]; simp [newEvent, up]
  have n22 : T 22 (16 * h + S 19 h) = v := by rw [t0 22 (by decide)]; simp [newEvent, up]
  have f40 : ∀ z, z ≠ 16 * h + S 19 h → (evS S h d k v) 40 z = S 40 z := fun z hz => by simp [evS, newEvent, up, hz]
  have g40 : (evS S h d k v) 40 (16 * h + S 19 h) = 1000000 := by simp [evS, newEvent, up]
  have eE : ∀ q : Nat, q ≠ 40 → (evS S h d k v) q = T q := fun q hq => by rw [t0 q hq]; exact up_ne _ _ _ hq
  have hnb := sNumb_b (evS S h d k v) h v ((evS S h d k v) 19 h).toNat
  have e19 : ((evS S h d k v) 19 h).toNat = (S 19 h).toNat + 1 := by rw [evS_19]; omega
  have hnbB : nbS S h d k v < 16 ∧ -1 ≤ nbS S h d k v := by
    show sNumb _ _ _ _ < 16 ∧ -1 ≤ sNumb _ _ _ _
    rcases hnb with z | z
    · omega
    · have := z.2.1; omega
  have hqt : ∀ q : Nat, qTold (evS S h d k v) h v q ↔ (T 21 (16 * h + (q : Int)) = 0 ∧ T 22 (16 * h + (q : Int)) = v) := fun q => by
    unfold qTold
    rw [eE 21 (by decide), eE 22 (by decide)]
  intro z z0 z1
  rw [t14] at z1
  intro j hj
  by_cases hz : z = h
  · subst hz
    rw [t19] at hj
    have hex : ∀ e day, exN (sQuash T z e day) (T 19 z).toNat ↔ (exN (sQuash T z e day) (S 19 z).toNat ∨ (k = 1 ∧ v = T 22 e ∧ d ≤ day)) := fun e day => by
      rw [t19, show (S 19 z + 1).toNat = (S 19 z).toNat + 1 by omega, exN_s]
      have e1 : (((S 19 z).toNat : Nat) : Int) = S 19 z := by omega
      have e2 : sQuash T z e day (S 19 z).toNat ↔ (k = 1 ∧ v = T 22 e ∧ d ≤ day) := by
        unfold sQuash
        rw [e1, n20, n21, n22]
      rw [e2]
    by_cases hjn : (j : Int) < S 19 z
    · have hji : 16 * z + (j : Int) ≠ 16 * z + S 19 z := by omega
      have hS := hQ z z0 z1 j hjn
      have o21 := o 21 _ (by decide) (by decide) hji
      have o22 := o 22 _ (by decide) (by decide) hji
      have hsq : ∀ day, exN (sQuash T z (16 * z + j) day) (S 19 z).toNat ↔ exN (sQuash S z (16 * z + j) day) (S 19 z).toNat := fun day => by
        have one : ∀ q : Nat, q < (S 19 z).toNat → (sQuash T z (16 * z + j) day q ↔ sQuash S z (16 * z + j) day q) := fun q hq => by
          unfold sQuash
          rw [o 20 _ (by decide) (by decide) (by omega), o 21 (16 * z + (q : Int)) (by decide) (by decide) (by omega), o 22 (16 * z + (q : Int)) (by decide) (by decide) (by omega), o22]
        exact ⟨fun ⟨q, q1, q2⟩ => ⟨q, q1, (one q q1).mp q2⟩, fun ⟨q, q1, q2⟩ => ⟨q, q1, (one q q1).mpr q2⟩⟩
      rw [t40, f40 _ hji, o21]
      by_cases hk : (k = 1 ∧ sTold (evS S z d k v) z v) ∧ 16 * z + (j : Int) = 16 * z + nbS S z d k v
      · rw [cI_t hk]
        refine ⟨by have := hS.1; omega, fun a day hday => ?_⟩
        have h9 := hS.2 a day hday
        have hv2 : v = T 22 (16 * z + (j : Int)) := by
          rcases hnb with y | y
          · have h8 : nbS S z d k v = -1 := y.1
            omega
          · have h7 : (nbS S z d k v).toNat = j := by omega
            have h8 := y.2.2
            rw [show (sNumb (evS S z d k v) z v ((evS S z d k v) 19 z).toNat).toNat = j from h7] at h8
            exact ((hqt j).mp h8).2.symm
        rw [hex, hsq]
        constructor
        · intro h8 h7
          rcases h7 with h7 | h7
          · exact h9.mp (by omega) h7
          · omega
        · intro h8
          have h7 := h9.mpr (fun y => h8 (Or.inl y))
          have h6 : ¬ d ≤ day := fun y => h8 (Or.inr ⟨hk.1.1, hv2, y⟩)
          omega
      · rw [cI_f hk]
        refine ⟨hS.1, fun a day hday => ?_⟩
        rw [hex, hsq, hS.2 a day hday]
        have hno : ¬ (k = 1 ∧ v = T 22 (16 * z + (j : Int)) ∧ d ≤ day) := fun y => by
          have q1 : qTold (evS S z d k v) z v j := (hqt j).mpr ⟨by rw [o21]; exact a, y.2.1.symm⟩
          have q2 : sTold (evS S z d k v) z v := ⟨j, by omega, q1⟩
          rcases hnb with y2 | y2
          · exact y2.2 q2
          · have h7 := (hqt _).mp y2.2.2
            have h8 : nbS S z d k v < (((evS S z d k v) 19 z).toNat : Nat) := y2.2.1
            have h5 : 0 ≤ nbS S z d k v := y2.1
            have h6 : (((sNumb (evS S z d k v) z v ((evS S z d k v) 19 z).toNat).toNat : Nat) : Int) = nbS S z d k v := Int.toNat_of_nonneg h5
            rw [h6] at h7
            by_cases hl : nbS S z d k v = S 19 z
            · rw [hl, n21] at h7
              omega
            · have u1 := hU.1 (nbS S z d k v).toNat j (by omega) hjn (by rw [Int.toNat_of_nonneg h5, ← o 21 _ (by decide) (by decide) (by omega)]; exact h7.1) a (by rw [Int.toNat_of_nonneg h5, ← o 22 _ (by decide) (by decide) (by omega), h7.2, y.2.1, o22])
              exact hk ⟨⟨y.1, q2⟩, by omega⟩
        exact ⟨fun y1 y2 => y2.elim y1 hno, fun y1 y2 => y1 (Or.inl y2)⟩
    · have hje : (j : Int) = S 19 z := by omega
      rw [hje, t40, g40, n21]
      have hk : ¬ ((k = 1 ∧ sTold (evS S z d k v) z v) ∧ 16 * z + S 19 z = 16 * z + nbS S z d k v) := fun y => by
        rcases hnb with y2 | y2
        · have h8 : nbS S z d k v = -1 := y2.1
          omega
        · have h7 := (hqt _).mp y2.2.2
          have h5 : 0 ≤ nbS S z d k v := y2.1
          have h6 : (((sNumb (evS S z d k v) z v ((evS S z d k v) 19 z).toNat).toNat : Nat) : Int) = nbS S z d k v := Int.toNat_of_nonneg h5
          rw [h6, show nbS S z d k v = S 19 z by omega, n21] at h7
          omega
      rw [cI_f hk]
      refine ⟨by omega, fun a day hday => ⟨fun _ y => ?_, fun _ => by omega⟩⟩
      rw [hex] at y
      rcases y with ⟨q, q1, q2⟩ | y
      · unfold sQuash at q2
        rw [n22, o 20 _ (by decide) (by decide) (by omega), o 21 _ (by decide) (by decide) (by omega), o 22 _ (by decide) (by decide) (by omega)] at q2
        obtain ⟨j2, p1, p2, p3⟩ := hU.2 q (by omega) q2.1
        exact hne (Or.inr (Or.inl ⟨a, j2, by omega, p2, by rw [p3]; exact q2.2.1⟩))
      · omega
  · rw [t19' z hz] at hj ⊢
    have hHz := hI.house z0 z1
    have h19z : S 19 z ≤ 16 := hHz.2.1.1.2
    have hS := hQ z z0 z1 j hj
    have hji : 16 * z + (j : Int) ≠ 16 * h + S 19 h := by omega
    have hcond : ¬ ((k = 1 ∧ sTold (evS S h d k v) h v) ∧ 16 * z + (j : Int) = 16 * h + nbS S h d k v) := fun y => by
      rcases hnb with y2 | y2
      · exact y2.2 y.1.2
      · have h5 : 0 ≤ nbS S h d k v := y2.1
        omega
    rw [t40, cI_f hcond, f40 _ hji, o 21 _ (by decide) (by decide) hji]
    refine ⟨hS.1, fun a day hday => ?_⟩
    rw [hS.2 a day hday]
    have one : ∀ q : Nat, q < (S 19 z).toNat → (sQuash T z (16 * z + j) day q ↔ sQuash S z (16 * z + j) day q) := fun q hq => by
      unfold sQuash
      rw [o 20 _ (by decide) (by decide) (by omega), o 21 (16 * z + (q : Int)) (by decide) (by decide) (by omega), o 22 (16 * z + (q : Int)) (by decide) (by decide) (by omega), o 22 (16 * z + (j : Int)) (by decide) (by decide) hji]
    exact ⟨fun y1 ⟨q, q1, q2⟩ => y1 ⟨q, q1, (one q q1).mp q2⟩, fun y1 ⟨q, q1, q2⟩ => y1 ⟨q, q1, (one q q1).mpr q2⟩⟩
