/-! the fund: how many take one more, and who -/
noncomputable def oRm (S : St) (day T A : Int) (n : Nat) : Int := sumN (fun k => cI (sHas S (k : Int) day) (T * sWorth S (k : Int) day % A) 0) n
noncomputable def oPay (S : St) (day : Int) (n : Nat) : Int := cnt (fun k => sHas S (k : Int) day) n
theorem o_euc (S : St) (day T A : Int) (n : Nat) : A * oSum S day T A n + oRm S day T A n = T * oAll S day n := by
  induction n with
  | zero =>
    show A * 0 + 0 = T * 0
    simp
  | succ n ih =>
    show A * (oSum S day T A n + cI _ _ _) + (oRm S day T A n + cI _ _ _) = T * (oAll S day n + cI _ _ _)
    by_cases c : sHas S (n : Int) day
    · rw [cI_t c, cI_t c, cI_t c, Int.mul_add, Int.mul_add]
      have h := Int.mul_ediv_add_emod (T * sWorth S (n : Int) day) A
      omega
    · rw [cI_f c, cI_f c, cI_f c]
      simp
      exact ih
theorem oRm_b {S : St} (day T : Int) {A : Int} (hA : 0 < A) (n : Nat) : 0 ≤ oRm S day T A n ∧ oRm S day T A n ≤ A * oPay S day n := by
  induction n with
  | zero =>
    show (0 : Int) ≤ 0 ∧ (0 : Int) ≤ A * 0
    simp
  | succ n ih =>
    show 0 ≤ oRm S day T A n + cI _ _ _ ∧ oRm S day T A n + cI _ _ _ ≤ A * (oPay S day n + bI _)
    rw [Int.mul_add]
    by_cases c : sHas S (n : Int) day
    · rw [cI_t c, bI_t c]
      have h1 := Int.emod_nonneg (T * sWorth S (n : Int) day) (by omega : A ≠ 0)
      have h2 := Int.emod_lt_of_pos (T * sWorth S (n : Int) day) hA
      omega
    · rw [cI_f c, bI_f c]
      omega
/-- what is left over: not more than there are payers -/
theorem oLeft_b {S : St} {day T : Int} {n : Nat} (hA : 0 < oAll S day n) : 0 ≤ T - oSum S day T (oAll S day n) n ∧ T - oSum S day T (oAll S day n) n ≤ oPay S day n := by
  have h1 := o_euc S day T (oAll S day n) n
  have h2 := oRm_b (S := S) day T hA n
  generalize oAll S day n = A at *
  have h3 : A * (T - oSum S day T A n) = oRm S day T A n := by
    rw [Int.mul_sub, Int.mul_comm A T]
    omega
  refine ⟨?_, ?_⟩
  · have h4 : A * 0 ≤ A * (T - oSum S day T A n) := by rw [h3]; omega
    exact Int.le_of_mul_le_mul_left h4 hA
  · have h4 : A * (T - oSum S day T A n) ≤ A * oPay S day n := by rw [h3]; exact h2.2
    exact Int.le_of_mul_le_mul_left h4 hA
theorem cnt_le2 {q r : Nat → Prop} {n : Nat} (h : ∀ k, k < n → q k → r k) : cnt q n ≤ cnt r n := by
  induction n with
  | zero => exact Int.le_refl _
  | succ n ih =>
    have h1 := ih (fun k hk => h k (by omega))
    show cnt q n + bI (q n) ≤ cnt r n + bI (r n)
    by_cases c : q n
    · rw [bI_t c, bI_t (h n (by omega) c)]; omega
    · rw [bI_f c]
      have := bI_le (r n)
      omega
/-- one more than those: with one that isn't among them -/
theorem cnt_lt2 {q r : Nat → Prop} {n k0 : Nat} (h : ∀ k, k < n → q k → r k) (hk : k0 < n) (h1 : r k0) (h2 : ¬ q k0) : cnt q n + 1 ≤ cnt r n := by
  induction n with
  | zero => omega
  | succ n ih =>
    show cnt q n + bI (q n) + 1 ≤ cnt r n + bI (r n)
    by_cases e : k0 = n
    · subst e
      have h3 := cnt_le2 (fun k hk => h k (by omega : k < k0 + 1) : ∀ k, k < k0 → q k → r k)
      rw [bI_t h1, bI_f h2]
      omega
    · have h3 := ih (fun k hk => h k (by omega)) (by omega)
      have h4 := bI_le (r n)
      by_cases c : q n
      · rw [bI_t c, bI_t (h n (by omega) c)]; omega
      · rw [bI_f c]; omega
/-- those who took one: an initial piece of the order by rest and place -/
abbrev oPre (S : St) (day T A : Int) (k b : Nat) : Prop := oRest S day T A (b : Int) < oRest S day T A (k : Int) ∨ (oRest S day T A (k : Int) = oRest S day T A (b : Int) ∧ k < b)
abbrev oTook (S : St) (day T A : Int) (n : Nat) (Q : Nat → Prop) : Prop := (∀ k, Q k → k < n ∧ sHas S (k : Int) day) ∧ (∀ k b, k < n → sHas S (k : Int) day → Q b → oPre S day T A k b → Q k)
theorem oTook_end {S : St} {day T A : Int} {n : Nat} {Q : Nat → Prop} (h : oTook S day T A n Q) {h1 : Nat} (hh : h1 < n) (hp : sHas S (h1 : Int) day) : Q h1 ↔ oBef S day T A (h1 : Int) n < cnt Q n := by
  constructor
  · intro z
    have h9 := cnt_lt2 (q := qBef S day T A (h1 : Int)) (r := Q) (n := n) (k0 := h1) (fun k hk y => h.2 k h1 hk y.1 z (y.2.elim Or.inl (fun w => Or.inr ⟨w.1, by omega⟩))) hh z (fun y => y.2.elim (fun w => by omega) (fun w => by omega))
    show cnt _ _ < _
    omega
  · intro z
    refine Classical.byContradiction (fun nz => ?_)
    have h9 := cnt_le2 (q := Q) (r := qBef S day T A (h1 : Int)) (n := n) (fun k hk y => ?_)
    · have z2 : cnt (qBef S day T A (h1 : Int)) n < cnt Q n := z
      omega
    · have hkp := h.1 k y
      refine ⟨hkp.2, ?_⟩
      by_cases c : oRest S day T A (h1 : Int) < oRest S day T A (k : Int)
      · exact Or.inl c
      · have nk : k ≠ h1 := fun e => nz (e ▸ y)
        by_cases c2 : oRest S day T A (k : Int) = oRest S day T A (h1 : Int) ∧ (k : Int) < (h1 : Int)
        · exact Or.inr c2
        · exact absurd (h.2 h1 k hh hp y (by
            by_cases c3 : oRest S day T A (k : Int) < oRest S day T A (h1 : Int)
            · exact Or.inl c3
            · exact Or.inr ⟨by omega, by omega⟩)) nz
/-- the next who takes one -/
theorem oTook_next {S : St} {day T A : Int} {n : Nat} {Q : Nat → Prop} (hA : 0 < A) (h : oTook S day T A n Q) {b : Nat} (hb9 : b < n) (hbp : sHas S (b : Int) day) (hbn : ¬ Q b) (hmax : ∀ k, k < n → sHas S (k : Int) day → ¬ Q k → ¬ oPre S day T A k b) : oTook S day T A n (fun k => Q k ∨ k = b) ∧ cnt (fun k => Q k ∨ k = b) n = cnt Q n + 1 := by
  refine ⟨⟨fun k hk => hk.elim (h.1 k) (fun e => by rw [e]; exact ⟨hb9, hbp⟩), fun k b2 hk hkp hb2 hpre => ?_⟩, ?_⟩
  · rcases hb2 with z | z
    · exact Or.inl (h.2 k b2 hk hkp z hpre)
    · subst z
      refine Classical.byContradiction (fun y => ?_)
      exact hmax k hk hkp (fun w => y (Or.inl w)) hpre
  · have h1 := cnt_lt2 (q := Q) (r := fun k => Q k ∨ k = b) (n := n) (k0 := b) (fun k hk z => Or.inl z) hb9 (Or.inr rfl) hbn
    have h2 : ∀ m : Nat, cnt (fun k => Q k ∨ k = b) m ≤ cnt Q m + (if b < m then 1 else 0) := by
      intro m
      induction m with
      | zero => simp [cnt]
      | succ m ih =>
        show cnt (fun k => Q k ∨ k = b) m + bI (Q m ∨ m = b) ≤ cnt Q m + bI (Q m) + _
        by_cases c : m = b
        · subst c
          rw [bI_t (Or.inr rfl), bI_f hbn, if_pos (by omega)]
          rw [if_neg (by omega)] at ih
          omega
        · have e : bI (Q m ∨ m = b) = bI (Q m) := bI_iff ⟨fun z => z.elim id (fun y => absurd y c), Or.inl⟩
          rw [e]
          by_cases c2 : b < m
          · rw [if_pos c2] at ih
            rw [if_pos (by omega)]
            omega
          · rw [if_neg c2] at ih
            rw [if_neg (by omega)]
            omega
    have h3 := h2 n
    rw [if_pos hb9] at h3
    omega
