/-! one element more in a list: its array's cells -/
theorem capN_mid {n : Int} (h : 0 < n) (h2 : n < (capN n : Int)) : capN (n + 1) = capN n := by
  unfold capN at h2 ⊢
  repeat' split
  all_goals (try split at h2)
  all_goals (try split at h2)
  all_goals (try split at h2)
  all_goals (try split at h2)
  all_goals omega
theorem capN_full {n : Int} (h0 : n ≤ 48) (h : (capN n : Int) = n) : n + max (n + 1 - n) (n / 2) = ((capN (n + 1) : Nat) : Int) := by
  have h1 : n = 10 ∨ n = 15 ∨ n = 22 ∨ n = 33 := by
    unfold capN at h
    split at h
    · omega
    · split at h
      · omega
      · split at h
        · omega
        · split at h <;> omega
  rcases h1 with h1 | h1 | h1 | h1 <;> subst h1 <;> decide
theorem arr_addM {n : Int} (hn : 0 ≤ n) (el : Int → Nat) (v : Nat) : va_up (arrF n el) n.toNat (some v) = arrF (n + 1) (fun q => if q = n then v else el q) := by
  funext j
  unfold va_up arrF
  by_cases h : j = n.toNat
  · have h2 : (j : Int) = n := by omega
    simp [h2, h]
    omega
  · have h2 : ¬ (j : Int) = n := by omega
    by_cases h3 : (j : Int) < n
    · simp [h, h2, h3, show (j : Int) < n + 1 by omega]
    · simp [h, h3, show ¬ (j : Int) < n + 1 by omega]
theorem arr_add0 (el : Int → Nat) (v : Nat) : va_up (fun _ => none) (0 : Int).toNat (some v) = arrF (0 + 1) (fun q => if q = 0 then v else el q) := by
  have h : (fun _ => none : Nat → Option Nat) = arrF 0 el := by
    funext j
    unfold arrF
    rw [if_neg (by omega)]
  rw [h, arr_addM (by omega)]
theorem arr_addF {n : Int} (hn : 0 ≤ n) (hc : (capN n : Int) = n) (el : Int → Nat) (v : Nat) : va_up (fun k => if k < capN n then arrF n el k else none) n.toNat (some v) = arrF (n + 1) (fun q => if q = n then v else el q) := by
  have h : (fun k => if k < capN n then arrF n el k else none : Nat → Option Nat) = arrF n el := by
    funext j
    unfold arrF
    by_cases h : (j : Int) < n
    · rw [if_pos (by omega)]
    · rw [if_neg h]
      split <;> rfl
  rw [h, arr_addM hn]
/-- where the elements lie behind an add -/
def nbA (ba sz : Nat) (n : Int) : Nat := if 0 < n ∧ n < (capN n : Int) then ba else sz
abbrev ADP (g : GG) (x : XX) (la ba sz v ci : Nat) (n : Int) (el : Int → Nat) (H : Heap) : Prop := H.size = sz ∧ va_at g.1 vwCl (la, lstE x.2.1 ba n) H ∧ (0 < n → va_at g.1 vwCl (ba, arrE g n el) H) ∧ (∀ i : Int, 0 ≤ i → i < n → ∃ vs, va_at g.1 vwCl (el i, .inr (ci, vs)) H) ∧ ∃ vs, va_at g.1 vwCl (v, .inr (ci, vs)) H
abbrev ADQ (g : GG) (x : XX) (la ba sz v : Nat) (n : Int) (el : Int → Nat) (H : Heap) : Prop := va_at g.1 vwCl (la, lstE x.2.1 (nbA ba sz n) (n + 1)) H ∧ va_at g.1 vwCl (nbA ba sz n, arrE g (n + 1) (fun q => if q = n then v else el q)) H
abbrev ADA (la ba sz : Nat) (n : Int) (q : Nat) : Prop := q = la ∨ (0 < n ∧ q = ba) ∨ sz ≤ q
