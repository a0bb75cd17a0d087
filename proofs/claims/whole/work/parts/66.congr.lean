/-! one state for both sides -/
section RC5
variable {g : GG} {e0 : Nat} {P : Nat → Prop} {ad : AD} {S S' : St} {H : Heap}
theorem RepC.congr (hC : RepC g e0 P ad S H) (h : ∀ k, k ≠ 30 → k ≠ 31 → S' k = S k) : RepC g e0 P ad S' H := by
  have hl : ∀ r i j, live S' r i j ↔ live S r i j := fun r i j => live_same (fun k hk => h k (by omega) (by omega)) r i j
  have hE : ∀ r i j, cE g e0 ad S' r i j = cE g e0 ad S r i j := fun r i j => by
    have f := fun k (a : k ≠ 30 ∧ k ≠ 31) => h k a.1 a.2
    unfold cE
    simp only [cFs, clen, hlen, objFs, hFs, evFs, woFs, f 0 (by decide), f 8 (by decide), f 9 (by decide), f 27 (by decide), f 28 (by decide), f 29 (by decide), f 1 (by decide), f 2 (by decide), f 3 (by decide), f 4 (by decide), f 5 (by decide), f 6 (by decide), f 7 (by decide), f 10 (by decide), f 11 (by decide), f 12 (by decide), f 13 (by decide), f 14 (by decide), f 15 (by decide), f 16 (by decide), f 17 (by decide), f 18 (by decide), f 19 (by decide), f 20 (by decide), f 21 (by decide), f 22 (by decide), f 23 (by decide), f 24 (by decide), f 25 (by decide), f 26 (by decide), f 40 (by decide)]
  exact ⟨fun r i j z => by rw [hE]; exact hC.1 r i j ((hl r i j).mp z), fun r i j r' i' j' z z' e => hC.2 _ _ _ _ _ _ ((hl r i j).mp z) ((hl r' i' j').mp z') e⟩
theorem mFs_congr {mad : Nat → Nat} {S S' : St} (h : ∀ k, k < 32 → S' k = S k) : mFs mad S' = mFs mad S := by
  unfold mFs
  simp only [h 0 (by decide), h 2 (by decide), h 8 (by decide), h 9 (by decide), h 10 (by decide), h 14 (by decide), h 27 (by decide), h 28 (by decide), h 29 (by decide)]
theorem RepM.congr {mad : Nat → Nat} {S S' : St} {H : Heap} (hM : RepM g mad S H) (h : ∀ k, k < 32 → S' k = S k) : RepM g mad S' H := by
  refine ⟨?_, fun k hk h0 => ?_⟩
  · rw [mFs_congr h]
    exact hM.1
  · rw [mE_congr (h k hk)]
    exact hM.2 k hk h0
end RC5
