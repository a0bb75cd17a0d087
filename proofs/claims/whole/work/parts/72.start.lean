/-! the two sides at their births: one state -/
theorem S00_0 {k : Nat} {z : Int} (h : k ≠ 8 ∧ k ≠ 9 ∧ k ≠ 29) : S00 k z = 0 := by
  unfold S00
  rw [if_neg h.1, if_neg h.2.1, if_neg h.2.2]
theorem S00_R (k : Nat) (z : Int) : 0 ≤ S00 k z ∧ S00 k z ≤ 100 := by
  unfold S00
  by_cases c : k = 8
  · rw [if_pos c]; omega
  · by_cases d : k = 9
    · rw [if_neg c, if_pos d]; omega
    · by_cases f : k = 29
      · rw [if_neg c, if_neg d, if_pos f]; omega
      · rw [if_neg c, if_neg d, if_neg f]; omega
theorem Inv0 : Inv S00 := by
  have e2 : S00 2 0 = 0 := rfl
  have e10 : S00 10 0 = 0 := rfl
  have e14 : S00 14 0 = 0 := rfl
  refine ⟨⟨fun k z hk => ?_, ?_⟩, ?_, fun j h0 h1 => ?_, fun j h0 h1 => ?_, fun h h0 h1 => ?_, fun h j h0 h1 h2 h3 => ?_, fun h j h0 h1 h2 h3 => ?_, fun h h0 h1 => ?_, fun h h0 => ?_⟩
  · have q := S00_R k z
    exact ⟨by omega, by omega⟩
  · decide
  · decide
  · omega
  · omega
  · omega
  · omega
  · omega
  · omega
  · exact ⟨S00_0 (by decide), S00_0 (by decide)⟩
theorem InvC0 : InvC S00 := by
  intro h h0 h1
  have e14 : S00 14 0 = 0 := rfl
  omega
theorem clen00 (k : Int) : clen S00 k = 0 := by
  unfold clen
  by_cases c : k = 0
  · rw [if_pos c]; rfl
  · by_cases d : k = 1
    · rw [if_neg c, if_pos d]; rfl
    · rw [if_neg c, if_neg d]; rfl
theorem live00 {r : Nat} {i j : Int} (h : live S00 r i j) : ((r = 0 ∨ r = 1 ∨ r = 2) ∧ i = 0 ∧ j = 0) ∨ (r = 3 ∧ (i = 0 ∨ i = 1 ∨ i = 2) ∧ j = 0) := by
  have e2 : S00 2 0 = 0 := rfl
  have e10 : S00 10 0 = 0 := rfl
  have e14 : S00 14 0 = 0 := rfl
  have ec := clen00 i
  unfold live at h
  rw [e2, e10, e14, ec] at h
  rcases h with h | h | h | h | h | h | h | h | h | h
  · exact Or.inl h
  · exact Or.inr ⟨h.1, by omega, h.2.2⟩
  · omega
  · omega
  · omega
  · omega
  · omega
  · omega
  · omega
  · omega
def ad00 (a q1 q2 q3 q4 q5 : Nat) : AD := fun r i _ => if r = 0 then a else if r = 1 then q4 else if r = 2 then q5 else if i = 0 then q1 else if i = 1 then q2 else q3
theorem RepC.start {g : GG} {e0 : Nat} {P : Nat → Prop} {H : Heap} {a q1 q2 q3 q4 q5 : Nat} (hs : a < q1 ∧ q1 < q2 ∧ q2 < q3 ∧ q3 < q4 ∧ q4 < q5) (hO : va_at g.1 vwCl (a, .inr (6, [.ref q1, .ref q2, .ref q3, .ref q4, .ref q5, .int (iI 0), .int (iI 20), .int (iI 100), .int (iI 0), .int (iI 0), .long (lI 1)])) H)
    (h1 : va_at g.1 vwCl (q1, .inr (0, [.int (iI 0), .ref e0, .int (iI 0)])) H) (h2 : va_at g.1 vwCl (q2, .inr (0, [.int (iI 0), .ref e0, .int (iI 0)])) H) (h3 : va_at g.1 vwCl (q3, .inr (0, [.int (iI 0), .ref e0, .int (iI 0)])) H)
    (h4 : va_at g.1 vwCl (q4, .inl (g.2.1, 20, .inl (fun _ => iI 0))) H) (h5 : va_at g.1 vwCl (q5, .inr (3, lawFs 0 0 0 0 0)) H)
    (hP : P a ∧ P q1 ∧ P q2 ∧ P q3 ∧ P q4 ∧ P q5) : RepC g e0 P (ad00 a q1 q2 q3 q4 q5) S00 H := by
  refine ⟨fun r i j hl => ?_, fun r i j r' i' j' hl hl' e => ?_⟩
  · rcases live00 hl with ⟨rfl | rfl | rfl, rfl, rfl⟩ | ⟨rfl, rfl | rfl | rfl, rfl⟩
    · exact ⟨hO, hP.1⟩
    · exact ⟨h4, hP.2.2.2.2.1⟩
    · exact ⟨h5, hP.2.2.2.2.2⟩
    · exact ⟨h1, hP.2.1⟩
    · exact ⟨h2, hP.2.2.1⟩
    · exact ⟨h3, hP.2.2.2.1⟩
  · rcases live00 hl with ⟨rfl | rfl | rfl, rfl, rfl⟩ | ⟨rfl, rfl | rfl | rfl, rfl⟩ <;> rcases live00 hl' with ⟨rfl | rfl | rfl, rfl, rfl⟩ | ⟨rfl, rfl | rfl | rfl, rfl⟩ <;> first | exact ⟨rfl, rfl, rfl⟩ | (simp [ad00] at e; omega)
theorem RepC.keep2 {g : GG} {e0 : Nat} {P : Nat → Prop} {ad : AD} {S : St} {H H1 : Heap} (h : RepC g e0 P ad S H) (hq : ∀ q : Nat, q < H.size → P q → H1[q]? = H[q]?) : RepC g e0 P ad S H1 :=
  ⟨fun r i j hl => ⟨(h.1 r i j hl).1.kept (hq _ (va_at.lt2 (h.1 r i j hl).1) (h.1 r i j hl).2), (h.1 r i j hl).2⟩, h.2⟩
theorem RepM.lt {g : GG} {mad : Nat → Nat} {S : St} {H : Heap} (hM : RepM g mad S H) {q : Nat} (h : PM mad q) : q < H.size := by
  obtain ⟨k, hk, h0, e⟩ := h
  rw [← e]
  rcases h0 with z | z
  · rw [z]; exact va_at.lt2 hM.1
  · exact va_at.lt2 (hM.2 k hk z)
theorem RepM.keep2 {g : GG} {mad : Nat → Nat} {S : St} {H H1 : Heap} (hM : RepM g mad S H) (hq : ∀ q : Nat, q < H.size → PM mad q → H1[q]? = H[q]?) : RepM g mad S H1 :=
  hM.kept (fun q h => hq q (hM.lt h) h)
theorem RepC.mono {g : GG} {e0 : Nat} {P P' : Nat → Prop} {ad : AD} {S : St} {H : Heap} (h : RepC g e0 P ad S H) (hq : ∀ q, q < H.size → P q → P' q) : RepC g e0 P' ad S H :=
  ⟨fun r i j hl => ⟨(h.1 r i j hl).1, hq _ (va_at.lt2 (h.1 r i j hl).1) (h.1 r i j hl).2⟩, h.2⟩
