/-! ===== references that are there, from the invariant ===== -/
section TB2
variable {g : Nat × Nat × Nat} {A : Nat → Nat → Nat} {z : zT} {s o : mS} {P S L T B : Nat}
theorem refs_mk (hz : zo g A z o P S) (hP : s 2 0 = nI P) (hS : s 19 0 = nI S) (hc : core s o P S L T) (h1 : ∀ i, i < P → vN (o 78 i) S) (h2 : ∀ i, i < S → vN (o 82 i) P ∧ vN (o 83 i) P ∧ vN (o 84 i) P) : refs s o P S := by
  have h6 := hz.1.2.2.2.2.2.1.1
  have h4 := hz.1.2.2.2.2.2.1.2
  obtain ⟨⟨l1, l2, l3, -⟩, c2, ⟨p1, -⟩, -⟩ := hc
  obtain ⟨-, -, ⟨b1, -, b3⟩, ⟨K, k1, k2, -, k4⟩, ⟨W, w1, w2, -, w4⟩⟩ := hz
  refine ⟨fun i hi => ⟨?_, h1 i hi⟩, fun i hi => ⟨?_, h2 i hi⟩, fun l hl j hj => ?_⟩
  · by_cases e : s 8 i = 2
    · obtain ⟨x, x1, x2⟩ := (p1 i hi).1 e
      exact Or.inr ⟨x, x1, x2⟩
    · exact Or.inl ((p1 i hi).2 e)
  · exact (c2 i hi).2.2
  · match l, hl with
    | 0, _ =>
      simp only [sz, hP, nI_clamp (show P < 2 ^ 31 by omega)] at hj
      exact hj
    | 1, _ =>
      simp only [sz, hS, nI_clamp (show S < 2 ^ 31 by omega)] at hj
      exact hj
    | 2, _ =>
      simp only [sz, b1, nI_clamp (show S < 2 ^ 31 by omega)] at hj
      obtain ⟨y, y1, y2⟩ := b3 j hj
      simp only [nu, y2, nI_clamp (show y < 2 ^ 31 by omega)]
      exact y1
    | 3, _ =>
      simp only [sz, l1, nI_clamp (show L < 2 ^ 31 by omega)] at hj
      obtain ⟨y, y1, y2⟩ := l3 j hj
      simp only [nu, y2, nI_clamp (show y < 2 ^ 31 by omega)]
      exact y1
    | 4, _ =>
      simp only [sz, k2, nI_clamp (show K < 2 ^ 31 by omega)] at hj
      obtain ⟨y, y1, y2⟩ := k4 j hj
      simp only [nu, y2, nI_clamp (show y < 2 ^ 31 by omega)]
      exact y1
    | 5, _ =>
      simp only [sz, w2, nI_clamp (show W < 2 ^ 31 by omega)] at hj
      obtain ⟨y, y1, y2⟩ := w4 j hj
      simp only [nu, y2, nI_clamp (show y < 2 ^ 31 by omega)]
      exact y1
    | n + 6, hl => exact absurd hl (by omega)
end TB2
