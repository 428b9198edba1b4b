/-! ===== what the reference's hour asks, from the invariant; the clauses of fresh rows ===== -/
section TC
variable {s o s' : mS} {P S L T B : Nat}
theorem eOK_mk (hc : core s o P S L T) (hs : stat s o P S B) (hP6 : P ≤ 60) (hT : T ≤ 9599) : eOK s S := by
  intro x hx
  refine ⟨hs.2.1 x hx, fun h => ⟨?_, ?_, ?_, ?_⟩⟩
  · obtain ⟨W, w1, w2⟩ := hc.2.2.2.1 x hx h
    exact ⟨W, by omega, w2⟩
  · rcases (hc.2.1 x hx).2.2.1 with e | ⟨p, h1, h2⟩
    · exact Or.inl e
    · exact Or.inr ⟨p, by omega, h2⟩
  · rcases (hc.2.1 x hx).2.2.2.1 with e | ⟨p, h1, h2⟩
    · exact Or.inl e
    · exact Or.inr ⟨p, by omega, h2⟩
  · rcases (hc.2.1 x hx).2.2.2.2 with e | ⟨p, h1, h2⟩
    · exact Or.inl e
    · exact Or.inr ⟨p, by omega, h2⟩
/-- rows beyond the last pilot and ship are as they were made -/
def fresh (s : mS) (P S : Nat) : Prop := (∀ p, P ≤ p → p < 60 → frP s p) ∧ (∀ x, S ≤ x → x < 400 → frX s x)
theorem fresh0 : fresh s00 0 0 := ⟨fun _ _ _ => ⟨rfl, rfl, rfl, fun _ _ => rfl⟩, fun _ _ _ => ⟨rfl, rfl, rfl⟩⟩
theorem fresh_cg (h : ∀ F j, F = 7 ∨ F = 10 ∨ F = 11 ∨ F = 12 ∨ F = 31 ∨ F = 32 ∨ F = 33 → s' F j = s F j) (hf : fresh s P S) : fresh s' P S := by
  refine ⟨fun p h1 h2 => ?_, fun x h1 h2 => ?_⟩
  · obtain ⟨a, b, c, d⟩ := hf.1 p h1 h2
    exact ⟨by rw [h 10 p (by omega)]; exact a, by rw [h 11 p (by omega)]; exact b, by rw [h 12 p (by omega)]; exact c, fun e he => by rw [h 7 _ (by omega)]; exact d e he⟩
  · obtain ⟨a, b, c⟩ := hf.2 x h1 h2
    exact ⟨by rw [h 31 x (by omega)]; exact a, by rw [h 32 x (by omega)]; exact b, by rw [h 33 x (by omega)]; exact c⟩
theorem fresh_P (hf : fresh s P S) : fresh s (P + 1) S := ⟨fun p h1 h2 => hf.1 p (by omega) h2, hf.2⟩
theorem fresh_S (hf : fresh s P S) : fresh s P (S + 1) := ⟨hf.1, fun x h1 h2 => hf.2 x (by omega) h2⟩
end TC
