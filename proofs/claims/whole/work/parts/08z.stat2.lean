/-! ===== stat with one pilot or one ship more ===== -/
section SR
variable {s o s' o' : mS} {P S L T B : Nat}
theorem stat_P (hs : stat s o P S B) (h3 : s' 3 P = 0 ∨ s' 3 P = 1 ∨ s' 3 P = 2 ∨ s' 3 P = 3 ∨ s' 3 P = 4) (h3o : ∀ j, j ≠ P → s' 3 j = s 3 j) (h : ∀ F j, F = 7 ∨ F = 21 ∨ F = 24 ∨ F = 35 ∨ F = 36 ∨ F = 37 ∨ F = 38 ∨ F = 39 → s' F j = s F j) (hf : ∀ d, d < 400 → s 7 (400 * P + d) = 0) (h61 : o' 61 P = 0) (ho : ∀ F j, F = 61 ∧ j ≠ P ∨ F = 62 ∨ F = 93 → o' F j = o F j) : stat s' o' (P + 1) S B := by
  obtain ⟨⟨a1, a2, a3⟩, a4, ⟨a5, a6⟩, a7, a8, a9, a10, a11⟩ := hs
  have e21 : ln s' = ln s := funext fun y => by simp only [ln, h 21 y (by omega)]
  refine ⟨⟨fun p hp => ?_, fun x hx hn => ?_, tOK_cg (fun F j q => h F j (by omega)) a3⟩, fun y hy => ?_, ⟨fun j hj => ?_, fun i j hi hj => ?_⟩, fun c hc => ?_, fun p hp => ?_, fun k hk => ?_, ?_, a11⟩
  · by_cases e : p = P
    · rw [e]; exact h3
    · rw [h3o p e]; exact a1 p (by omega)
  · rw [h 24 x (by omega)] at hn ⊢
    obtain ⟨q, h1, h2⟩ := a2 x hx hn
    exact ⟨q, by omega, h2⟩
  · rw [h 21 y (by omega)]; exact a4 y hy
  · rw [ho 93 j (by omega)]; exact a5 j hj
  · rw [ho 93 j (by omega), ho 93 i (by omega), e21]; exact a6 i j hi hj
  · rw [ho 62 c (by omega), a7 c hc]; exact (soS_o (fun j => h 38 j (by omega)) (fun j => h 39 j (by omega)) _ _ _).symm
  · rw [ofS_o (s := s) (s' := s') (fun j => h 7 j (by omega)) p]
    by_cases e : p = P
    · rw [e, h61]
      exact (ofS_0 _ _ _ (fun j _ hj => hf j (by omega))).symm
    · rw [ho 61 p (by omega)]; exact a8 p (by omega)
  · rw [h 39 k (by omega)]; exact a9 k hk
  · rw [h 37 0 (by omega)]; exact a10
theorem stat_S (hs : stat s o P S B) (hsb : sbOK s' o' (S + 1)) (h21 : ∃ n, n ≤ 400 ∧ s' 21 S = nI n) (h24 : ¬ s' 24 S < 0 → ∃ q, q < P ∧ s' 24 S = nI q) (hx : ∀ F j, j ≠ S → F = 21 ∨ F = 24 → s' F j = s F j) (h : ∀ F j, F = 3 ∨ F = 7 ∨ F = 35 ∨ F = 36 ∨ F = 37 ∨ F = 38 ∨ F = 39 → s' F j = s F j) (ho : ∀ F j, F = 61 ∨ F = 62 → o' F j = o F j) : stat s' o' P (S + 1) B := by
  obtain ⟨⟨a1, a2, a3⟩, a4, -, a7, a8, a9, a10, a11⟩ := hs
  refine ⟨⟨fun p hp => ?_, fun x hxS hn => ?_, tOK_cg (fun F j q => h F j (by omega)) a3⟩, fun y hy => ?_, hsb, fun c hc => ?_, fun p hp => ?_, fun k hk => ?_, ?_, a11⟩
  · rw [h 3 p (by omega)]; exact a1 p hp
  · by_cases e : x = S
    · rw [e] at hn ⊢; exact h24 hn
    · rw [hx 24 x e (by omega)] at hn ⊢; exact a2 x (by omega) hn
  · by_cases e : y = S
    · rw [e]; exact h21
    · rw [hx 21 y e (by omega)]; exact a4 y (by omega)
  · rw [ho 62 c (by omega), a7 c hc]; exact (soS_o (fun j => h 38 j (by omega)) (fun j => h 39 j (by omega)) _ _ _).symm
  · rw [ho 61 p (by omega), a8 p hp]; exact (ofS_o (fun j => h 7 j (by omega)) p _ _ _).symm
  · rw [h 39 k (by omega)]; exact a9 k hk
  · rw [h 37 0 (by omega)]; exact a10
end SR
