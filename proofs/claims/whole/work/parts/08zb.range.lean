/-! ===== states that agree where it counts ===== -/
section SY
variable {s o s' o' : mS} {P S L T : Nat}
theorem core_in (h : ∀ F p, p < P → F = 8 ∨ F = 9 ∨ F = 13 ∨ F = 14 ∨ F = 16 → s' F p = s F p) (hx : ∀ F x, x < S → F = 26 ∨ F = 27 ∨ F = 28 ∨ F = 29 ∨ F = 30 → s' F x = s F x) (h18 : s' 18 0 = s 18 0) (h17 : ∀ j, j < L → s' 17 j = s 17 j) (ho : ∀ F p, p < P → 64 ≤ F ∧ F ≤ 66 → o' F p = o F p) (hc : core s o P S L T) : core s' o' P S L T := by
  obtain ⟨⟨l1, l2, l3, l4⟩, c2, ⟨p1, p2⟩, c4, ⟨d1, d2, d3⟩, c6⟩ := hc
  have rlm : ∀ x v, rl s P x v → rl s' P x v := by
    rintro x v (q | ⟨p, h1, h2, h3, h4⟩)
    · exact Or.inl q
    · exact Or.inr ⟨p, h1, h2, by rw [h 8 p h1 (by omega)]; exact h3, by rw [h 13 p h1 (by omega)]; exact h4⟩
  refine ⟨⟨h18.trans l1, l2, fun k hk => ?_, fun j k hj hk e => ?_⟩, fun x hxS => ?_, ⟨fun p hp => ?_, fun p hp hin => ?_⟩, fun x hxS => ?_, ⟨fun p hp e => ?_, fun p hp e => ?_, fun p hp e => ?_⟩, fun x hxS e1 e2 p hp e3 => ?_⟩
  · rw [h17 k hk]; exact l3 k hk
  · rw [h17 j hj, h17 k hk] at e; exact l4 j k hj hk e
  · have q := c2 x hxS
    simp only [shI, dst, hx 26 x hxS (by omega), hx 27 x hxS (by omega), hx 28 x hxS (by omega), hx 29 x hxS (by omega), hx 30 x hxS (by omega)]
    exact ⟨fun w => ⟨(q.1 w).1, rlm _ _ (q.1 w).2.1, rlm _ _ (q.1 w).2.2.1, rlm _ _ (q.1 w).2.2.2.1, (q.1 w).2.2.2.2⟩, q.2⟩
  · rw [h 8 p hp (by omega), h 13 p hp (by omega)]; exact p1 p hp
  · rw [h 8 p hp (by omega)]
    refine p2 p hp ?_
    obtain ⟨j, h1, h2⟩ := hin
    rw [h17 j h1] at h2
    exact ⟨j, h1, h2⟩
  · rw [hx 26 x hxS (by omega), hx 27 x hxS (by omega)]; exact c4 x hxS
  · rw [h 8 p hp (by omega)] at e
    rw [ho 64 p hp (by omega), h 9 p hp (by omega)]; exact d1 p hp e
  · rw [h 8 p hp (by omega)] at e
    rw [ho 65 p hp (by omega), h 14 p hp (by omega)]; exact d2 p hp e
  · rw [h 8 p hp (by omega)] at e
    rw [h 13 p hp (by omega)]; exact d3 p hp e
  · simp only [hx 26 x hxS (by omega), hx 27 x hxS (by omega), hx 28 x hxS (by omega), hx 29 x hxS (by omega), hx 30 x hxS (by omega)] at e1 e2 e3
    obtain ⟨b1, b2⟩ := c6 x hxS e1 e2 p hp e3
    refine ⟨by rw [h 16 p hp (by omega), ho 66 p hp (by omega)]; exact b1, fun y hyS g1 g2 q hq e4 e5 => ?_⟩
    simp only [hx 26 y hyS (by omega), hx 27 y hyS (by omega), hx 28 y hyS (by omega), hx 29 y hyS (by omega), hx 30 y hyS (by omega)] at g1 g2 e4
    rw [h 16 p hp (by omega), h 16 q hq (by omega)] at e5
    exact b2 y hyS g1 g2 q hq e4 e5
/-- swap keeps the core -/
theorem core_fswap {x y : Int32} (hc : core s o P S L T) (hT : s 1 0 = nI T) (hS : s 19 0 = nI S) (hP6 : P ≤ 60) (hS4 : S ≤ 400) : core (f_swap s x y) o P S L T := by
  have e0 : ∀ v, core (su s 0 0 v) o P S L T := fun v => core_cg (fun F j q => by rw [su_get, if_neg (by omega)]) (fun _ _ _ => rfl) hc
  unfold f_swap
  by_cases hv : v_swap s x y
  · rw [if_pos hv]
    by_cases hs : c_swap s x.toNatClampNeg y.toNatClampNeg
    · rw [if_pos hs]
      obtain ⟨⟨vx1, vx2⟩, vy1, vy2⟩ := hv
      rw [hS] at vx2 vy2
      obtain ⟨X, hX, rfl⟩ := of_in (n := S) (nI_toInt (by omega)) ⟨vx1, vx2⟩
      obtain ⟨Y, hY, rfl⟩ := of_in (n := S) (nI_toInt (by omega)) ⟨vy1, vy2⟩
      rw [nI_clamp (by omega), nI_clamp (by omega)] at hs ⊢
      obtain ⟨n1, n2, n3, -, -, -⟩ := hs
      have f : ∀ u, ¬ r_cs s u = 0 → s 26 u = 1 ∧ s 27 u = nI T ∧ ¬ s 28 u = -1 ∧ s 29 u = -1 := by
        intro u hu
        apply Decidable.byContradiction
        intro e
        apply hu
        unfold r_cs bI
        rw [hT, if_neg e]
      have g : ∀ u, (su s 0 0 0) 26 u = s 26 u ∧ (su s 0 0 0) 27 u = s 27 u ∧ (su s 0 0 0) 28 u = s 28 u ∧ (su s 0 0 0) 29 u = s 29 u := fun u => ⟨by rw [su_get, if_neg (by omega)], by rw [su_get, if_neg (by omega)], by rw [su_get, if_neg (by omega)], by rw [su_get, if_neg (by omega)]⟩
      refine core_swap (e0 0) hX hY n1 ?_ ?_ hP6 hS4
      · rw [(g X).1, (g X).2.1, (g X).2.2.1, (g X).2.2.2]; exact f X n2
      · rw [(g Y).1, (g Y).2.1, (g Y).2.2.1, (g Y).2.2.2]; exact f Y n3
    · rw [if_neg hs]; exact e0 0
  · rw [if_neg hv]; exact e0 1
end SY
