/-! ===== what pilot and ship keep ===== -/
section SQ
variable {s o s' o' : mS} {P S L T B : Nat}
theorem k4 {k : Int32} (h : 0 ≤ k ∧ k ≤ 4) : k = 0 ∨ k = 1 ∨ k = 2 ∨ k = 3 ∨ k = 4 := by
  obtain ⟨j, hj, rfl⟩ := of_in (n := 5) (v := k) (hi := 5) (by decide) ⟨h.1, by
    have := h.2
    rw [Int32.le_iff_toInt_le] at this
    rw [Int32.lt_iff_toInt_lt]
    have h1 : (4 : Int32).toInt = 4 := rfl
    have h0 : (5 : Int32).toInt = 5 := rfl
    omega⟩
  obtain rfl | rfl | rfl | rfl | rfl : j = 0 ∨ j = 1 ∨ j = 2 ∨ j = 3 ∨ j = 4 := by omega
  · exact Or.inl rfl
  · exact Or.inr (Or.inl rfl)
  · exact Or.inr (Or.inr (Or.inl rfl))
  · exact Or.inr (Or.inr (Or.inr (Or.inl rfl)))
  · exact Or.inr (Or.inr (Or.inr (Or.inr rfl)))
theorem nI_inj {a b : Nat} (ha : a < 2 ^ 31) (hb : b < 2 ^ 31) (h : nI a = nI b) : a = b := by
  have := congrArg Int32.toNatClampNeg h
  rw [nI_clamp ha, nI_clamp hb] at this
  exact this
/-- a state with one pilot more -/
theorem core_P (hP6 : P < 60) (hc : core s o P S L T) (h18 : s' 18 0 = nI (L + 1)) (h17 : ∀ j, s' 17 j = if j = L then nI P else s 17 j) (h8 : s' 8 P = 0) (h13 : s' 13 P = -1) (hp : ∀ F j, j ≠ P → F = 8 ∨ F = 9 ∨ F = 13 ∨ F = 14 ∨ F = 16 → s' F j = s F j) (hx : ∀ F j, F = 26 ∨ F = 27 ∨ F = 28 ∨ F = 29 ∨ F = 30 → s' F j = s F j) (ho : ∀ F j, j ≠ P → 64 ≤ F ∧ F ≤ 66 → o' F j = o F j) : core s' o' (P + 1) S (L + 1) T := by
  obtain ⟨⟨l1, l2, l3, l4⟩, c2, ⟨p1, p2⟩, c4, ⟨d1, d2, d3⟩, c6⟩ := hc
  have pm : ∀ x, x < S → ∀ p, (s 28 x = nI p ∨ s 29 x = nI p ∨ s 30 x = nI p) → p < P + 1 → p < P := by
    intro x hx p h hp
    have q := (c2 x hx).2.2
    have f : ∀ v, pmP P v → v = nI p → p < P := by
      intro v hv e
      rcases hv with rfl | ⟨r, hr, rfl⟩
      · exact absurd e.symm (nI_nm1 (by omega))
      · have := nI_inj (by omega) (by omega) e
        omega
    rcases h with h | h | h
    · exact f _ q.1 h
    · exact f _ q.2.1 h
    · exact f _ q.2.2 h
  have rlm : ∀ x v, rl s P x v → rl s' (P + 1) x v := by
    rintro x v (h | ⟨p, h1, h2, h3, h4⟩)
    · exact Or.inl h
    · exact Or.inr ⟨p, by omega, h2, by rw [hp 8 p (by omega) (by omega)]; exact h3, by rw [hp 13 p (by omega) (by omega)]; exact h4⟩
  have pmm : ∀ v, pmP P v → pmP (P + 1) v := by
    rintro v (h | ⟨p, h1, h2⟩)
    · exact Or.inl h
    · exact Or.inr ⟨p, by omega, h2⟩
  refine ⟨⟨h18, by omega, fun k hk => ?_, fun j k hj hk e => ?_⟩, fun x hxS => ?_, ⟨fun p hpP => ?_, fun p hpP hin => ?_⟩, fun x hxS => ?_, ⟨fun p hpP e => ?_, fun p hpP e => ?_, fun p hpP e => ?_⟩, fun x hxS e1 e2 p hpP e3 => ?_⟩
  · rw [h17]
    by_cases e : k = L
    · rw [if_pos e]; exact ⟨P, by omega, rfl⟩
    · rw [if_neg e]
      obtain ⟨p, h1, h2⟩ := l3 k (by omega)
      exact ⟨p, by omega, h2⟩
  · rw [h17, h17] at e
    have old : ∀ k, k < L → ¬ s 17 k = nI P := by
      intro k hk q
      obtain ⟨p, h1, h2⟩ := l3 k hk
      rw [h2] at q
      have := nI_inj (by omega) (by omega) q
      omega
    by_cases e1 : j = L
    · by_cases e2 : k = L
      · omega
      · rw [if_pos e1, if_neg e2] at e
        exact absurd e.symm (old k (by omega))
    · by_cases e2 : k = L
      · rw [if_neg e1, if_pos e2] at e
        exact absurd e (old j (by omega))
      · rw [if_neg e1, if_neg e2] at e
        exact l4 j k (by omega) (by omega) e
  · have q := c2 x hxS
    simp only [shI, dst, hx 26 x (by omega), hx 27 x (by omega), hx 28 x (by omega), hx 29 x (by omega), hx 30 x (by omega)]
    exact ⟨fun h => ⟨(q.1 h).1, rlm _ _ (q.1 h).2.1, rlm _ _ (q.1 h).2.2.1, rlm _ _ (q.1 h).2.2.2.1, (q.1 h).2.2.2.2⟩, q.2.1, pmm _ q.2.2.1, pmm _ q.2.2.2.1, pmm _ q.2.2.2.2⟩
  · by_cases e : p = P
    · rw [e, h8, h13]
      exact ⟨fun h => absurd h (by decide), fun _ => rfl⟩
    · rw [hp 8 p e (by omega), hp 13 p e (by omega)]
      exact p1 p (by omega)
  · by_cases e : p = P
    · rw [e, h8]; decide
    · rw [hp 8 p e (by omega)]
      refine p2 p (by omega) ?_
      obtain ⟨j, h1, h2⟩ := hin
      rw [h17] at h2
      by_cases ej : j = L
      · rw [if_pos ej] at h2
        exact absurd (nI_inj (by omega) (by omega) h2).symm e
      · rw [if_neg ej] at h2
        exact ⟨j, by omega, h2⟩
  · rw [hx 26 x (by omega), hx 27 x (by omega)]
    exact c4 x hxS
  · by_cases ep : p = P
    · rw [ep, h8] at e
      exact absurd e (by decide)
    · rw [hp 8 p ep (by omega)] at e
      rw [ho 64 p ep (by omega), hp 9 p ep (by omega)]
      exact d1 p (by omega) e
  · by_cases ep : p = P
    · rw [ep, h8] at e
      exact absurd e (by decide)
    · rw [hp 8 p ep (by omega)] at e
      rw [ho 65 p ep (by omega), hp 14 p ep (by omega)]
      exact d2 p (by omega) e
  · by_cases ep : p = P
    · rw [ep]; exact h13
    · rw [hp 8 p ep (by omega)] at e
      rw [hp 13 p ep (by omega)]
      exact d3 p (by omega) e
  · simp only [hx 26 x (by omega), hx 27 x (by omega), hx 28 x (by omega), hx 29 x (by omega), hx 30 x (by omega)] at e1 e2 e3
    have pP := pm x hxS p e3 hpP
    obtain ⟨⟨b, b1, b2, b3⟩, b4⟩ := c6 x hxS e1 e2 p pP e3
    refine ⟨⟨b, b1, by rw [hp 16 p (by omega) (by omega)]; exact b2, by rw [ho 66 p (by omega) (by omega)]; exact b3⟩, fun y hyS g1 g2 q hq e4 e5 => ?_⟩
    simp only [hx 26 y (by omega), hx 27 y (by omega), hx 28 y (by omega), hx 29 y (by omega), hx 30 y (by omega)] at g1 g2 e4
    have qP := pm y hyS q e4 hq
    rw [hp 16 p (by omega) (by omega), hp 16 q (by omega) (by omega)] at e5
    exact b4 y hyS g1 g2 q qP e4 e5
/-- a state with one ship more -/
theorem core_S (hc : core s o P S L T) (h26 : s' 26 S = 0) (h28 : s' 28 S = -1 ∧ s' 29 S = -1 ∧ s' 30 S = -1) (hp : ∀ F j, 8 ≤ F ∧ F ≤ 18 → s' F j = s F j) (hx : ∀ F j, j ≠ S → F = 26 ∨ F = 27 ∨ F = 28 ∨ F = 29 ∨ F = 30 → s' F j = s F j) (ho : ∀ F j, 64 ≤ F ∧ F ≤ 66 → o' F j = o F j) : core s' o' P (S + 1) L T := by
  obtain ⟨⟨l1, l2, l3, l4⟩, c2, ⟨p1, p2⟩, c4, ⟨d1, d2, d3⟩, c6⟩ := hc
  have e8 : s' 8 = s 8 := funext fun j => hp 8 j (by omega)
  have e9 : s' 9 = s 9 := funext fun j => hp 9 j (by omega)
  have e13 : s' 13 = s 13 := funext fun j => hp 13 j (by omega)
  have e14 : s' 14 = s 14 := funext fun j => hp 14 j (by omega)
  have e16 : s' 16 = s 16 := funext fun j => hp 16 j (by omega)
  have e17 : s' 17 = s 17 := funext fun j => hp 17 j (by omega)
  have e18 : s' 18 = s 18 := funext fun j => hp 18 j (by omega)
  have f64 : o' 64 = o 64 := funext fun j => ho 64 j (by omega)
  have f65 : o' 65 = o 65 := funext fun j => ho 65 j (by omega)
  have f66 : o' 66 = o 66 := funext fun j => ho 66 j (by omega)
  have rlm : ∀ x v, rl s P x v → rl s' P x v := by
    intro x v h
    simp only [rl, e8, e13]
    exact h
  refine ⟨⟨by rw [e18]; exact l1, l2, by rw [e17]; exact l3, by rw [e17]; exact l4⟩, fun x hxS => ?_, ⟨fun p hpP => ?_, fun p hpP hin => ?_⟩, fun x hxS => ?_, ⟨?_, ?_, ?_⟩, fun x hxS e1 e2 p hpP e3 => ?_⟩
  · by_cases e : x = S
    · subst e
      refine ⟨fun h => ?_, fun _ => h28, Or.inl h28.1, Or.inl h28.2.1, Or.inl h28.2.2⟩
      rw [h26] at h
      exact absurd h (by decide)
    · have q := c2 x (by omega)
      simp only [shI, dst, hx 26 x e (by omega), hx 27 x e (by omega), hx 28 x e (by omega), hx 29 x e (by omega), hx 30 x e (by omega)]
      exact ⟨fun h => ⟨(q.1 h).1, rlm _ _ (q.1 h).2.1, rlm _ _ (q.1 h).2.2.1, rlm _ _ (q.1 h).2.2.2.1, (q.1 h).2.2.2.2⟩, q.2⟩
  · rw [e8, e13]
    refine ⟨fun h => ?_, (p1 p hpP).2⟩
    obtain ⟨x, h1, h2⟩ := (p1 p hpP).1 h
    exact ⟨x, by omega, h2⟩
  · rw [e8]
    refine p2 p hpP ?_
    simp only [inL, e17] at hin ⊢
    exact hin
  · intro h
    by_cases e : x = S
    · rw [e, h26] at h
      exact absurd h (by decide)
    · rw [hx 26 x e (by omega)] at h
      rw [hx 27 x e (by omega)]
      exact c4 x (by omega) h
  · simp only [cam, e8, e9, f64]; exact d1
  · simp only [rod, e8, e14, f65]; exact d2
  · simp only [abn, e8, e13]; exact d3
  · by_cases e : x = S
    · rw [e, h26] at e1
      exact absurd e1 (by decide)
    · simp only [hx 26 x e (by omega), hx 27 x e (by omega), hx 28 x e (by omega), hx 29 x e (by omega), hx 30 x e (by omega)] at e1 e2 e3
      simp only [e16, f66]
      obtain ⟨b1, b2⟩ := c6 x (by omega) e1 e2 p hpP e3
      refine ⟨b1, fun y hyS g1 g2 q hq e4 e5 => ?_⟩
      by_cases ey : y = S
      · rw [ey, h26] at g1
        exact absurd g1 (by decide)
      · simp only [hx 26 y ey (by omega), hx 27 y ey (by omega), hx 28 y ey (by omega), hx 29 y ey (by omega), hx 30 y ey (by omega)] at g1 g2 e4
        exact b2 y (by omega) g1 g2 q hq e4 e5
end SQ
