/-! ===== what swap keeps ===== -/
section SX
variable {s o : mS} {P S L T x y : Nat}
theorem core_swap (hc : core s o P S L T) (hx : x < S) (hy : y < S) (hxy : x ≠ y) (cx : s 26 x = 1 ∧ s 27 x = nI T ∧ ¬ s 28 x = -1 ∧ s 29 x = -1) (cy : s 26 y = 1 ∧ s 27 y = nI T ∧ ¬ s 28 y = -1 ∧ s 29 y = -1) (hP6 : P ≤ 60) (hS4 : S ≤ 400) : core (w_swap s x y) o P S L T := by
  obtain ⟨hl, c2, ⟨p1, p2⟩, c4, ⟨d1, d2, d3⟩, c6⟩ := hc
  have ninj : ∀ {a b : Nat}, a < 400 → b < 400 → nI a = nI b → a = b := fun ha hb h => nI_inj (by omega) (by omega) h
  obtain ⟨p, hp, ep, p8, p13⟩ := ((c2 x hx).1 cx.1).2.1.resolve_left cx.2.2.1
  obtain ⟨q, hq, eq, q8, q13⟩ := ((c2 y hy).1 cy.1).2.1.resolve_left cy.2.2.1
  have hpq : p ≠ q := by
    intro e
    rw [e, q13] at p13
    exact hxy (ninj (by omega) (by omega) p13).symm
  have cp : (nI p).toNatClampNeg = p := nI_clamp (by omega)
  have cq : (nI q).toNatClampNeg = q := nI_clamp (by omega)
  have so : ∀ F j, F ≠ 28 → F ≠ 13 → w_swap s x y F j = s F j := fun F j h1 h2 => by
    simp only [w_swap, su_get, h1, h2, false_and, if_false]
  have s28 : ∀ j, w_swap s x y 28 j = if j = y then nI p else if j = x then nI q else s 28 j := fun j => by
    simp only [w_swap, su_get, Nat.reduceEqDiff, false_and, if_false, true_and, ep, eq]
  have s13 : ∀ j, w_swap s x y 13 j = if j = q then nI x else if j = p then nI y else s 13 j := fun j => by
    simp only [w_swap, su_get, Nat.reduceEqDiff, false_and, if_false, true_and, ep, eq, cp, cq]
  generalize w_swap s x y = s' at so s28 s13 ⊢
  have e8 : ∀ j, s' 8 j = s 8 j := fun j => so 8 j (by decide) (by decide)
  -- one who is aboard u, and no leader that moved
  have keep : ∀ u v, rl s P u v → (∀ r, r < P → v = nI r → r ≠ p ∧ r ≠ q) → rl s' P u v := by
    rintro u v (h | ⟨r, h1, h2, h3, h4⟩) hn
    · exact Or.inl h
    · obtain ⟨n1, n2⟩ := hn r h1 h2
      exact Or.inr ⟨r, h1, h2, by rw [e8]; exact h3, by rw [s13, if_neg n2, if_neg n1]; exact h4⟩
  have own : ∀ u v, u < S → rl s P u v → ∀ r, r < P → v = nI r → s 13 r = nI u := by
    rintro u v hu (h | ⟨r', h1, h2, h3, h4⟩) r hr e
    · rw [h] at e; exact absurd e.symm (nI_nm1 (by omega))
    · have : r' = r := ninj (by omega) (by omega) (h2.symm.trans e)
      rw [← this]; exact h4
  have oth : ∀ u, u < S → u ≠ x → u ≠ y → ∀ v, rl s P u v → rl s' P u v := fun u hu n1 n2 v hv => keep u v hv (fun r hr e => by
    have h := own u v hu hv r hr e
    refine ⟨fun e2 => ?_, fun e2 => ?_⟩
    · rw [e2, p13] at h; exact n1 (ninj (by omega) (by omega) h).symm
    · rw [e2, q13] at h; exact n2 (ninj (by omega) (by omega) h).symm)
  have rx := (c2 x hx).1 cx.1
  have ry := (c2 y hy).1 cy.1
  have lx : rl s' P x (s 30 x) := keep x _ rx.2.2.2.1 (fun r hr e => by
    have h := own x _ hx rx.2.2.2.1 r hr e
    refine ⟨fun e2 => ?_, fun e2 => ?_⟩
    · have := rx.2.2.2.2.2.1
      rw [ep, e, e2] at this
      rcases this with h | h
      · exact absurd h (nI_nm1 (by omega))
      · exact h rfl
    · rw [e2, q13] at h; exact hxy (ninj (by omega) (by omega) h).symm)
  have ly : rl s' P y (s 30 y) := keep y _ ry.2.2.2.1 (fun r hr e => by
    have h := own y _ hy ry.2.2.2.1 r hr e
    refine ⟨fun e2 => ?_, fun e2 => ?_⟩
    · rw [e2, p13] at h; exact hxy (ninj (by omega) (by omega) h)
    · have := ry.2.2.2.2.2.1
      rw [eq, e, e2] at this
      rcases this with h | h
      · exact absurd h (nI_nm1 (by omega))
      · exact h rfl)
  have bx : nI q ≠ s 30 x := fun e => by
    have h := own x _ hx rx.2.2.2.1 q hq e.symm
    rw [q13] at h
    exact hxy (ninj (by omega) (by omega) h).symm
  have by' : nI p ≠ s 30 y := fun e => by
    have h := own y _ hy ry.2.2.2.1 p hp e.symm
    rw [p13] at h
    exact hxy (ninj (by omega) (by omega) h)
  -- whoever is aboard u now was aboard a ship of the same hour
  have mem : ∀ u, u < S → s 26 u = 1 → s 27 u = nI T → ∀ r, (s' 28 u = nI r ∨ s 29 u = nI r ∨ s 30 u = nI r) → ∃ w, w < S ∧ s 26 w = 1 ∧ s 27 w = nI T ∧ (s 28 w = nI r ∨ s 29 w = nI r ∨ s 30 w = nI r) := by
    intro u hu h1 h2 r h
    rcases h with h | h
    · rw [s28] at h
      by_cases e1 : u = y
      · rw [if_pos e1] at h
        exact ⟨x, hx, cx.1, cx.2.1, Or.inl (ep.trans h)⟩
      · rw [if_neg e1] at h
        by_cases e2 : u = x
        · rw [if_pos e2] at h
          exact ⟨y, hy, cy.1, cy.2.1, Or.inl (eq.trans h)⟩
        · rw [if_neg e2] at h
          exact ⟨u, hu, h1, h2, Or.inl h⟩
    · exact ⟨u, hu, h1, h2, Or.inr h⟩
  refine ⟨?_, fun u hu => ?_, ⟨fun r hr => ?_, fun r hr hin => ?_⟩, fun u hu => ?_, ⟨fun r hr e => ?_, fun r hr e => ?_, fun r hr e => ?_⟩, fun u hu h26 h27 r hr hm => ?_⟩
  · simp only [lOK, so 17 _ (by decide) (by decide), so 18 _ (by decide) (by decide)]
    exact hl
  · simp only [shI, dst, so 26 _ (by decide) (by decide), so 27 _ (by decide) (by decide), so 29 _ (by decide) (by decide), so 30 _ (by decide) (by decide)]
    by_cases e1 : u = y
    · subst e1
      rw [s28, if_pos rfl]
      exact ⟨fun _ => ⟨ry.1, Or.inr ⟨p, hp, rfl, by rw [e8]; exact p8, by rw [s13, if_neg hpq, if_pos rfl]⟩, Or.inl cy.2.2.2, ly, ⟨Or.inr (by rw [cy.2.2.2]; exact nI_nm1 (by omega)), Or.inr by', Or.inl cy.2.2.2⟩⟩, fun h => absurd (cy.1.symm.trans h) (by decide), ⟨Or.inr ⟨p, hp, rfl⟩, (c2 u hu).2.2.2⟩⟩
    · by_cases e2 : u = x
      · subst e2
        rw [s28, if_neg e1, if_pos rfl]
        exact ⟨fun _ => ⟨rx.1, Or.inr ⟨q, hq, rfl, by rw [e8]; exact q8, by rw [s13, if_pos rfl]⟩, Or.inl cx.2.2.2, lx, ⟨Or.inr (by rw [cx.2.2.2]; exact nI_nm1 (by omega)), Or.inr bx, Or.inl cx.2.2.2⟩⟩, fun h => absurd (cx.1.symm.trans h) (by decide), ⟨Or.inr ⟨q, hq, rfl⟩, (c2 u hu).2.2.2⟩⟩
      · rw [s28, if_neg e1, if_neg e2]
        have k := c2 u hu
        exact ⟨fun h => ⟨(k.1 h).1, oth u hu e2 e1 _ (k.1 h).2.1, oth u hu e2 e1 _ (k.1 h).2.2.1, oth u hu e2 e1 _ (k.1 h).2.2.2.1, (k.1 h).2.2.2.2⟩, k.2⟩
  · rw [e8, s13]
    by_cases e1 : r = q
    · rw [if_pos e1, e1]
      exact ⟨fun _ => ⟨x, hx, rfl⟩, fun h => absurd q8 h⟩
    · rw [if_neg e1]
      by_cases e2 : r = p
      · rw [if_pos e2, e2]
        exact ⟨fun _ => ⟨y, hy, rfl⟩, fun h => absurd p8 h⟩
      · rw [if_neg e2]; exact p1 r hr
  · rw [e8]
    refine p2 r hr ?_
    simp only [inL, so 17 _ (by decide) (by decide)] at hin ⊢
    exact hin
  · rw [so 26 _ (by decide) (by decide), so 27 _ (by decide) (by decide)]; exact c4 u hu
  · rw [e8] at e; rw [so 9 _ (by decide) (by decide)]; exact d1 r hr e
  · rw [e8] at e; rw [so 14 _ (by decide) (by decide)]; exact d2 r hr e
  · rw [e8] at e
    rw [s13, if_neg (by rintro rfl; exact e q8), if_neg (by rintro rfl; exact e p8)]
    exact d3 r hr e
  · rw [so 26 _ (by decide) (by decide)] at h26
    rw [so 27 _ (by decide) (by decide)] at h27
    rw [so 29 _ (by decide) (by decide), so 30 _ (by decide) (by decide)] at hm
    obtain ⟨w, w1, w2, w3, w4⟩ := mem u hu h26 h27 r hm
    obtain ⟨b1, b2⟩ := c6 w w1 w2 w3 r hr w4
    refine ⟨by rw [so 16 _ (by decide) (by decide)]; exact b1, fun u2 hu2 g26 g27 r2 hr2 hm2 he => ?_⟩
    rw [so 26 _ (by decide) (by decide)] at g26
    rw [so 27 _ (by decide) (by decide)] at g27
    rw [so 29 _ (by decide) (by decide), so 30 _ (by decide) (by decide)] at hm2
    rw [so 16 _ (by decide) (by decide), so 16 _ (by decide) (by decide)] at he
    obtain ⟨v, v1, v2, v3, v4⟩ := mem u2 hu2 g26 g27 r2 hm2
    exact b2 v v1 v2 v3 r2 hr2 v4 he
end SX
