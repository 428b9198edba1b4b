/-! ===== one call of each: setters ===== -/
section LX
variable {g : Nat × Nat × Nat} {b N n : Nat} {xs : Nat → Int32} {s : mS} {H : xH}
theorem B_tide {d t : Int32} (hn : n ≤ 1100) (h : LI g b N xs n s s H) : (∃ H1, Ev g 58 0 [some (.ref g.1), some (.int d), some (.int t)] [] H (if e_tide s d t = 0 then .inl (some (.int (r_tide s d t))) else .inr (if e_tide s d t = 1 then 1 else if e_tide s d t = 2 then 0 else 2), H1) ∧ LI g b N xs (n + 1) s (f_tide s d t) H1) ∧ MS g b N xs n s (f_tide s d t) 118 [some (.ref (g.1 + 20)), some (.int d), some (.int t)] (some (.int (r_tide s d t))) := by
  have h0 := h
  obtain ⟨A, z, o, P, S, L, T, B, rfl, hx, hV, hF, hR⟩ := h
  have k := cd_tide (g := g) (A := A) (z := z) (s := s) (o := o) (d := d) (t := t) hV.1.1 (stat_tOK hV)
  rw [hx] at k
  refine ⟨?_, MS_of (fun h => md_tide (fun j hj => (stat_tOK hV j hj).1) (by omega))⟩
  by_cases e : e_tide s d t = 0
  · rw [if_pos e] at k ⊢
    have q : ∀ F j, F ≠ 0 → F ≠ 34 → F ≠ 35 → F ≠ 36 → F ≠ 52 → f_tide s d t F j = s F j := fun F j a1 a2 a3 a4 a5 => by
      simp only [f_tide, e, if_true, su_get, a1, a2, a3, a4, a5, false_and, if_false]
    have qo : ∀ F j, F ≠ 60 → su o 60 0 0 F j = o F j := fun F j a => su_other _ _ a
    refine ⟨_, k, A, z, su o 60 0 0, P, S, L, T, B, rfl, hx, LV_set hV (fun F j a => q F j (by omega) (by omega) (by omega) (by omega) (by omega)) (fun F j a => qo F j (by omega)) ?_ ?_ (stat_cg (fun F j a => q F j (by omega) (by omega) (by omega) (by omega) (by omega)) (fun F j a => qo F j (by omega)) (tOK_tide (stat_tOK hV)) hV.2.2.2.1) (fun j => ⟨?_, ?_⟩) (fun p _ _ d _ => q _ _ (by decide) (by decide) (by decide) (by decide) (by decide)), hF, LR_up hR⟩
    · simp only [f_tide, e, if_true, su_get, and_self]
    · simp only [su_get, and_self, if_true]
    · have := (hV.2.2.2.2.2.2.1 j).1
      simp only [f_tide, e, if_true, su_get, Nat.reduceEqDiff, false_and, if_false, true_and]
      split
      · exact Or.inr rfl
      · exact this
    · rw [q _ _ (by decide) (by decide) (by decide) (by decide) (by decide)]; exact (hV.2.2.2.2.2.2.1 j).2
  · rw [if_neg e] at k ⊢
    have e2 : f_tide s d t = su s 0 0 (e_tide s d t) := by unfold f_tide; rw [if_neg e]
    rw [e2]
    exact ⟨_, k, LI_bmp (LI_thr h0) hn⟩
theorem B_tear {d : Int32} (hn : n ≤ 1100) (h : LI g b N xs n s s H) : (∃ H1, Ev g 59 0 [some (.ref g.1), some (.int d), none] [] H (if e_tear d = 0 then .inl (some (.int (r_tear s d))) else .inr 1, H1) ∧ LI g b N xs (n + 1) s (f_tear s d) H1) ∧ MS g b N xs n s (f_tear s d) 119 [some (.ref (g.1 + 20)), some (.int d), none] (some (.int (r_tear s d))) := by
  have h0 := h
  obtain ⟨A, z, o, P, S, L, T, B, rfl, hx, hV, hF, hR⟩ := h
  have h01 : ∀ j, s 36 j = 0 ∨ s 36 j = 1 := fun j => (hV.2.2.2.2.2.2.1 j).1
  have k := cd_tear (g := g) (A := A) (z := z) (s := s) (o := o) (d := d) (a2 := none) hV.1.1 (stat_tOK hV) h01
  rw [hx] at k
  refine ⟨?_, MS_of (fun h => md_tear (by omega) h01)⟩
  by_cases w : 0 ≤ d ∧ d < 400
  · have e : e_tear d = 0 := by unfold e_tear; rw [if_pos w]
    rw [if_pos e] at k ⊢
    have q : ∀ F j, F ≠ 0 → F ≠ 35 → F ≠ 36 → F ≠ 52 → f_tear s d F j = s F j := fun F j a1 a3 a4 a5 => by
      simp only [f_tear, w, and_self, if_true, su_get, a1, a3, a4, a5, false_and, if_false]
    have qo : ∀ F j, F ≠ 60 → su o 60 0 0 F j = o F j := fun F j a => su_other _ _ a
    refine ⟨_, k, A, z, su o 60 0 0, P, S, L, T, B, rfl, hx, LV_set hV (fun F j a => q F j (by omega) (by omega) (by omega) (by omega)) (fun F j a => qo F j (by omega)) ?_ ?_ (stat_cg (fun F j a => q F j (by omega) (by omega) (by omega) (by omega)) (fun F j a => qo F j (by omega)) (tOK_tear (stat_tOK hV)) hV.2.2.2.1) (fun j => ⟨?_, ?_⟩) (fun p _ _ d _ => q _ _ (by decide) (by decide) (by decide) (by decide)), hF, LR_up hR⟩
    · simp only [f_tear, w, and_self, if_true, su_get]
    · simp only [su_get, and_self, if_true]
    · have := h01 j
      simp only [f_tear, w, and_self, if_true, su_get, Nat.reduceEqDiff, false_and, if_false, true_and]
      split
      · exact Or.inl rfl
      · exact this
    · rw [q _ _ (by decide) (by decide) (by decide) (by decide)]; exact (hV.2.2.2.2.2.2.1 j).2
  · have e : ¬ e_tear d = 0 := by unfold e_tear; rw [if_neg w]; decide
    rw [if_neg e] at k ⊢
    have e2 : f_tear s d = su s 0 0 1 := by unfold f_tear; rw [if_neg w]
    rw [e2]
    exact ⟨_, k, LI_bmp (LI_thr h0) hn⟩
theorem B_boat {c m : Int32} (hn : n ≤ 1100) (h : LI g b N xs n s s H) : (∃ H1, Ev g 60 0 [some (.ref g.1), some (.int c), some (.int m)] [] H (if e_boat s c m = 0 then .inl (some (.int (r_boat s c m))) else .inr (if e_boat s c m = 1 then 0 else 2), H1) ∧ LI g b N xs (n + 1) s (f_boat s c m) H1) ∧ MS g b N xs n s (f_boat s c m) 120 [some (.ref (g.1 + 20)), some (.int c), some (.int m)] (some (.int (r_boat s c m))) := by
  have h0 := h
  obtain ⟨A, z, o, P, S, L, T, B, rfl, hx, hV, hF, hR⟩ := h
  obtain ⟨hB, hB2⟩ := hV.2.2.2.1.2.2.2.2.2.2
  have k := cd_boat (g := g) (A := A) (z := z) (s := s) (o := o) (c := c) (n := m) hV.1.1 hB hB2
  rw [hx] at k
  refine ⟨?_, MS_of (fun h => md_boat hB hB2 (by omega))⟩
  by_cases e : e_boat s c m = 0
  · rw [if_pos e] at k ⊢
    have q : ∀ F j, F ≠ 0 → F ≠ 37 → F ≠ 38 → F ≠ 39 → F ≠ 52 → f_boat s c m F j = s F j := fun F j a1 a2 a3 a4 a5 => by
      simp only [f_boat, e, if_true, su_get, a1, a2, a3, a4, a5, false_and, if_false]
    have qo : ∀ F j, F ≠ 60 → F ≠ 62 → abO c m 24 0 (su o 60 0 0) F j = o F j := fun F j a a2 => by rw [abO_o _ _ _ _ _ _ _ (Or.inl a2), su_other _ _ a]
    refine ⟨_, k, A, z, _, P, S, L, T, B + 1, rfl, hx, LV_set hV (fun F j a => q F j (by omega) (by omega) (by omega) (by omega) (by omega)) (fun F j a => qo F j (by omega) (by omega)) ?_ ?_ (stat_boat hV.2.2.2.1 e) (fun j => ⟨?_, ?_⟩) (fun p _ _ d _ => q _ _ (by decide) (by decide) (by decide) (by decide) (by decide)), hF, LR_up hR⟩
    · simp only [f_boat, e, if_true, su_get, and_self]
    · rw [abO_o _ _ _ _ _ _ _ (Or.inl (by decide))]; simp only [su_get, and_self, if_true]
    · rw [q _ _ (by decide) (by decide) (by decide) (by decide) (by decide)]; exact (hV.2.2.2.2.2.2.1 j).1
    · rw [q _ _ (by decide) (by decide) (by decide) (by decide) (by decide)]; exact (hV.2.2.2.2.2.2.1 j).2
  · rw [if_neg e] at k ⊢
    have e2 : f_boat s c m = su s 0 0 (e_boat s c m) := by unfold f_boat; rw [if_neg e]
    rw [e2]
    exact ⟨_, k, LI_bmp (LI_thr h0) hn⟩
theorem B_road {m : Int32} (hn : n ≤ 1100) (h : LI g b N xs n s s H) : (∃ H1, Ev g 61 0 [some (.ref g.1), some (.int m)] [] H (if 0 ≤ m ∧ m ≤ 5 then .inl none else .inr 0, H1) ∧ LI g b N xs (n + 1) s (f_road s m) H1) ∧ MS g b N xs n s (f_road s m) 121 [some (.ref (g.1 + 20)), some (.int m)] none := by
  have h0 := h
  obtain ⟨A, z, o, P, S, L, T, B, rfl, hx, hV, hF, hR⟩ := h
  have k := cd_road (g := g) (A := A) (z := z) (s := s) (o := o) (n := m) hV.1.1
  rw [hx] at k
  refine ⟨?_, MS_of (fun h => md_road (by omega))⟩
  by_cases e : 0 ≤ m ∧ m ≤ 5
  · rw [if_pos e] at k ⊢
    have q : ∀ F j, F ≠ 0 → F ≠ 40 → F ≠ 52 → f_road s m F j = s F j := fun F j a1 a2 a3 => by
      simp only [f_road, e, and_self, if_true, su_get, a1, a2, a3, false_and, if_false]
    have qo : ∀ F j, F ≠ 60 → su o 60 0 0 F j = o F j := fun F j a => su_other _ _ a
    refine ⟨_, k, A, z, _, P, S, L, T, B, rfl, hx, LV_set hV (fun F j a => q F j (by omega) (by omega) (by omega)) (fun F j a => qo F j (by omega)) ?_ ?_ (stat_same hV (fun F j a => q F j (by omega) (by omega) (by omega)) (fun F j a => qo F j (by omega))) (fun j => ⟨?_, ?_⟩) (fun p _ _ d _ => q _ _ (by decide) (by decide) (by decide)), hF, LR_up hR⟩
    · simp only [f_road, e, and_self, if_true, su_get]
    · simp only [su_get, and_self, if_true]
    · rw [q _ _ (by decide) (by decide) (by decide)]; exact (hV.2.2.2.2.2.2.1 j).1
    · rw [q _ _ (by decide) (by decide) (by decide)]; exact (hV.2.2.2.2.2.2.1 j).2
  · rw [if_neg e] at k ⊢
    have e2 : f_road s m = su s 0 0 1 := by unfold f_road; rw [if_neg e]
    rw [e2]
    exact ⟨_, k, LI_bmp (LI_thr h0) hn⟩
theorem B_rest {x y m : Int32} (hn : n ≤ 1100) (h : LI g b N xs n s s H) : (∃ H1, Ev g 62 0 [some (.ref g.1), some (.int x), some (.int y), some (.int m)] [] H (if (0 ≤ x ∧ x ≤ 48) ∧ (0 ≤ y ∧ y ≤ 48) ∧ (0 ≤ m ∧ m ≤ 48) then .inl none else .inr 0, H1) ∧ LI g b N xs (n + 1) s (f_rest s x y m) H1) ∧ MS g b N xs n s (f_rest s x y m) 122 [some (.ref (g.1 + 20)), some (.int x), some (.int y), some (.int m)] none := by
  have h0 := h
  obtain ⟨A, z, o, P, S, L, T, B, rfl, hx, hV, hF, hR⟩ := h
  have k := cd_rest (g := g) (A := A) (z := z) (s := s) (o := o) (a := x) (b := y) (c := m) hV.1.1
  rw [hx] at k
  refine ⟨?_, MS_of (fun h => md_rest (by omega))⟩
  by_cases e : (0 ≤ x ∧ x ≤ 48) ∧ (0 ≤ y ∧ y ≤ 48) ∧ (0 ≤ m ∧ m ≤ 48)
  · rw [if_pos e] at k ⊢
    have q : ∀ F j, F ≠ 0 → F ≠ 41 → F ≠ 42 → F ≠ 43 → F ≠ 52 → f_rest s x y m F j = s F j := fun F j a1 a2 a3 a4 a5 => by
      simp only [f_rest, e, and_self, if_true, su_get, a1, a2, a3, a4, a5, false_and, if_false]
    have qo : ∀ F j, F ≠ 60 → su o 60 0 0 F j = o F j := fun F j a => su_other _ _ a
    refine ⟨_, k, A, z, _, P, S, L, T, B, rfl, hx, LV_set hV (fun F j a => q F j (by omega) (by omega) (by omega) (by omega) (by omega)) (fun F j a => qo F j (by omega)) ?_ ?_ (stat_same hV (fun F j a => q F j (by omega) (by omega) (by omega) (by omega) (by omega)) (fun F j a => qo F j (by omega))) (fun j => ⟨?_, ?_⟩) (fun p _ _ d _ => q _ _ (by decide) (by decide) (by decide) (by decide) (by decide)), hF, LR_up hR⟩
    · simp only [f_rest, e, and_self, if_true, su_get]
    · simp only [su_get, and_self, if_true]
    · rw [q _ _ (by decide) (by decide) (by decide) (by decide) (by decide)]; exact (hV.2.2.2.2.2.2.1 j).1
    · rw [q _ _ (by decide) (by decide) (by decide) (by decide) (by decide)]; exact (hV.2.2.2.2.2.2.1 j).2
  · rw [if_neg e] at k ⊢
    have e2 : f_rest s x y m = su s 0 0 1 := by unfold f_rest; rw [if_neg e]
    rw [e2]
    exact ⟨_, k, LI_bmp (LI_thr h0) hn⟩
theorem B_will {p v : Int32} (hv : v = 0 ∨ v = 1) (hn : n ≤ 1100) (h : LI g b N xs n s s H) : (∃ H1, Ev g 64 0 [some (.ref g.1), some (.int p), some (.int v), none, none] [] H (if e_will s p = 0 then .inl (some (.int (r_will s p v))) else .inr 1, H1) ∧ LI g b N xs (n + 1) s (f_will s p v) H1) ∧ MS g b N xs n s (f_will s p v) 124 [some (.ref (g.1 + 20)), some (.int p), some (.int v), none] (some (.int (r_will s p v))) := by
  have h0 := h
  obtain ⟨A, z, o, P, S, L, T, B, rfl, hx, hV, hF, hR⟩ := h
  have k := cd_will (g := g) (A := A) (z := z) (s := s) (o := o) (p := p) (v := v) (a3 := none) (a4 := none) hV.1 hV.2.1.1 hv
  rw [hx] at k
  refine ⟨?_, MS_of (fun h => md_will hV.2.1.1 hV.1.1.2.2.2.2.2.1.1 hv (by omega))⟩
  by_cases e : e_will s p = 0
  · rw [if_pos e] at k ⊢
    have q : ∀ F j, F ≠ 0 → F ≠ 6 → F ≠ 52 → f_will s p v F j = s F j := fun F j a1 a2 a3 => by
      simp only [f_will, e, if_true, su_get, a1, a2, a3, false_and, if_false]
    have qo : ∀ F j, F ≠ 60 → su o 60 0 0 F j = o F j := fun F j a => su_other _ _ a
    refine ⟨_, k, A, z, _, P, S, L, T, B, rfl, hx, LV_set hV (fun F j a => q F j (by omega) (by omega) (by omega)) (fun F j a => qo F j (by omega)) ?_ ?_ (stat_same hV (fun F j a => q F j (by omega) (by omega) (by omega)) (fun F j a => qo F j (by omega))) (fun j => ⟨?_, ?_⟩) (fun p _ _ d _ => q _ _ (by decide) (by decide) (by decide)), hF, LR_up hR⟩
    · simp only [f_will, e, and_self, if_true, su_get]
    · simp only [su_get, and_self, if_true]
    · rw [q _ _ (by decide) (by decide) (by decide)]; exact (hV.2.2.2.2.2.2.1 j).1
    · rw [q _ _ (by decide) (by decide) (by decide)]; exact (hV.2.2.2.2.2.2.1 j).2
  · rw [if_neg e] at k ⊢
    have e2 : f_will s p v = su s 0 0 1 := by unfold f_will; rw [if_neg e]
    rw [e2]
    exact ⟨_, k, LI_bmp (LI_thr h0) hn⟩
theorem B_off {p d v : Int32} (hv : v = 0 ∨ v = 1) (hn : n ≤ 1100) (h : LI g b N xs n s s H) : (∃ H1, Ev g 63 0 [some (.ref g.1), some (.int p), some (.int d), some (.int v), none] [] H (if e_off s p d = 0 then .inl (some (.int (r_off s p d v))) else .inr 1, H1) ∧ LI g b N xs (n + 1) s (f_off s p d v) H1) ∧ MS g b N xs n s (f_off s p d v) 123 [some (.ref (g.1 + 20)), some (.int p), some (.int d), some (.int v), none] (some (.int (r_off s p d v))) := by
  have h0 := h
  obtain ⟨A, z, o, P, S, L, T, B, rfl, hx, hV, hF, hR⟩ := h
  have hP := hV.2.1.1
  have hP6 := hV.1.1.2.2.2.2.2.1.1
  have k := cd_off (g := g) (A := A) (z := z) (s := s) (o := o) (p := p) (d := d) (v := v) (a4 := none) hV.1 hP hv
  rw [hx] at k
  refine ⟨?_, MS_of (fun h => md_off hP hP6 hv (by omega))⟩
  by_cases e : e_off s p d = 0
  · rw [if_pos e] at k ⊢
    have w : (0 ≤ p ∧ p < s 2 0) ∧ (0 ≤ d ∧ d < 400) := by
      apply Decidable.byContradiction; intro w
      unfold e_off at e
      rw [if_neg w] at e
      exact absurd e (by decide)
    rw [hP] at w
    obtain ⟨p, hp, rfl⟩ := of_in (n := P) (nI_toInt (by omega)) w.1
    obtain ⟨D, hD, rfl⟩ := of_in (n := 400) (by decide) w.2
    have cp1 : (nI p).toNatClampNeg = p := nI_clamp (by omega)
    have cD : (nI D).toNatClampNeg = D := nI_clamp (by omega)
    rw [cp1, cD] at k
    have q : ∀ F j, F ≠ 0 → F ≠ 7 → F ≠ 52 → f_off s (nI p) (nI D) v F j = s F j := fun F j a1 a2 a3 => by
      simp only [f_off, e, if_true, su_get, a1, a2, a3, false_and, if_false]
    have q7 : ∀ j, f_off s (nI p) (nI D) v 7 j = if j = 400 * p + D then v else s 7 j := fun j => by
      simp only [f_off, e, if_true, su_get, cp1, cD, Nat.reduceEqDiff, false_and, if_false, true_and]
    have qo : ∀ F j, F ≠ 60 → F ≠ 61 → soO s (su o 60 0 0) p D v F j = o F j := fun F j a a2 => by
      unfold soO
      split
      · exact su_other _ _ a
      · rw [su_other _ _ a2, su_other _ _ a]
    refine ⟨_, k, A, z, _, P, S, L, T, B, rfl, hx, LV_set hV (fun F j a => q F j (by omega) (by omega) (by omega)) (fun F j a => qo F j (by omega) (by omega)) ?_ ?_ (stat_off hV.2.2.2.1 hP hP6 hp hD hv (fun j => (hV.2.2.2.2.2.2.1 j).2) e) (fun j => ⟨?_, ?_⟩) (fun p2 a1 a2 d2 a3 => ?_), hF, LR_up hR⟩
    · simp only [f_off, e, and_self, if_true, su_get]
    · unfold soO
      split
      · simp only [su_get, and_self, if_true]
      · simp only [su_get, Nat.reduceEqDiff, false_and, if_false, and_self, if_true]
    · rw [q _ _ (by decide) (by decide) (by decide)]; exact (hV.2.2.2.2.2.2.1 j).1
    · rw [q7]
      split
      · exact hv
      · exact (hV.2.2.2.2.2.2.1 j).2
    · rw [q7, if_neg (by omega)]
  · rw [if_neg e] at k ⊢
    have e2 : f_off s p d v = su s 0 0 1 := by unfold f_off; rw [if_neg e]
    rw [e2]
    exact ⟨_, k, LI_bmp (LI_thr h0) hn⟩
end LX
