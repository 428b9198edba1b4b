/-! ===== what the setters keep ===== -/
section SK
variable {s o s' o' : mS} {P S L T B : Nat}
theorem ofS_o (h : ∀ j, s' 7 j = s 7 j) (p : Nat) : ∀ (f d : Nat) (n : Int32), ofS s' p f d n = ofS s p f d n := by
  intro f
  induction f with
  | zero => intros; rfl
  | succ f ih => intro d n; rw [ofS, ofS, ih, h]
theorem stat_cg (h : ∀ F j, F = 3 ∨ F = 7 ∨ F = 21 ∨ F = 24 ∨ F = 37 ∨ F = 38 ∨ F = 39 → s' F j = s F j) (ho : ∀ F j, F = 61 ∨ F = 62 ∨ F = 93 → o' F j = o F j) (ht : tOK s') (hs : stat s o P S B) : stat s' o' P S B := by
  obtain ⟨⟨a1, a2, -⟩, a4, ⟨a5, a6⟩, a7, a8, a9, a10, a11⟩ := hs
  have e21 : ln s' = ln s := funext fun y => by simp only [ln, h 21 y (by omega)]
  refine ⟨⟨fun p hp => ?_, fun x hx => ?_, ht⟩, fun y hy => ?_, ⟨fun j hj => ?_, fun i j hi hj => ?_⟩, fun c hc => ?_, fun p hp => ?_, fun k hk => ?_, ?_, a11⟩
  · rw [h 3 p (by omega)]; exact a1 p hp
  · rw [h 24 x (by omega)]; exact a2 x hx
  · rw [h 21 y (by omega)]; exact a4 y hy
  · rw [ho 93 j (by omega)]; exact a5 j hj
  · rw [ho 93 j (by omega), ho 93 i (by omega), e21]; exact a6 i j hi hj
  · rw [ho 62 c (by omega), a7 c hc]; exact (soS_o (fun j => h 38 j (by omega)) (fun j => h 39 j (by omega)) _ _ _).symm
  · rw [ho 61 p (by omega), a8 p hp]; exact (ofS_o (fun j => h 7 j (by omega)) p _ _ _).symm
  · rw [h 39 k (by omega)]; exact a9 k hk
  · rw [h 37 0 (by omega)]; exact a10
theorem tOK_cg (h : ∀ F j, F = 35 ∨ F = 36 → s' F j = s F j) (ht : tOK s) : tOK s' := by
  intro d hd
  rw [h 35 d (by omega), h 36 d (by omega)]
  exact ht d hd
theorem tOK_tear {d : Int32} (ht : tOK s) : tOK (f_tear s d) := by
  unfold f_tear
  by_cases a : 0 ≤ d ∧ d < 400
  · rw [if_pos a]
    intro D hD
    simp only [su_get, Nat.reduceEqDiff, false_and, if_false, true_and]
    by_cases e : D = d.toNatClampNeg
    · rw [if_pos e, if_pos e]
      exact ⟨⟨0, by omega, rfl⟩, ⟨fun _ => rfl, fun _ => rfl⟩⟩
    · rw [if_neg e, if_neg e]
      exact ht D hD
  · rw [if_neg a]
    exact tOK_cg (fun F j h => by simp only [su_get]; rw [if_neg (by omega)]) ht
theorem tOK_tide {d t : Int32} (ht : tOK s) : tOK (f_tide s d t) := by
  unfold f_tide
  by_cases a : e_tide s d t = 0
  · rw [if_pos a]
    have h1 : 0 ≤ d ∧ d < 400 := by
      apply Decidable.byContradiction; intro e
      simp only [e_tide, e, not_false_eq_true, if_true] at a
      exact absurd a (by decide)
    have h2 : ¬ s 35 d.toNatClampNeg = 24 := by
      intro e
      simp only [e_tide, h1, and_self, not_true_eq_false, if_false, e, if_true] at a
      split at a <;> exact absurd a (by decide)
    obtain ⟨D0, hD0, rfl⟩ := of_in (n := 400) (by decide) h1
    have cD : (nI D0).toNatClampNeg = D0 := nI_clamp (by omega)
    rw [cD] at h2 ⊢
    obtain ⟨⟨R, hR, eR⟩, -⟩ := ht D0 hD0
    rw [eR] at h2 ⊢
    have hR2 := nI_ne (a := R) (b := 24) (by rw [nI_24]; exact h2)
    intro D hD
    simp only [su_get, Nat.reduceEqDiff, false_and, if_false, true_and]
    by_cases e : D = D0
    · rw [if_pos e, if_pos e, nI_1]
      refine ⟨⟨R + 1, by omega, rfl⟩, ⟨fun q => absurd q (by decide), fun q => ?_⟩⟩
      rw [← nI_0] at q
      exact absurd q (by
        intro q
        have h := congrArg Int32.toNatClampNeg q
        rw [nI_clamp (by omega), nI_clamp (by omega)] at h
        omega)
    · rw [if_neg e, if_neg e]
      exact ht D hD
  · rw [if_neg a]
    exact tOK_cg (fun F j h => by simp only [su_get]; rw [if_neg (by omega)]) ht
theorem soS_in {t : Int32} : ∀ (f k : Nat) (n : Int32), (∀ j, k ≤ j → j < k + f → s' 38 j = s 38 j ∧ s' 39 j = s 39 j) → soS s' t f k n = soS s t f k n := by
  intro f
  induction f with
  | zero => intros; rfl
  | succ f ih =>
    intro k n h
    have h0 := h k (Nat.le_refl _) (by omega)
    rw [soS, soS, h0.1, h0.2, ih _ _ (fun j a b => h j (by omega) (by omega))]
theorem soS_snoc {t : Int32} : ∀ (f k : Nat) (n : Int32), soS s t (f + 1) k n = soS s t f k n + (if (s 38 (k + f) >>> ((t - t / 24 * 24) &&& 31)) &&& 1 = 1 then s 39 (k + f) else 0) := by
  intro f
  induction f with
  | zero => intro k n; rw [soS, soS, soS, Nat.add_zero]
  | succ f ih => intro k n; rw [soS, ih, soS, show k + 1 + f = k + (f + 1) by omega]
theorem ofS_acc {p : Nat} : ∀ (f d : Nat) (n c : Int32), ofS s p f d (n + c) = ofS s p f d n + c := by
  intro f
  induction f with
  | zero => intros; rfl
  | succ f ih =>
    intro d n c
    rw [ofS, ofS, ← ih, Int32.add_assoc, Int32.add_comm c, ← Int32.add_assoc]
theorem ofS_in {p : Nat} : ∀ (f d : Nat) (n : Int32), (∀ j, d ≤ j → j < d + f → s' 7 (400 * p + j) = s 7 (400 * p + j)) → ofS s' p f d n = ofS s p f d n := by
  intro f
  induction f with
  | zero => intros; rfl
  | succ f ih =>
    intro d n h
    rw [ofS, ofS, h d (Nat.le_refl _) (by omega), ih _ _ (fun j a b => h j (by omega) (by omega))]
/-- one day turned -/
theorem ofS_up {p D : Nat} {c : Int32} (hd : (if s' 7 (400 * p + D) = 0 then (0 : Int32) else 1) = (if s 7 (400 * p + D) = 0 then 0 else 1) + c) (h : ∀ j, j ≠ D → s' 7 (400 * p + j) = s 7 (400 * p + j)) : ∀ (f d : Nat) (n : Int32), d ≤ D → D < d + f → ofS s' p f d n = ofS s p f d n + c := by
  intro f
  induction f with
  | zero => intro d n a b; omega
  | succ f ih =>
    intro d n a b
    rw [ofS, ofS]
    by_cases e : d = D
    · subst e
      rw [hd, ofS_in (s := s) (s' := s') _ _ _ (fun j x _ => h j (by omega)), ← Int32.add_assoc, ofS_acc]
    · rw [h d e, ih _ _ (by omega) (by omega)]
end SK
