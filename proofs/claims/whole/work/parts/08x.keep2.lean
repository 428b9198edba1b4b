/-! ===== what pilot, ship, boat and off keep ===== -/
section SP
variable {s o s' o' : mS} {P S L T B : Nat}
theorem ofS_0 {p : Nat} : ∀ (f d : Nat) (n : Int32), (∀ j, d ≤ j → j < d + f → s 7 (400 * p + j) = 0) → ofS s p f d n = n := by
  intro f
  induction f with
  | zero => intros; rfl
  | succ f ih =>
    intro d n h
    rw [ofS, h d (Nat.le_refl _) (by omega), if_pos rfl, Int32.add_zero, ih _ _ (fun j a b => h j (by omega) (by omega))]
theorem stat_boat {c n : Int32} (hs : stat s o P S B) (he : e_boat s c n = 0) : stat (f_boat s c n) (abO c n 24 0 (su o 60 0 0)) P S (B + 1) := by
  have hs' := hs
  obtain ⟨⟨a1, a2, a3⟩, a4, ⟨a5, a6⟩, a7, a8, a9, a10, a11⟩ := hs
  have hn : 1 ≤ n ∧ n ≤ 20 := by
    apply Decidable.byContradiction; intro e
    simp only [e_boat, e, and_false, not_false_eq_true, if_true] at he
    exact absurd he (by decide)
  have h12 : ¬ s 37 0 = 12 := by
    intro e
    unfold e_boat at he
    split at he
    · exact absurd he (by decide)
    · first | exact absurd he (by decide) | (rw [if_pos e] at he; exact absurd he (by decide))
  have hB : B < 12 := by
    have := nI_ne (a := B) (b := 12) (by rw [nI_12, ← a10]; exact h12)
    omega
  have cB : (nI B).toNatClampNeg = B := nI_clamp (by omega)
  have fo : ∀ F j, F ≠ 0 → F ≠ 37 → F ≠ 38 → F ≠ 39 → F ≠ 52 → f_boat s c n F j = s F j := fun F j b0 b1 b2 b3 b4 => by
    simp only [f_boat, he, if_true, su_get, b0, b1, b2, b3, b4, false_and, if_false]
  have f38 : ∀ j, f_boat s c n 38 j = if j = B then c else s 38 j := fun j => by simp only [f_boat, he, if_true, su_get, Nat.reduceEqDiff, false_and, if_false, true_and, a10, cB]
  have f39 : ∀ j, f_boat s c n 39 j = if j = B then n else s 39 j := fun j => by simp only [f_boat, he, if_true, su_get, Nat.reduceEqDiff, false_and, if_false, true_and, a10, cB]
  have f37 : f_boat s c n 37 0 = nI (B + 1) := by simp only [f_boat, he, if_true, su_get, Nat.reduceEqDiff, false_and, if_false, and_self, a10, nI_1]
  have oo : ∀ F j, F ≠ 60 → F ≠ 62 → abO c n 24 0 (su o 60 0 0) F j = o F j := fun F j h h2 => by
    rw [abO_o _ _ _ _ _ _ _ (Or.inl h2), su_get, if_neg (by omega)]
  have e21 : ln (f_boat s c n) = ln s := funext fun y => by simp only [ln, fo 21 y (by decide) (by decide) (by decide) (by decide) (by decide)]
  refine ⟨⟨fun p hp => ?_, fun x hx => ?_, tOK_cg (fun F j h => fo F j (by omega) (by omega) (by omega) (by omega) (by omega)) a3⟩, fun y hy => ?_, ⟨fun j hj => ?_, fun i j hi hj => ?_⟩, fun t ht => ?_, fun p hp => ?_, fun k hk => ?_, f37, by omega⟩
  · rw [fo 3 p (by decide) (by decide) (by decide) (by decide) (by decide)]; exact a1 p hp
  · rw [fo 24 x (by decide) (by decide) (by decide) (by decide) (by decide)]; exact a2 x hx
  · rw [fo 21 y (by decide) (by decide) (by decide) (by decide) (by decide)]; exact a4 y hy
  · rw [oo 93 j (by decide) (by decide)]; exact a5 j hj
  · rw [oo 93 j (by decide) (by decide), oo 93 i (by decide) (by decide), e21]; exact a6 i j hi hj
  · rw [abO_62 c n 24 0 _ t (by omega) (by omega), su_get, if_neg (by omega), a7 t ht, soS_snoc, soS_in (s := s) (s' := f_boat s c n) _ _ _ (fun j _ hj => ⟨by rw [f38, if_neg (by omega)], by rw [f39, if_neg (by omega)]⟩), Nat.zero_add, f38, f39, if_pos rfl, if_pos rfl, nI_d24 (by omega), nI_r24 (by omega), Nat.mod_eq_of_lt ht]
  · rw [oo 61 p (by decide) (by decide), a8 p hp]
    exact (ofS_o (fun j => fo 7 j (by decide) (by decide) (by decide) (by decide) (by decide)) p _ _ _).symm
  · rw [f39]
    by_cases e : k = B
    · rw [if_pos e]
      obtain ⟨q, hq, rfl⟩ := of_in (n := 21) (v := n) (hi := 21) (by decide) ⟨by
        have := hn.1
        rw [Int32.le_iff_toInt_le] at this ⊢
        have h1 : (1 : Int32).toInt = 1 := rfl
        have h0 : (0 : Int32).toInt = 0 := rfl
        omega, by
        have := hn.2
        rw [Int32.le_iff_toInt_le] at this
        rw [Int32.lt_iff_toInt_lt]
        have h1 : (20 : Int32).toInt = 20 := rfl
        have h0 : (21 : Int32).toInt = 21 := rfl
        omega⟩
      exact ⟨q, by omega, rfl⟩
    · rw [if_neg e]; exact a9 k (by omega)
theorem stat_off {p D : Nat} {v : Int32} (hs : stat s o P S B) (hP : s 2 0 = nI P) (hP6 : P ≤ 60) (hp : p < P) (hD : D < 400) (hv : v = 0 ∨ v = 1) (h7 : ∀ j, s 7 j = 0 ∨ s 7 j = 1) (he : e_off s (nI p) (nI D) = 0) : stat (f_off s (nI p) (nI D) v) (soO s (su o 60 0 0) p D v) P S B := by
  obtain ⟨⟨a1, a2, a3⟩, a4, ⟨a5, a6⟩, a7, a8, a9, a10, a11⟩ := hs
  have cp : (nI p).toNatClampNeg = p := nI_clamp (by omega)
  have cD : (nI D).toNatClampNeg = D := nI_clamp (by omega)
  have fo : ∀ F j, F ≠ 0 → F ≠ 7 → F ≠ 52 → f_off s (nI p) (nI D) v F j = s F j := fun F j b0 b1 b2 => by
    simp only [f_off, he, if_true, su_get, b0, b1, b2, false_and, if_false]
  have f7 : ∀ j, f_off s (nI p) (nI D) v 7 j = if j = 400 * p + D then v else s 7 j := fun j => by simp only [f_off, he, if_true, su_get, Nat.reduceEqDiff, false_and, if_false, true_and, cp, cD]
  have oo : ∀ F j, F ≠ 60 → F ≠ 61 → soO s (su o 60 0 0) p D v F j = o F j := fun F j h h2 => by
    unfold soO
    split
    · rw [su_get, if_neg (by omega)]
    · rw [su_get, if_neg (by omega), su_get, if_neg (by omega)]
  have e21 : ln (f_off s (nI p) (nI D) v) = ln s := funext fun y => by simp only [ln, fo 21 y (by decide) (by decide) (by decide)]
  refine ⟨⟨fun p hp => ?_, fun x hx => ?_, tOK_cg (fun F j h => fo F j (by omega) (by omega) (by omega)) a3⟩, fun y hy => ?_, ⟨fun j hj => ?_, fun i j hi hj => ?_⟩, fun t ht => ?_, fun q hq => ?_, fun k hk => ?_, ?_, a11⟩
  · rw [fo 3 p (by decide) (by decide) (by decide)]; exact a1 p hp
  · rw [fo 24 x (by decide) (by decide) (by decide)]; exact a2 x hx
  · rw [fo 21 y (by decide) (by decide) (by decide)]; exact a4 y hy
  · rw [oo 93 j (by decide) (by decide)]; exact a5 j hj
  · rw [oo 93 j (by decide) (by decide), oo 93 i (by decide) (by decide), e21]; exact a6 i j hi hj
  · rw [oo 62 t (by decide) (by decide), a7 t ht]
    exact (soS_o (fun j => fo 38 j (by decide) (by decide) (by decide)) (fun j => fo 39 j (by decide) (by decide) (by decide)) _ _ _).symm
  · by_cases eq : q = p
    · subst eq
      by_cases e : s 7 (400 * q + D) = v
      · unfold soO
        rw [if_pos e, su_get, if_neg (by omega), a8 q hq]
        refine (ofS_o (fun j => ?_) q _ _ _).symm
        rw [f7]
        by_cases ej : j = 400 * q + D
        · rw [if_pos ej, ej, e]
        · rw [if_neg ej]
      · unfold soO
        rw [if_neg e, su_get, if_pos ⟨rfl, rfl⟩, su_get, if_neg (by omega), a8 q hq]
        refine (ofS_up (D := D) ?_ (fun j hj => by rw [f7, if_neg (by omega)]) 400 0 0 (by omega) (by omega)).symm
        rw [f7, if_pos rfl]
        rcases hv with rfl | rfl
        · rw [if_pos rfl, if_neg e, if_pos rfl]; decide
        · have e0 : s 7 (400 * q + D) = 0 := (h7 _).resolve_right e
          rw [e0, if_neg (by decide), if_pos rfl, if_neg (by decide)]; decide
    · have : soO s (su o 60 0 0) p D v 61 q = o 61 q := by
        unfold soO
        split
        · rw [su_get, if_neg (by omega)]
        · rw [su_get, if_neg (by omega), su_get, if_neg (by omega)]
      rw [this, a8 q hq]
      exact (ofS_in _ _ _ (fun j _ hj => by rw [f7, if_neg (by omega)])).symm
  · rw [fo 39 k (by decide) (by decide) (by decide)]; exact a9 k hk
  · rw [fo 37 0 (by decide) (by decide) (by decide)]; exact a10
end SP
