/-! ===== the class's hour: what sending leaves of where pilots are ===== -/
def R8 (s s2 : mS) : Prop := ∀ j, (s2 8 j = s 8 j ∧ s2 9 j = s 9 j) ∨ s2 8 j = 2
theorem R8_trans {s s2 s3 : mS} (h1 : R8 s s2) (h2 : R8 s2 s3) : R8 s s3 := by
  intro j
  rcases h2 j with b | b
  · rcases h1 j with a | a
    · exact Or.inl ⟨b.1.trans a.1, b.2.trans a.2⟩
    · exact Or.inr (b.1.trans a)
  · exact Or.inr b
theorem R8_o {s s2 : mS} (h : ∀ j, s2 8 j = s 8 j ∧ s2 9 j = s 9 j) : R8 s s2 := fun j => Or.inl (h j)
theorem R8_bd (s : mS) (v : Int32) (x : Nat) (t : Int32) : R8 s (bd s v x t) := by
  intro j
  unfold bd f_boards
  generalize v.toNatClampNeg = p
  by_cases e : j = p
  · subst e
    refine Or.inr ?_
    rw [su_other _ _ (by decide)]
    simp [su]
  · refine Or.inl ⟨?_, ?_⟩
    · rw [su_other _ _ (by decide), su_get, if_neg (fun q => e q.2), su_other _ _ (by decide), tkS_o _ (by decide), b0S_o _ _ _ _ (by decide) (by decide)]
    · rw [su_other _ _ (by decide), su_other _ _ (by decide), su_other _ _ (by decide), tkS_o _ (by decide)]
      unfold b0S
      split
      · rw [su_get, if_neg (fun q => e q.2), su_other _ _ (by decide)]
      · rfl
theorem sends_8 {s : mS} {P L A x H : Nat} (hP : P ≤ 60) (hl : lOK s P L) (hA : s 47 0 = nI A) (hw : ¬ s 24 x < 0 → ∃ q, q < P ∧ s 24 x = nI q) : R8 s (f_sends s x H).2 := by
  unfold f_sends
  split
  · exact R8_o (fun j => ⟨by simp [su], by simp [su]⟩)
  · have e48 : ∀ k j, k ≠ 48 → (su s 48 0 0) k j = s k j := fun k j q => su_other _ _ q
    have l1 : lOK (su s 48 0 0) P L := lOK_o hl (fun j => e48 _ _ (by decide)) (e48 _ _ (by decide))
    have hw1 : ¬ (su s 48 0 0) 24 x < 0 → ∃ q, q < P ∧ (su s 48 0 0) 24 x = nI q := by rw [e48 _ _ (by decide)]; exact hw
    have hA1 : (su s 48 0 0) 47 0 = nI A := by rw [e48 _ _ (by decide)]; exact hA
    obtain ⟨q1, q2, ⟨A', c1, c2, c3⟩, q4, q5⟩ := seek_ok (x := x) (H := H) (lead := -1) hP l1 hA1 hw1 (Or.inr rfl)
    rw [nL_eq hl hP]
    generalize f_seek (su s 48 0 0) x H (-1) L = r at q1 q2 c1 q4 q5 ⊢
    obtain ⟨first, s2⟩ := r
    simp only at q1 q2 c1 q4 q5 ⊢
    have main : ∀ (other : Int32) (s3 : mS), R8 s s3 → R8 s (snC x H first (other, s3)).2 := by
      intro other s3 o3
      have sE : ∀ (s : mS), R8 s (snE x H s) := fun s => by
        unfold snE
        generalize (if s 25 x = 0 then -1 else alS s x H (nL s) 0) = w
        unfold snF
        have h1 : R8 s (su s 30 x w) := R8_o (fun j => ⟨by simp [su], by simp [su]⟩)
        by_cases c : su s 30 x w 30 x = -1
        · rw [if_pos c]; exact h1
        · rw [if_neg c]; exact R8_trans h1 (R8_bd _ _ _ _)
      have sD : ∀ (s : mS), R8 s (snD x H other s) := fun s => by
        unfold snD
        split
        · exact R8_o (fun j => ⟨rfl, rfl⟩)
        · exact R8_bd _ _ _ _
      unfold snC
      simp only
      split
      · simp only
        split
        · exact R8_trans o3 (R8_o (fun j => ⟨by simp [su], by simp [su]⟩))
        · exact R8_trans o3 (R8_o (fun j => ⟨by simp [su], by simp [su]⟩))
      · simp only
        refine R8_trans (R8_trans (R8_trans (R8_trans o3 (R8_o (s2 := su (su (su (su s3 26 x 1) 27 x (nI H)) 28 x first) 29 x other) (fun j => ⟨by simp [su], by simp [su]⟩))) (R8_bd _ first x (nI H))) (sD _)) (sE _)
    unfold snB
    simp only
    have o2 : R8 s s2 := R8_o (fun j => ⟨by rw [q2 _ _ (by omega) (by omega), e48 _ _ (by omega)], by rw [q2 _ _ (by omega) (by omega), e48 _ _ (by omega)]⟩)
    split
    · next hc =>
      have hneg : s2 24 x < 0 := by rw [hc.2]; decide
      obtain ⟨r1, r2, _, r4, r5⟩ := seek_ok (x := x) (H := H) (lead := first) hP q1 c1 (fun q => absurd hneg q) (Or.inl hneg)
      rw [nL_eq q1 hP]
      generalize f_seek s2 x H first L = r2' at r1 r2 r4 r5 ⊢
      obtain ⟨other, s3⟩ := r2'
      simp only at r1 r2
      exact main _ _ (R8_trans o2 (R8_o (fun j => ⟨r2 _ _ (by omega) (by omega), r2 _ _ (by omega) (by omega)⟩)))
    · exact main _ _ o2
theorem sdS_8 {P S M H : Nat} (hP : P ≤ 60) (hS : S ≤ 400) : ∀ (f k A : Nat) (n : Int32) (s : mS), k + f = M → (∃ L, lOK s P L) → wOK s P S → (∀ j, j < M → ∃ y, y < S ∧ s 50 j = nI y) → s 47 0 = nI A → R8 s (sdS H f k n s).2 := by
  intro f
  induction f with
  | zero => intro k A n s _ _ _ _ _; exact R8_o (fun j => ⟨rfl, rfl⟩)
  | succ f ih =>
    intro k A n s hk hl hw ho hA
    obtain ⟨y, hy, ey⟩ := ho k (by omega)
    have hcy : (nI y).toNatClampNeg = y := nI_clamp (by omega)
    obtain ⟨L, hl⟩ := hl
    obtain ⟨c1, ⟨A', c2, c3, c4⟩, c5⟩ := sends_ok (x := y) (H := H) hP hl hA (hw y hy)
    rw [sdS, ey, hcy]
    exact R8_trans (sends_8 (x := y) (H := H) hP hl hA (hw y hy)) (ih (k + 1) A' (n + if (f_sends s y H).1 = 0 then 0 else 1) (f_sends s y H).2 (by omega) c1 (fun x hx => by rw [c5 _ _ (by omega)]; exact hw x hx) (fun j hj => by rw [c5 _ _ (by omega)]; exact ho j hj) c2)
/-- what the sending of an hour keeps -/
theorem hrQ_keeps {s : mS} {P S L H : Nat} (hP : P ≤ 60) (hS : S ≤ 400) (hl : lOK s P L) (hw : wOK s P S) (hA : s 47 0 = nI 0) : (∀ k j, (k < 8 ∨ (9 < k ∧ k < 13) ∨ (13 < k ∧ k < 17) ∨ (18 < k ∧ k < 26) ∨ (33 < k ∧ k < 44) ∨ 51 < k) → (hrQ S H s).2 k j = s k j) ∧ R8 s (hrQ S H s).2 ∧ (∀ j, ((hrQ S H s).2 26 j = s 26 j ∧ (hrQ S H s).2 27 j = s 27 j) ∨ (hrQ S H s).2 27 j = nI H) := by
  unfold hrQ
  obtain ⟨u1, u2, u3⟩ := quS_ok (nI H) S S 0 0 s (by omega) (by omega) (fun j hj => by omega)
  generalize quS (nI H) S 0 0 s = qq at u1 u2 u3 ⊢
  obtain ⟨M, sQ⟩ := qq
  simp only at u1 u2 u3 ⊢
  have lQ : ∃ L, lOK sQ P L := ⟨L, lOK_o hl (fun j => u3 _ _ (by decide)) (u3 _ _ (by decide))⟩
  have wQ : wOK sQ P S := fun x hx => by rw [u3 _ _ (by decide)]; exact hw x hx
  have AQ : sQ 47 0 = nI 0 := by rw [u3 _ _ (by decide)]; exact hA
  obtain ⟨_, _, oR⟩ := sdS_ok (H := H) hP M 0 0 0 sQ (by omega) lQ wQ u2 AQ hS
  have r8 := sdS_8 (H := H) hP hS M 0 0 0 sQ (by omega) lQ wQ u2 AQ
  have r27 := sdS_27 (H := H) hP hS M 0 0 0 sQ (by omega) lQ wQ u2 AQ
  refine ⟨fun k j h => ?_, R8_trans (R8_o (fun j => ⟨u3 _ _ (by decide), u3 _ _ (by decide)⟩)) r8, fun j => ?_⟩
  · rw [oR k j (by omega), u3 _ _ (by omega)]
  · have := r27 j
    rw [u3 26 _ (by decide), u3 27 _ (by decide)] at this
    exact this
theorem own_lt {F j : Nat} (h : ownS F j ≠ (99, 0)) : F < 50 ∧ F ≠ 0 ∧ F ≠ 9 ∧ F ≠ 14 ∧ F ≠ 16 := by
  unfold ownS at h
  split at h <;> simp_all
