/-! ===== turns and fresh rows through the hour ===== -/
section TE
variable {s : mS} {P S L B H x W E : Nat} {v c : Int32}
theorem th_far {k j : Nat} (hP : P ≤ 60) (hv : pmP P v) (hj : P ≤ j) : th s v x c W E k j = s k j := by
  unfold th
  rcases hv with e | ⟨p, hp, e⟩
  · rw [if_pos e]
  · subst e
    rw [if_neg (nI_nm (by omega)), nI_clamp (by omega)]
    have n : ¬ j = p := by omega
    have e3 : ∀ s : mS, t3S s p x c k j = s k j := fun s => by unfold t3S; split <;> simp only [su_get, n, and_false, if_false]
    have e5 : ∀ s : mS, t5S s p x (nI (W + E)) k j = s k j := fun s => by unfold t5S; split <;> simp only [su_get, n, and_false, if_false]
    unfold f_through
    rw [e5, t4S]
    simp only [su_get, n, and_false, if_false]
    rw [e3]
    simp only [t2S, t1S, su_get, n, and_false, if_false]
theorem f_ends_far {k j : Nat} (hP : P ≤ 60) (h1 : pmP P (s 28 x)) (h2 : pmP P (s 29 x)) (h3 : pmP P (s 30 x)) (hj : P ≤ j) (hk : k ≠ 26) : f_ends s x W E k j = s k j := by
  unfold f_ends
  rw [th_far hP h3 hj, th_far hP h2 hj, th_far hP h1 hj, su_other _ _ hk]
theorem enS_far {k j : Nat} (hP : P ≤ 60) (hj : P ≤ j) (hk : k ≠ 26) : ∀ (f x : Nat) (s : mS), (∀ y, x ≤ y → y < x + f → pmP P (s 28 y) ∧ pmP P (s 29 y) ∧ pmP P (s 30 y)) → enS H f x s k j = s k j := by
  intro f
  induction f with
  | zero => intros; rfl
  | succ f ih =>
    intro x s h
    obtain ⟨a, b, d⟩ := h x (Nat.le_refl _) (by omega)
    rw [enS]
    split
    · rw [ih _ _ (fun y h1 h2 => by
        rw [f_ends_o _ _ _ _ (by omega) (by omega), f_ends_o _ _ _ _ (by omega) (by omega), f_ends_o _ _ _ _ (by omega) (by omega)]
        exact h y (by omega) (by omega))]
      exact f_ends_far hP a b d hj hk
    · exact ih _ _ (fun y h1 h2 => h y (by omega) (by omega))
theorem th_11 (j : Nat) : ∃ d, d ≤ 1 ∧ th s v x c W E 11 j = s 11 j + nI d := by
  unfold th
  split
  · exact ⟨0, by omega, by rw [nI_0, Int32.add_zero]⟩
  · generalize v.toNatClampNeg = p
    have e5 : ∀ s : mS, t5S s p x (nI (W + E)) 11 j = s 11 j := fun s => by unfold t5S; split <;> simp only [su_get, Nat.reduceEqDiff, false_and, if_false]
    unfold f_through
    rw [e5, t4S]
    simp only [su_get, Nat.reduceEqDiff, false_and, if_false]
    unfold t3S
    split
    · refine ⟨0, by omega, ?_⟩
      simp only [t2S, t1S, su_get, Nat.reduceEqDiff, false_and, if_false, nI_0, Int32.add_zero]
    · by_cases e : j = p
      · refine ⟨1, by omega, ?_⟩
        subst e
        simp only [t2S, t1S, su_get, Nat.reduceEqDiff, false_and, if_false, and_self, if_true, nI_1]
        rfl
      · refine ⟨0, by omega, ?_⟩
        simp only [t2S, t1S, su_get, Nat.reduceEqDiff, false_and, if_false, e, and_false, nI_0, Int32.add_zero]
theorem f_ends_11 (j : Nat) : ∃ d, d ≤ 3 ∧ f_ends s x W E 11 j = s 11 j + nI d := by
  unfold f_ends
  obtain ⟨d1, h1, e1⟩ := th_11 (s := su s 26 x 2) (v := s 28 x) (x := x) (c := 1) (W := W) (E := E) j
  obtain ⟨d2, h2, e2⟩ := th_11 (s := th (su s 26 x 2) (s 28 x) x 1 W E) (v := s 29 x) (x := x) (c := 1) (W := W) (E := E) j
  obtain ⟨d3, h3, e3⟩ := th_11 (s := th (th (su s 26 x 2) (s 28 x) x 1 W E) (s 29 x) x 1 W E) (v := s 30 x) (x := x) (c := 0) (W := W) (E := E) j
  refine ⟨d1 + d2 + d3, by omega, ?_⟩
  rw [e3, e2, e1, su_other _ _ (by decide), Int32.add_assoc, Int32.add_assoc, nI_add, nI_add]
  congr 2
  omega
theorem enS_11 (j : Nat) : ∀ (f x : Nat) (s : mS), ∃ d, d ≤ 3 * f ∧ enS H f x s 11 j = s 11 j + nI d := by
  intro f
  induction f with
  | zero => intro x s; exact ⟨0, by omega, by rw [nI_0, Int32.add_zero]; rfl⟩
  | succ f ih =>
    intro x s
    rw [enS]
    split
    · obtain ⟨d, h, e⟩ := ih (x + 1) (f_ends s x (nW s x) (nE s x))
      obtain ⟨d2, h2, e2⟩ := f_ends_11 (s := s) (x := x) (W := nW s x) (E := nE s x) j
      exact ⟨d2 + d, by omega, by rw [e, e2, Int32.add_assoc, nI_add]⟩
    · obtain ⟨d, h, e⟩ := ih (x + 1) s
      exact ⟨d, by omega, e⟩
/-- a ship that isn't sent keeps its counts -/
theorem sends_31 {A : Nat} (hP : P ≤ 60) (hl : lOK s P L) (hA : s 47 0 = nI A) (hw : ¬ s 24 x < 0 → ∃ q, q < P ∧ s 24 x = nI q) {F j : Nat} (hF : F = 31 ∨ F = 32 ∨ F = 33) (hj : j ≠ x) : (f_sends s x H).2 F j = s F j := by
  unfold f_sends
  split
  · simp only [su_get, hj, and_false, if_false]
  · have e48 : ∀ k j, k ≠ 48 → (su s 48 0 0) k j = s k j := fun k j q => su_other _ _ q
    have l1 : lOK (su s 48 0 0) P L := lOK_o hl (fun j => e48 _ _ (by decide)) (e48 _ _ (by decide))
    have hw1 : ¬ (su s 48 0 0) 24 x < 0 → ∃ q, q < P ∧ (su s 48 0 0) 24 x = nI q := by rw [e48 _ _ (by decide)]; exact hw
    have hA1 : (su s 48 0 0) 47 0 = nI A := by rw [e48 _ _ (by decide)]; exact hA
    obtain ⟨q1, q2, ⟨A', c1, c2, c3⟩, q4, q5⟩ := seek_ok (x := x) (H := H) (lead := -1) hP l1 hA1 hw1 (Or.inr rfl)
    rw [nL_eq hl hP]
    generalize f_seek (su s 48 0 0) x H (-1) L = r at q1 q2 c1 q4 q5 ⊢
    obtain ⟨first, s2⟩ := r
    simp only at q1 q2 c1 q4 q5 ⊢
    have main : ∀ (other : Int32) (s3 : mS), s3 F j = s F j → (snC x H first (other, s3)).2 F j = s F j := by
      intro other s3 o3
      have bo : ∀ (s : mS) (v : Int32), bd s v x (nI H) F j = s F j := fun s v => bd_o _ _ _ _ (by omega) (by omega) (by omega) (by omega) (by omega) (by omega) j
      have sE : ∀ (s : mS), snE x H s F j = s F j := fun s => by
        unfold snE
        generalize (if s 25 x = 0 then -1 else alS s x H (nL s) 0) = w
        unfold snF
        by_cases c : su s 30 x w 30 x = -1
        · rw [if_pos c, su_other _ _ (by omega)]
        · rw [if_neg c, bo, su_other _ _ (by omega)]
      have sD : ∀ (s : mS), snD x H other s F j = s F j := fun s => by
        unfold snD
        split
        · rfl
        · exact bo _ _
      unfold snC
      simp only
      split
      · simp only
        split <;> (simp only [su_get, hj, and_false, if_false]; exact o3)
      · simp only
        rw [sE, sD, bo, su_other _ _ (by omega), su_other _ _ (by omega), su_other _ _ (by omega), su_other _ _ (by omega)]
        exact o3
    unfold snB
    simp only
    have o2 : s2 F j = s F j := by rw [q2 _ _ (by omega) (by omega), e48 _ _ (by omega)]
    split
    · next hc =>
      have hneg : s2 24 x < 0 := by rw [hc.2]; decide
      obtain ⟨r1, r2, _, r4, r5⟩ := seek_ok (x := x) (H := H) (lead := first) hP q1 c1 (fun q => absurd hneg q) (Or.inl hneg)
      rw [nL_eq q1 hP]
      generalize f_seek s2 x H first L = r2' at r1 r2 r4 r5 ⊢
      obtain ⟨other, s3⟩ := r2'
      simp only at r1 r2
      exact main _ _ (by rw [r2 _ _ (by omega) (by omega)]; exact o2)
    · exact main _ _ o2
theorem sdS_31 {M : Nat} (hP : P ≤ 60) (hS : S ≤ 400) {F j : Nat} (hF : F = 31 ∨ F = 32 ∨ F = 33) (hj : S ≤ j) : ∀ (f k A : Nat) (n : Int32) (s : mS), k + f = M → (∃ L, lOK s P L) → wOK s P S → (∀ j, j < M → ∃ y, y < S ∧ s 50 j = nI y) → s 47 0 = nI A → (sdS H f k n s).2 F j = s F j := by
  intro f
  induction f with
  | zero => intro k A n s _ _ _ _ _; rfl
  | succ f ih =>
    intro k A n s hk hl hw ho hA
    obtain ⟨y, hy, ey⟩ := ho k (by omega)
    have hcy : (nI y).toNatClampNeg = y := nI_clamp (by omega)
    obtain ⟨L, hl⟩ := hl
    obtain ⟨c1, ⟨A', c2, c3, c4⟩, c5⟩ := sends_ok (x := y) (H := H) hP hl hA (hw y hy)
    have h1 := sends_31 (x := y) (H := H) (j := j) hP hl hA (hw y hy) hF (by omega)
    rw [sdS, ey, hcy]
    rw [ih (k + 1) A' (n + if (f_sends s y H).1 = 0 then 0 else 1) (f_sends s y H).2 (by omega) c1 (fun x hx => by rw [c5 _ _ (by omega)]; exact hw x hx) (fun j hj => by rw [c5 _ _ (by omega)]; exact ho j hj) c2]
    exact h1
theorem hour_pre (hP : P ≤ 60) (hS : S ≤ 400) (hl : lOK s P L) (hw : wOK s P S) : (∀ F j, (9 < F ∧ F < 13) ∨ F = 7 → (hrQ S H (hrB B (hrA P L s))).2 F j = s F j) ∧ ∀ F j, (F = 31 ∨ F = 32 ∨ F = 33) → S ≤ j → (hrQ S H (hrB B (hrA P L s))).2 F j = s F j := by
  have oA : ∀ {k : Nat}, k < 53 → k ≠ 16 → k ≠ 47 → k ≠ 0 → ∀ j, hrA P L s k j = s k j := fun h1 h2 h3 h4 j => hrA_o P L s h1 h2 h3 h4 j
  have oB : ∀ k j, k ≠ 49 → hrB B (hrA P L s) k j = hrA P L s k j := fun k j h => by
    unfold hrB
    rw [su_get, if_neg (by omega)]
  have l' : lOK (hrB B (hrA P L s)) P L := lOK_o hl (fun i => by rw [oB _ _ (by decide), oA (by decide) (by decide) (by decide) (by decide)]) (by rw [oB _ _ (by decide), oA (by decide) (by decide) (by decide) (by decide)])
  have w' : wOK (hrB B (hrA P L s)) P S := fun x hx => by
    rw [oB _ _ (by decide), oA (by decide) (by decide) (by decide) (by decide)]
    exact hw x hx
  have a' : hrB B (hrA P L s) 47 0 = nI 0 := by
    rw [oB _ _ (by decide)]
    unfold hrA
    rw [bgS_o _ _ _ _ (by decide), su_get, if_pos ⟨rfl, rfl⟩]
    rfl
  have q := (hrQ_keeps (H := H) hP hS l' w' a').1
  refine ⟨fun F j h => ?_, fun F j hF hj => ?_⟩
  · rw [q F j (by omega), oB _ _ (by omega), oA (by omega) (by omega) (by omega) (by omega)]
  · obtain ⟨u1, u2, u3⟩ := quS_ok (nI H) S S 0 0 (hrB B (hrA P L s)) (by omega) (by omega) (fun j h => absurd h (by omega))
    unfold hrQ
    rw [sdS_31 (M := (quS (nI H) S 0 0 (hrB B (hrA P L s))).1) hP hS hF hj _ 0 0 0 _ (by omega) ⟨L, lOK_o l' (fun i => u3 _ _ (by decide)) (u3 _ _ (by decide))⟩ (fun x hx => by rw [u3 _ _ (by decide)]; exact w' x hx) u2 (by rw [u3 _ _ (by decide)]; exact a'), u3 _ _ (by omega), oB _ _ (by omega), oA (by omega) (by omega) (by omega) (by omega)]
/-- turns are few, rows beyond are as made -/
def few (s : mS) (P S T : Nat) : Prop := fresh s P S ∧ ∀ p, p < P → ∃ t, t ≤ 1200 * T ∧ s 11 p = nI t
theorem few_hour {o' : mS} {L' T T' : Nat} (hP : P ≤ 60) (hS : S ≤ 400) (hl : lOK s P L) (hw : wOK s P S) (hc : core (f_hour P L S B H s).2 o' P S L' T') (hf : few s P S T) : few (f_hour P L S B H s).2 P S (T + 1) := by
  obtain ⟨q1, q2⟩ := hour_pre (B := B) (H := H) hP hS hl hw
  have hsh := hc.2.1
  have e0 : ∀ F j, F ≠ 52 → F ≠ 8 → F ≠ 17 → F ≠ 18 → (f_hour P L S B H s).2 F j = enS H S 0 (su (gbS P (hrN B (hrQ S H (hrB B (hrA P L s))).2) (hrQ S H (hrB B (hrA P L s))).2) 1 0 (nI H)) F j := fun F j h1 h2 h3 h4 => by
    unfold f_hour hrC
    show su _ 52 0 1 F j = _
    rw [su_get, if_neg (by omega), lsS_x _ _ _ (by omega) (by omega) (by omega), rdS_o _ _ _ _ (by omega)]
  generalize hsG : su (gbS P (hrN B (hrQ S H (hrB B (hrA P L s))).2) (hrQ S H (hrB B (hrA P L s))).2) 1 0 (nI H) = sG at e0
  have oG : ∀ F j, F ≠ 1 → F ≠ 8 → sG F j = (hrQ S H (hrB B (hrA P L s))).2 F j := fun F j h1 h2 => by
    rw [← hsG, su_get, if_neg (by omega), gbS_o _ _ _ (by omega)]
  have hpm : ∀ y, 0 ≤ y → y < 0 + S → pmP P (sG 28 y) ∧ pmP P (sG 29 y) ∧ pmP P (sG 30 y) := fun y _ h => by
    have := (hsh y (by omega)).2.2
    rw [e0 _ _ (by decide) (by decide) (by decide) (by decide), e0 _ _ (by decide) (by decide) (by decide) (by decide), e0 _ _ (by decide) (by decide) (by decide) (by decide), enS_o _ _ _ _ (by decide) (by decide), enS_o _ _ _ _ (by decide) (by decide), enS_o _ _ _ _ (by decide) (by decide)] at this
    exact this
  refine ⟨⟨fun p h1 h2 => ?_, fun x h1 h2 => ?_⟩, fun p hp => ?_⟩
  · obtain ⟨a, b, c, d⟩ := hf.1.1 p h1 h2
    have e : ∀ F, 9 < F → F < 13 → (f_hour P L S B H s).2 F p = s F p := fun F h3 h4 => by
      rw [e0 _ _ (by omega) (by omega) (by omega) (by omega), enS_far hP h1 (by omega) _ _ _ hpm, oG _ _ (by omega) (by omega), q1 _ _ (by omega)]
    refine ⟨by rw [e 10 (by decide) (by decide)]; exact a, by rw [e 11 (by decide) (by decide)]; exact b, by rw [e 12 (by decide) (by decide)]; exact c, fun y hy => ?_⟩
    rw [e0 _ _ (by decide) (by decide) (by decide) (by decide), enS_o _ _ _ _ (by decide) (by decide), oG _ _ (by decide) (by decide), q1 _ _ (by omega)]
    exact d y hy
  · obtain ⟨a, b, c⟩ := hf.1.2 x h1 h2
    have e : ∀ F, (F = 31 ∨ F = 32 ∨ F = 33) → (f_hour P L S B H s).2 F x = s F x := fun F h => by
      rw [e0 _ _ (by omega) (by omega) (by omega) (by omega), enS_o _ _ _ _ (by omega) (by omega), oG _ _ (by omega) (by omega), q2 _ _ h h1]
    exact ⟨by rw [e 31 (by omega)]; exact a, by rw [e 32 (by omega)]; exact b, by rw [e 33 (by omega)]; exact c⟩
  · obtain ⟨t, h1, h2⟩ := hf.2 p hp
    obtain ⟨d, h3, h4⟩ := enS_11 (H := H) p S 0 sG
    refine ⟨t + d, by omega, ?_⟩
    rw [e0 _ _ (by decide) (by decide) (by decide) (by decide), h4, oG _ _ (by decide) (by decide), q1 _ _ (by omega), h2, nI_add]
theorem few_cg {s' : mS} {T : Nat} (h : ∀ F j, F = 7 ∨ F = 10 ∨ F = 11 ∨ F = 12 ∨ F = 31 ∨ F = 32 ∨ F = 33 → s' F j = s F j) (hf : few s P S T) : few s' P S T :=
  ⟨fresh_cg h hf.1, fun p hp => by rw [h 11 p (by omega)]; exact hf.2 p hp⟩
theorem few0 : few s00 0 0 0 := ⟨fresh0, fun p h => absurd h (by omega)⟩
theorem few_undo {s0 : mS} {T : Nat} (hP : P ≤ 60) (h52 : ¬ s 52 0 = 0) (hw : was s s0) (h7 : ∀ p, P ≤ p → p < 60 → ∀ d, d < 400 → s 7 (400 * p + d) = 0) (hf : few s0 P S T) : few (f_undo s) P S T := by
  obtain ⟨u1, -, u3, -, -, -, u7, -⟩ := undo_v h52 hw
  refine ⟨⟨fun p h1 h2 => ?_, fun x h1 h2 => ?_⟩, fun p hp => ?_⟩
  · obtain ⟨a, b, c, -⟩ := hf.1.1 p h1 h2
    exact ⟨by rw [u1 10 p (by decide) (by decide) h2]; exact a, by rw [u1 11 p (by decide) (by decide) h2]; exact b, by rw [u1 12 p (by decide) (by decide) h2]; exact c, fun d hd => by rw [u7 7 _ (by decide)]; exact h7 p h1 h2 d hd⟩
  · obtain ⟨a, b, c⟩ := hf.1.2 x h1 h2
    exact ⟨by rw [u3 31 x (by decide) (by decide) h2]; exact a, by rw [u3 32 x (by decide) (by decide) h2]; exact b, by rw [u3 33 x (by decide) (by decide) h2]; exact c⟩
  · rw [u1 11 p (by decide) (by decide) (by omega)]; exact hf.2 p hp
end TE
