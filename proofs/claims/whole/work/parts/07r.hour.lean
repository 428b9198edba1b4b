/-! ===== the class's hour ===== -/
theorem bgS_16 (L : Nat) : ∀ (f p : Nat) (s : mS) (q : Nat), bgS L f p s 16 q = if p ≤ q ∧ q < p + f then pl s (nI q) L 0 else s 16 q := by
  intro f
  induction f with
  | zero => intro p s q; rw [bgS, if_neg (by omega)]
  | succ f ih =>
    intro p s q
    rw [bgS, ih, pl_su _ (by decide)]
    by_cases a : q = p
    · subst a
      rw [if_neg (by omega), if_pos (by omega)]
      simp [su]
    · by_cases b : p + 1 ≤ q ∧ q < p + 1 + f
      · rw [if_pos b, if_pos (by omega)]
      · rw [if_neg b, if_neg (by omega), su_get, if_neg (fun w => a w.2)]
theorem siv_8 {s s2 : mS} {P S L H : Nat} (h : siv s P S L H) (ho : ∀ F j, F ≠ 8 → F ≠ 1 → s2 F j = s F j) (h8 : ∀ j, s2 8 j = s 8 j ∨ (¬ s 8 j = 2 ∧ ¬ s2 8 j = 2)) : siv s2 P S L H := by
  obtain ⟨a, b, c, d⟩ := h
  have e2 : ∀ j, s2 8 j = 2 ↔ s 8 j = 2 := by
    intro j
    rcases h8 j with q | q
    · rw [q]
    · exact ⟨fun w => absurd w q.2, fun w => absurd w q.1⟩
  have li : ∀ v, inL s2 L v → inL s L v := fun v hv => inL_o hv (fun j => (ho _ _ (by decide) (by decide)).symm)
  refine ⟨lOK_o a (fun j => ho _ _ (by decide) (by decide)) (ho _ _ (by decide) (by decide)), fun x hx => shI_o (b x hx) (fun F h1 h2 => ho _ _ (by omega) (by omega)) (fun p _ q1 q2 => ⟨(e2 p).mpr q1, by rw [ho _ _ (by decide) (by decide)]; exact q2⟩), ⟨fun p hp => ?_, fun p hp hi => ?_⟩, ⟨fun x hx => ?_, fun p hp hi => ?_⟩⟩
  · rw [e2, ho _ _ (by decide) (by decide)]; exact c.1 p hp
  · rw [e2]; exact c.2 p hp (li _ hi)
  · rw [ho 26 _ (by decide) (by decide), ho 27 _ (by decide) (by decide), ho 28 _ (by decide) (by decide), ho 29 _ (by decide) (by decide), ho 30 _ (by decide) (by decide)]
    intro q1 q2 p hp q3
    rw [ho _ _ (by decide) (by decide)]
    exact d.1 x hx q1 q2 p hp q3
  · rw [ho _ _ (by decide) (by decide)]; exact d.2 p hp (li _ hi)
theorem gb8 {P : Nat} (hP : P ≤ 60) : ∀ (n : Nat) (s : mS) (j : Nat), gbS P n s 8 j = s 8 j ∨ (s 8 j = 1 ∧ gbS P n s 8 j = 0) := by
  intro n
  induction n with
  | zero => intro s j; exact Or.inl rfl
  | succ n ih =>
    intro s j
    rw [gbS]
    rcases gbB_8 s P P 0 (-1) (by omega) (Or.inl rfl) with e | ⟨q, hq, e, e8⟩
    · rw [if_pos e]; exact ih s j
    · have n1 : ¬ nI q = -1 := nI_nm1 (by omega)
      rw [e, if_neg n1, nI_clamp (by omega)]
      by_cases w : j = q
      · subst w
        have e0 : su s 8 j 0 8 j = 0 := by simp [su]
        rcases ih (su s 8 j 0) j with r | r
        · rw [r, e0]; exact Or.inr ⟨e8, rfl⟩
        · rw [e0] at r; exact absurd r.1 (by decide)
      · have e0 : su s 8 q 0 8 j = s 8 j := by rw [su_get, if_neg (fun z => w z.2)]
        rcases ih (su s 8 q 0) j with r | r
        · rw [e0] at r; exact Or.inl r
        · rw [e0] at r; exact Or.inr r
theorem rd8 (H : Nat) : ∀ (f p : Nat) (s : mS) (j : Nat), rdS H f p s 8 j = s 8 j ∨ (s 8 j = 3 ∧ rdS H f p s 8 j = 0) := by
  intro f
  induction f with
  | zero => intro p s j; exact Or.inl rfl
  | succ f ih =>
    intro p s j
    rw [rdS]
    by_cases c : s 8 p = 3 ∧ s 14 p ≤ nI H
    · rw [if_pos c]
      by_cases w : j = p
      · subst w
        have e0 : su s 8 j 0 8 j = 0 := by simp [su]
        rcases ih (j + 1) (su s 8 j 0) j with r | r
        · rw [r, e0]; exact Or.inr ⟨c.1, rfl⟩
        · rw [e0] at r; exact absurd r.1 (by decide)
      · have e0 : su s 8 p 0 8 j = s 8 j := by rw [su_get, if_neg (fun z => w z.2)]
        rcases ih (p + 1) (su s 8 p 0) j with r | r
        · rw [e0] at r; exact Or.inl r
        · rw [e0] at r; exact Or.inr r
    · rw [if_neg c]; exact ih (p + 1) s j
/-- who comes to the list is ashore -/
theorem ls_in {P H : Nat} (hP : P ≤ 60) : ∀ (f p : Nat) (s : mS) (L : Nat), p + f = P → lOK s P L → ∀ L', lOK (lsS H f p s) P L' → ∀ q, q < P → inL (lsS H f p s) L' (nI q) → inL s L (nI q) ∨ s 8 q = 0 ∨ s 8 q = 1 := by
  intro f
  induction f with
  | zero =>
    intro p s L hp hl L' hl' q hq hi
    have : L = L' := by rw [← nL_eq hl hP, ← nL_eq hl' hP]; rfl
    subst this
    exact Or.inl hi
  | succ f ih =>
    intro p s L hp hl L' hl' q hq hi
    rw [lsS, nL_eq hl hP] at hl' hi
    by_cases c : (s 8 p = 0 ∨ s 8 p = 1) ∧ s 10 p ≤ nI H ∧ pl s (nI p) L 0 = -1
    · rw [if_pos c] at hl' hi
      have hn : ¬ inL s L (nI p) := fun w => (inL_iff hl hP).mp w c.2.2
      rcases ih (p + 1) (apS s (nI p) L) (L + 1) (by omega) (lOK_ap hP hl (by omega) hn) L' hl' q hq hi with r | r
      · obtain ⟨j, hj, e⟩ := r
        rw [apS_17] at e
        by_cases w : j = L
        · rw [if_pos w] at e
          have : p = q := (nI_eq (by omega) (by omega)).mp e
          subst this
          exact Or.inr c.1
        · rw [if_neg w] at e
          exact Or.inl ⟨j, by omega, e⟩
      · rw [apS_o _ _ _ (by decide) (by decide)] at r
        exact Or.inr r
    · rw [if_neg c] at hl' hi
      exact ih (p + 1) s L (by omega) hl L' hl' q hq hi
/-- a ship that went at H, or is as it was -/
theorem sends_27 {s : mS} {P L A x H : Nat} (hP : P ≤ 60) (hl : lOK s P L) (hA : s 47 0 = nI A) (hw : ¬ s 24 x < 0 → ∃ q, q < P ∧ s 24 x = nI q) : ∀ j, ((f_sends s x H).2 26 j = s 26 j ∧ (f_sends s x H).2 27 j = s 27 j) ∨ (f_sends s x H).2 27 j = nI H := by
  intro j
  unfold f_sends
  split
  · exact Or.inl ⟨by simp [su], by simp [su]⟩
  · have e48 : ∀ k j, k ≠ 48 → (su s 48 0 0) k j = s k j := fun k j q => su_other _ _ q
    have l1 : lOK (su s 48 0 0) P L := lOK_o hl (fun j => e48 _ _ (by decide)) (e48 _ _ (by decide))
    have hw1 : ¬ (su s 48 0 0) 24 x < 0 → ∃ q, q < P ∧ (su s 48 0 0) 24 x = nI q := by rw [e48 _ _ (by decide)]; exact hw
    have hA1 : (su s 48 0 0) 47 0 = nI A := by rw [e48 _ _ (by decide)]; exact hA
    obtain ⟨q1, q2, ⟨A', c1, c2, c3⟩, q4, q5⟩ := seek_ok (x := x) (H := H) (lead := -1) hP l1 hA1 hw1 (Or.inr rfl)
    rw [nL_eq hl hP]
    generalize f_seek (su s 48 0 0) x H (-1) L = r at q1 q2 c1 q4 q5 ⊢
    obtain ⟨first, s2⟩ := r
    simp only at q1 q2 c1 q4 q5 ⊢
    have main : ∀ (other : Int32) (s3 : mS), (∀ F j, F = 26 ∨ F = 27 → s3 F j = s F j) → ((snC x H first (other, s3)).2 26 j = s 26 j ∧ (snC x H first (other, s3)).2 27 j = s 27 j) ∨ (snC x H first (other, s3)).2 27 j = nI H := by
      intro other s3 o3
      have bo : ∀ (s : mS) (v : Int32) k j, k = 26 ∨ k = 27 → bd s v x (nI H) k j = s k j := fun s v k j h => bd_o _ _ _ _ (by omega) (by omega) (by omega) (by omega) (by omega) (by omega) j
      have sE : ∀ (s : mS) k j, k = 26 ∨ k = 27 → snE x H s k j = s k j := fun s k j h => by
        unfold snE
        generalize (if s 25 x = 0 then -1 else alS s x H (nL s) 0) = w
        unfold snF
        by_cases c : su s 30 x w 30 x = -1
        · rw [if_pos c, su_other _ _ (by omega)]
        · rw [if_neg c, bo _ _ _ _ h, su_other _ _ (by omega)]
      have sD : ∀ (s : mS) k j, k = 26 ∨ k = 27 → snD x H other s k j = s k j := fun s k j h => by
        unfold snD
        split
        · rfl
        · exact bo _ _ _ _ h
      unfold snC
      simp only
      split
      · simp only
        split
        · exact Or.inl ⟨by rw [su_other _ _ (by decide), o3 _ _ (by omega)], by rw [su_other _ _ (by decide), o3 _ _ (by omega)]⟩
        · exact Or.inl ⟨by rw [su_other _ _ (by decide), o3 _ _ (by omega)], by rw [su_other _ _ (by decide), o3 _ _ (by omega)]⟩
      · simp only
        rw [sE _ 26 _ (by omega), sE _ 27 _ (by omega), sD _ 26 _ (by omega), sD _ 27 _ (by omega), bo _ _ 26 _ (by omega), bo _ _ 27 _ (by omega)]
        by_cases w : j = x
        · refine Or.inr ?_
          simp [su_get, w]
        · refine Or.inl ?_
          simp only [su_get, w, and_false, if_false]
          exact ⟨o3 _ _ (by omega), o3 _ _ (by omega)⟩
    unfold snB
    simp only
    have o2 : ∀ F j, F = 26 ∨ F = 27 → s2 F j = s F j := fun F j h => by rw [q2 _ _ (by omega) (by omega), e48 _ _ (by omega)]
    split
    · next hc =>
      have hneg : s2 24 x < 0 := by rw [hc.2]; decide
      obtain ⟨r1, r2, _, r4, r5⟩ := seek_ok (x := x) (H := H) (lead := first) hP q1 c1 (fun q => absurd hneg q) (Or.inl hneg)
      rw [nL_eq q1 hP]
      generalize f_seek s2 x H first L = r2' at r1 r2 r4 r5 ⊢
      obtain ⟨other, s3⟩ := r2'
      simp only at r1 r2
      exact main _ _ (fun F j h => by rw [r2 _ _ (by omega) (by omega)]; exact o2 F j h)
    · exact main _ _ o2
theorem sdS_27 {P S M H : Nat} (hP : P ≤ 60) (hS : S ≤ 400) : ∀ (f k A : Nat) (n : Int32) (s : mS), k + f = M → (∃ L, lOK s P L) → wOK s P S → (∀ j, j < M → ∃ y, y < S ∧ s 50 j = nI y) → s 47 0 = nI A → ∀ j, ((sdS H f k n s).2 26 j = s 26 j ∧ (sdS H f k n s).2 27 j = s 27 j) ∨ (sdS H f k n s).2 27 j = nI H := by
  intro f
  induction f with
  | zero => intro k A n s _ _ _ _ _ j; exact Or.inl ⟨rfl, rfl⟩
  | succ f ih =>
    intro k A n s hk hl hw ho hA j
    obtain ⟨y, hy, ey⟩ := ho k (by omega)
    have hcy : (nI y).toNatClampNeg = y := nI_clamp (by omega)
    obtain ⟨L, hl⟩ := hl
    obtain ⟨c1, ⟨A', c2, c3, c4⟩, c5⟩ := sends_ok (x := y) (H := H) hP hl hA (hw y hy)
    have h1 := sends_27 (x := y) (H := H) hP hl hA (hw y hy) j
    rw [sdS, ey, hcy]
    have h2 := ih (k + 1) A' (n + if (f_sends s y H).1 = 0 then 0 else 1) (f_sends s y H).2 (by omega) c1 (fun x hx => by rw [c5 _ _ (by omega)]; exact hw x hx) (fun j hj => by rw [c5 _ _ (by omega)]; exact ho j hj) c2 j
    rcases h2 with h2 | h2
    · rcases h1 with h1 | h1
      · exact Or.inl ⟨h2.1.trans h1.1, h2.2.trans h1.2⟩
      · exact Or.inr (h2.2.trans h1)
    · exact Or.inr h2
/-- seats go by the clock -/
theorem soS_clock (s : mS) {H : Nat} (hH : H < 2 ^ 31) : ∀ (f k : Nat) (n : Int32), soS s (nI H) f k n = soS s (nI (H % 24)) f k n := by
  have e : nI H - nI H / 24 * 24 = nI (H % 24) - nI (H % 24) / 24 * 24 := by
    rw [nI_d24 hH, nI_r24 hH, nI_d24 (show H % 24 < 2 ^ 31 by omega), nI_r24 (show H % 24 < 2 ^ 31 by omega)]
    congr 1
    omega
  intro f
  induction f with
  | zero => intro k n; rfl
  | succ f ih => intro k n; rw [soS, soS, e, ih]
theorem soS_o {s s2 : mS} {t : Int32} (h38 : ∀ j, s2 38 j = s 38 j) (h39 : ∀ j, s2 39 j = s 39 j) : ∀ (f k : Nat) (n : Int32), soS s2 t f k n = soS s t f k n := by
  intro f
  induction f with
  | zero => intro k n; rfl
  | succ f ih => intro k n; rw [soS, soS, h38, h39, ih]
/-- the parts of the state that hours change -/
def nowI (s o : mS) (P S T : Nat) : Prop := ∀ x, x < S → s 26 x = 1 → s 27 x = nI T → ∀ p, p < P → (s 28 x = nI p ∨ s 29 x = nI p ∨ s 30 x = nI p) → (∃ b, b < 60 ∧ s 16 p = nI b ∧ o 66 p = nI b) ∧ ∀ y, y < S → s 26 y = 1 → s 27 y = nI T → ∀ q, q < P → (s 28 y = nI q ∨ s 29 y = nI q ∨ s 30 y = nI q) → s 16 p = s 16 q → p = q
def core (s o : mS) (P S L T : Nat) : Prop := lOK s P L ∧ (∀ x, x < S → shI s P x) ∧ plI s P S L ∧ (∀ x, x < S → s 26 x = 1 → ∃ W, W ≤ T ∧ s 27 x = nI W) ∧ dI s o P ∧ nowI s o P S T
/-- the parts that they don't -/
def stat (s o : mS) (P S B : Nat) : Prop := (kOK s P ∧ wOK s P S ∧ tOK s) ∧ (∀ y, y < S → ∃ n, n ≤ 400 ∧ s 21 y = nI n) ∧ sbOK s o S ∧ (∀ c, c < 24 → o 62 c = soS s (nI c) B 0 0) ∧ (∀ p, p < P → o 61 p = ofS s p 400 0 0) ∧ (∀ k, k < B → ∃ q, q ≤ 20 ∧ s 39 k = nI q) ∧ (s 37 0 = nI B ∧ B ≤ 12)
