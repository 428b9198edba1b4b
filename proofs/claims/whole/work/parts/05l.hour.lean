/-! ===== the reference's hour, its pieces ===== -/
/-- no more places than numbers -/
theorem pig : ∀ (P L : Nat) (f : Nat → Nat), (∀ k, k < L → f k < P) → (∀ j k, j < L → k < L → f j = f k → j = k) → L ≤ P := by
  intro P
  induction P with
  | zero =>
    intro L f h1 _
    cases L with
    | zero => exact Nat.le_refl _
    | succ n => exact absurd (h1 0 (Nat.succ_pos _)) (Nat.not_lt_zero _)
  | succ P ih =>
    intro L f h1 h2
    by_cases e : ∃ k, k < L ∧ f k = P
    · obtain ⟨k, hk, ek⟩ := e
      have := ih (L - 1) (fun j => if j = k then f (L - 1) else f j) (by
        intro j hj
        by_cases a : j = k
        · rw [if_pos a]
          have := h1 (L - 1) (by omega)
          have n1 : f (L - 1) ≠ P := fun q => by have := h2 (L - 1) k (by omega) hk (q.trans ek.symm); omega
          omega
        · rw [if_neg a]
          have := h1 j (by omega)
          have n1 : f j ≠ P := fun q => a (h2 j k (by omega) hk (q.trans ek.symm))
          omega) (by
        intro i j hi hj q
        by_cases a : i = k <;> by_cases b : j = k
        · omega
        · rw [if_pos a, if_neg b] at q
          have := h2 _ _ (by omega) (by omega) q
          omega
        · rw [if_neg a, if_pos b] at q
          have := h2 _ _ (by omega) (by omega) q
          omega
        · rw [if_neg a, if_neg b] at q
          exact h2 _ _ (by omega) (by omega) q)
      omega
    · have := ih L f (fun k hk => by
        have := h1 k hk
        have n1 : f k ≠ P := fun q => e ⟨k, hk, q⟩
        omega) h2
      omega
/-- one more at the list's end -/
def apS (s : mS) (v : Int32) (L : Nat) : mS := su (su s 17 L v) 18 0 (nI (L + 1))
theorem apS_o (s : mS) (v : Int32) (L : Nat) {k : Nat} (h1 : k ≠ 17) (h2 : k ≠ 18) (j : Nat) : apS s v L k j = s k j := by
  unfold apS
  rw [su_other _ _ h2, su_other _ _ h1]
theorem apS_17 (s : mS) (v : Int32) (L j : Nat) : apS s v L 17 j = if j = L then v else s 17 j := by
  unfold apS
  rw [su_other _ _ (by decide)]
  simp [su]
theorem lOK_ap {s : mS} {P L p : Nat} (hP : P ≤ 60) (h : lOK s P L) (hp : p < P) (hn : ¬ inL s L (nI p)) : lOK (apS s (nI p) L) P (L + 1) := by
  obtain ⟨a, b, c, d⟩ := h
  have h3 : ∀ k, k < L + 1 → ∃ q, q < P ∧ apS s (nI p) L 17 k = nI q := by
    intro k hk
    rw [apS_17]
    split
    · exact ⟨p, hp, rfl⟩
    · exact c k (by omega)
  have h4 : ∀ j k, j < L + 1 → k < L + 1 → apS s (nI p) L 17 j = apS s (nI p) L 17 k → j = k := by
    intro j k hj hk q
    rw [apS_17, apS_17] at q
    by_cases x : j = L <;> by_cases y : k = L <;> simp only [x, y, if_true, if_false] at q
    · omega
    · exact absurd ⟨k, by omega, q.symm⟩ hn
    · exact absurd ⟨j, by omega, q⟩ hn
    · exact d j k (by omega) (by omega) q
  refine ⟨by unfold apS; simp [su], ?_, h3, h4⟩
  refine pig P (L + 1) (fun k => (apS s (nI p) L 17 k).toNatClampNeg) (fun k hk => ?_) (fun j k hj hk q => ?_)
  · obtain ⟨q, hq, e⟩ := h3 k hk
    rw [e, nI_clamp (by omega)]
    exact hq
  · obtain ⟨q1, hq1, e1⟩ := h3 j hj
    obtain ⟨q2, hq2, e2⟩ := h3 k hk
    rw [e1, e2, nI_clamp (by omega), nI_clamp (by omega)] at q
    exact h4 j k hj hk (by rw [e1, e2, q])
/-- what a sending keeps -/
def snK (s : mS) (P A n : Nat) (s2 : mS) : Prop := (∃ L, lOK s2 P L) ∧ (∃ A', s2 47 0 = nI A' ∧ A ≤ A' ∧ A' ≤ A + n) ∧ ∀ k j, (k < 8 ∨ (9 < k ∧ k < 13) ∨ (13 < k ∧ k < 17) ∨ (18 < k ∧ k < 26) ∨ (33 < k ∧ k < 44) ∨ k = 50 ∨ 51 < k) → s2 k j = s k j
theorem snK_su {s s2 : mS} {P A n : Nat} (h : snK s P A n s2) {k j : Nat} {v : Int32} (hk : 26 ≤ k ∧ k ≤ 33) : snK s P A n (su s2 k j v) := by
  obtain ⟨⟨L, a⟩, ⟨A', b1, b2, b3⟩, c⟩ := h
  refine ⟨⟨L, lOK_o a (fun j => su_other _ _ (by omega)) (su_other _ _ (by omega))⟩, ⟨A', by rw [su_other _ _ (by omega)]; exact b1, b2, b3⟩, fun k2 j2 q => ?_⟩
  rw [su_other _ _ (by omega)]
  exact c k2 j2 q
theorem snK_bd {s s2 : mS} {P A n L x : Nat} {v t : Int32} (hP : P ≤ 60) (h : snK s P A n s2) (hl : lOK s2 P L) (hv : inL s2 L v) : snK s P A n (bd s2 v x t) := by
  obtain ⟨_, ⟨A', b1, b2, b3⟩, c⟩ := h
  refine ⟨⟨_, (bd_l hP hl hv).1⟩, ⟨A', by rw [bd_o _ _ _ _ (by omega) (by omega) (by omega) (by omega) (by omega) (by omega)]; exact b1, b2, b3⟩, fun k j q => ?_⟩
  rw [bd_o _ _ _ _ (by omega) (by omega) (by omega) (by omega) (by omega) (by omega)]
  exact c k j q
theorem snE_K {s s2 : mS} {P A n L x H : Nat} (hP : P ≤ 60) (h : snK s P A n s2) (hl : lOK s2 P L) : snK s P A n (snE x H s2) := by
  unfold snE snF
  have e : ∀ v, su s2 30 x v 30 x = v := fun v => by simp [su]
  have h1 : ∀ v, snK s P A n (su s2 30 x v) := fun v => snK_su h (by omega)
  have l1 : ∀ v, lOK (su s2 30 x v) P L := fun v => lOK_o hl (fun j => su_other _ _ (by decide)) (su_other _ _ (by decide))
  rw [nL_eq hl hP]
  have hw : (if s2 25 x = 0 then -1 else alS s2 x H L 0) = -1 ∨ inL s2 L (if s2 25 x = 0 then -1 else alS s2 x H L 0) := by
    split
    · exact Or.inl rfl
    · exact al_in s2 x H L L 0 (by omega)
  generalize (if s2 25 x = 0 then -1 else alS s2 x H L 0) = w at hw ⊢
  rw [e]
  by_cases a : w = -1
  · rw [if_pos a]
    exact h1 _
  · rw [if_neg a]
    exact snK_bd hP (h1 _) (l1 _) (inL_o (hw.resolve_left a) (fun j => su_other _ _ (by decide)))
theorem sends_ok {s : mS} {P L A x H : Nat} (hP : P ≤ 60) (hl : lOK s P L) (hA : s 47 0 = nI A) (hw : ¬ s 24 x < 0 → ∃ q, q < P ∧ s 24 x = nI q) : snK s P A 120 (f_sends s x H).2 := by
  unfold f_sends
  have h0 : snK s P A 120 s := ⟨⟨L, hl⟩, ⟨A, hA, by omega, by omega⟩, fun _ _ _ => rfl⟩
  split
  · exact snK_su h0 (by omega)
  · have e48 : ∀ k j, k ≠ 48 → (su s 48 0 0) k j = s k j := fun k j q => su_other _ _ q
    have l1 : lOK (su s 48 0 0) P L := lOK_o hl (fun j => e48 _ _ (by decide)) (e48 _ _ (by decide))
    have hw1 : ¬ (su s 48 0 0) 24 x < 0 → ∃ q, q < P ∧ (su s 48 0 0) 24 x = nI q := by rw [e48 _ _ (by decide)]; exact hw
    have hA1 : (su s 48 0 0) 47 0 = nI A := by rw [e48 _ _ (by decide)]; exact hA
    obtain ⟨q1, q2, ⟨A', c1, c2, c3⟩, q4, q5⟩ := seek_ok (x := x) (H := H) (lead := -1) hP l1 hA1 hw1 (Or.inr rfl)
    rw [nL_eq hl hP]
    generalize f_seek (su s 48 0 0) x H (-1) L = r at q1 q2 c1 q4 q5 ⊢
    obtain ⟨first, s2⟩ := r
    simp only at q1 q2 c1 q4 q5 ⊢
    have o2 : ∀ k j, (k < 8 ∨ (9 < k ∧ k < 13) ∨ (13 < k ∧ k < 17) ∨ (18 < k ∧ k < 26) ∨ (33 < k ∧ k < 44) ∨ k = 50 ∨ 51 < k) → s2 k j = s k j := fun k j q => by rw [q2 _ _ (by omega) (by omega), e48 _ _ (by omega)]
    have k2 : snK s P A 120 s2 := ⟨⟨L, q1⟩, ⟨A', c1, c2, by omega⟩, o2⟩
    have main : ∀ (other : Int32) (s3 : mS), snK s P A 120 s3 → lOK s3 P L → (first = -1 ∨ inL s3 L first) → (other = -1 ∨ (other ≠ first ∧ inL s3 L other)) → snK s P A 120 (snC x H first (other, s3)).2 := by
      intro other s3 k3 l3 hf ho
      unfold snC
      simp only
      split
      · simp only
        split
        · exact snK_su k3 (by omega)
        · exact snK_su k3 (by omega)
      · next hne =>
        have hf := hf.resolve_left (fun q => hne (Or.inl q))
        have e17 : ∀ j, (su (su (su (su s3 26 x 1) 27 x (nI H)) 28 x first) 29 x other) 17 j = s3 17 j := fun j => by
          rw [su_other _ _ (by decide), su_other _ _ (by decide), su_other _ _ (by decide), su_other _ _ (by decide)]
        have e18 : (su (su (su (su s3 26 x 1) 27 x (nI H)) 28 x first) 29 x other) 18 0 = s3 18 0 := by
          rw [su_other _ _ (by decide), su_other _ _ (by decide), su_other _ _ (by decide), su_other _ _ (by decide)]
        have k4 : snK s P A 120 (su (su (su (su s3 26 x 1) 27 x (nI H)) 28 x first) 29 x other) := snK_su (snK_su (snK_su (snK_su k3 (by omega)) (by omega)) (by omega)) (by omega)
        have l4 := lOK_o l3 e17 e18
        have i4 := inL_o hf e17
        have k5 := snK_bd (x := x) (t := nI H) hP k4 l4 i4
        have l5 := bd_l (x := x) (t := nI H) hP l4 i4
        simp only
        unfold snD
        by_cases a : other = -1
        · rw [if_pos a]
          exact snE_K hP k5 l5.1
        · rw [if_neg a]
          have ho := ho.resolve_left a
          have i5 := l5.2 other ho.1 (inL_o ho.2 e17)
          exact snE_K hP (snK_bd hP k5 l5.1 i5) (bd_l hP l5.1 i5).1
    unfold snB
    simp only
    have hf : first = -1 ∨ inL s2 L first := q5.imp id (fun q => q.2)
    split
    · next hc =>
      have hneg : s2 24 x < 0 := by rw [hc.2]; decide
      obtain ⟨r1, r2, ⟨A2, d1, d2, d3⟩, r4, r5⟩ := seek_ok (x := x) (H := H) (lead := first) hP q1 c1 (fun q => absurd hneg q) (Or.inl hneg)
      rw [nL_eq q1 hP]
      generalize f_seek s2 x H first L = r2' at r1 r2 d1 r4 r5 ⊢
      obtain ⟨other, s3⟩ := r2'
      simp only at r1 r2 d1 r4 r5
      exact main _ _ ⟨⟨L, r1⟩, ⟨A2, d1, by omega, by omega⟩, fun k j q => by rw [r2 _ _ (by omega) (by omega)]; exact o2 k j q⟩ r1 (Or.inr (r4 _ (hf.resolve_left hc.1))) r5
    · exact main _ _ k2 q1 hf (Or.inl rfl)
