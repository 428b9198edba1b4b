/-! ===== a sending keeps ships and pilots in order, the whole of it ===== -/
theorem snE_inv {s : mS} {P S L H x : Nat} (hP : P ≤ 60) (hH : H < 9600) (hx : x < S) (h : mid s P S L H x) (h26 : s 26 x = 1) (h27 : s 27 x = nI H) (o28 : onb s P x (s 28 x)) (o29 : onb s P x (s 29 x)) (d1 : s 28 x = -1 ∨ s 28 x ≠ s 29 x) (ni : ∀ v, inL s L v → v ≠ s 28 x ∧ v ≠ s 29 x) : ∃ L', L' ≤ L ∧ siv (snE x H s) P S L' H ∧ ∀ F j, 26 ≤ F → F ≤ 33 → j ≠ x → snE x H s F j = s F j := by
  unfold snE snF
  have e : ∀ v, su s 30 x v 30 x = v := fun v => by simp [su]
  have o1 : ∀ v F j, F ≠ 30 → su s 30 x v F j = s F j := fun v F j hF => su_other _ _ hF
  have o2 : ∀ v F j, j ≠ x → su s 30 x v F j = s F j := fun v F j hj => by rw [su_get, if_neg (fun q => hj q.2)]
  have hw : (if s 25 x = 0 then -1 else alS s x H (nL s) 0) = -1 ∨ inL s L (if s 25 x = 0 then -1 else alS s x H (nL s) 0) := by
    rw [nL_eq h.1 hP]
    split
    · exact Or.inl rfl
    · exact al_in s x H L L 0 (by omega)
  generalize (if s 25 x = 0 then -1 else alS s x H (nL s) 0) = w at hw ⊢
  rw [e]
  have m1 : mid (su s 30 x w) P S L H x := mid_su h (by decide)
  by_cases a : w = -1
  · rw [if_pos a]
    refine ⟨L, Nat.le_refl _, mid_end hP hH m1 (by rw [o1 _ _ _ (by decide)]; exact h27) (by rw [o1 _ _ _ (by decide)]; exact h26) ?_ ?_ ?_ ?_, fun F j _ _ hj => o2 _ _ _ hj⟩
    · rw [o1 _ _ _ (by decide)]; exact onb_su (by decide) o28
    · rw [o1 _ _ _ (by decide)]; exact onb_su (by decide) o29
    · rw [e]; exact Or.inl a
    · unfold dst
      rw [o1 _ 28 _ (by decide), o1 _ 29 _ (by decide), e, a]
      exact ⟨d1, (Decidable.em (s 28 x = -1)).imp id id, (Decidable.em (s 29 x = -1)).imp id id⟩
  · rw [if_neg a]
    have hw := hw.resolve_left a
    obtain ⟨n1, n2⟩ := ni w hw
    have hw2 : inL (su s 30 x w) L w := inL_o hw (fun j => o1 _ _ _ (by decide))
    obtain ⟨p, hp, rfl⟩ := inL_p h.1 hw
    have o3 : ∀ k j, k ≠ 8 → k ≠ 9 → k ≠ 13 → k ≠ 17 → k ≠ 18 → k ≠ 49 → bd (su s 30 x (nI p)) (nI p) x (nI H) k j = su s 30 x (nI p) k j := fun k j h1 h2 h3 h4 h5 h6 => bd_o _ _ _ _ h1 h2 h3 h4 h5 h6 j
    refine ⟨L - 1, by omega, mid_end hP hH (mid_bd hP hx hp m1 hw2) ?_ ?_ ?_ ?_ ?_ ?_, fun F j h1 h2 hj => ?_⟩
    · rw [o3 _ _ (by decide) (by decide) (by decide) (by decide) (by decide) (by decide), o1 _ _ _ (by decide)]; exact h27
    · rw [o3 _ _ (by decide) (by decide) (by decide) (by decide) (by decide) (by decide), o1 _ _ _ (by decide)]; exact h26
    · rw [o3 _ _ (by decide) (by decide) (by decide) (by decide) (by decide) (by decide), o1 _ _ _ (by decide)]
      exact onb_bd (S := S) (L := L) (H := H) hP hp m1.1 (onb_su (by decide) o28)
    · rw [o3 _ _ (by decide) (by decide) (by decide) (by decide) (by decide) (by decide), o1 _ _ _ (by decide)]
      exact onb_bd (S := S) (L := L) (H := H) hP hp m1.1 (onb_su (by decide) o29)
    · rw [o3 _ _ (by decide) (by decide) (by decide) (by decide) (by decide) (by decide), e]
      exact onb_new hP hp m1 hw2
    · unfold dst
      rw [o3 28 _ (by decide) (by decide) (by decide) (by decide) (by decide) (by decide), o3 29 _ (by decide) (by decide) (by decide) (by decide) (by decide) (by decide), o3 30 _ (by decide) (by decide) (by decide) (by decide) (by decide) (by decide), o1 _ 28 _ (by decide), o1 _ 29 _ (by decide), e]
      exact ⟨d1, Or.inr n1.symm, Or.inr n2.symm⟩
    · rw [o3 _ _ (by omega) (by omega) (by omega) (by omega) (by omega) (by omega)]
      exact o2 _ _ _ hj
theorem siv_su {s : mS} {P S L H x F : Nat} {v : Int32} (h : siv s P S L H) (hF : 31 ≤ F) (hF2 : F ≤ 33 ∨ F = 48) : siv (su s F x v) P S L H := by
  have o1 : ∀ k j, k < 31 → su s F x v k j = s k j := fun k j hk => su_other _ _ (by omega)
  exact siv_o h (lOK_o h.1 (fun j => o1 _ _ (by decide)) (o1 _ _ (by decide))) (fun w hw => inL_o hw (fun j => (o1 _ _ (by decide)).symm)) (fun j => o1 _ _ (by decide)) (fun j => o1 _ _ (by decide)) (fun j => o1 _ _ (by decide)) (fun F j _ h2 => o1 _ _ (by omega))
theorem sends_inv {s : mS} {P S L A x H : Nat} (hP : P ≤ 60) (hH : H < 9600) (hx : x < S) (h : siv s P S L H) (hA : s 47 0 = nI A) (hw : ¬ s 24 x < 0 → ∃ q, q < P ∧ s 24 x = nI q) : ∃ L', L' ≤ L ∧ siv (f_sends s x H).2 P S L' H ∧ ∀ F j, 26 ≤ F → F ≤ 33 → j ≠ x → (f_sends s x H).2 F j = s F j := by
  have hl := h.1
  have o2 : ∀ (s : mS) v F G j, j ≠ x → su s G x v F j = s F j := fun s v F G j hj => by rw [su_get, if_neg (fun q => hj q.2)]
  unfold f_sends
  split
  · exact ⟨L, Nat.le_refl _, siv_su h (by decide) (by decide), fun F j _ _ hj => o2 _ _ _ _ _ hj⟩
  · have e48 : ∀ k j, k ≠ 48 → (su s 48 0 0) k j = s k j := fun k j q => su_other _ _ q
    have s1 : siv (su s 48 0 0) P S L H := siv_su h (by decide) (by decide)
    have l1 := s1.1
    have hw1 : ¬ (su s 48 0 0) 24 x < 0 → ∃ q, q < P ∧ (su s 48 0 0) 24 x = nI q := by rw [e48 _ _ (by decide)]; exact hw
    have hA1 : (su s 48 0 0) 47 0 = nI A := by rw [e48 _ _ (by decide)]; exact hA
    obtain ⟨q1, q2, ⟨A', c1, c2, c3⟩, q4, q5⟩ := seek_ok (x := x) (H := H) (lead := -1) hP l1 hA1 hw1 (Or.inr rfl)
    have in1 := seek_in' (x := x) (H := H) (lead := -1) hP l1 hw1
    rw [nL_eq hl hP]
    generalize f_seek (su s 48 0 0) x H (-1) L = r at q1 q2 c1 q4 q5 in1 ⊢
    obtain ⟨first, s2⟩ := r
    simp only at q1 q2 c1 q4 q5 in1 ⊢
    have v2 : siv s2 P S L H := siv_o s1 q1 in1 (fun j => q2 _ _ (by omega) (by omega)) (fun j => q2 _ _ (by omega) (by omega)) (fun j => q2 _ _ (by omega) (by omega)) (fun F j h1 h2 => q2 _ _ (by omega) (by omega))
    have main : ∀ (other : Int32) (s3 : mS), siv s3 P S L H → (∀ F j, 26 ≤ F → F ≤ 33 → s3 F j = s F j) → (first = -1 ∨ inL s3 L first) → (other = -1 ∨ (other ≠ first ∧ inL s3 L other)) → ∃ L', L' ≤ L ∧ siv (snC x H first (other, s3)).2 P S L' H ∧ ∀ F j, 26 ≤ F → F ≤ 33 → j ≠ x → (snC x H first (other, s3)).2 F j = s F j := by
      intro other s3 v3 o3 hf ho
      unfold snC
      simp only
      split
      · simp only
        split
        · exact ⟨L, Nat.le_refl _, siv_su v3 (by decide) (by decide), fun F j h1 h2 hj => (o2 _ _ _ _ _ hj).trans (o3 F j h1 h2)⟩
        · exact ⟨L, Nat.le_refl _, siv_su v3 (by decide) (by decide), fun F j h1 h2 hj => (o2 _ _ _ _ _ hj).trans (o3 F j h1 h2)⟩
      · next hne =>
        have hf := hf.resolve_left (fun q => hne (Or.inl q))
        obtain ⟨p, hp, rfl⟩ := inL_p v3.1 hf
        simp only
        generalize hs4 : su (su (su (su s3 26 x 1) 27 x (nI H)) 28 x (nI p)) 29 x other = s4
        have o4 : ∀ F j, F < 26 ∨ 29 < F → s4 F j = s3 F j := fun F j hF => by
          rw [← hs4, su_other _ _ (by omega), su_other _ _ (by omega), su_other _ _ (by omega), su_other _ _ (by omega)]
        have o4x : ∀ F j, j ≠ x → s4 F j = s3 F j := fun F j hj => by
          rw [← hs4, o2 _ _ _ _ _ hj, o2 _ _ _ _ _ hj, o2 _ _ _ _ _ hj, o2 _ _ _ _ _ hj]
        have m4 : mid s4 P S L H x := by
          rw [← hs4]
          exact mid_su (mid_su (mid_su (mid_su (siv_mid v3) (by decide)) (by decide)) (by decide)) (by decide)
        have e26 : s4 26 x = 1 := by rw [← hs4]; simp [su]
        have e27 : s4 27 x = nI H := by rw [← hs4]; simp [su]
        have e28 : s4 28 x = nI p := by rw [← hs4]; simp [su]
        have e29 : s4 29 x = other := by rw [← hs4]; simp [su]
        have i4 : inL s4 L (nI p) := inL_o hf (fun j => o4 _ _ (by decide))
        have bo : ∀ (s : mS) (v : Int32) k j, k ≠ 8 → k ≠ 9 → k ≠ 13 → k ≠ 17 → k ≠ 18 → k ≠ 49 → bd s v x (nI H) k j = s k j := fun s v k j h1 h2 h3 h4 h5 h6 => bd_o _ _ _ _ h1 h2 h3 h4 h5 h6 j
        have m5 := mid_bd (t := nI H) hP hx hp m4 i4
        have n5 := onb_new (t := nI H) hP hp m4 i4
        unfold snD
        by_cases a : other = -1
        · rw [if_pos a]
          obtain ⟨L', w1, w2, w3⟩ := snE_inv hP hH hx m5 (by rw [bo _ _ _ _ (by decide) (by decide) (by decide) (by decide) (by decide) (by decide)]; exact e26) (by rw [bo _ _ _ _ (by decide) (by decide) (by decide) (by decide) (by decide) (by decide)]; exact e27) (by rw [bo _ _ _ _ (by decide) (by decide) (by decide) (by decide) (by decide) (by decide), e28]; exact n5) (by rw [bo _ _ _ _ (by decide) (by decide) (by decide) (by decide) (by decide) (by decide), e29, a]; exact Or.inl rfl) (by
            rw [bo _ _ 28 _ (by decide) (by decide) (by decide) (by decide) (by decide) (by decide), bo _ _ 29 _ (by decide) (by decide) (by decide) (by decide) (by decide) (by decide), e28, e29, a]
            exact Or.inr (nI_nm1 (by omega))) (fun v hv => by
            rw [bo _ _ 28 _ (by decide) (by decide) (by decide) (by decide) (by decide) (by decide), bo _ _ 29 _ (by decide) (by decide) (by decide) (by decide) (by decide) (by decide), e28, e29, a]
            obtain ⟨y1, y2⟩ := bd_in' hP m4.1 i4 hv
            obtain ⟨q, hq, rfl⟩ := inL_p m4.1 y1
            exact ⟨y2, nI_nm1 (by omega)⟩)
          exact ⟨L', by omega, w2, fun F j h1 h2 hj => by rw [w3 F j h1 h2 hj, bo _ _ _ _ (by omega) (by omega) (by omega) (by omega) (by omega) (by omega), o4x _ _ hj]; exact o3 F j h1 h2⟩
        · rw [if_neg a]
          have ho := ho.resolve_left a
          have i5 := (bd_l (x := x) (t := nI H) hP m4.1 i4).2 other ho.1 (inL_o ho.2 (fun j => o4 _ _ (by decide)))
          obtain ⟨q, hq, rfl⟩ := inL_p m5.1 i5
          have m6 := mid_bd (t := nI H) hP hx hq m5 i5
          have n6 := onb_new (t := nI H) hP hq m5 i5
          obtain ⟨L', w1, w2, w3⟩ := snE_inv hP hH hx m6 (by rw [bo _ _ _ _ (by decide) (by decide) (by decide) (by decide) (by decide) (by decide), bo _ _ _ _ (by decide) (by decide) (by decide) (by decide) (by decide) (by decide)]; exact e26) (by rw [bo _ _ _ _ (by decide) (by decide) (by decide) (by decide) (by decide) (by decide), bo _ _ _ _ (by decide) (by decide) (by decide) (by decide) (by decide) (by decide)]; exact e27) (by rw [bo _ _ _ _ (by decide) (by decide) (by decide) (by decide) (by decide) (by decide), bo _ _ _ _ (by decide) (by decide) (by decide) (by decide) (by decide) (by decide), e28]; exact onb_bd (S := S) (L := L - 1) (H := H) hP hq m5.1 n5) (by rw [bo _ _ _ _ (by decide) (by decide) (by decide) (by decide) (by decide) (by decide), bo _ _ _ _ (by decide) (by decide) (by decide) (by decide) (by decide) (by decide), e29]; exact n6) (by
            rw [bo _ _ 28 _ (by decide) (by decide) (by decide) (by decide) (by decide) (by decide), bo _ _ 29 _ (by decide) (by decide) (by decide) (by decide) (by decide) (by decide), bo _ _ 28 _ (by decide) (by decide) (by decide) (by decide) (by decide) (by decide), bo _ _ 29 _ (by decide) (by decide) (by decide) (by decide) (by decide) (by decide), e28, e29]
            exact Or.inr (Ne.symm ho.1)) (fun v hv => by
            rw [bo _ _ 28 _ (by decide) (by decide) (by decide) (by decide) (by decide) (by decide), bo _ _ 29 _ (by decide) (by decide) (by decide) (by decide) (by decide) (by decide), bo _ _ 28 _ (by decide) (by decide) (by decide) (by decide) (by decide) (by decide), bo _ _ 29 _ (by decide) (by decide) (by decide) (by decide) (by decide) (by decide), e28, e29]
            obtain ⟨y1, y2⟩ := bd_in' hP m5.1 i5 hv
            obtain ⟨y3, y4⟩ := bd_in' hP m4.1 i4 y1
            exact ⟨y4, y2⟩)
          exact ⟨L', by omega, w2, fun F j h1 h2 hj => by rw [w3 F j h1 h2 hj, bo _ _ _ _ (by omega) (by omega) (by omega) (by omega) (by omega) (by omega), bo _ _ _ _ (by omega) (by omega) (by omega) (by omega) (by omega) (by omega), o4x _ _ hj]; exact o3 F j h1 h2⟩
    unfold snB
    simp only
    have hf : first = -1 ∨ inL s2 L first := q5.imp id (fun q => q.2)
    have o3 : ∀ F j, 26 ≤ F → F ≤ 33 → s2 F j = s F j := fun F j h1 h2 => by rw [q2 _ _ (by omega) (by omega), e48 _ _ (by omega)]
    split
    · next hc =>
      have hneg : s2 24 x < 0 := by rw [hc.2]; decide
      obtain ⟨r1, r2, ⟨A2, d1, d2, d3⟩, r4, r5⟩ := seek_ok (x := x) (H := H) (lead := first) hP q1 c1 (fun q => absurd hneg q) (Or.inl hneg)
      have in2 := seek_in' (x := x) (H := H) (lead := first) hP q1 (fun q => absurd hneg q)
      rw [nL_eq q1 hP]
      generalize f_seek s2 x H first L = r2' at r1 r2 d1 r4 r5 in2 ⊢
      obtain ⟨other, s3⟩ := r2'
      simp only at r1 r2 d1 r4 r5 in2
      exact main _ _ (siv_o v2 r1 in2 (fun j => r2 _ _ (by omega) (by omega)) (fun j => r2 _ _ (by omega) (by omega)) (fun j => r2 _ _ (by omega) (by omega)) (fun F j h1 h2 => r2 _ _ (by omega) (by omega))) (fun F j h1 h2 => by rw [r2 _ _ (by omega) (by omega)]; exact o3 F j h1 h2) (Or.inr (r4 _ (hf.resolve_left hc.1))) r5
    · exact main _ _ v2 o3 hf (Or.inl rfl)
