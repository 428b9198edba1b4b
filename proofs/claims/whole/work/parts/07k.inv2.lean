/-! ===== a sending keeps ships and pilots in order ===== -/
/-- while x is sent -/
def mid (s : mS) (P S L H x : Nat) : Prop := lOK s P L ∧ (∀ y, y < S → y ≠ x → shI s P y) ∧ plI s P S L ∧ (∀ y, y < S → y ≠ x → s 26 y = 1 → s 27 y = nI H → ∀ p, p < P → (s 28 y = nI p ∨ s 29 y = nI p ∨ s 30 y = nI p) → ¬ s 16 p = -1) ∧ (∀ p, p < P → inL s L (nI p) → ¬ s 16 p = -1)
theorem siv_mid {s : mS} {P S L H x : Nat} (h : siv s P S L H) : mid s P S L H x := ⟨h.1, fun y hy _ => h.2.1 y hy, h.2.2.1, fun y hy _ => h.2.2.2.1 y hy, h.2.2.2.2⟩
theorem mid_su {s : mS} {P S L H x F : Nat} {v : Int32} (h : mid s P S L H x) (hF : 26 ≤ F ∧ F ≤ 33) : mid (su s F x v) P S L H x := by
  obtain ⟨a, b, c, d, e⟩ := h
  have o1 : ∀ k j, k < 26 → su s F x v k j = s k j := fun k j hk => su_other _ _ (by omega)
  have o2 : ∀ k j, j ≠ x → su s F x v k j = s k j := fun k j hj => by rw [su_get, if_neg (fun q => hj q.2)]
  have li : ∀ w, inL (su s F x v) L w → inL s L w := fun w hw => inL_o hw (fun j => (o1 _ _ (by decide)).symm)
  refine ⟨lOK_o a (fun j => o1 _ _ (by decide)) (o1 _ _ (by decide)), fun y hy hne => shI_o (b y hy hne) (fun F h1 h2 => o2 _ _ hne) (fun p _ q1 q2 => ⟨by rw [o1 _ _ (by decide)]; exact q1, by rw [o1 _ _ (by decide)]; exact q2⟩), ⟨fun p hp => ?_, fun p hp hi => ?_⟩, fun y hy hne => ?_, fun p hp hi => ?_⟩
  · rw [o1 _ _ (by decide), o1 _ _ (by decide)]; exact c.1 p hp
  · rw [o1 _ _ (by decide)]; exact c.2 p hp (li _ hi)
  · rw [o2 _ _ hne, o2 _ _ hne, o2 _ _ hne, o2 _ _ hne, o2 _ _ hne]
    intro q1 q2 p hp q3
    rw [o1 _ _ (by decide)]
    exact d y hy hne q1 q2 p hp q3
  · rw [o1 _ _ (by decide)]; exact e p hp (li _ hi)
theorem mid_bd {s : mS} {P S L H x p : Nat} {t : Int32} (hP : P ≤ 60) (hx : x < S) (hp : p < P) (h : mid s P S L H x) (hv : inL s L (nI p)) : mid (bd s (nI p) x t) P S (L - 1) H x := by
  obtain ⟨a, b, c, d, e⟩ := h
  have e8 := fun j => bd_8 (x := x) (t := t) hP hp a j
  have o1 : ∀ k j, k ≠ 8 → k ≠ 9 → k ≠ 13 → k ≠ 17 → k ≠ 18 → k ≠ 49 → bd s (nI p) x t k j = s k j := fun k j h1 h2 h3 h4 h5 h6 => bd_o _ _ _ _ h1 h2 h3 h4 h5 h6 j
  have np : ¬ s 8 p = 2 := c.2 p hp hv
  refine ⟨(bd_l hP a hv).1, fun y hy hne => shI_o (b y hy hne) (fun F h1 h2 => o1 _ _ (by omega) (by omega) (by omega) (by omega) (by omega) (by omega)) (fun q hq q1 q2 => ?_), ⟨fun q hq => ?_, fun q hq hi => ?_⟩, fun y hy hne => ?_, fun q hq hi => ?_⟩
  · have : q ≠ p := fun w => np (by rw [← w]; exact q1)
    rw [(e8 q).1, (e8 q).2, if_neg this, if_neg this]
    exact ⟨q1, q2⟩
  · rw [(e8 q).1, (e8 q).2]
    by_cases w : q = p
    · rw [if_pos w, if_pos w]
      exact ⟨fun _ => ⟨x, hx, rfl⟩, fun z => absurd rfl z⟩
    · rw [if_neg w, if_neg w]; exact c.1 q hq
  · obtain ⟨i1, i2⟩ := bd_in' hP a hv hi
    have : q ≠ p := fun w => i2 (by rw [w])
    rw [(e8 q).1, if_neg this]
    exact c.2 q hq i1
  · rw [o1 26 _ (by decide) (by decide) (by decide) (by decide) (by decide) (by decide), o1 27 _ (by decide) (by decide) (by decide) (by decide) (by decide) (by decide), o1 28 _ (by decide) (by decide) (by decide) (by decide) (by decide) (by decide), o1 29 _ (by decide) (by decide) (by decide) (by decide) (by decide) (by decide), o1 30 _ (by decide) (by decide) (by decide) (by decide) (by decide) (by decide)]
    intro q1 q2 q hq q3
    rw [o1 _ _ (by decide) (by decide) (by decide) (by decide) (by decide) (by decide)]
    exact d y hy hne q1 q2 q hq q3
  · rw [o1 _ _ (by decide) (by decide) (by decide) (by decide) (by decide) (by decide)]
    exact e q hq (bd_in' hP a hv hi).1
/-- v is aboard of x, its place marked -/
def onb (s : mS) (P x : Nat) (v : Int32) : Prop := v = -1 ∨ ∃ p, p < P ∧ v = nI p ∧ s 8 p = 2 ∧ s 13 p = nI x ∧ ¬ s 16 p = -1
theorem onb_bd {s : mS} {P S L H x p : Nat} {t v : Int32} (hP : P ≤ 60) (hp : p < P) (hl : lOK s P L) (h : onb s P x v) : onb (bd s (nI p) x t) P x v := by
  rcases h with q | ⟨q, q1, q2, q3, q4, q5⟩
  · exact Or.inl q
  · refine Or.inr ⟨q, q1, q2, ?_, ?_, ?_⟩
    · rw [(bd_8 hP hp hl q).1]; split <;> simp [q3]
    · rw [(bd_8 hP hp hl q).2]; split <;> simp [q4]
    · rw [bd_o _ _ _ _ (by decide) (by decide) (by decide) (by decide) (by decide) (by decide)]; exact q5
theorem onb_new {s : mS} {P S L H x p : Nat} {t : Int32} (hP : P ≤ 60) (hp : p < P) (h : mid s P S L H x) (hv : inL s L (nI p)) : onb (bd s (nI p) x t) P x (nI p) := by
  refine Or.inr ⟨p, hp, rfl, ?_, ?_, ?_⟩
  · rw [(bd_8 hP hp h.1 p).1, if_pos rfl]
  · rw [(bd_8 hP hp h.1 p).2, if_pos rfl]
  · rw [bd_o _ _ _ _ (by decide) (by decide) (by decide) (by decide) (by decide) (by decide)]; exact h.2.2.2.2 p hp hv
theorem onb_su {s : mS} {P x F j : Nat} {v w : Int32} (hF : F ≠ 8 ∧ F ≠ 13 ∧ F ≠ 16) (h : onb s P x v) : onb (su s F j w) P x v := by
  rcases h with q | ⟨q, q1, q2, q3, q4, q5⟩
  · exact Or.inl q
  · exact Or.inr ⟨q, q1, q2, by rw [su_other _ _ (by omega)]; exact q3, by rw [su_other _ _ (by omega)]; exact q4, by rw [su_other _ _ (by omega)]; exact q5⟩
theorem onb_rl {s : mS} {P x : Nat} {v : Int32} (h : onb s P x v) : rl s P x v := by
  rcases h with q | ⟨q, q1, q2, q3, q4, q5⟩
  · exact Or.inl q
  · exact Or.inr ⟨q, q1, q2, q3, q4⟩
theorem onb_pm {s : mS} {P x : Nat} {v : Int32} (h : onb s P x v) : pmP P v := by
  rcases h with q | ⟨q, q1, q2, q3, q4, q5⟩
  · exact Or.inl q
  · exact Or.inr ⟨q, q1, q2⟩
/-- at the end of it -/
theorem mid_end {s : mS} {P S L H x : Nat} (hP : P ≤ 60) (hH : H < 9600) (h : mid s P S L H x) (h27 : s 27 x = nI H) (h26 : s 26 x = 1) (o28 : onb s P x (s 28 x)) (o29 : onb s P x (s 29 x)) (o30 : onb s P x (s 30 x)) (hd : dst s x) : siv s P S L H := by
  refine ⟨h.1, fun y hy => ?_, h.2.2.1, ⟨fun y hy q1 q2 p hp q3 => ?_, h.2.2.2.2⟩⟩
  · by_cases e : y = x
    · subst e
      exact ⟨fun _ => ⟨⟨H, hH, h27⟩, onb_rl o28, onb_rl o29, onb_rl o30, hd⟩, fun q => by rw [h26] at q; exact absurd q (by decide), onb_pm o28, onb_pm o29, onb_pm o30⟩
    · exact h.2.1 y hy e
  · by_cases e : y = x
    · subst e
      have key : ∀ v, onb s P y v → v = nI p → ¬ s 16 p = -1 := by
        intro v hv ev
        rcases hv with q | ⟨q, w1, w2, w3, w4, w5⟩
        · rw [ev] at q; exact absurd q (nI_nm1 (by omega))
        · have : q = p := (nI_eq (by omega) (by omega)).mp (w2.symm.trans ev)
          rw [← this]; exact w5
      rcases q3 with q | q | q
      · exact key _ o28 q
      · exact key _ o29 q
      · exact key _ o30 q
    · exact h.2.2.2.1 y hy e q1 q2 p hp q3
