/-! ===== the order in which ships are sent ===== -/
abbrev pr (len : Nat → Int) (a b : Nat) : Prop := len b < len a ∨ (len a = len b ∧ a < b)
/-- how many of the first i are of the kind -/
def cnt (W : Nat → Prop) (u : Nat → Nat) (hW : ∀ y, Decidable (W y)) : Nat → Nat
  | 0 => 0
  | i + 1 => cnt W u hW i + (@ite _ (W (u i)) (hW _) 1 0)
theorem cnt_mono {W : Nat → Prop} {u : Nat → Nat} {hW : ∀ y, Decidable (W y)} {i j : Nat} (h : i ≤ j) : cnt W u hW i ≤ cnt W u hW j := by
  induction j with
  | zero => have : i = 0 := by omega
            subst this; exact Nat.le_refl _
  | succ j ih =>
    by_cases e : i = j + 1
    · subst e; exact Nat.le_refl _
    · have := ih (by omega)
      rw [cnt]
      omega
theorem cnt_lt {W : Nat → Prop} {u : Nat → Nat} {hW : ∀ y, Decidable (W y)} {i j : Nat} (h : i < j) (hw : W (u i)) : cnt W u hW i < cnt W u hW j := by
  have h1 : cnt W u hW (i + 1) = cnt W u hW i + 1 := by rw [cnt, if_pos hw]
  have h2 := cnt_mono (W := W) (u := u) (hW := hW) (show i + 1 ≤ j from h)
  omega
/-- two orders of the same ships are one -/
theorem order_eq {W : Nat → Prop} {u w : Nat → Nat} {hW : ∀ y, Decidable (W y)} {len : Nat → Int} {S M : Nat} (hu : ∀ i j, i < j → j < S → pr len (u i) (u j)) (hus : ∀ y, y < S → ∃ i, i < S ∧ u i = y) (hur : ∀ i, i < S → u i < S) (hw : ∀ i j, i < j → j < M → pr len (w i) (w j)) (hws : ∀ y, (∃ a, a < M ∧ w a = y) ↔ (y < S ∧ W y)) : (∀ i, i < S → W (u i) → cnt W u hW i < M ∧ w (cnt W u hW i) = u i) ∧ cnt W u hW S = M := by
  have main : ∀ n i, i ≤ n → i < S → W (u i) → cnt W u hW i < M ∧ w (cnt W u hW i) = u i := by
    intro n
    induction n using Nat.strongRecOn with
    | _ n ih =>
      intro i hi hiS hWi
      by_cases e : i < n
      · exact ih i e i (Nat.le_refl _) hiS hWi
      · have e : i = n := by omega
        subst e
        have ih : ∀ j, j < i → W (u j) → cnt W u hW j < M ∧ w (cnt W u hW j) = u j := fun j hj hWj => ih j hj j (Nat.le_refl _) (by omega) hWj
        obtain ⟨m, hm, em⟩ := (hws (u i)).mpr ⟨hur i hiS, hWi⟩
        -- what lies ahead of cnt i is among the earlier ones
        have bef : ∀ k, k < cnt W u hW i → ∃ j, j < i ∧ W (u j) ∧ cnt W u hW j = k := by
          have : ∀ t, t ≤ i → ∀ k, k < cnt W u hW t → ∃ j, j < t ∧ W (u j) ∧ cnt W u hW j = k := by
            intro t
            induction t with
            | zero => intro _ k hk; rw [cnt] at hk; omega
            | succ t iht =>
              intro ht k hk
              by_cases q : k < cnt W u hW t
              · obtain ⟨j, a1, a2, a3⟩ := iht (by omega) k q
                exact ⟨j, by omega, a2, a3⟩
              · rw [cnt] at hk
                by_cases c : W (u t)
                · rw [if_pos c] at hk
                  exact ⟨t, by omega, c, by omega⟩
                · rw [if_neg c] at hk; omega
          exact this i (Nat.le_refl _)
        have m1 : ¬ m < cnt W u hW i := by
          intro q
          obtain ⟨j, a1, a2, a3⟩ := bef m q
          have := (ih j a1 a2).2
          rw [a3, em] at this
          have h2 := hu j i a1 hiS
          rw [← this] at h2
          omega
        have m2 : ¬ cnt W u hW i < m := by
          intro q
          have h1 := hw (cnt W u hW i) m q hm
          rw [em] at h1
          obtain ⟨hy, hWy⟩ := (hws (w (cnt W u hW i))).mp ⟨_, by omega, rfl⟩
          obtain ⟨j, j1, j2⟩ := hus _ hy
          have j3 : j < i := by
            by_cases x : j = i
            · subst x; rw [j2] at h1; omega
            · by_cases y : i < j
              · have h3 := hu i j y j1
                rw [j2] at h3
                omega
              · omega
          rw [← j2] at hWy
          have h4 := (ih j j3 hWy).2
          have h5 := cnt_lt (W := W) (u := u) (hW := hW) j3 hWy
          have h6 := hw _ _ h5 (by omega)
          rw [h4, j2] at h6
          omega
        have : m = cnt W u hW i := by omega
        subst this
        exact ⟨hm, em⟩
  refine ⟨fun i hi hWi => main i i (Nat.le_refl _) hi hWi, ?_⟩
  have le : ∀ t, t ≤ S → cnt W u hW t ≤ M := by
    intro t
    induction t with
    | zero => intro _; rw [cnt]; omega
    | succ t iht =>
      intro ht
      rw [cnt]
      by_cases c : W (u t)
      · rw [if_pos c]
        have := (main t t (Nat.le_refl _) (by omega) c).1
        omega
      · rw [if_neg c]
        have := iht (by omega)
        omega
  have h1 := le S (Nat.le_refl _)
  by_cases q : cnt W u hW S < M
  · exfalso
    obtain ⟨hy, hWy⟩ := (hws (w (cnt W u hW S))).mp ⟨_, q, rfl⟩
    obtain ⟨j, j1, j2⟩ := hus _ hy
    rw [← j2] at hWy
    have h4 := (main j j (Nat.le_refl _) j1 hWy).2
    have h5 := cnt_lt (W := W) (u := u) (hW := hW) j1 hWy
    have h6 := hw _ _ h5 q
    rw [h4, j2] at h6
    omega
  · omega
/-- where a ship comes into the queue -/
theorem qi_pos (x : Nat) : ∀ (a : Nat) (s : mS), ∃ b, b ≤ a ∧ (∀ j, j ≤ a → qiS x a s 50 j = if j < b then s 50 j else if j = b then nI x else s 50 (j - 1)) ∧ (b = 0 ∨ ¬ s 21 (s 50 (b - 1)).toNatClampNeg < s 21 x) ∧ (∀ j, b ≤ j → j < a → s 21 (s 50 j).toNatClampNeg < s 21 x) := by
  have e : ∀ (b : Nat) (s : mS) (v : Int32) (j : Nat), su s 50 b v 50 j = if j = b then v else s 50 j := fun b s v j => by simp [su]
  have e21 : ∀ (b : Nat) (s : mS) (v : Int32) (j : Nat), su s 50 b v 21 j = s 21 j := fun b s v j => by simp [su]
  have hi : ∀ (b : Nat) (s : mS) (j : Nat), b < j → qiS x b s 50 j = s 50 j := by
    intro b
    induction b with
    | zero => intro s j hj; rw [qiS, e, if_neg (by omega)]
    | succ b ih =>
      intro s j hj
      rw [qiS]
      split
      · rw [ih _ _ (by omega), e, if_neg (by omega)]
      · rw [e, if_neg (by omega)]
  intro a
  induction a with
  | zero =>
    intro s
    refine ⟨0, Nat.le_refl _, fun j hj => ?_, Or.inl rfl, fun j h1 h2 => by omega⟩
    have : j = 0 := by omega
    subst this
    rw [qiS, e, if_pos rfl, if_neg (by omega)]
  | succ a ih =>
    intro s
    rw [show qiS x (a + 1) s = if s 21 (s 50 a).toNatClampNeg < s 21 x then qiS x a (su s 50 (a + 1) (s 50 a)) else su s 50 (a + 1) (nI x) from rfl]
    by_cases c : s 21 (s 50 a).toNatClampNeg < s 21 x
    · rw [if_pos c]
      obtain ⟨b, b1, b2, b3, b4⟩ := ih (su s 50 (a + 1) (s 50 a))
      refine ⟨b, by omega, fun j hj => ?_, ?_, fun j h1 h2 => ?_⟩
      · by_cases q : j = a + 1
        · subst q
          rw [hi _ _ _ (by omega), e, if_pos rfl, if_neg (by omega), if_neg (by omega), Nat.add_sub_cancel]
        · rw [b2 j (by omega), e, e, if_neg q, if_neg (show ¬ j - 1 = a + 1 by omega)]
      · rcases b3 with h | h
        · exact Or.inl h
        · refine Or.inr ?_
          rw [e, e21, e21] at h
          rw [if_neg (by omega)] at h
          exact h
      · by_cases q : j = a
        · subst q; exact c
        · have := b4 j h1 (by omega)
          rw [e, e21, e21, if_neg (by omega)] at this
          exact this
    · rw [if_neg c]
      refine ⟨a + 1, Nat.le_refl _, fun j hj => ?_, Or.inr c, fun j h1 h2 => by omega⟩
      rw [e]
      by_cases q : j = a + 1
      · rw [if_pos q, if_neg (by omega), if_pos q]
      · rw [if_neg q, if_pos (by omega)]
abbrev ln (s : mS) : Nat → Int := fun y => (s 21 y).toInt
/-- the queue is in order, and has all that wait -/
theorem qu_ord (t : Int32) {S : Nat} (hS : S ≤ 400) : ∀ (f x n : Nat) (s : mS), x + f = S → n ≤ x → (∀ j, j < n → ∃ y, y < x ∧ s 50 j = nI y) → (∀ i j, i < j → j < n → pr (ln s) (s 50 i).toNatClampNeg (s 50 j).toNatClampNeg) → (∀ y, (∃ a, a < n ∧ (s 50 a).toNatClampNeg = y) ↔ (y < x ∧ s 26 y = 0 ∧ s 23 y ≤ t)) → (∀ i j, i < j → j < (quS t f x n s).1 → pr (ln s) ((quS t f x n s).2 50 i).toNatClampNeg ((quS t f x n s).2 50 j).toNatClampNeg) ∧ (∀ y, (∃ a, a < (quS t f x n s).1 ∧ ((quS t f x n s).2 50 a).toNatClampNeg = y) ↔ (y < S ∧ s 26 y = 0 ∧ s 23 y ≤ t)) := by
  intro f
  induction f with
  | zero =>
    intro x n s h1 h2 h3 h4 h5
    have : x = S := by omega
    subst this
    exact ⟨h4, h5⟩
  | succ f ih =>
    intro x n s h1 h2 h3 h4 h5
    rw [quS]
    by_cases c : s 26 x = 0 ∧ s 23 x ≤ t
    · rw [if_pos c]
      obtain ⟨b, b1, b2, b3, b4⟩ := qi_pos x n s
      have o_ : ∀ k j, k ≠ 50 → qiS x n s k j = s k j := fun k j hk => qiS_o x n s hk j
      have cl : ∀ y, y < S → (nI y).toNatClampNeg = y := fun y hy => nI_clamp (by omega)
      have lnE : ln (qiS x n s) = ln s := funext fun y => by simp only [ln]; rw [o_ _ _ (by decide)]
      have cx := cl x (by omega)
      -- those ahead are not shorter
      have ahead : ∀ j, j < b → ¬ s 21 (s 50 j).toNatClampNeg < s 21 x := by
        intro j hj
        rcases b3 with q | q
        · omega
        · by_cases e : j = b - 1
          · subst e; exact q
          · have := h4 j (b - 1) (by omega) (by omega)
            intro w
            rw [Int32.lt_iff_toInt_lt] at w q
            simp only [pr, ln] at this
            omega
      have := ih (x + 1) (n + 1) (qiS x n s) (by omega) (by omega) (fun j hj => ?_) (fun i j hij hj => ?_) (fun y => ?_)
      · rw [lnE] at this
        refine ⟨this.1, fun y => ?_⟩
        rw [this.2 y, o_ _ _ (by decide), o_ _ _ (by decide)]
      · rw [b2 j (by omega)]
        by_cases q1 : j < b
        · rw [if_pos q1]
          obtain ⟨y, y1, y2⟩ := h3 j (by omega)
          exact ⟨y, by omega, y2⟩
        · rw [if_neg q1]
          by_cases q2 : j = b
          · rw [if_pos q2]; exact ⟨x, by omega, rfl⟩
          · rw [if_neg q2]
            obtain ⟨y, y1, y2⟩ := h3 (j - 1) (by omega)
            exact ⟨y, by omega, y2⟩
      · rw [lnE, b2 i (by omega), b2 j (by omega)]
        by_cases i1 : i < b
        · rw [if_pos i1]
          by_cases j1 : j < b
          · rw [if_pos j1]; exact h4 i j hij (by omega)
          · rw [if_neg j1]
            by_cases j2 : j = b
            · rw [if_pos j2, cx]
              have a1 := ahead i i1
              obtain ⟨y, y1, y2⟩ := h3 i (by omega)
              rw [y2, cl y (by omega)] at a1 ⊢
              rw [Int32.lt_iff_toInt_lt] at a1
              simp only [pr, ln]
              omega
            · rw [if_neg j2]; exact h4 i (j - 1) (by omega) (by omega)
        · rw [if_neg i1]
          rw [if_neg (show ¬ j < b by omega), if_neg (show ¬ j = b by omega)]
          by_cases i2 : i = b
          · rw [if_pos i2, cx]
            have := b4 (j - 1) (by omega) (by omega)
            rw [Int32.lt_iff_toInt_lt] at this
            simp only [pr, ln]
            omega
          · rw [if_neg i2]; exact h4 (i - 1) (j - 1) (by omega) (by omega)
      · rw [o_ _ _ (by decide), o_ _ _ (by decide)]
        constructor
        · rintro ⟨a, a1, a2⟩
          rw [b2 a (by omega)] at a2
          by_cases q1 : a < b
          · rw [if_pos q1] at a2
            obtain ⟨w1, w2⟩ := (h5 y).mp ⟨a, by omega, a2⟩
            exact ⟨by omega, w2⟩
          · rw [if_neg q1] at a2
            by_cases q2 : a = b
            · rw [if_pos q2, cx] at a2
              subst a2
              exact ⟨by omega, c⟩
            · rw [if_neg q2] at a2
              obtain ⟨w1, w2⟩ := (h5 y).mp ⟨a - 1, by omega, a2⟩
              exact ⟨by omega, w2⟩
        · rintro ⟨w1, w2⟩
          by_cases q : y = x
          · subst q
            refine ⟨b, by omega, ?_⟩
            rw [b2 b b1, if_neg (by omega), if_pos rfl, cx]
          · obtain ⟨a, a1, a2⟩ := (h5 y).mpr ⟨by omega, w2⟩
            by_cases q1 : a < b
            · exact ⟨a, by omega, by rw [b2 a (by omega), if_pos q1]; exact a2⟩
            · refine ⟨a + 1, by omega, ?_⟩
              rw [b2 (a + 1) (by omega), if_neg (by omega), if_neg (by omega), Nat.add_sub_cancel]
              exact a2
    · rw [if_neg c]
      have := ih (x + 1) n s (by omega) (by omega) (fun j hj => by
        obtain ⟨y, y1, y2⟩ := h3 j hj
        exact ⟨y, by omega, y2⟩) h4 (fun y => by
        rw [h5 y]
        constructor
        · rintro ⟨w1, w2⟩; exact ⟨by omega, w2⟩
        · rintro ⟨w1, w2⟩
          by_cases q : y = x
          · subst q; exact absurd w2 c
          · exact ⟨by omega, w2⟩)
      exact this
