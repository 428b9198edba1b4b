/-! ===== the class's lists ===== -/
def rwf (A : Nat → Nat → Nat) (s o : mS) (l : Nat) : Nat → Value := lC (sz s o l).toNatClampNeg (fun j => .ref (A (lk l) (nu s o l j)))
/-- only the list l has changed -/
def lch (l : Nat) (s o s' o' : mS) : Prop := (∀ F j, ownS F j ≠ (l + 1, 0) → s' F j = s F j) ∧ (∀ F j, ownO F j ≠ (l + 1, 0) → o' F j = o F j)
section CL
variable {g : Nat × Nat × Nat} {A : Nat → Nat → Nat} {z z' : zT} {s o s' o' : mS} {P S l : Nat}
theorem cl_ob (hl : l < 6) : ccell A z s o (l + 1) 0 = lob z s o l := by
  match l, hl with
  | 0, _ => rfl
  | 1, _ => rfl
  | 2, _ => rfl
  | 3, _ => rfl
  | 4, _ => rfl
  | 5, _ => rfl
theorem cl_rw (hl : l < 6) : ccell A z s o (l + 7) 0 = .inr (2, z.1.2.2 l, rwf A s o l) := by
  match l, hl with
  | 0, _ => rfl
  | 1, _ => rfl
  | 2, _ => rfl
  | 3, _ => rfl
  | 4, _ => rfl
  | 5, _ => rfl
theorem ad_ob (hl : l < 6) : ad A z (l + 1) 0 = A (l + 1) 0 := by
  match l, hl with
  | 0, _ => rfl
  | 1, _ => rfl
  | 2, _ => rfl
  | 3, _ => rfl
  | 4, _ => rfl
  | 5, _ => rfl
theorem ad_rw (hl : l < 6) : ad A z (l + 7) 0 = z.1.2.1 l := by
  match l, hl with
  | 0, _ => rfl
  | 1, _ => rfl
  | 2, _ => rfl
  | 3, _ => rfl
  | 4, _ => rfl
  | 5, _ => rfl
theorem ad_o {k i : Nat} (hk : ¬ (7 ≤ k ∧ k ≤ 12)) : ad A z k i = A k i := by
  unfold ad
  split <;> first | rfl | omega
theorem ad_z {k i : Nat} (hl : l < 6) (h : ∀ x, x ≠ l → z'.1.2.1 x = z.1.2.1 x) (hk : k ≠ l + 7) : ad A z' k i = ad A z k i := by
  unfold ad
  split <;> first | rfl | exact h _ (by omega)
theorem lv_ob (hl : l < 6) : lv z P S (l + 1) 0 := Or.inl ⟨by omega, rfl, fun a b => by omega⟩
theorem lv_rw (hl : l < 6) (hc : z.1.2.2 l ≠ 0) : lv z P S (l + 7) 0 := Or.inl ⟨by omega, rfl, fun a b => by rw [Nat.add_sub_cancel]; exact hc⟩
theorem ccell_z {k i : Nat} (hk : k < 37) (h : ∀ x, x ≠ l → z'.1.2.1 x = z.1.2.1 x ∧ z'.1.2.2 x = z.1.2.2 x) (h1 : k ≠ l + 1) (h2 : k ≠ l + 7) : ccell A z' s o k i = ccell A z s o k i := by
  match k, hk, h1, h2 with
  | 0, _, _, _ => simp only [ccell]
  | 1, _, h1, h2 => simp only [ccell, lob, (h 0 (by omega)).1]
  | 2, _, h1, h2 => simp only [ccell, lob, (h 1 (by omega)).1]
  | 3, _, h1, h2 => simp only [ccell, lob, (h 2 (by omega)).1]
  | 4, _, h1, h2 => simp only [ccell, lob, (h 3 (by omega)).1]
  | 5, _, h1, h2 => simp only [ccell, lob, (h 4 (by omega)).1]
  | 6, _, h1, h2 => simp only [ccell, lob, (h 5 (by omega)).1]
  | 7, _, h1, h2 => simp only [ccell, lrw, (h 0 (by omega)).2]
  | 8, _, h1, h2 => simp only [ccell, lrw, (h 1 (by omega)).2]
  | 9, _, h1, h2 => simp only [ccell, lrw, (h 2 (by omega)).2]
  | 10, _, h1, h2 => simp only [ccell, lrw, (h 3 (by omega)).2]
  | 11, _, h1, h2 => simp only [ccell, lrw, (h 4 (by omega)).2]
  | 12, _, h1, h2 => simp only [ccell, lrw, (h 5 (by omega)).2]
  | 13, _, _, _ => simp only [ccell]
  | 14, _, _, _ => simp only [ccell]
  | 15, _, _, _ => simp only [ccell]
  | 16, _, _, _ => simp only [ccell]
  | 17, _, _, _ => simp only [ccell]
  | 18, _, _, _ => simp only [ccell]
  | 19, _, _, _ => simp only [ccell]
  | 20, _, _, _ => simp only [ccell]
  | 21, _, _, _ => simp only [ccell]
  | 22, _, _, _ => simp only [ccell]
  | 23, _, _, _ => simp only [ccell]
  | 24, _, _, _ => simp only [ccell]
  | 25, _, _, _ => simp only [ccell]
  | 26, _, _, _ => simp only [ccell]
  | 27, _, _, _ => simp only [ccell]
  | 28, _, _, _ => simp only [ccell]
  | 29, _, _, _ => simp only [ccell]
  | 30, _, _, _ => simp only [ccell]
  | 31, _, _, _ => simp only [ccell]
  | 32, _, _, _ => simp only [ccell]
  | 33, _, _, _ => simp only [ccell]
  | 34, _, _, _ => simp only [ccell]
  | 35, _, _, _ => simp only [ccell]
  | 36, _, _, _ => simp only [ccell]
  | n + 37, hk, _, _ => exact absurd hk (by omega)
theorem lch_oth (hch : lch l s o s' o') (hl : l < 6) {k i : Nat} (hv : lv z P S k i) (h1 : k ≠ l + 1) (h2 : k ≠ l + 7) : ccell A z s' o' k i = ccell A z s o k i := by
  have hg : gp k ≠ l + 1 := by
    intro e
    unfold gp at e
    split at e <;> omega
  exact ccell_congr (lv37 hv) (lv0 hv) (fun F j e => hch.1 F j (by rw [e]; intro q; exact hg (Prod.mk.inj q).1)) (fun F j e => hch.2 F j (by rw [e]; intro q; exact hg (Prod.mk.inj q).1))
theorem zok_er (hY : zok g A z P S) (hl : l < 6) (hc : z.1.2.2 l ≠ 0) : z.1.1 (z.1.2.1 l) = some (l + 7, 0) ∧ g.1 ≤ z.1.2.1 l ∧ z.1.2.1 l < z.2.1 := by
  have := hY.1 (l + 7) 0 (lv_rw hl hc)
  rw [ad_rw hl] at this
  exact this
theorem zok_ob (hY : zok g A z P S) (hl : l < 6) : z.1.1 (A (l + 1) 0) = some (l + 1, 0) ∧ g.1 ≤ A (l + 1) 0 ∧ A (l + 1) 0 < z.2.1 := by
  have := hY.1 (l + 1) 0 (lv_ob hl)
  rw [ad_ob hl] at this
  exact this
theorem zok_ne (hY : zok g A z P S) (hl : l < 6) (hc : z.1.2.2 l ≠ 0) : z.1.2.1 l ≠ A (l + 1) 0 := by
  intro e
  have h1 := (zok_er hY hl hc).1
  rw [e, (zok_ob hY hl).1] at h1
  have := (Prod.mk.inj (Option.some.inj h1)).1
  omega
theorem cp_ob (hY : zok g A z P S) (hl : l < 6) : (cp A z s o).2.2 (A (l + 1) 0) = some (.inl (0, oF [.int (o 63 l), .ref (z.1.2.1 l), .int (sz s o l)])) := by
  have := cp_at (s := s) (o := o) hY (lv_ob hl)
  rw [ad_ob hl, cl_ob hl] at this
  exact this
theorem cp_rw (hY : zok g A z P S) (hl : l < 6) (hc : z.1.2.2 l ≠ 0) : (cp A z s o).2.2 (z.1.2.1 l) = some (.inr (2, z.1.2.2 l, rwf A s o l)) := by
  have := cp_at (s := s) (o := o) hY (lv_rw hl hc)
  rw [ad_rw hl, cl_rw hl] at this
  exact this
theorem cp_lp (hY : zok g A z P S) (hl : l < 6) (hc : z.1.2.2 l ≠ 0) : cp A z s o = lp (cp A z s o) (A (l + 1) 0) (z.1.2.1 l) (o 63 l) (z.1.2.1 l) (sz s o l) (z.1.2.2 l) (rwf A s o l) := by
  symm
  refine cp_ext rfl rfl (fun a => ?_)
  simp only [lp]
  by_cases e1 : a = A (l + 1) 0
  · rw [if_pos e1, e1, cp_ob hY hl]
  · rw [if_neg e1]
    by_cases e2 : a = z.1.2.1 l
    · rw [if_pos e2, e2, cp_rw hY hl hc]
    · rw [if_neg e2]
theorem cp_lq (hY : zok g A z P S) (hl : l < 6) (hc : z.1.2.2 l = 0) : cp A z s o = lq (cp A z s o) (A (l + 1) 0) (o 63 l) g.2.1 (sz s o l) := by
  symm
  refine cp_ext rfl rfl (fun a => ?_)
  simp only [lq]
  by_cases e1 : a = A (l + 1) 0
  · rw [if_pos e1, e1, cp_ob hY hl, hY.2.2.1 l hl hc]
  · rw [if_neg e1]
theorem lp_cp (hY : zok g A z P S) (hl : l < 6) (hc : z.1.2.2 l ≠ 0) (hch : lch l s o s' o') {m k : Int32} {f : Nat → Value} (h1 : o' 63 l = m) (h2 : sz s' o' l = k) (h3 : rwf A s' o' l = f) : lp (cp A z s o) (A (l + 1) 0) (z.1.2.1 l) m (z.1.2.1 l) k (z.1.2.2 l) f = cp A z s' o' := by
  refine cp_ext rfl rfl (fun a => ?_)
  simp only [lp]
  by_cases e1 : a = A (l + 1) 0
  · rw [if_pos e1, e1, cp_ob hY hl, h1, h2]
  · rw [if_neg e1]
    by_cases e2 : a = z.1.2.1 l
    · rw [if_pos e2, e2, cp_rw hY hl hc, h3]
    · rw [if_neg e2]
      simp only [cp]
      cases hr : z.1.1 a with
      | none => rfl
      | some r =>
        obtain ⟨q1, q2⟩ := hY.2.1 a r.1 r.2 hr
        simp only
        rw [lch_oth hch hl q1]
        · intro x
          have y := lv0 q1 (by omega)
          rw [x, y, ad_ob hl] at q2
          exact e1 q2
        · intro x
          have y := lv0 q1 (by omega)
          rw [x, y, ad_rw hl] at q2
          exact e2 q2
theorem lq_cp (hY : zok g A z P S) (hl : l < 6) (hc : z.1.2.2 l = 0) (hch : lch l s o s' o') {m k : Int32} (h1 : o' 63 l = m) (h2 : sz s' o' l = k) : lq (cp A z s o) (A (l + 1) 0) m g.2.1 k = cp A z s' o' := by
  refine cp_ext rfl rfl (fun a => ?_)
  simp only [lq]
  by_cases e1 : a = A (l + 1) 0
  · rw [if_pos e1, e1, cp_ob hY hl, h1, h2, hY.2.2.1 l hl hc]
  · rw [if_neg e1]
    simp only [cp]
    cases hr : z.1.1 a with
    | none => rfl
    | some r =>
      obtain ⟨q1, q2⟩ := hY.2.1 a r.1 r.2 hr
      simp only
      rw [lch_oth hch hl q1]
      · intro x
        have y := lv0 q1 (by omega)
        rw [x, y, ad_ob hl] at q2
        exact e1 q2
      · intro x
        rcases q1 with q | q | q
        · exact q.2.2 (by omega) (by omega) (by rw [x, Nat.add_sub_cancel]; exact hc)
        · omega
        · omega
/-- the places behind a growth of the list l to c: B the cells below -/
def zg (z : zT) (l c : Nat) (B : Nat → Option xE) : zT := ((fun b => if b = z.2.1 then some (l + 7, 0) else if b = z.1.2.1 l then none else z.1.1 b, fun x => if x = l then z.2.1 else z.1.2.1 x, fun x => if x = l then c else z.1.2.2 x), (z.2.1 + 1, z.2.2.1 + c, B))
/-- a later heap of the class: what isn't its own is as it was, what is new is counted in the rows' lengths -/
def zle (g : Nat × Nat × Nat) (A : Nat → Nat → Nat) (z z' : zT) (P S : Nat) : Prop := zok g A z' P S ∧ z.2.1 ≤ z'.2.1 ∧ (∀ b, b < z.2.1 → z.1.1 b = none → z'.1.1 b = none ∧ z'.2.2.2 b = z.2.2.2 b) ∧ (z'.2.1 + cps z ≤ z.2.1 + cps z' ∧ z'.2.2.1 + sqs z ≤ z.2.2.1 + sqs z') ∧ (∀ l, z.1.2.2 l ≤ z'.1.2.2 l)
theorem zle_refl (hY : zok g A z P S) : zle g A z z P S := ⟨hY, Nat.le_refl _, fun _ _ h => ⟨h, rfl⟩, ⟨Nat.le_refl _, Nat.le_refl _⟩, fun _ => Nat.le_refl _⟩
theorem zle_trans {z2 : zT} (h1 : zle g A z z' P S) (h2 : zle g A z' z2 P S) : zle g A z z2 P S := by
  refine ⟨h2.1, Nat.le_trans h1.2.1 h2.2.1, fun b hb hn => ?_, ⟨?_, ?_⟩, fun l => Nat.le_trans (h1.2.2.2.2 l) (h2.2.2.2.2 l)⟩
  · obtain ⟨a1, a2⟩ := h1.2.2.1 b hb hn
    obtain ⟨b1, b2⟩ := h2.2.2.1 b (Nat.lt_of_lt_of_le hb h1.2.1) a1
    exact ⟨b1, b2.trans a2⟩
  · have := h1.2.2.2.1.1; have := h2.2.2.2.1.1; omega
  · have := h1.2.2.2.1.2; have := h2.2.2.2.1.2; omega
theorem cps_zg (hl : l < 6) {c : Nat} {B : Nat → Option xE} : cps (zg z l c B) + z.1.2.2 l = cps z + c := by
  match l, hl with
  | 0, _ => simp [cps, zg]; omega
  | 1, _ => simp [cps, zg]; omega
  | 2, _ => simp [cps, zg]; omega
  | 3, _ => simp [cps, zg]; omega
  | 4, _ => simp [cps, zg]; omega
  | 5, _ => simp [cps, zg]; omega
theorem sqs_zg (hl : l < 6) {c : Nat} {B : Nat → Option xE} : sqs (zg z l c B) + z.1.2.2 l * z.1.2.2 l = sqs z + c * c := by
  match l, hl with
  | 0, _ => simp [sqs, zg]; omega
  | 1, _ => simp [sqs, zg]; omega
  | 2, _ => simp [sqs, zg]; omega
  | 3, _ => simp [sqs, zg]; omega
  | 4, _ => simp [sqs, zg]; omega
  | 5, _ => simp [sqs, zg]; omega
theorem sq_grow {a c : Nat} (h : a < c) : a * a + c ≤ c * c := by
  have h1 : a * a ≤ c * a := Nat.mul_le_mul_right _ (Nat.le_of_lt h)
  have h2 : c * (a + 1) ≤ c * c := Nat.mul_le_mul_left _ h
  rw [Nat.mul_add, Nat.mul_one] at h2
  omega
theorem zg_ok (hY : zok g A z P S) (hl : l < 6) {c : Nat} {B : Nat → Option xE} (hc : z.1.2.2 l < c) (hc7 : c ≤ 700) (hB : ∀ b, b ≠ z.1.2.1 l ∨ z.1.2.2 l = 0 → B b = z.2.2.2 b) : zle g A z (zg z l c B) P S := by
  have hb0 : g.1 < z.2.1 := by have := zok_ob hY (l := 0) (by decide); omega
  have e1 : ∀ x, x ≠ l → (zg z l c B).1.2.1 x = z.1.2.1 x := fun x hx => by simp [zg, hx]
  have e2 : ∀ x, x ≠ l → (zg z l c B).1.2.2 x = z.1.2.2 x := fun x hx => by simp [zg, hx]
  have lvz : ∀ k i, k ≠ l + 7 → (lv (zg z l c B) P S k i ↔ lv z P S k i) := by
    intro k i hk
    unfold lv
    have : ∀ h7 : 7 ≤ k, k ≤ 12 → (zg z l c B).1.2.2 (k - 7) = z.1.2.2 (k - 7) := fun h7 h12 => e2 _ (by omega)
    constructor
    · rintro (h | h | h)
      · exact Or.inl ⟨h.1, h.2.1, fun a b => by rw [← this a b]; exact h.2.2 a b⟩
      · exact Or.inr (Or.inl h)
      · exact Or.inr (Or.inr h)
    · rintro (h | h | h)
      · exact Or.inl ⟨h.1, h.2.1, fun a b => by rw [this a b]; exact h.2.2 a b⟩
      · exact Or.inr (Or.inl h)
      · exact Or.inr (Or.inr h)
  have er : ∀ k i, lv z P S k i → k ≠ l + 7 → ad A z k i ≠ z.1.2.1 l := by
    intro k i hv hk e
    by_cases hc0 : z.1.2.2 l = 0
    · rw [hY.2.2.1 l hl hc0] at e
      have := (hY.1 k i hv).2.1
      have := hY.2.2.2.1.1
      omega
    · have h1 := (zok_er hY hl hc0).1
      rw [← e, (hY.1 k i hv).1] at h1
      exact hk (Prod.mk.inj (Option.some.inj h1)).1
  have hsq := sq_grow hc
  have q1 := cps_zg (z := z) (c := c) (B := B) hl
  have q2 := sqs_zg (z := z) (c := c) (B := B) hl
  have r1 := hY.2.2.2.2.2.2.1
  have r2 := hY.2.2.2.2.2.2.2
  have ed : B g.2.1 = z.2.2.2 g.2.1 := by
    apply hB
    by_cases hc0 : z.1.2.2 l = 0
    · exact Or.inr hc0
    · refine Or.inl ?_
      have := (zok_er hY hl hc0).2.1
      have := hY.2.2.2.1.1
      omega
  refine ⟨⟨?_, ?_, ?_, ?_, ?_, hY.2.2.2.2.2.1, ?_, ?_⟩, Nat.le_succ _, ?_, ⟨?_, ?_⟩, ?_⟩
  · intro k i hv
    by_cases hk : k = l + 7
    · subst hk
      have hi : i = 0 := lv0 hv (by omega)
      subst hi
      rw [ad_rw hl]
      refine ⟨by simp [zg], by simp [zg]; omega, by simp [zg]⟩
    · have hv' := (lvz k i hk).mp hv
      rw [ad_z hl e1 hk]
      obtain ⟨a1, a2, a3⟩ := hY.1 k i hv'
      refine ⟨?_, a2, Nat.lt_succ_of_lt a3⟩
      show (if ad A z k i = z.2.1 then some (l + 7, 0) else if ad A z k i = z.1.2.1 l then none else z.1.1 (ad A z k i)) = _
      rw [if_neg (by omega), if_neg (er k i hv' hk), a1]
  · intro a k i h
    have h' : (if a = z.2.1 then some (l + 7, 0) else if a = z.1.2.1 l then none else z.1.1 a) = some (k, i) := h
    by_cases x : a = z.2.1
    · rw [if_pos x] at h'
      have := Option.some.inj h'
      obtain ⟨rfl, rfl⟩ := Prod.mk.inj this
      refine ⟨lv_rw hl (by simp [zg]; omega), ?_⟩
      rw [ad_rw hl, x]
      simp [zg]
    · rw [if_neg x] at h'
      by_cases y : a = z.1.2.1 l
      · rw [if_pos y] at h'; cases h'
      · rw [if_neg y] at h'
        obtain ⟨a1, a2⟩ := hY.2.1 a k i h'
        have hk : k ≠ l + 7 := by
          intro e
          subst e
          have hi : i = 0 := lv0 a1 (by omega)
          subst hi
          rw [ad_rw hl] at a2
          exact y a2
        exact ⟨(lvz k i hk).mpr a1, by rw [ad_z hl e1 hk]; exact a2⟩
  · intro l' hl' h0
    by_cases x : l' = l
    · subst x; simp [zg] at h0; omega
    · rw [e1 l' x]; exact hY.2.2.1 l' hl' (by rw [← e2 l' x]; exact h0)
  · obtain ⟨w1, f, w2⟩ := hY.2.2.2.1
    exact ⟨w1, f, by show B g.2.1 = _; rw [ed]; exact w2⟩
  · intro l' hl'
    by_cases x : l' = l
    · subst x; simp [zg]; exact hc7
    · rw [e2 l' x]; exact hY.2.2.2.2.1 l' hl'
  · show z.2.1 + 1 ≤ _; omega
  · show z.2.2.1 + c ≤ _; omega
  · intro b hb hn
    have x : b ≠ z.2.1 := by omega
    refine ⟨?_, ?_⟩
    · show (if b = z.2.1 then some (l + 7, 0) else if b = z.1.2.1 l then none else z.1.1 b) = none
      rw [if_neg x]
      by_cases y : b = z.1.2.1 l
      · rw [if_pos y]
      · rw [if_neg y]; exact hn
    · show B b = _
      apply hB
      by_cases hc0 : z.1.2.2 l = 0
      · exact Or.inr hc0
      · refine Or.inl ?_
        intro y
        rw [y, (zok_er hY hl hc0).1] at hn
        cases hn
  · show z.2.1 + 1 + _ ≤ _; omega
  · show z.2.2.1 + c + _ ≤ _; omega
  · intro l'
    by_cases x : l' = l
    · subst x; simp [zg]; omega
    · rw [e2 l' x]; exact Nat.le_refl _
theorem lp_cp_g (hY : zok g A z P S) (hl : l < 6) {c : Nat} {B : Nat → Option xE} {H : xH} (hz : zok g A (zg z l c B) P S) (hc : c ≠ 0) (hch : lch l s o s' o') {m k : Int32} {f : Nat → Value} (hH1 : H.1 = z.2.1 + 1) (hH2 : H.2.1 = z.2.2.1 + c) (hB : ∀ b, b ≠ z.1.2.1 l → B b = z.2.2.2 b) (hH : ∀ b, H.2.2 b = if b = z.1.2.1 l then B b else (cp A z s o).2.2 b) (h1 : o' 63 l = m) (h2 : sz s' o' l = k) (h3 : rwf A s' o' l = f) : lp H (A (l + 1) 0) z.2.1 m z.2.1 k c f = cp A (zg z l c B) s' o' := by
  have er : (zg z l c B).1.2.1 l = z.2.1 := by simp [zg]
  have cr : (zg z l c B).1.2.2 l = c := by simp [zg]
  have e1 : ∀ x, x ≠ l → (zg z l c B).1.2.1 x = z.1.2.1 x ∧ (zg z l c B).1.2.2 x = z.1.2.2 x := fun x hx => by simp [zg, hx]
  refine cp_ext hH1 hH2 (fun a => ?_)
  simp only [lp]
  by_cases x1 : a = A (l + 1) 0
  · rw [if_pos x1, x1, cp_ob hz hl, h1, h2, er]
  · rw [if_neg x1]
    by_cases x2 : a = z.2.1
    · rw [if_pos x2, x2, ← er, cp_rw hz hl (by rw [cr]; exact hc), h3, cr]
    · rw [if_neg x2, hH]
      by_cases x3 : a = z.1.2.1 l
      · rw [if_pos x3]
        have : (zg z l c B).1.1 a = none := by
          show (if a = z.2.1 then some (l + 7, 0) else if a = z.1.2.1 l then none else z.1.1 a) = none
          rw [if_neg x2, if_pos x3]
        rw [cp_at_none this]
        rfl
      · rw [if_neg x3]
        have ro : (zg z l c B).1.1 a = z.1.1 a := by
          show (if a = z.2.1 then some (l + 7, 0) else if a = z.1.2.1 l then none else z.1.1 a) = _
          rw [if_neg x2, if_neg x3]
        simp only [cp, ro]
        cases hr : z.1.1 a with
        | none => exact (hB a x3).symm
        | some r =>
          obtain ⟨q1, q2⟩ := hY.2.1 a r.1 r.2 hr
          simp only
          have k1 : r.1 ≠ l + 1 := by
            intro x
            have y := lv0 q1 (by omega)
            rw [x, y, ad_ob hl] at q2
            exact x1 q2
          have k2 : r.1 ≠ l + 7 := by
            intro x
            have y := lv0 q1 (by omega)
            rw [x, y, ad_rw hl] at q2
            exact x3 q2
          rw [ccell_z (lv37 q1) e1 k1 k2, lch_oth hch hl q1 k1 k2]
theorem zrm (hY : zok g A z P S) {c : Nat} (hc : c ≤ 100000) : xrm g (cp A z s o) c = true := by
  have hq := hY.2.2.2.2.1
  have q : ∀ l, l < 6 → z.1.2.2 l * z.1.2.2 l ≤ 490000 := fun l hl => Nat.mul_le_mul (hq l hl) (hq l hl)
  have a0 := hq 0 (by decide); have a1 := hq 1 (by decide); have a2 := hq 2 (by decide); have a3 := hq 3 (by decide); have a4 := hq 4 (by decide); have a5 := hq 5 (by decide)
  have b0 := q 0 (by decide); have b1 := q 1 (by decide); have b2 := q 2 (by decide); have b3 := q 3 (by decide); have b4 := q 4 (by decide); have b5 := q 5 (by decide)
  have r1 := hY.2.2.2.2.2.2.1
  have r2 := hY.2.2.2.2.2.2.2
  unfold cps at r1
  unfold sqs at r2
  show decide (z.2.1 + 1 ≤ g.1 + 601024 ∧ z.2.2.1 + c ≤ 7293034) = true
  rw [decide_eq_true_eq]
  constructor <;> omega
theorem cp_ok (hY : zok g A z P S) {k i : Nat} (hk : k = 30 ∨ k = 34) (hv : lv z P S k i) : xok (cp A z s o) (.ref (A k i)) = true := by
  have := cp_at (s := s) (o := o) hY hv
  rw [ad_o (by omega)] at this
  rcases hk with rfl | rfl <;> simp [xok, this, ccell]
theorem lk_or (l : Nat) : lk l = 30 ∨ lk l = 34 := by
  unfold lk
  split <;> simp
theorem cp_lt (hY : zok g A z P S) {k i : Nat} (hk : k = 30 ∨ k = 34) (hv : lv z P S k i) : (.ref (A k i) : Value) ≠ .ref (cp A z s o).1 := by
  have := (hY.1 k i hv).2.2
  rw [ad_o (by omega)] at this
  intro e
  have e2 : A k i = z.2.1 := Value.ref.inj e
  omega
theorem cp_erok (hY : zok g A z P S) (hl : l < 6) (hc : z.1.2.2 l ≠ 0) : xok (cp A z s o) (.ref (z.1.2.1 l)) = false := by
  simp [xok, cp_rw hY hl hc]
end CL
