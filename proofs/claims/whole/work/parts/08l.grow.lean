/-! ===== the class with one pilot or one ship more ===== -/
def grA (A : Nat → Nat → Nat) (k0 n I a : Nat) : Nat → Nat → Nat := fun k i => if k0 ≤ k ∧ k < k0 + n ∧ i = I then a + (k - k0) else A k i
def grz (z : zT) (k0 n I m : Nat) : zT := ((fun b => if z.2.1 ≤ b ∧ b < z.2.1 + n then some (k0 + (b - z.2.1), I) else z.1.1 b, z.1.2), (z.2.1 + n, z.2.2.1 + m, z.2.2.2))
def vN (v : Int32) (P : Nat) : Prop := v = -1 ∨ ∃ q, q < P ∧ v = nI q
/-- what refers to a pilot or a ship refers to one that is there -/
def refs (s o : mS) (P S : Nat) : Prop := (∀ i, i < P → vN (s 13 i) S ∧ vN (o 78 i) S) ∧ (∀ i, i < S → (vN (s 28 i) P ∧ vN (s 29 i) P ∧ vN (s 30 i) P) ∧ (vN (o 82 i) P ∧ vN (o 83 i) P ∧ vN (o 84 i) P)) ∧ ∀ l, l < 6 → ∀ j, j < (sz s o l).toNatClampNeg → nu s o l j < if lk l = 30 then P else S
section GR
variable {g : Nat × Nat × Nat} {A A1 : Nat → Nat → Nat} {z z1 : zT} {s o s1 o1 : mS} {P S P' S' k0 n I m : Nat}
theorem gr_o {k i a : Nat} (h : ¬ (k0 ≤ k ∧ k < k0 + n ∧ i = I)) : grA A k0 n I a k i = A k i := by simp only [grA, if_neg h]
theorem gr_n {k a : Nat} (h1 : k0 ≤ k) (h2 : k < k0 + n) : grA A k0 n I a k I = a + (k - k0) := by simp only [grA, h1, h2, and_self, if_true]
theorem rP_A (hA : ∀ i, i < P → A1 30 i = A 30 i) {v : Int32} (hv : vN v P) (hP : P ≤ 60) : rP A1 v = rP A v := by
  rcases hv with rfl | ⟨q, hq, rfl⟩
  · rfl
  · rw [rP_r (by omega), rP_r (by omega), hA q hq]
theorem rS_A (hA : ∀ i, i < S → A1 34 i = A 34 i) {v : Int32} (hv : vN v S) (hS : S ≤ 400) : rS A1 v = rS A v := by
  rcases hv with rfl | ⟨q, hq, rfl⟩
  · rfl
  · rw [rS_r (by omega), rS_r (by omega), hA q hq]
theorem lrw_A {l : Nat} (hl : l < 6) (hz : z1.1.2 = z.1.2) (hP : ∀ i, i < P → A1 30 i = A 30 i) (hS : ∀ i, i < S → A1 34 i = A 34 i) (hr : refs s o P S) : lrw A1 z1 s o l = lrw A z s o l := by
  simp only [lrw, hz]
  congr 3
  funext j
  simp only [lC]
  by_cases hj : j < (sz s o l).toNatClampNeg
  · rw [if_pos hj, if_pos hj]
    have h := hr.2.2 l hl j hj
    have : A1 (lk l) (nu s o l j) = A (lk l) (nu s o l j) := by
      by_cases e : lk l = 30
      · rw [if_pos e] at h; rw [e]; exact hP _ h
      · have e4 : lk l = 34 := by unfold lk at e ⊢; split <;> simp_all
        rw [if_neg e] at h; rw [e4]; exact hS _ h
    rw [this]
  · rw [if_neg hj, if_neg hj]
theorem cc_A {k i : Nat} (hz : z1.1.2 = z.1.2) (h0 : ∀ k, k < 26 → A1 k 0 = A k 0) (hA : ∀ k i, 30 ≤ k → k ≤ 33 → i < P → A1 k i = A k i) (hB : ∀ k i, 34 ≤ k → k ≤ 36 → i < S → A1 k i = A k i) (hr : refs s o P S) (hP : P ≤ 60) (hS : S ≤ 400) (hl : lv z P S k i) : ccell A1 z1 s o k i = ccell A z s o k i := by
  have p0 := fun i hi => hA 30 i (by decide) (by decide) hi
  have s0 := fun i hi => hB 34 i (by decide) (by decide) hi
  rcases hl with ⟨hk, hi, -⟩ | ⟨h1, h2, hi⟩ | ⟨h1, h2, hi⟩
  · subst hi
    have f : ∀ k, k < 26 → A1 k 0 = A k 0 := h0
    match k, hk with
    | 0, _ => simp only [ccell, f 1 (by decide), f 2 (by decide), f 3 (by decide), f 13 (by decide), f 16 (by decide), f 18 (by decide), f 19 (by decide), f 20 (by decide), f 21 (by decide), f 22 (by decide)]
    | 1, _ => simp only [ccell, lob, hz]
    | 2, _ => simp only [ccell, lob, hz]
    | 3, _ => simp only [ccell, lob, hz]
    | 4, _ => simp only [ccell, lob, hz]
    | 5, _ => simp only [ccell, lob, hz]
    | 6, _ => simp only [ccell, lob, hz]
    | 7, _ => exact lrw_A (by decide) hz p0 s0 hr
    | 8, _ => exact lrw_A (by decide) hz p0 s0 hr
    | 9, _ => exact lrw_A (by decide) hz p0 s0 hr
    | 10, _ => exact lrw_A (by decide) hz p0 s0 hr
    | 11, _ => exact lrw_A (by decide) hz p0 s0 hr
    | 12, _ => exact lrw_A (by decide) hz p0 s0 hr
    | 13, _ => simp only [ccell, f 14 (by decide), f 15 (by decide)]
    | 14, _ => simp only [ccell]
    | 15, _ => simp only [ccell]
    | 16, _ => simp only [ccell, f 17 (by decide)]
    | 17, _ => simp only [ccell]
    | 18, _ => simp only [ccell]
    | 19, _ => simp only [ccell, f 4 (by decide)]
    | 20, _ => simp only [ccell, f 5 (by decide)]
    | 21, _ => simp only [ccell, f 6 (by decide)]
    | 22, _ => simp only [ccell, f 23 (by decide), f 24 (by decide), f 25 (by decide)]
    | 23, _ => simp only [ccell]
    | 24, _ => simp only [ccell]
    | 25, _ => simp only [ccell]
    | n + 26, hk => exact absurd hk (by omega)
  · have r := hr.1 i hi
    obtain rfl | rfl | rfl | rfl : k = 30 ∨ k = 31 ∨ k = 32 ∨ k = 33 := by omega
    · simp only [ccell, hA 31 i (by decide) (by decide) hi, hA 32 i (by decide) (by decide) hi, hA 33 i (by decide) (by decide) hi]
    · simp only [ccell, rS_A s0 r.1 hS]
    · simp only [ccell, rS_A s0 r.2 hS]
    · simp only [ccell]
  · have r := hr.2.1 i hi
    obtain rfl | rfl | rfl : k = 34 ∨ k = 35 ∨ k = 36 := by omega
    · simp only [ccell, hB 35 i (by decide) (by decide) hi, hB 36 i (by decide) (by decide) hi]
    · simp only [ccell, rP_A p0 r.1.1 hP, rP_A p0 r.1.2.1 hP, rP_A p0 r.1.2.2 hP]
    · simp only [ccell, rP_A p0 r.2.1 hP, rP_A p0 r.2.2.1 hP, rP_A p0 r.2.2.2 hP]
theorem ad_gr {k i : Nat} (hk : 30 ≤ k0) (h : ¬ (k0 ≤ k ∧ k < k0 + n ∧ i = I)) : ad (grA A k0 n I z.2.1) (grz z k0 n I m) k i = ad A z k i := by
  unfold ad
  split <;> first | rfl | exact gr_o h
theorem ad_grn {k : Nat} (hk : 30 ≤ k0) (h1 : k0 ≤ k) (h2 : k < k0 + n) : ad (grA A k0 n I z.2.1) (grz z k0 n I m) k I = z.2.1 + (k - k0) := by
  unfold ad
  split <;> first | (exfalso; omega) | exact gr_n h1 h2
theorem gro (hY : zok g A z P S) (hI : ∀ k i, lv z P' S' k i ↔ lv z P S k i ∨ (k0 ≤ k ∧ k < k0 + n ∧ i = I)) (hk : 30 ≤ k0) (hne : ∀ k, k0 ≤ k → k < k0 + n → ¬ lv z P S k I) (hb : P' ≤ 60 ∧ S' ≤ 400) (hr1 : z.2.1 + n ≤ g.1 + 500000 + cps z) (hr2 : z.2.2.1 + m ≤ 3000000 + sqs z) : zok g (grA A k0 n I z.2.1) (grz z k0 n I m) P' S' := by
  have hg : g.1 ≤ z.2.1 := Nat.le_trans (hb_0 hY) (Nat.le_of_lt (hY.1 0 0 (lvF 0 (by decide) (by decide))).2.2)
  refine ⟨fun k i h => ?_, fun a k i h => ?_, hY.2.2.1, hY.2.2.2.1, hY.2.2.2.2.1, hb, hr1, hr2⟩
  · rcases (hI k i).mp h with h9 | ⟨h1, h2, rfl⟩
    · have hn : ¬ (k0 ≤ k ∧ k < k0 + n ∧ i = I) := fun w => hne k w.1 w.2.1 (w.2.2 ▸ h9)
      obtain ⟨q1, q2, q3⟩ := hY.1 k i h9
      rw [ad_gr hk hn]
      refine ⟨?_, q2, Nat.lt_of_lt_of_le q3 (Nat.le_add_right _ _)⟩
      show (if z.2.1 ≤ ad A z k i ∧ ad A z k i < z.2.1 + n then _ else _) = _
      rw [if_neg (by omega)]
      exact q1
    · rw [ad_grn hk h1 h2]
      refine ⟨?_, by omega, show z.2.1 + (k - k0) < z.2.1 + n by omega⟩
      show (if z.2.1 ≤ z.2.1 + (k - k0) ∧ z.2.1 + (k - k0) < z.2.1 + n then some (k0 + (z.2.1 + (k - k0) - z.2.1), i) else _) = _
      rw [if_pos (by omega)]
      congr 2
      omega
  · have h' : (if z.2.1 ≤ a ∧ a < z.2.1 + n then some (k0 + (a - z.2.1), I) else z.1.1 a) = some (k, i) := h
    by_cases e : z.2.1 ≤ a ∧ a < z.2.1 + n
    · rw [if_pos e] at h'
      obtain ⟨e1, e2⟩ := Prod.mk.inj (Option.some.inj h')
      subst e2
      have h1 : k0 ≤ k := by omega
      have h2 : k < k0 + n := by omega
      refine ⟨(hI k I).mpr (Or.inr ⟨h1, h2, rfl⟩), ?_⟩
      rw [ad_grn hk h1 h2]
      omega
    · rw [if_neg e] at h'
      obtain ⟨q1, q2⟩ := hY.2.1 a k i h'
      have hn : ¬ (k0 ≤ k ∧ k < k0 + n ∧ i = I) := fun w => hne k w.1 w.2.1 (w.2.2 ▸ q1)
      exact ⟨(hI k i).mpr (Or.inl q1), by rw [ad_gr hk hn]; exact q2⟩
theorem gro_cp {H : xH} (hY : zok g A z P S) (hH1 : H.1 = z.2.1 + n) (hH2 : H.2.1 = z.2.2.1 + m) (hn : ∀ k, k0 ≤ k → k < k0 + n → H.2.2 (z.2.1 + (k - k0)) = some (ccell (grA A k0 n I z.2.1) (grz z k0 n I m) s1 o1 k I)) (ho : ∀ b, ¬ (z.2.1 ≤ b ∧ b < z.2.1 + n) → H.2.2 b = (cp A z s o).2.2 b) (hc : ∀ k i, lv z P S k i → ccell (grA A k0 n I z.2.1) (grz z k0 n I m) s1 o1 k i = ccell A z s o k i) : H = cp (grA A k0 n I z.2.1) (grz z k0 n I m) s1 o1 := by
  refine cp_ext hH1 hH2 (fun b => ?_)
  by_cases e : z.2.1 ≤ b ∧ b < z.2.1 + n
  · have h := hn (k0 + (b - z.2.1)) (by omega) (by omega)
    rw [show z.2.1 + (k0 + (b - z.2.1) - k0) = b by omega] at h
    rw [h]
    have : (grz z k0 n I m).1.1 b = some (k0 + (b - z.2.1), I) := by
      show (if z.2.1 ≤ b ∧ b < z.2.1 + n then _ else _) = _
      rw [if_pos e]
    simp only [cp, this]
  · rw [ho b e]
    have : (grz z k0 n I m).1.1 b = z.1.1 b := by
      show (if z.2.1 ≤ b ∧ b < z.2.1 + n then _ else _) = _
      rw [if_neg e]
    simp only [cp, this]
    cases hr : z.1.1 b with
    | none => rfl
    | some r => simp only; rw [hc _ _ (hY.2.1 b r.1 r.2 hr).1]
end GR
