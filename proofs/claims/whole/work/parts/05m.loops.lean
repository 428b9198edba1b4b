/-! ===== the loops of the reference's hour ===== -/
theorem cpS_o (k1 k2 a f i : Nat) (s : mS) {k : Nat} (hk : k ≠ k2) (j : Nat) : cpS k1 k2 a f i s k j = s k j := by
  induction f generalizing i s with
  | zero => rfl
  | succ f ih => rw [cpS, ih, su_other _ _ hk]
theorem cbS_o (k1 k2 a f i : Nat) (s : mS) {k : Nat} (hk : k ≠ k2) (j : Nat) : cbS k1 k2 a f i s k j = s k j := by
  induction f generalizing i s with
  | zero => rfl
  | succ f ih => rw [cbS, ih, su_other _ _ hk]
theorem f_keep_o (s : mS) {k : Nat} (hk : k < 53 ∨ 55 < k) (j : Nat) : f_keep s k j = s k j := by
  unfold f_keep kpB
  repeat rw [cpS_o _ _ _ _ _ _ (by omega)]
  rw [su_other _ _ (by omega)]
  unfold kpA
  repeat rw [cpS_o _ _ _ _ _ _ (by omega)]
section MD
variable {g : Nat × Nat × Nat} {m0 : Nat} {s : mS} {h : xH}
def bgS (L : Nat) : Nat → Nat → mS → mS
  | 0, _, s => s
  | f + 1, p, s => bgS L f (p + 1) (su s 16 p (pl s (nI p) L 0))
theorem bgS_o (L f p : Nat) (s : mS) {k : Nat} (hk : k ≠ 16) (j : Nat) : bgS L f p s k j = s k j := by
  induction f generalizing p s with
  | zero => rfl
  | succ f ih => rw [bgS, ih, su_other _ _ hk]
theorem lp_begun {P L : Nat} {a2 a3 a4 : Option Value} {out : xR} (hm : g.1 ≤ m0) (hP : P ≤ 60) (hLP : L ≤ P) : ∀ (f p : Nat) (s : mS), p + f = P → s 2 0 = nI P → s 18 0 = nI L → Ev g 138 28 [some (.ref m0), some (.int (nI p)), a2, a3, a4] [] (mput m0 s h) out = Ev g 138 53 [some (.ref m0), some (.int (nI P)), a2, a3, a4] [] (mput m0 (bgS L f p s) h) out := by
  intro f
  induction f with
  | zero =>
    intro p s hp hs hL
    have h2 : nI P ≤ nI p := nI_le (by omega) (by omega)
    have : p = P := by omega
    subst this
    rw [e_X10_hour_28 rfl]
    simp only [e_X10_hour_29, e_X10_hour_30, e_X10_hour_33, e_X10_hour_36, e_X10_hour_37, e_X10_hour_40, e_X10_hour_41, e_X10_hour_42, e_X10_hour_46, e_X10_hour_47, e_X10_hour_50, mO, mg_2, nem, su_get, z1e0, z2e0, z3e0, z4e0, z5e0, z0e1, zme0, Nat.reduceEqDiff, not_true_eq_false, and_self, false_or, or_false, or_self,  bI_eq0, bI_eq1, i10, i20, i30, i00, ne_eq, Decidable.not_not, true_and, and_true, false_and, and_false, xrd_ref, xrd_null, xrd_rf, xid_int, xcat_int, xcat_ref, xcat_null, xcat_long, xcat_rf, xfit_int, xfit_0, xfit_1, xfit_ref, xfit_null, xfit_rf, not_false_eq_true, ↓reduceIte, z01_0, z01_1, bI_01, true_or, or_true, hs, h2, bgS]
  | succ f ih =>
    intro p s hp hs hL
    have h2 : ¬ nI P ≤ nI p := nI_ge (by omega) (by omega)
    have hn_p : ¬ nI p < 0 := nI_pos (by omega)
    have hc_p : (nI p).toNatClampNeg = p := nI_clamp (by omega)
    have hb_p : ¬ 60 ≤ p := by omega
    have i1 := ih (p + 1) (su s 16 p (pl s (nI p) L 0)) (by omega) (by rw [su_other _ _ (by decide)]; exact hs) (by rw [su_other _ _ (by decide)]; exact hL)
    rw [e_X10_hour_28 rfl]
    simp only [e_X10_hour_29, e_X10_hour_30, e_X10_hour_33, e_X10_hour_36, e_X10_hour_37, e_X10_hour_40, e_X10_hour_41, e_X10_hour_42, e_X10_hour_46, e_X10_hour_47, e_X10_hour_50, c_X10_hour_43 _ _ (md_placeOf hL (show L ≤ 60 by omega)), mO, mg_2, mg_16, mr_16, mA_16, ml_16, me_16, mp_16, nem, su_get, z1e0, z2e0, z3e0, z4e0, z5e0, z0e1, zme0, Nat.reduceEqDiff, not_true_eq_false, and_self, false_or, or_false, or_self,  bI_eq0, bI_eq1, i10, i20, i30, i00, ne_eq, Decidable.not_not, true_and, and_true, false_and, and_false, xrd_ref, xrd_null, xrd_rf, xid_int, xcat_int, xcat_ref, xcat_null, xcat_long, xcat_rf, xfit_int, xfit_0, xfit_1, xfit_ref, xfit_null, xfit_rf, not_false_eq_true, ↓reduceIte, z01_0, z01_1, bI_01, true_or, or_true, hs, h2, hn_p, hc_p, hb_p, nI_1, hm, hmk hm, bgS, i1]
/-- the ships of the queue -/
def sdS (H : Nat) : Nat → Nat → Int32 → mS → Int32 × mS
  | 0, _, n, s => (n, s)
  | f + 1, k, n, s => sdS H f (k + 1) (n + if (f_sends s (s 50 k).toNatClampNeg H).1 = 0 then 0 else 1) (f_sends s (s 50 k).toNatClampNeg H).2
def wOK (s : mS) (P S : Nat) : Prop := ∀ x, x < S → ¬ s 24 x < 0 → ∃ q, q < P ∧ s 24 x = nI q
theorem lp_sends {P S M H : Nat} {out : xR} (hm : g.1 ≤ m0) (hP : P ≤ 60) (hS : S ≤ 400) (hH : H < 9600) (hM : M ≤ 400) : ∀ (f k A : Nat) (n : Int32) (s : mS), k + f = M → (∃ L, lOK s P L) → kOK s P → wOK s P S → (∀ j, j < M → ∃ y, y < S ∧ s 50 j = nI y) → s 47 0 = nI A → A + 120 * f + 120 < 2 ^ 31 → Ev g 138 83 [some (.ref m0), some (.int (nI H)), some (.int n), some (.int (nI M)), some (.int (nI k))] [] (mput m0 s h) out = Ev g 138 118 [some (.ref m0), some (.int (nI H)), some (.int (sdS H f k n s).1), some (.int (nI M)), some (.int (nI M))] [] (mput m0 (sdS H f k n s).2 h) out := by
  intro f
  induction f with
  | zero =>
    intro k A n s hk hl hkk hw ho hA hA2
    have h2 : nI M ≤ nI k := nI_le (by omega) (by omega)
    have : k = M := by omega
    subst this
    rw [e_X10_hour_83 rfl]
    simp only [e_X10_hour_85, e_X10_hour_86, e_X10_hour_89, e_X10_hour_90, e_X10_hour_91, e_X10_hour_92, e_X10_hour_95, e_X10_hour_97, e_X10_hour_98, e_X10_hour_102, e_X10_hour_105, e_X10_hour_106, e_X10_hour_109, e_X10_hour_110, e_X10_hour_111, e_X10_hour_112, e_X10_hour_115, nem, su_get, z1e0, z2e0, z3e0, z4e0, z5e0, z0e1, zme0, Nat.reduceEqDiff, not_true_eq_false, and_self, false_or, or_false, or_self,  bI_eq0, bI_eq1, i10, i20, i30, i00, ne_eq, Decidable.not_not, true_and, and_true, false_and, and_false, xrd_ref, xrd_null, xrd_rf, xid_int, xcat_int, xcat_ref, xcat_null, xcat_long, xcat_rf, xfit_int, xfit_0, xfit_1, xfit_ref, xfit_null, xfit_rf, not_false_eq_true, ↓reduceIte, z01_0, z01_1, bI_01, true_or, or_true, h2, sdS]
  | succ f ih =>
    intro k A n s hk hl hkk hw ho hA hA2
    have h2 : ¬ nI M ≤ nI k := nI_ge (by omega) (by omega)
    have hn_k : ¬ nI k < 0 := nI_pos (by omega)
    have hc_k : (nI k).toNatClampNeg = k := nI_clamp (by omega)
    have hb_k : ¬ 400 ≤ k := by omega
    obtain ⟨y, hy, ey⟩ := ho k (by omega)
    have hcy : (nI y).toNatClampNeg = y := nI_clamp (by omega)
    obtain ⟨L, hl⟩ := hl
    have k1 := md_sends (g := g) (m0 := m0) (h := h) (x := y) hm (by omega) hH hP hl hkk hA (by omega) (hw y hy)
    obtain ⟨c1, ⟨A', c2, c3, c4⟩, c5⟩ := sends_ok (x := y) (H := H) hP hl hA (hw y hy)
    have i1 := fun n => ih (k + 1) A' n (f_sends s y H).2 (by omega) c1 (fun p hp => by rw [c5 _ _ (by omega)]; exact hkk p hp) (fun x hx => by rw [c5 _ _ (by omega)]; exact hw x hx) (fun j hj => by rw [c5 _ _ (by omega)]; exact ho j hj) c2 (by omega)
    rw [e_X10_hour_83 rfl, sdS, ey, hcy]
    by_cases a : (f_sends s y H).1 = 0
    · simp only [e_X10_hour_85, e_X10_hour_86, e_X10_hour_89, e_X10_hour_90, e_X10_hour_91, e_X10_hour_92, e_X10_hour_95, e_X10_hour_97, e_X10_hour_98, e_X10_hour_102, e_X10_hour_105, e_X10_hour_106, e_X10_hour_109, e_X10_hour_110, e_X10_hour_111, e_X10_hour_112, e_X10_hour_115, c_X10_hour_99 _ k1, mO, mg_50, mr_50, mA_50, ml_50, me_50, nem, su_get, z1e0, z2e0, z3e0, z4e0, z5e0, z0e1, zme0, Nat.reduceEqDiff, not_true_eq_false, and_self, false_or, or_false, or_self,  bI_eq0, bI_eq1, i10, i20, i30, i00, ne_eq, Decidable.not_not, true_and, and_true, false_and, and_false, xrd_ref, xrd_null, xrd_rf, xid_int, xcat_int, xcat_ref, xcat_null, xcat_long, xcat_rf, xfit_int, xfit_0, xfit_1, xfit_ref, xfit_null, xfit_rf, not_false_eq_true, ↓reduceIte, z01_0, z01_1, bI_01, true_or, or_true, h2, hn_k, hc_k, hb_k, ey, a, nI_1, i1]
    · simp only [e_X10_hour_85, e_X10_hour_86, e_X10_hour_89, e_X10_hour_90, e_X10_hour_91, e_X10_hour_92, e_X10_hour_95, e_X10_hour_97, e_X10_hour_98, e_X10_hour_102, e_X10_hour_105, e_X10_hour_106, e_X10_hour_109, e_X10_hour_110, e_X10_hour_111, e_X10_hour_112, e_X10_hour_115, c_X10_hour_99 _ k1, mO, mg_50, mr_50, mA_50, ml_50, me_50, nem, su_get, z1e0, z2e0, z3e0, z4e0, z5e0, z0e1, zme0, Nat.reduceEqDiff, not_true_eq_false, and_self, false_or, or_false, or_self,  bI_eq0, bI_eq1, i10, i20, i30, i00, ne_eq, Decidable.not_not, true_and, and_true, false_and, and_false, xrd_ref, xrd_null, xrd_rf, xid_int, xcat_int, xcat_ref, xcat_null, xcat_long, xcat_rf, xfit_int, xfit_0, xfit_1, xfit_ref, xfit_null, xfit_rf, not_false_eq_true, ↓reduceIte, z01_0, z01_1, bI_01, true_or, or_true, h2, hn_k, hc_k, hb_k, ey, a, nI_1, i1]
theorem sdS_ok {P S M H : Nat} (hP : P ≤ 60) : ∀ (f k A : Nat) (n : Int32) (s : mS), k + f = M → (∃ L, lOK s P L) → wOK s P S → (∀ j, j < M → ∃ y, y < S ∧ s 50 j = nI y) → s 47 0 = nI A → S ≤ 400 → snK s P A (120 * f) (sdS H f k n s).2 := by
  intro f
  induction f with
  | zero =>
    intro k A n s hk hl hw ho hA hS
    exact ⟨hl, ⟨A, hA, by omega, by omega⟩, fun _ _ _ => rfl⟩
  | succ f ih =>
    intro k A n s hk hl hw ho hA hS
    obtain ⟨y, hy, ey⟩ := ho k (by omega)
    have hcy : (nI y).toNatClampNeg = y := nI_clamp (by omega)
    obtain ⟨L, hl⟩ := hl
    obtain ⟨c1, ⟨A', c2, c3, c4⟩, c5⟩ := sends_ok (x := y) (H := H) hP hl hA (hw y hy)
    obtain ⟨d1, ⟨A2, d2, d3, d4⟩, d5⟩ := ih (k + 1) A' (n + if (f_sends s y H).1 = 0 then 0 else 1) (f_sends s y H).2 (by omega) c1 (fun x hx => by rw [c5 _ _ (by omega)]; exact hw x hx) (fun j hj => by rw [c5 _ _ (by omega)]; exact ho j hj) c2 hS
    rw [sdS, ey, hcy]
    exact ⟨d1, ⟨A2, d2, by omega, by omega⟩, fun k j q => (d5 k j q).trans (c5 k j q)⟩
/-- the ships that end -/
def nW (s : mS) (x : Nat) : Nat := (s 27 x).toNatClampNeg
def nE (s : mS) (x : Nat) : Nat := (1 + s 21 x / 100).toNatClampNeg
def enS (H : Nat) : Nat → Nat → mS → mS
  | 0, _, s => s
  | f + 1, x, s => enS H f (x + 1) (if s 26 x = 1 ∧ s 27 x + (1 + s 21 x / 100) = nI H then f_ends s x (nW s x) (nE s x) else s)
def pm (v : Int32) : Prop := v = -1 ∨ ∃ p, p < 60 ∧ v = nI p
def eOK (s : mS) (S : Nat) : Prop := ∀ x, x < S → (∃ n, n ≤ 400 ∧ s 21 x = nI n) ∧ (s 26 x = 1 → (∃ W, W < 9600 ∧ s 27 x = nI W) ∧ pm (s 28 x) ∧ pm (s 29 x) ∧ pm (s 30 x))
theorem enS_o (H f x : Nat) (s : mS) {k : Nat} (h1 : k < 8 ∨ 15 < k) (h2 : k ≠ 26) (j : Nat) : enS H f x s k j = s k j := by
  induction f generalizing x s with
  | zero => rfl
  | succ f ih =>
    rw [enS, ih]
    split
    · exact f_ends_o _ _ _ _ h1 h2 _
    · rfl
theorem f_ends_26 (s : mS) (x W E y : Nat) (hy : y ≠ x) : f_ends s x W E 26 y = s 26 y := by
  unfold f_ends
  rw [th_o _ _ _ _ _ _ (by omega), th_o _ _ _ _ _ _ (by omega), th_o _ _ _ _ _ _ (by omega)]
  simp [su, hy]
theorem f_ends_26x (s : mS) (x W E : Nat) : f_ends s x W E 26 x = 2 := by
  unfold f_ends
  rw [th_o _ _ _ _ _ _ (by omega), th_o _ _ _ _ _ _ (by omega), th_o _ _ _ _ _ _ (by omega)]
  simp [su]
theorem eOK_ends {s : mS} {S x W E : Nat} (h : eOK s S) : eOK (f_ends s x W E) S := by
  intro y hy
  obtain ⟨a, b⟩ := h y hy
  have o : ∀ k j, 15 < k → k ≠ 26 → f_ends s x W E k j = s k j := fun k j q r => f_ends_o _ _ _ _ (Or.inr q) r _
  rw [o 21 y (by decide) (by decide), o 27 y (by decide) (by decide), o 28 y (by decide) (by decide), o 29 y (by decide) (by decide), o 30 y (by decide) (by decide)]
  refine ⟨a, fun q => b ?_⟩
  by_cases e : y = x
  · subst e
    rw [f_ends_26x] at q
    exact absurd q (by decide)
  · rw [f_ends_26 _ _ _ _ _ e] at q
    exact q
theorem nI_led {n : Nat} (hn : n ≤ 400) : 1 + nI n / 100 = nI (1 + n / 100) := by
  rw [nI_d100 (by omega), ← nI_1e, nI_add]
theorem lp_ends {n : Int32} {S H : Nat} {a3 : Option Value} {out : xR} (hm : g.1 ≤ m0) (hS : S ≤ 400) (hH : H < 9600) : ∀ (f x : Nat) (s : mS), x + f = S → s 19 0 = nI S → eOK s S → Ev g 138 138 [some (.ref m0), some (.int (nI H)), some (.int n), a3, some (.int (nI x))] [] (mput m0 s h) out = Ev g 138 188 [some (.ref m0), some (.int (nI H)), some (.int n), a3, some (.int (nI S))] [] (mput m0 (enS H f x s) h) out := by
  intro f
  induction f with
  | zero =>
    intro x s hx hs he
    have h2 : nI S ≤ nI x := nI_le (by omega) (by omega)
    have : x = S := by omega
    subst this
    rw [e_X10_hour_138 rfl]
    simp only [e_X10_hour_140, e_X10_hour_141, e_X10_hour_144, e_X10_hour_147, e_X10_hour_148, e_X10_hour_151, e_X10_hour_153, e_X10_hour_154, e_X10_hour_155, e_X10_hour_158, e_X10_hour_159, e_X10_hour_162, e_X10_hour_164, e_X10_hour_165, e_X10_hour_166, e_X10_hour_171, e_X10_hour_172, e_X10_hour_173, e_X10_hour_176, e_X10_hour_177, e_X10_hour_182, e_X10_hour_185, mO, mg_19, nem, su_get, z1e0, z2e0, z3e0, z4e0, z5e0, z0e1, zme0, Nat.reduceEqDiff, not_true_eq_false, and_self, false_or, or_false, or_self,  bI_eq0, bI_eq1, i10, i20, i30, i00, ne_eq, Decidable.not_not, true_and, and_true, false_and, and_false, xrd_ref, xrd_null, xrd_rf, xid_int, xcat_int, xcat_ref, xcat_null, xcat_long, xcat_rf, xfit_int, xfit_0, xfit_1, xfit_ref, xfit_null, xfit_rf, not_false_eq_true, ↓reduceIte, z01_0, z01_1, bI_01, true_or, or_true, hs, h2, enS]
  | succ f ih =>
    intro x s hx hs he
    have h2 : ¬ nI S ≤ nI x := nI_ge (by omega) (by omega)
    have hn_x : ¬ nI x < 0 := nI_pos (by omega)
    have hc_x : (nI x).toNatClampNeg = x := nI_clamp (by omega)
    have hb_x : ¬ 400 ≤ x := by omega
    rw [e_X10_hour_138 rfl, enS]
    obtain ⟨⟨l, hl, el⟩, b⟩ := he x (by omega)
    by_cases a : s 26 x = 1
    · obtain ⟨⟨W, hW, eW⟩, b1, b2, b3⟩ := b a
      have eE : 1 + s 21 x / 100 = nI (1 + l / 100) := by rw [el]; exact nI_led hl
      have e1 : nW s x = W := by unfold nW; rw [eW, nI_clamp (by omega)]
      have e2 : nE s x = 1 + l / 100 := by unfold nE; rw [eE, nI_clamp (by omega)]
      rw [e1, e2]
      by_cases c : nI (W + (1 + l / 100)) = nI H
      · have k1 := md_ends (g := g) (m0 := m0) (h := h) hm (show x < 400 by omega) b1 b2 b3 eW eE (by omega)
        have i1 := ih (x + 1) (f_ends s x W (1 + l / 100)) (by omega) (by rw [f_ends_o _ _ _ _ (by omega) (by decide)]; exact hs) (eOK_ends he)
        simp only [e_X10_hour_140, e_X10_hour_141, e_X10_hour_144, e_X10_hour_147, e_X10_hour_148, e_X10_hour_151, e_X10_hour_153, e_X10_hour_154, e_X10_hour_155, e_X10_hour_158, e_X10_hour_159, e_X10_hour_162, e_X10_hour_164, e_X10_hour_165, e_X10_hour_166, e_X10_hour_171, e_X10_hour_172, e_X10_hour_173, e_X10_hour_176, e_X10_hour_177, e_X10_hour_182, e_X10_hour_185, c_X10_hour_168 _ (md_led (show x < 400 by omega)), c_X10_hour_179 _ k1, mO, mg_19, mg_26, mr_26, mA_26, ml_26, me_26, mg_27, mr_27, mA_27, ml_27, me_27, nem, su_get, z1e0, z2e0, z3e0, z4e0, z5e0, z0e1, zme0, Nat.reduceEqDiff, not_true_eq_false, and_self, false_or, or_false, or_self,  bI_eq0, bI_eq1, i10, i20, i30, i00, ne_eq, Decidable.not_not, true_and, and_true, false_and, and_false, xrd_ref, xrd_null, xrd_rf, xid_int, xcat_int, xcat_ref, xcat_null, xcat_long, xcat_rf, xfit_int, xfit_0, xfit_1, xfit_ref, xfit_null, xfit_rf, not_false_eq_true, ↓reduceIte, z01_0, z01_1, bI_01, true_or, or_true, hs, h2, hn_x, hc_x, hb_x, a, eW, eE, nI_add, c, nI_1, i1]
      · have i1 := ih (x + 1) s (by omega) hs he
        simp only [e_X10_hour_140, e_X10_hour_141, e_X10_hour_144, e_X10_hour_147, e_X10_hour_148, e_X10_hour_151, e_X10_hour_153, e_X10_hour_154, e_X10_hour_155, e_X10_hour_158, e_X10_hour_159, e_X10_hour_162, e_X10_hour_164, e_X10_hour_165, e_X10_hour_166, e_X10_hour_171, e_X10_hour_172, e_X10_hour_173, e_X10_hour_176, e_X10_hour_177, e_X10_hour_182, e_X10_hour_185, c_X10_hour_168 _ (md_led (show x < 400 by omega)), mO, mg_19, mg_26, mr_26, mA_26, ml_26, me_26, mg_27, mr_27, mA_27, ml_27, me_27, nem, su_get, z1e0, z2e0, z3e0, z4e0, z5e0, z0e1, zme0, Nat.reduceEqDiff, not_true_eq_false, and_self, false_or, or_false, or_self,  bI_eq0, bI_eq1, i10, i20, i30, i00, ne_eq, Decidable.not_not, true_and, and_true, false_and, and_false, xrd_ref, xrd_null, xrd_rf, xid_int, xcat_int, xcat_ref, xcat_null, xcat_long, xcat_rf, xfit_int, xfit_0, xfit_1, xfit_ref, xfit_null, xfit_rf, not_false_eq_true, ↓reduceIte, z01_0, z01_1, bI_01, true_or, or_true, hs, h2, hn_x, hc_x, hb_x, a, eW, eE, nI_add, c, nI_1, i1]
    · have i1 := ih (x + 1) s (by omega) hs he
      simp only [e_X10_hour_140, e_X10_hour_141, e_X10_hour_144, e_X10_hour_147, e_X10_hour_148, e_X10_hour_151, e_X10_hour_153, e_X10_hour_154, e_X10_hour_155, e_X10_hour_158, e_X10_hour_159, e_X10_hour_162, e_X10_hour_164, e_X10_hour_165, e_X10_hour_166, e_X10_hour_171, e_X10_hour_172, e_X10_hour_173, e_X10_hour_176, e_X10_hour_177, e_X10_hour_182, e_X10_hour_185, mO, mg_19, mg_26, mr_26, mA_26, ml_26, me_26, nem, su_get, z1e0, z2e0, z3e0, z4e0, z5e0, z0e1, zme0, Nat.reduceEqDiff, not_true_eq_false, and_self, false_or, or_false, or_self,  bI_eq0, bI_eq1, i10, i20, i30, i00, ne_eq, Decidable.not_not, true_and, and_true, false_and, and_false, xrd_ref, xrd_null, xrd_rf, xid_int, xcat_int, xcat_ref, xcat_null, xcat_long, xcat_rf, xfit_int, xfit_0, xfit_1, xfit_ref, xfit_null, xfit_rf, not_false_eq_true, ↓reduceIte, z01_0, z01_1, bI_01, true_or, or_true, hs, h2, hn_x, hc_x, hb_x, a, nI_1, i1]
/-- the roads that end -/
def rdS (H : Nat) : Nat → Nat → mS → mS
  | 0, _, s => s
  | f + 1, p, s => rdS H f (p + 1) (if s 8 p = 3 ∧ s 14 p ≤ nI H then su s 8 p 0 else s)
theorem rdS_o (H f p : Nat) (s : mS) {k : Nat} (h1 : k ≠ 8) (j : Nat) : rdS H f p s k j = s k j := by
  induction f generalizing p s with
  | zero => rfl
  | succ f ih =>
    rw [rdS, ih]
    split
    · exact su_other _ _ h1
    · rfl
theorem lp_roads {n : Int32} {P H : Nat} {a3 : Option Value} {out : xR} (hm : g.1 ≤ m0) (hP : P ≤ 60) : ∀ (f p : Nat) (s : mS), p + f = P → s 2 0 = nI P → Ev g 138 191 [some (.ref m0), some (.int (nI H)), some (.int n), a3, some (.int (nI p))] [] (mput m0 s h) out = Ev g 138 236 [some (.ref m0), some (.int (nI H)), some (.int n), a3, some (.int (nI P))] [] (mput m0 (rdS H f p s) h) out := by
  intro f
  induction f with
  | zero =>
    intro p s hp hs
    have h2 : nI P ≤ nI p := nI_le (by omega) (by omega)
    have : p = P := by omega
    subst this
    rw [e_X10_hour_191 rfl]
    simp only [e_X10_hour_193, e_X10_hour_194, e_X10_hour_197, e_X10_hour_200, e_X10_hour_201, e_X10_hour_204, e_X10_hour_206, e_X10_hour_207, e_X10_hour_208, e_X10_hour_211, e_X10_hour_212, e_X10_hour_215, e_X10_hour_217, e_X10_hour_218, e_X10_hour_219, e_X10_hour_222, e_X10_hour_223, e_X10_hour_226, e_X10_hour_228, e_X10_hour_229, e_X10_hour_230, e_X10_hour_233, mO, mg_2, nem, su_get, z1e0, z2e0, z3e0, z4e0, z5e0, z0e1, zme0, Nat.reduceEqDiff, not_true_eq_false, and_self, false_or, or_false, or_self,  bI_eq0, bI_eq1, i10, i20, i30, i00, ne_eq, Decidable.not_not, true_and, and_true, false_and, and_false, xrd_ref, xrd_null, xrd_rf, xid_int, xcat_int, xcat_ref, xcat_null, xcat_long, xcat_rf, xfit_int, xfit_0, xfit_1, xfit_ref, xfit_null, xfit_rf, not_false_eq_true, ↓reduceIte, z01_0, z01_1, bI_01, true_or, or_true, hs, h2, rdS]
  | succ f ih =>
    intro p s hp hs
    have h2 : ¬ nI P ≤ nI p := nI_ge (by omega) (by omega)
    have hn_p : ¬ nI p < 0 := nI_pos (by omega)
    have hc_p : (nI p).toNatClampNeg = p := nI_clamp (by omega)
    have hb_p : ¬ 60 ≤ p := by omega
    rw [e_X10_hour_191 rfl, rdS]
    have i0 := ih (p + 1) s (by omega) hs
    by_cases a : s 8 p = 3
    · by_cases b : s 14 p ≤ nI H
      · have b' : ¬ nI H < s 14 p := Int32.not_lt.mpr b
        have i1 := ih (p + 1) (su s 8 p 0) (by omega) (by rw [su_other _ _ (by decide)]; exact hs)
        simp only [e_X10_hour_193, e_X10_hour_194, e_X10_hour_197, e_X10_hour_200, e_X10_hour_201, e_X10_hour_204, e_X10_hour_206, e_X10_hour_207, e_X10_hour_208, e_X10_hour_211, e_X10_hour_212, e_X10_hour_215, e_X10_hour_217, e_X10_hour_218, e_X10_hour_219, e_X10_hour_222, e_X10_hour_223, e_X10_hour_226, e_X10_hour_228, e_X10_hour_229, e_X10_hour_230, e_X10_hour_233, mO, mg_2, mg_8, mr_8, mA_8, ml_8, me_8, mp_8, mg_14, mr_14, mA_14, ml_14, me_14, nem, su_get, z1e0, z2e0, z3e0, z4e0, z5e0, z0e1, zme0, Nat.reduceEqDiff, not_true_eq_false, and_self, false_or, or_false, or_self,  bI_eq0, bI_eq1, i10, i20, i30, i00, ne_eq, Decidable.not_not, true_and, and_true, false_and, and_false, xrd_ref, xrd_null, xrd_rf, xid_int, xcat_int, xcat_ref, xcat_null, xcat_long, xcat_rf, xfit_int, xfit_0, xfit_1, xfit_ref, xfit_null, xfit_rf, not_false_eq_true, ↓reduceIte, z01_0, z01_1, bI_01, true_or, or_true, hs, h2, hn_p, hc_p, hb_p, a, b, b', hm, hmk hm, nI_1, i1]
      · have b' : nI H < s 14 p := Int32.not_le.mp b
        simp only [e_X10_hour_193, e_X10_hour_194, e_X10_hour_197, e_X10_hour_200, e_X10_hour_201, e_X10_hour_204, e_X10_hour_206, e_X10_hour_207, e_X10_hour_208, e_X10_hour_211, e_X10_hour_212, e_X10_hour_215, e_X10_hour_217, e_X10_hour_218, e_X10_hour_219, e_X10_hour_222, e_X10_hour_223, e_X10_hour_226, e_X10_hour_228, e_X10_hour_229, e_X10_hour_230, e_X10_hour_233, mO, mg_2, mg_8, mr_8, mA_8, ml_8, me_8, mp_8, mg_14, mr_14, mA_14, ml_14, me_14, nem, su_get, z1e0, z2e0, z3e0, z4e0, z5e0, z0e1, zme0, Nat.reduceEqDiff, not_true_eq_false, and_self, false_or, or_false, or_self,  bI_eq0, bI_eq1, i10, i20, i30, i00, ne_eq, Decidable.not_not, true_and, and_true, false_and, and_false, xrd_ref, xrd_null, xrd_rf, xid_int, xcat_int, xcat_ref, xcat_null, xcat_long, xcat_rf, xfit_int, xfit_0, xfit_1, xfit_ref, xfit_null, xfit_rf, not_false_eq_true, ↓reduceIte, z01_0, z01_1, bI_01, true_or, or_true, hs, h2, hn_p, hc_p, hb_p, a, b, b', hm, hmk hm, nI_1, i0]
    · simp only [e_X10_hour_193, e_X10_hour_194, e_X10_hour_197, e_X10_hour_200, e_X10_hour_201, e_X10_hour_204, e_X10_hour_206, e_X10_hour_207, e_X10_hour_208, e_X10_hour_211, e_X10_hour_212, e_X10_hour_215, e_X10_hour_217, e_X10_hour_218, e_X10_hour_219, e_X10_hour_222, e_X10_hour_223, e_X10_hour_226, e_X10_hour_228, e_X10_hour_229, e_X10_hour_230, e_X10_hour_233, mO, mg_2, mg_8, mr_8, mA_8, ml_8, me_8, mp_8, nem, su_get, z1e0, z2e0, z3e0, z4e0, z5e0, z0e1, zme0, Nat.reduceEqDiff, not_true_eq_false, and_self, false_or, or_false, or_self,  bI_eq0, bI_eq1, i10, i20, i30, i00, ne_eq, Decidable.not_not, true_and, and_true, false_and, and_false, xrd_ref, xrd_null, xrd_rf, xid_int, xcat_int, xcat_ref, xcat_null, xcat_long, xcat_rf, xfit_int, xfit_0, xfit_1, xfit_ref, xfit_null, xfit_rf, not_false_eq_true, ↓reduceIte, z01_0, z01_1, bI_01, true_or, or_true, hs, h2, hn_p, hc_p, hb_p, a, nI_1, i0]
/-- the rested -/
def lsS (H : Nat) : Nat → Nat → mS → mS
  | 0, _, s => s
  | f + 1, p, s => lsS H f (p + 1) (if (s 8 p = 0 ∨ s 8 p = 1) ∧ s 10 p ≤ nI H ∧ pl s (nI p) (nL s) 0 = -1 then apS s (nI p) (nL s) else s)
theorem lsS_ok {P H : Nat} (hP : P ≤ 60) : ∀ (f p : Nat) (s : mS), p + f = P → (∃ L, lOK s P L) → (∃ L, lOK (lsS H f p s) P L) ∧ ∀ k j, k ≠ 17 → k ≠ 18 → lsS H f p s k j = s k j := by
  intro f
  induction f with
  | zero => intro p s hp hl; exact ⟨hl, fun _ _ _ _ => rfl⟩
  | succ f ih =>
    intro p s hp hl
    obtain ⟨L, hl⟩ := hl
    rw [lsS]
    split
    · next c =>
      rw [nL_eq hl hP] at c ⊢
      have h1 := lOK_ap (p := p) hP hl (by omega) (fun q => (inL_iff hl hP).mp q c.2.2)
      obtain ⟨a, b⟩ := ih (p + 1) (apS s (nI p) L) (by omega) ⟨_, h1⟩
      exact ⟨a, fun k j q r => (b k j q r).trans (apS_o _ _ _ q r _)⟩
    · exact ih (p + 1) s (by omega) ⟨L, hl⟩
theorem lp_rested {n : Int32} {P H : Nat} {a3 : Option Value} {out : xR} (hm : g.1 ≤ m0) (hP : P ≤ 60) : ∀ (f p : Nat) (s : mS), p + f = P → s 2 0 = nI P → (∃ L, lOK s P L) → Ev g 138 239 [some (.ref m0), some (.int (nI H)), some (.int n), a3, some (.int (nI p))] [] (mput m0 s h) out = Ev g 138 306 [some (.ref m0), some (.int (nI H)), some (.int n), a3, some (.int (nI P))] [] (mput m0 (lsS H f p s) h) out := by
  intro f
  induction f with
  | zero =>
    intro p s hp hs hl
    have h2 : nI P ≤ nI p := nI_le (by omega) (by omega)
    have : p = P := by omega
    subst this
    rw [e_X10_hour_239 rfl]
    simp only [e_X10_hour_241, e_X10_hour_242, e_X10_hour_245, e_X10_hour_248, e_X10_hour_249, e_X10_hour_252, e_X10_hour_254, e_X10_hour_255, e_X10_hour_258, e_X10_hour_259, e_X10_hour_262, e_X10_hour_264, e_X10_hour_265, e_X10_hour_266, e_X10_hour_269, e_X10_hour_270, e_X10_hour_273, e_X10_hour_275, e_X10_hour_276, e_X10_hour_277, e_X10_hour_280, e_X10_hour_281, e_X10_hour_286, e_X10_hour_287, e_X10_hour_290, e_X10_hour_291, e_X10_hour_293, e_X10_hour_294, e_X10_hour_300, e_X10_hour_303, mO, mg_2, nem, su_get, z1e0, z2e0, z3e0, z4e0, z5e0, z0e1, zme0, Nat.reduceEqDiff, not_true_eq_false, and_self, false_or, or_false, or_self,  bI_eq0, bI_eq1, i10, i20, i30, i00, ne_eq, Decidable.not_not, true_and, and_true, false_and, and_false, xrd_ref, xrd_null, xrd_rf, xid_int, xcat_int, xcat_ref, xcat_null, xcat_long, xcat_rf, xfit_int, xfit_0, xfit_1, xfit_ref, xfit_null, xfit_rf, not_false_eq_true, ↓reduceIte, z01_0, z01_1, bI_01, true_or, or_true, hs, h2, lsS]
  | succ f ih =>
    intro p s hp hs hl
    have h2 : ¬ nI P ≤ nI p := nI_ge (by omega) (by omega)
    have hn_p : ¬ nI p < 0 := nI_pos (by omega)
    have hc_p : (nI p).toNatClampNeg = p := nI_clamp (by omega)
    have hb_p : ¬ 60 ≤ p := by omega
    rw [e_X10_hour_239 rfl, lsS]
    have i0 := ih (p + 1) s (by omega) hs hl
    obtain ⟨L, hl⟩ := hl
    have hLP := hl.2.1
    rw [nL_eq hl hP]
    have k0 : ∀ {out : xR}, Ev g 138 269 [some (.ref m0), some (.int (nI H)), some (.int n), a3, some (.int (nI p))] [] (mput m0 s h) out = Ev g 138 300 [some (.ref m0), some (.int (nI H)), some (.int n), a3, some (.int (nI p))] [] (mput m0 (if s 10 p ≤ nI H ∧ pl s (nI p) L 0 = -1 then apS s (nI p) L else s) h) out := by
      intro out
      by_cases b : s 10 p ≤ nI H
      · have b' : ¬ nI H < s 10 p := Int32.not_lt.mpr b
        by_cases c : pl s (nI p) L 0 = -1
        · have hL1 : L < P := by
            have := (lOK_ap (p := p) hP hl (by omega) (fun q => (inL_iff hl hP).mp q c)).2.1
            omega
          have k1 := md_putAt (g := g) (m0 := m0) (h := h) (p := nI p) (a := L) hl.1 (by omega) (by omega) hm
          rw [Nat.sub_self, paS] at k1
          rw [if_pos ⟨b, c⟩]
          unfold apS
          simp only [e_X10_hour_269, e_X10_hour_270, e_X10_hour_273, e_X10_hour_275, e_X10_hour_276, e_X10_hour_277, e_X10_hour_280, e_X10_hour_281, e_X10_hour_286, e_X10_hour_287, e_X10_hour_290, e_X10_hour_291, e_X10_hour_293, e_X10_hour_294, c_X10_hour_283 _ (md_placeOf hl.1 (show L ≤ 60 by omega)), c_X10_hour_297 _ k1, mO, mg_18, mg_10, mr_10, mA_10, ml_10, me_10, nem, su_get, z1e0, z2e0, z3e0, z4e0, z5e0, z0e1, zme0, Nat.reduceEqDiff, not_true_eq_false, and_self, false_or, or_false, or_self,  bI_eq0, bI_eq1, i10, i20, i30, i00, ne_eq, Decidable.not_not, true_and, and_true, false_and, and_false, xrd_ref, xrd_null, xrd_rf, xid_int, xcat_int, xcat_ref, xcat_null, xcat_long, xcat_rf, xfit_int, xfit_0, xfit_1, xfit_ref, xfit_null, xfit_rf, not_false_eq_true, ↓reduceIte, z01_0, z01_1, bI_01, true_or, or_true, hl.1, hn_p, hc_p, hb_p, b', c]
        · rw [if_neg (fun q => c q.2)]
          simp only [e_X10_hour_269, e_X10_hour_270, e_X10_hour_273, e_X10_hour_275, e_X10_hour_276, e_X10_hour_277, e_X10_hour_280, e_X10_hour_281, e_X10_hour_286, e_X10_hour_287, e_X10_hour_290, e_X10_hour_291, e_X10_hour_293, e_X10_hour_294, c_X10_hour_283 _ (md_placeOf hl.1 (show L ≤ 60 by omega)), mO, mg_18, mg_10, mr_10, mA_10, ml_10, me_10, nem, su_get, z1e0, z2e0, z3e0, z4e0, z5e0, z0e1, zme0, Nat.reduceEqDiff, not_true_eq_false, and_self, false_or, or_false, or_self,  bI_eq0, bI_eq1, i10, i20, i30, i00, ne_eq, Decidable.not_not, true_and, and_true, false_and, and_false, xrd_ref, xrd_null, xrd_rf, xid_int, xcat_int, xcat_ref, xcat_null, xcat_long, xcat_rf, xfit_int, xfit_0, xfit_1, xfit_ref, xfit_null, xfit_rf, not_false_eq_true, ↓reduceIte, z01_0, z01_1, bI_01, true_or, or_true, hl.1, hn_p, hc_p, hb_p, b', c]
      · have b' : nI H < s 10 p := Int32.not_le.mp b
        rw [if_neg (fun q => b q.1)]
        simp only [e_X10_hour_269, e_X10_hour_270, e_X10_hour_273, e_X10_hour_275, e_X10_hour_276, e_X10_hour_277, e_X10_hour_280, e_X10_hour_281, e_X10_hour_286, e_X10_hour_287, e_X10_hour_290, e_X10_hour_291, e_X10_hour_293, e_X10_hour_294, mO, mg_10, mr_10, mA_10, ml_10, me_10, nem, su_get, z1e0, z2e0, z3e0, z4e0, z5e0, z0e1, zme0, Nat.reduceEqDiff, not_true_eq_false, and_self, false_or, or_false, or_self,  bI_eq0, bI_eq1, i10, i20, i30, i00, ne_eq, Decidable.not_not, true_and, and_true, false_and, and_false, xrd_ref, xrd_null, xrd_rf, xid_int, xcat_int, xcat_ref, xcat_null, xcat_long, xcat_rf, xfit_int, xfit_0, xfit_1, xfit_ref, xfit_null, xfit_rf, not_false_eq_true, ↓reduceIte, z01_0, z01_1, bI_01, true_or, or_true, hn_p, hc_p, hb_p, b']
    have i1 : Ev g 138 269 [some (.ref m0), some (.int (nI H)), some (.int n), a3, some (.int (nI p))] [] (mput m0 s h) out = Ev g 138 306 [some (.ref m0), some (.int (nI H)), some (.int n), a3, some (.int (nI P))] [] (mput m0 (lsS H f (p + 1) (if s 10 p ≤ nI H ∧ pl s (nI p) L 0 = -1 then apS s (nI p) L else s)) h) out := by
      rw [k0]
      simp only [e_X10_hour_300, e_X10_hour_303, nem, su_get, z1e0, z2e0, z3e0, z4e0, z5e0, z0e1, zme0, Nat.reduceEqDiff, not_true_eq_false, and_self, false_or, or_false, or_self,  bI_eq0, bI_eq1, i10, i20, i30, i00, ne_eq, Decidable.not_not, true_and, and_true, false_and, and_false, xrd_ref, xrd_null, xrd_rf, xid_int, xcat_int, xcat_ref, xcat_null, xcat_long, xcat_rf, xfit_int, xfit_0, xfit_1, xfit_ref, xfit_null, xfit_rf, not_false_eq_true, ↓reduceIte, z01_0, z01_1, bI_01, true_or, or_true, nI_1]
      by_cases c : s 10 p ≤ nI H ∧ pl s (nI p) L 0 = -1
      · rw [if_pos c]
        exact ih (p + 1) (apS s (nI p) L) (by omega) (by rw [apS_o _ _ _ (by decide) (by decide)]; exact hs) ⟨_, lOK_ap (p := p) hP hl (by omega) (fun q => (inL_iff hl hP).mp q c.2)⟩
      · rw [if_neg c]
        exact i0
    by_cases a : s 8 p = 0
    · simp only [e_X10_hour_241, e_X10_hour_242, e_X10_hour_245, e_X10_hour_248, e_X10_hour_249, e_X10_hour_252, e_X10_hour_254, e_X10_hour_255, e_X10_hour_258, e_X10_hour_259, e_X10_hour_262, e_X10_hour_264, e_X10_hour_265, e_X10_hour_266, mO, mg_2, mg_8, mr_8, mA_8, ml_8, me_8, nem, su_get, z1e0, z2e0, z3e0, z4e0, z5e0, z0e1, zme0, Nat.reduceEqDiff, not_true_eq_false, and_self, false_or, or_false, or_self,  bI_eq0, bI_eq1, i10, i20, i30, i00, ne_eq, Decidable.not_not, true_and, and_true, false_and, and_false, xrd_ref, xrd_null, xrd_rf, xid_int, xcat_int, xcat_ref, xcat_null, xcat_long, xcat_rf, xfit_int, xfit_0, xfit_1, xfit_ref, xfit_null, xfit_rf, not_false_eq_true, ↓reduceIte, z01_0, z01_1, bI_01, true_or, or_true, hs, h2, hn_p, hc_p, hb_p, a, i1]
    · by_cases b : s 8 p = 1
      · simp only [e_X10_hour_241, e_X10_hour_242, e_X10_hour_245, e_X10_hour_248, e_X10_hour_249, e_X10_hour_252, e_X10_hour_254, e_X10_hour_255, e_X10_hour_258, e_X10_hour_259, e_X10_hour_262, e_X10_hour_264, e_X10_hour_265, e_X10_hour_266, mO, mg_2, mg_8, mr_8, mA_8, ml_8, me_8, nem, su_get, z1e0, z2e0, z3e0, z4e0, z5e0, z0e1, zme0, Nat.reduceEqDiff, not_true_eq_false, and_self, false_or, or_false, or_self,  bI_eq0, bI_eq1, i10, i20, i30, i00, ne_eq, Decidable.not_not, true_and, and_true, false_and, and_false, xrd_ref, xrd_null, xrd_rf, xid_int, xcat_int, xcat_ref, xcat_null, xcat_long, xcat_rf, xfit_int, xfit_0, xfit_1, xfit_ref, xfit_null, xfit_rf, not_false_eq_true, ↓reduceIte, z01_0, z01_1, bI_01, true_or, or_true, hs, h2, hn_p, hc_p, hb_p, a, b, i1]
      · simp only [e_X10_hour_241, e_X10_hour_242, e_X10_hour_245, e_X10_hour_248, e_X10_hour_249, e_X10_hour_252, e_X10_hour_254, e_X10_hour_255, e_X10_hour_258, e_X10_hour_259, e_X10_hour_262, e_X10_hour_264, e_X10_hour_265, e_X10_hour_266, e_X10_hour_300, e_X10_hour_303, mO, mg_2, mg_8, mr_8, mA_8, ml_8, me_8, nem, su_get, z1e0, z2e0, z3e0, z4e0, z5e0, z0e1, zme0, Nat.reduceEqDiff, not_true_eq_false, and_self, false_or, or_false, or_self,  bI_eq0, bI_eq1, i10, i20, i30, i00, ne_eq, Decidable.not_not, true_and, and_true, false_and, and_false, xrd_ref, xrd_null, xrd_rf, xid_int, xcat_int, xcat_ref, xcat_null, xcat_long, xcat_rf, xfit_int, xfit_0, xfit_1, xfit_ref, xfit_null, xfit_rf, not_false_eq_true, ↓reduceIte, z01_0, z01_1, bI_01, true_or, or_true, hs, h2, hn_p, hc_p, hb_p, a, b, nI_1, i0]
end MD
